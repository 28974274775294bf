theorem dX4_creditUsed_7 : decode cX4_creditUsed 7 = .ok (.getfield 46, 3) := by decide +kernel
theorem dX4_creditUsed_10 : decode cX4_creditUsed 10 = .ok (.if_icmp .ge 33, 3) := by decide +kernel
theorem dX4_creditUsed_13 : decode cX4_creditUsed 13 = .ok (.aload_n 0, 1) := by decide +kernel
theorem dX4_creditUsed_14 : decode cX4_creditUsed 14 = .ok (.iload_n 1, 1) := by decide +kernel
theorem dX4_creditUsed_15 : decode cX4_creditUsed 15 = .ok (.invokevirtual 130, 3) := by decide +kernel
theorem dX4_creditUsed_18 : decode cX4_creditUsed 18 = .ok (.ifCond .eq 19, 3) := by decide +kernel
theorem dX4_creditUsed_21 : decode cX4_creditUsed 21 = .ok (.aload_n 0, 1) := by decide +kernel
theorem dX4_creditUsed_22 : decode cX4_creditUsed 22 = .ok (.getfield 39, 3) := by decide +kernel
theorem dX4_creditUsed_25 : decode cX4_creditUsed 25 = .ok (.iload_n 1, 1) := by decide +kernel
theorem dX4_creditUsed_26 : decode cX4_creditUsed 26 = .ok (.aload_n 0, 1) := by decide +kernel
theorem dX4_creditUsed_27 : decode cX4_creditUsed 27 = .ok (.getfield 23, 3) := by decide +kernel
theorem dX4_creditUsed_30 : decode cX4_creditUsed 30 = .ok (.iload_n 1, 1) := by decide +kernel
theorem dX4_creditUsed_31 : decode cX4_creditUsed 31 = .ok (.invokevirtual 54, 3) := by decide +kernel
theorem dX4_creditUsed_34 : decode cX4_creditUsed 34 = .ok (.invokevirtual 133, 3) := by decide +kernel
theorem dX4_creditUsed_37 : decode cX4_creditUsed 37 = .ok (.iinc 1 1, 3) := by decide +kernel
theorem dX4_creditUsed_40 : decode cX4_creditUsed 40 = .ok (.goto (-38), 3) := by decide +kernel
theorem dX4_creditUsed_43 : decode cX4_creditUsed 43 = .ok (.return_, 1) := by decide +kernel
theorem dX4_isBlocked_0 : decode cX4_isBlocked 0 = .ok (.aload_n 0, 1) := by decide +kernel
theorem dX4_isBlocked_1 : decode cX4_isBlocked 1 = .ok (.getfield 32, 3) := by decide +kernel
theorem dX4_isBlocked_4 : decode cX4_isBlocked 4 = .ok (.iload_n 1, 1) := by decide +kernel
theorem dX4_isBlocked_5 : decode cX4_isBlocked 5 = .ok (.ishr, 1) := by decide +kernel
theorem dX4_isBlocked_6 : decode cX4_isBlocked 6 = .ok (.iconst 1, 1) := by decide +kernel
theorem dX4_isBlocked_7 : decode cX4_isBlocked 7 = .ok (.iand, 1) := by decide +kernel
theorem dX4_isBlocked_8 : decode cX4_isBlocked 8 = .ok (.ifCond .eq 7, 3) := by decide +kernel
theorem dX4_isBlocked_11 : decode cX4_isBlocked 11 = .ok (.iconst 1, 1) := by decide +kernel
theorem dX4_isBlocked_12 : decode cX4_isBlocked 12 = .ok (.goto 4, 3) := by decide +kernel
theorem dX4_isBlocked_15 : decode cX4_isBlocked 15 = .ok (.iconst 0, 1) := by decide +kernel
theorem dX4_isBlocked_16 : decode cX4_isBlocked 16 = .ok (.ireturn, 1) := by decide +kernel
theorem dX4_blocked_0 : decode cX4_blocked 0 = .ok (.aload_n 0, 1) := by decide +kernel
theorem dX4_blocked_1 : decode cX4_blocked 1 = .ok (.getfield 32, 3) := by decide +kernel
theorem dX4_blocked_4 : decode cX4_blocked 4 = .ok (.ireturn, 1) := by decide +kernel
theorem dX4_shader_0 : decode cX4_shader 0 = .ok (.aload_n 0, 1) := by decide +kernel
theorem dX4_shader_1 : decode cX4_shader 1 = .ok (.getfield 20, 3) := by decide +kernel
theorem dX4_shader_4 : decode cX4_shader 4 = .ok (.iload_n 1, 1) := by decide +kernel
theorem dX4_shader_5 : decode cX4_shader 5 = .ok (.bipush 11, 2) := by decide +kernel
theorem dX4_shader_7 : decode cX4_shader 7 = .ok (.imul, 1) := by decide +kernel
theorem dX4_shader_8 : decode cX4_shader 8 = .ok (.iload_n 2, 1) := by decide +kernel
theorem dX4_shader_9 : decode cX4_shader 9 = .ok (.iadd, 1) := by decide +kernel
theorem dX4_shader_10 : decode cX4_shader 10 = .ok (.invokevirtual 54, 3) := by decide +kernel
theorem dX4_shader_13 : decode cX4_shader 13 = .ok (.ireturn, 1) := by decide +kernel
theorem dX4_given_0 : decode cX4_given 0 = .ok (.aload_n 0, 1) := by decide +kernel
theorem dX4_given_1 : decode cX4_given 1 = .ok (.getfield 23, 3) := by decide +kernel
theorem dX4_given_4 : decode cX4_given 4 = .ok (.iload_n 1, 1) := by decide +kernel
theorem dX4_given_5 : decode cX4_given 5 = .ok (.invokevirtual 54, 3) := by decide +kernel
theorem dX4_given_8 : decode cX4_given 8 = .ok (.ireturn, 1) := by decide +kernel
theorem dX4_isUsed_0 : decode cX4_isUsed 0 = .ok (.aload_n 0, 1) := by decide +kernel
theorem dX4_isUsed_1 : decode cX4_isUsed 1 = .ok (.getfield 36, 3) := by decide +kernel
theorem dX4_isUsed_4 : decode cX4_isUsed 4 = .ok (.iload_n 1, 1) := by decide +kernel
theorem dX4_isUsed_5 : decode cX4_isUsed 5 = .ok (.ishr, 1) := by decide +kernel
theorem dX4_isUsed_6 : decode cX4_isUsed 6 = .ok (.iconst 1, 1) := by decide +kernel
theorem dX4_isUsed_7 : decode cX4_isUsed 7 = .ok (.iand, 1) := by decide +kernel
theorem dX4_isUsed_8 : decode cX4_isUsed 8 = .ok (.ifCond .eq 7, 3) := by decide +kernel
theorem dX4_isUsed_11 : decode cX4_isUsed 11 = .ok (.iconst 1, 1) := by decide +kernel
theorem dX4_isUsed_12 : decode cX4_isUsed 12 = .ok (.goto 4, 3) := by decide +kernel
theorem dX4_isUsed_15 : decode cX4_isUsed 15 = .ok (.iconst 0, 1) := by decide +kernel
theorem dX4_isUsed_16 : decode cX4_isUsed 16 = .ok (.ireturn, 1) := by decide +kernel
theorem dX4_used_0 : decode cX4_used 0 = .ok (.aload_n 0, 1) := by decide +kernel
theorem dX4_used_1 : decode cX4_used 1 = .ok (.getfield 36, 3) := by decide +kernel
theorem dX4_used_4 : decode cX4_used 4 = .ok (.ireturn, 1) := by decide +kernel
theorem dX4_held_0 : decode cX4_held 0 = .ok (.aload_n 0, 1) := by decide +kernel
theorem dX4_held_1 : decode cX4_held 1 = .ok (.getfield 29, 3) := by decide +kernel
theorem dX4_held_4 : decode cX4_held 4 = .ok (.iload_n 1, 1) := by decide +kernel
theorem dX4_held_5 : decode cX4_held 5 = .ok (.invokevirtual 54, 3) := by decide +kernel
theorem dX4_held_8 : decode cX4_held 8 = .ok (.ireturn, 1) := by decide +kernel
theorem dX5_init_0 : decode cX5_init 0 = .ok (.aload_n 0, 1) := by decide +kernel
theorem dX5_init_1 : decode cX5_init 1 = .ok (.invokespecial 3, 3) := by decide +kernel
theorem dX5_init_4 : decode cX5_init 4 = .ok (.aload_n 0, 1) := by decide +kernel
theorem dX5_init_5 : decode cX5_init 5 = .ok (.new 9, 3) := by decide +kernel
theorem dX5_init_8 : decode cX5_init 8 = .ok (.dup, 1) := by decide +kernel
theorem dX5_init_9 : decode cX5_init 9 = .ok (.bipush 80, 2) := by decide +kernel
theorem dX5_init_11 : decode cX5_init 11 = .ok (.invokespecial 11, 3) := by decide +kernel
theorem dX5_init_14 : decode cX5_init 14 = .ok (.putfield 14, 3) := by decide +kernel
theorem dX5_init_17 : decode cX5_init 17 = .ok (.aload_n 0, 1) := by decide +kernel
theorem dX5_init_18 : decode cX5_init 18 = .ok (.iconst 0, 1) := by decide +kernel
theorem dX5_init_19 : decode cX5_init 19 = .ok (.putfield 20, 3) := by decide +kernel
theorem dX5_init_22 : decode cX5_init 22 = .ok (.return_, 1) := by decide +kernel
theorem dX5_append_0 : decode cX5_append 0 = .ok (.lload_n 1, 1) := by decide +kernel
theorem dX5_append_1 : decode cX5_append 1 = .ok (.invokestatic 24, 3) := by decide +kernel
theorem dX5_append_4 : decode cX5_append 4 = .ok (.istore_n 3, 1) := by decide +kernel
theorem dX5_append_5 : decode cX5_append 5 = .ok (.iload_n 3, 1) := by decide +kernel
theorem dX5_append_6 : decode cX5_append 6 = .ok (.ifCond .ne 6, 3) := by decide +kernel
theorem dX5_append_9 : decode cX5_append 9 = .ok (.bipush (-2), 2) := by decide +kernel
theorem dX5_append_11 : decode cX5_append 11 = .ok (.ireturn, 1) := by decide +kernel
theorem dX5_append_12 : decode cX5_append 12 = .ok (.aload_n 0, 1) := by decide +kernel
theorem dX5_append_13 : decode cX5_append 13 = .ok (.getfield 20, 3) := by decide +kernel
theorem dX5_append_16 : decode cX5_append 16 = .ok (.iload_n 3, 1) := by decide +kernel
theorem dX5_append_17 : decode cX5_append 17 = .ok (.iadd, 1) := by decide +kernel
theorem dX5_append_18 : decode cX5_append 18 = .ok (.bipush 80, 2) := by decide +kernel
theorem dX5_append_20 : decode cX5_append 20 = .ok (.if_icmp .le 6, 3) := by decide +kernel
theorem dX5_append_23 : decode cX5_append 23 = .ok (.bipush (-4), 2) := by decide +kernel
theorem dX5_append_25 : decode cX5_append 25 = .ok (.ireturn, 1) := by decide +kernel
theorem dX5_append_26 : decode cX5_append 26 = .ok (.iconst 0, 1) := by decide +kernel
theorem dX5_append_27 : decode cX5_append 27 = .ok (.istore 4, 2) := by decide +kernel
theorem dX5_append_29 : decode cX5_append 29 = .ok (.iload 4, 2) := by decide +kernel
theorem dX5_append_31 : decode cX5_append 31 = .ok (.iload_n 3, 1) := by decide +kernel
theorem dX5_append_32 : decode cX5_append 32 = .ok (.if_icmp .ge 33, 3) := by decide +kernel
theorem dX5_append_35 : decode cX5_append 35 = .ok (.aload_n 0, 1) := by decide +kernel
theorem dX5_append_36 : decode cX5_append 36 = .ok (.getfield 14, 3) := by decide +kernel
theorem dX5_append_39 : decode cX5_append 39 = .ok (.aload_n 0, 1) := by decide +kernel
theorem dX5_append_40 : decode cX5_append 40 = .ok (.getfield 20, 3) := by decide +kernel
theorem dX5_append_43 : decode cX5_append 43 = .ok (.iload 4, 2) := by decide +kernel
theorem dX5_append_45 : decode cX5_append 45 = .ok (.iadd, 1) := by decide +kernel
theorem dX5_append_46 : decode cX5_append 46 = .ok (.lload_n 1, 1) := by decide +kernel
theorem dX5_append_47 : decode cX5_append 47 = .ok (.iload_n 3, 1) := by decide +kernel
theorem dX5_append_48 : decode cX5_append 48 = .ok (.iconst 1, 1) := by decide +kernel
theorem dX5_append_49 : decode cX5_append 49 = .ok (.isub, 1) := by decide +kernel
theorem dX5_append_50 : decode cX5_append 50 = .ok (.iload 4, 2) := by decide +kernel
theorem dX5_append_52 : decode cX5_append 52 = .ok (.isub, 1) := by decide +kernel
theorem dX5_append_53 : decode cX5_append 53 = .ok (.invokestatic 28, 3) := by decide +kernel
theorem dX5_append_56 : decode cX5_append 56 = .ok (.invokevirtual 32, 3) := by decide +kernel
theorem dX5_append_59 : decode cX5_append 59 = .ok (.iinc 4 1, 3) := by decide +kernel
theorem dX5_append_62 : decode cX5_append 62 = .ok (.goto (-33), 3) := by decide +kernel
theorem dX5_append_65 : decode cX5_append 65 = .ok (.aload_n 0, 1) := by decide +kernel
theorem dX5_append_66 : decode cX5_append 66 = .ok (.dup, 1) := by decide +kernel
theorem dX5_append_67 : decode cX5_append 67 = .ok (.getfield 20, 3) := by decide +kernel
theorem dX5_append_70 : decode cX5_append 70 = .ok (.iload_n 3, 1) := by decide +kernel
theorem dX5_append_71 : decode cX5_append 71 = .ok (.iadd, 1) := by decide +kernel
theorem dX5_append_72 : decode cX5_append 72 = .ok (.putfield 20, 3) := by decide +kernel
theorem dX5_append_75 : decode cX5_append 75 = .ok (.aload_n 0, 1) := by decide +kernel
theorem dX5_append_76 : decode cX5_append 76 = .ok (.getfield 20, 3) := by decide +kernel
theorem dX5_append_79 : decode cX5_append 79 = .ok (.ireturn, 1) := by decide +kernel
theorem dX5_countSigns_0 : decode cX5_countSigns 0 = .ok (.iconst 0, 1) := by decide +kernel
theorem dX5_countSigns_1 : decode cX5_countSigns 1 = .ok (.istore_n 2, 1) := by decide +kernel
theorem dX5_countSigns_2 : decode cX5_countSigns 2 = .ok (.iload_n 2, 1) := by decide +kernel
theorem dX5_countSigns_3 : decode cX5_countSigns 3 = .ok (.bipush 8, 2) := by decide +kernel
theorem dX5_countSigns_5 : decode cX5_countSigns 5 = .ok (.if_icmp .ge 40, 3) := by decide +kernel
theorem dX5_countSigns_8 : decode cX5_countSigns 8 = .ok (.lload_n 0, 1) := by decide +kernel
theorem dX5_countSigns_9 : decode cX5_countSigns 9 = .ok (.iload_n 2, 1) := by decide +kernel
theorem dX5_countSigns_10 : decode cX5_countSigns 10 = .ok (.bipush 8, 2) := by decide +kernel
theorem dX5_countSigns_12 : decode cX5_countSigns 12 = .ok (.imul, 1) := by decide +kernel
theorem dX5_countSigns_13 : decode cX5_countSigns 13 = .ok (.lushr, 1) := by decide +kernel
theorem dX5_countSigns_14 : decode cX5_countSigns 14 = .ok (.lconst 0, 1) := by decide +kernel
theorem dX5_countSigns_15 : decode cX5_countSigns 15 = .ok (.lcmp, 1) := by decide +kernel
theorem dX5_countSigns_16 : decode cX5_countSigns 16 = .ok (.ifCond .eq 29, 3) := by decide +kernel
theorem dX5_countSigns_19 : decode cX5_countSigns 19 = .ok (.lload_n 0, 1) := by decide +kernel
theorem dX5_countSigns_20 : decode cX5_countSigns 20 = .ok (.iload_n 2, 1) := by decide +kernel
theorem dX5_countSigns_21 : decode cX5_countSigns 21 = .ok (.invokestatic 28, 3) := by decide +kernel
theorem dX5_countSigns_24 : decode cX5_countSigns 24 = .ok (.istore_n 3, 1) := by decide +kernel
theorem dX5_countSigns_25 : decode cX5_countSigns 25 = .ok (.iload_n 3, 1) := by decide +kernel
theorem dX5_countSigns_26 : decode cX5_countSigns 26 = .ok (.bipush 33, 2) := by decide +kernel
theorem dX5_countSigns_28 : decode cX5_countSigns 28 = .ok (.if_icmp .lt 9, 3) := by decide +kernel
theorem dX5_countSigns_31 : decode cX5_countSigns 31 = .ok (.iload_n 3, 1) := by decide +kernel
theorem dX5_countSigns_32 : decode cX5_countSigns 32 = .ok (.bipush 126, 2) := by decide +kernel
theorem dX5_countSigns_34 : decode cX5_countSigns 34 = .ok (.if_icmp .le 5, 3) := by decide +kernel
theorem dX5_countSigns_37 : decode cX5_countSigns 37 = .ok (.iconst 0, 1) := by decide +kernel
theorem dX5_countSigns_38 : decode cX5_countSigns 38 = .ok (.ireturn, 1) := by decide +kernel
theorem dX5_countSigns_39 : decode cX5_countSigns 39 = .ok (.iinc 2 1, 3) := by decide +kernel
theorem dX5_countSigns_42 : decode cX5_countSigns 42 = .ok (.goto (-40), 3) := by decide +kernel
theorem dX5_countSigns_45 : decode cX5_countSigns 45 = .ok (.iload_n 2, 1) := by decide +kernel
theorem dX5_countSigns_46 : decode cX5_countSigns 46 = .ok (.ireturn, 1) := by decide +kernel
theorem dX5_signFromEnd_0 : decode cX5_signFromEnd 0 = .ok (.lload_n 0, 1) := by decide +kernel
theorem dX5_signFromEnd_1 : decode cX5_signFromEnd 1 = .ok (.iload_n 2, 1) := by decide +kernel
theorem dX5_signFromEnd_2 : decode cX5_signFromEnd 2 = .ok (.bipush 8, 2) := by decide +kernel
theorem dX5_signFromEnd_4 : decode cX5_signFromEnd 4 = .ok (.imul, 1) := by decide +kernel
theorem dX5_signFromEnd_5 : decode cX5_signFromEnd 5 = .ok (.lushr, 1) := by decide +kernel
theorem dX5_signFromEnd_6 : decode cX5_signFromEnd 6 = .ok (.l2i, 1) := by decide +kernel
theorem dX5_signFromEnd_7 : decode cX5_signFromEnd 7 = .ok (.sipush 255, 3) := by decide +kernel
theorem dX5_signFromEnd_10 : decode cX5_signFromEnd 10 = .ok (.iand, 1) := by decide +kernel
theorem dX5_signFromEnd_11 : decode cX5_signFromEnd 11 = .ok (.ireturn, 1) := by decide +kernel
theorem dX5_empty_0 : decode cX5_empty 0 = .ok (.aload_n 0, 1) := by decide +kernel
theorem dX5_empty_1 : decode cX5_empty 1 = .ok (.getfield 20, 3) := by decide +kernel
theorem dX5_empty_4 : decode cX5_empty 4 = .ok (.istore_n 1, 1) := by decide +kernel
theorem dX5_empty_5 : decode cX5_empty 5 = .ok (.aload_n 0, 1) := by decide +kernel
theorem dX5_empty_6 : decode cX5_empty 6 = .ok (.iconst 0, 1) := by decide +kernel
theorem dX5_empty_7 : decode cX5_empty 7 = .ok (.putfield 20, 3) := by decide +kernel
theorem dX5_empty_10 : decode cX5_empty 10 = .ok (.iload_n 1, 1) := by decide +kernel
theorem dX5_empty_11 : decode cX5_empty 11 = .ok (.ireturn, 1) := by decide +kernel
theorem dX5_length_0 : decode cX5_length 0 = .ok (.aload_n 0, 1) := by decide +kernel
theorem dX5_length_1 : decode cX5_length 1 = .ok (.getfield 20, 3) := by decide +kernel
theorem dX5_length_4 : decode cX5_length 4 = .ok (.ireturn, 1) := by decide +kernel
theorem dX5_sign_0 : decode cX5_sign 0 = .ok (.iload_n 1, 1) := by decide +kernel
theorem dX5_sign_1 : decode cX5_sign 1 = .ok (.aload_n 0, 1) := by decide +kernel
theorem dX5_sign_2 : decode cX5_sign 2 = .ok (.getfield 20, 3) := by decide +kernel
theorem dX5_sign_5 : decode cX5_sign 5 = .ok (.if_icmp .ge 14, 3) := by decide +kernel
theorem dX5_sign_8 : decode cX5_sign 8 = .ok (.aload_n 0, 1) := by decide +kernel
theorem dX5_sign_9 : decode cX5_sign 9 = .ok (.getfield 14, 3) := by decide +kernel
theorem dX5_sign_12 : decode cX5_sign 12 = .ok (.iload_n 1, 1) := by decide +kernel
theorem dX5_sign_13 : decode cX5_sign 13 = .ok (.invokevirtual 36, 3) := by decide +kernel
theorem dX5_sign_16 : decode cX5_sign 16 = .ok (.goto 4, 3) := by decide +kernel
theorem dX5_sign_19 : decode cX5_sign 19 = .ok (.iconst 0, 1) := by decide +kernel
theorem dX5_sign_20 : decode cX5_sign 20 = .ok (.ireturn, 1) := by decide +kernel
theorem dX6_init_0 : decode cX6_init 0 = .ok (.aload_n 0, 1) := by decide +kernel
theorem dX6_init_1 : decode cX6_init 1 = .ok (.invokespecial 3, 3) := by decide +kernel
theorem dX6_init_4 : decode cX6_init 4 = .ok (.aload_n 0, 1) := by decide +kernel
theorem dX6_init_5 : decode cX6_init 5 = .ok (.new 9, 3) := by decide +kernel
theorem dX6_init_8 : decode cX6_init 8 = .ok (.dup, 1) := by decide +kernel
theorem dX6_init_9 : decode cX6_init 9 = .ok (.bipush 80, 2) := by decide +kernel
theorem dX6_init_11 : decode cX6_init 11 = .ok (.invokespecial 11, 3) := by decide +kernel
theorem dX6_init_14 : decode cX6_init 14 = .ok (.putfield 14, 3) := by decide +kernel
theorem dX6_init_17 : decode cX6_init 17 = .ok (.aload_n 0, 1) := by decide +kernel
theorem dX6_init_18 : decode cX6_init 18 = .ok (.new 9, 3) := by decide +kernel
theorem dX6_init_21 : decode cX6_init 21 = .ok (.dup, 1) := by decide +kernel
theorem dX6_init_22 : decode cX6_init 22 = .ok (.bipush 80, 2) := by decide +kernel
theorem dX6_init_24 : decode cX6_init 24 = .ok (.invokespecial 11, 3) := by decide +kernel
theorem dX6_init_27 : decode cX6_init 27 = .ok (.putfield 20, 3) := by decide +kernel
theorem dX6_init_30 : decode cX6_init 30 = .ok (.aload_n 0, 1) := by decide +kernel
theorem dX6_init_31 : decode cX6_init 31 = .ok (.new 9, 3) := by decide +kernel
theorem dX6_init_34 : decode cX6_init 34 = .ok (.dup, 1) := by decide +kernel
theorem dX6_init_35 : decode cX6_init 35 = .ok (.bipush 80, 2) := by decide +kernel
theorem dX6_init_37 : decode cX6_init 37 = .ok (.invokespecial 11, 3) := by decide +kernel
theorem dX6_init_40 : decode cX6_init 40 = .ok (.putfield 23, 3) := by decide +kernel
theorem dX6_init_43 : decode cX6_init 43 = .ok (.aload_n 0, 1) := by decide +kernel
theorem dX6_init_44 : decode cX6_init 44 = .ok (.new 9, 3) := by decide +kernel
theorem dX6_init_47 : decode cX6_init 47 = .ok (.dup, 1) := by decide +kernel
theorem dX6_init_48 : decode cX6_init 48 = .ok (.bipush 80, 2) := by decide +kernel
theorem dX6_init_50 : decode cX6_init 50 = .ok (.invokespecial 11, 3) := by decide +kernel
theorem dX6_init_53 : decode cX6_init 53 = .ok (.putfield 26, 3) := by decide +kernel
theorem dX6_init_56 : decode cX6_init 56 = .ok (.aload_n 0, 1) := by decide +kernel
theorem dX6_init_57 : decode cX6_init 57 = .ok (.iconst 0, 1) := by decide +kernel
theorem dX6_init_58 : decode cX6_init 58 = .ok (.putfield 29, 3) := by decide +kernel
theorem dX6_init_61 : decode cX6_init 61 = .ok (.aload_n 0, 1) := by decide +kernel
theorem dX6_init_62 : decode cX6_init 62 = .ok (.iconst 0, 1) := by decide +kernel
theorem dX6_init_63 : decode cX6_init 63 = .ok (.putfield 33, 3) := by decide +kernel
theorem dX6_init_66 : decode cX6_init 66 = .ok (.aload_n 0, 1) := by decide +kernel
theorem dX6_init_67 : decode cX6_init 67 = .ok (.iconst 0, 1) := by decide +kernel
theorem dX6_init_68 : decode cX6_init 68 = .ok (.putfield 36, 3) := by decide +kernel
theorem dX6_init_71 : decode cX6_init 71 = .ok (.aload_n 0, 1) := by decide +kernel
theorem dX6_init_72 : decode cX6_init 72 = .ok (.aload_n 1, 1) := by decide +kernel
theorem dX6_init_73 : decode cX6_init 73 = .ok (.putfield 40, 3) := by decide +kernel
theorem dX6_init_76 : decode cX6_init 76 = .ok (.return_, 1) := by decide +kernel
theorem dX6_read_0 : decode cX6_read 0 = .ok (.aload_n 0, 1) := by decide +kernel
theorem dX6_read_1 : decode cX6_read 1 = .ok (.iconst 0, 1) := by decide +kernel
theorem dX6_read_2 : decode cX6_read 2 = .ok (.putfield 33, 3) := by decide +kernel
theorem dX6_read_5 : decode cX6_read 5 = .ok (.aload_n 0, 1) := by decide +kernel
theorem dX6_read_6 : decode cX6_read 6 = .ok (.iconst 0, 1) := by decide +kernel
theorem dX6_read_7 : decode cX6_read 7 = .ok (.putfield 36, 3) := by decide +kernel
theorem dX6_read_10 : decode cX6_read 10 = .ok (.aload_n 0, 1) := by decide +kernel
theorem dX6_read_11 : decode cX6_read 11 = .ok (.iconst 0, 1) := by decide +kernel
theorem dX6_read_12 : decode cX6_read 12 = .ok (.invokevirtual 44, 3) := by decide +kernel
theorem dX6_read_15 : decode cX6_read 15 = .ok (.aload_n 0, 1) := by decide +kernel
theorem dX6_read_16 : decode cX6_read 16 = .ok (.iconst 1, 1) := by decide +kernel
theorem dX6_read_17 : decode cX6_read 17 = .ok (.putfield 29, 3) := by decide +kernel
theorem dX6_read_20 : decode cX6_read 20 = .ok (.aload_n 0, 1) := by decide +kernel
theorem dX6_read_21 : decode cX6_read 21 = .ok (.getfield 36, 3) := by decide +kernel
theorem dX6_read_24 : decode cX6_read 24 = .ok (.ifCond .ne 53, 3) := by decide +kernel
theorem dX6_read_27 : decode cX6_read 27 = .ok (.aload_n 0, 1) := by decide +kernel
theorem dX6_read_28 : decode cX6_read 28 = .ok (.getfield 33, 3) := by decide +kernel
theorem dX6_read_31 : decode cX6_read 31 = .ok (.aload_n 0, 1) := by decide +kernel
theorem dX6_read_32 : decode cX6_read 32 = .ok (.getfield 40, 3) := by decide +kernel
theorem dX6_read_35 : decode cX6_read 35 = .ok (.invokevirtual 47, 3) := by decide +kernel
theorem dX6_read_38 : decode cX6_read 38 = .ok (.if_icmp .ge 39, 3) := by decide +kernel
theorem dX6_read_41 : decode cX6_read 41 = .ok (.aload_n 0, 1) := by decide +kernel
theorem dX6_read_42 : decode cX6_read 42 = .ok (.getfield 29, 3) := by decide +kernel
theorem dX6_read_45 : decode cX6_read 45 = .ok (.bipush 80, 2) := by decide +kernel
theorem dX6_read_47 : decode cX6_read 47 = .ok (.if_icmp .ge 30, 3) := by decide +kernel
theorem dX6_read_50 : decode cX6_read 50 = .ok (.aload_n 0, 1) := by decide +kernel
theorem dX6_read_51 : decode cX6_read 51 = .ok (.bipush 59, 2) := by decide +kernel
theorem dX6_read_53 : decode cX6_read 53 = .ok (.invokevirtual 53, 3) := by decide +kernel
theorem dX6_read_56 : decode cX6_read 56 = .ok (.aload_n 0, 1) := by decide +kernel
theorem dX6_read_57 : decode cX6_read 57 = .ok (.aload_n 0, 1) := by decide +kernel
theorem dX6_read_58 : decode cX6_read 58 = .ok (.getfield 29, 3) := by decide +kernel
theorem dX6_read_61 : decode cX6_read 61 = .ok (.invokevirtual 44, 3) := by decide +kernel
theorem dX6_read_64 : decode cX6_read 64 = .ok (.aload_n 0, 1) := by decide +kernel
theorem dX6_read_65 : decode cX6_read 65 = .ok (.dup, 1) := by decide +kernel
theorem dX6_read_66 : decode cX6_read 66 = .ok (.getfield 29, 3) := by decide +kernel
theorem dX6_read_69 : decode cX6_read 69 = .ok (.iconst 1, 1) := by decide +kernel
theorem dX6_read_70 : decode cX6_read 70 = .ok (.iadd, 1) := by decide +kernel
theorem dX6_read_71 : decode cX6_read 71 = .ok (.putfield 29, 3) := by decide +kernel
theorem dX6_read_74 : decode cX6_read 74 = .ok (.goto (-54), 3) := by decide +kernel
theorem dX6_read_77 : decode cX6_read 77 = .ok (.aload_n 0, 1) := by decide +kernel
theorem dX6_read_78 : decode cX6_read 78 = .ok (.getfield 36, 3) := by decide +kernel
theorem dX6_read_81 : decode cX6_read 81 = .ok (.ifCond .eq 10, 3) := by decide +kernel
theorem dX6_read_84 : decode cX6_read 84 = .ok (.aload_n 0, 1) := by decide +kernel
theorem dX6_read_85 : decode cX6_read 85 = .ok (.getfield 33, 3) := by decide +kernel
theorem dX6_read_88 : decode cX6_read 88 = .ok (.goto 5, 3) := by decide +kernel
theorem dX6_read_91 : decode cX6_read 91 = .ok (.bipush (-6), 2) := by decide +kernel
theorem dX6_read_93 : decode cX6_read 93 = .ok (.ireturn, 1) := by decide +kernel
theorem dX6_readOrder_0 : decode cX6_readOrder 0 = .ok (.aload_n 0, 1) := by decide +kernel
theorem dX6_readOrder_1 : decode cX6_readOrder 1 = .ok (.getfield 36, 3) := by decide +kernel
theorem dX6_readOrder_4 : decode cX6_readOrder 4 = .ok (.ifCond .eq 7, 3) := by decide +kernel
theorem dX6_readOrder_7 : decode cX6_readOrder 7 = .ok (.iconst 0, 1) := by decide +kernel
theorem dX6_readOrder_8 : decode cX6_readOrder 8 = .ok (.goto 14, 3) := by decide +kernel
theorem dX6_readOrder_11 : decode cX6_readOrder 11 = .ok (.aload_n 0, 1) := by decide +kernel
theorem dX6_readOrder_12 : decode cX6_readOrder 12 = .ok (.getfield 40, 3) := by decide +kernel
theorem dX6_readOrder_15 : decode cX6_readOrder 15 = .ok (.aload_n 0, 1) := by decide +kernel
theorem dX6_readOrder_16 : decode cX6_readOrder 16 = .ok (.getfield 33, 3) := by decide +kernel
theorem dX6_readOrder_19 : decode cX6_readOrder 19 = .ok (.invokevirtual 57, 3) := by decide +kernel
theorem dX6_readOrder_22 : decode cX6_readOrder 22 = .ok (.istore_n 2, 1) := by decide +kernel
theorem dX6_readOrder_23 : decode cX6_readOrder 23 = .ok (.aload_n 0, 1) := by decide +kernel
theorem dX6_readOrder_24 : decode cX6_readOrder 24 = .ok (.dup, 1) := by decide +kernel
theorem dX6_readOrder_25 : decode cX6_readOrder 25 = .ok (.getfield 33, 3) := by decide +kernel
theorem dX6_readOrder_28 : decode cX6_readOrder 28 = .ok (.iload_n 2, 1) := by decide +kernel
theorem dX6_readOrder_29 : decode cX6_readOrder 29 = .ok (.invokestatic 61, 3) := by decide +kernel
theorem dX6_readOrder_32 : decode cX6_readOrder 32 = .ok (.ifCond .eq 7, 3) := by decide +kernel
theorem dX6_readOrder_35 : decode cX6_readOrder 35 = .ok (.iconst 1, 1) := by decide +kernel
theorem dX6_readOrder_36 : decode cX6_readOrder 36 = .ok (.goto 4, 3) := by decide +kernel
theorem dX6_readOrder_39 : decode cX6_readOrder 39 = .ok (.iconst 0, 1) := by decide +kernel
theorem dX6_readOrder_40 : decode cX6_readOrder 40 = .ok (.iadd, 1) := by decide +kernel
theorem dX6_readOrder_41 : decode cX6_readOrder 41 = .ok (.putfield 33, 3) := by decide +kernel
theorem dX6_readOrder_44 : decode cX6_readOrder 44 = .ok (.aload_n 0, 1) := by decide +kernel
theorem dX6_readOrder_45 : decode cX6_readOrder 45 = .ok (.iload_n 2, 1) := by decide +kernel
theorem dX6_readOrder_46 : decode cX6_readOrder 46 = .ok (.invokestatic 61, 3) := by decide +kernel
theorem dX6_readOrder_49 : decode cX6_readOrder 49 = .ok (.ifCond .ne 7, 3) := by decide +kernel
theorem dX6_readOrder_52 : decode cX6_readOrder 52 = .ok (.iconst 1, 1) := by decide +kernel
theorem dX6_readOrder_53 : decode cX6_readOrder 53 = .ok (.goto 4, 3) := by decide +kernel
theorem dX6_readOrder_56 : decode cX6_readOrder 56 = .ok (.iconst 0, 1) := by decide +kernel
theorem dX6_readOrder_57 : decode cX6_readOrder 57 = .ok (.putfield 36, 3) := by decide +kernel
theorem dX6_readOrder_60 : decode cX6_readOrder 60 = .ok (.aload_n 0, 1) := by decide +kernel
theorem dX6_readOrder_61 : decode cX6_readOrder 61 = .ok (.invokevirtual 65, 3) := by decide +kernel
theorem dX6_readOrder_64 : decode cX6_readOrder 64 = .ok (.istore_n 3, 1) := by decide +kernel
theorem dX6_readOrder_65 : decode cX6_readOrder 65 = .ok (.iconst 0, 1) := by decide +kernel
theorem dX6_readOrder_66 : decode cX6_readOrder 66 = .ok (.istore 4, 2) := by decide +kernel
theorem dX6_readOrder_68 : decode cX6_readOrder 68 = .ok (.iconst 0, 1) := by decide +kernel
theorem dX6_readOrder_69 : decode cX6_readOrder 69 = .ok (.istore 5, 2) := by decide +kernel
theorem dX6_readOrder_71 : decode cX6_readOrder 71 = .ok (.iload_n 2, 1) := by decide +kernel
theorem dX6_readOrder_72 : decode cX6_readOrder 72 = .ok (.bipush 43, 2) := by decide +kernel
theorem dX6_readOrder_74 : decode cX6_readOrder 74 = .ok (.if_icmp .ne 38, 3) := by decide +kernel
theorem dX6_readOrder_77 : decode cX6_readOrder 77 = .ok (.aload_n 0, 1) := by decide +kernel
theorem dX6_readOrder_78 : decode cX6_readOrder 78 = .ok (.bipush 46, 2) := by decide +kernel
theorem dX6_readOrder_80 : decode cX6_readOrder 80 = .ok (.invokevirtual 53, 3) := by decide +kernel
theorem dX6_readOrder_83 : decode cX6_readOrder 83 = .ok (.aload_n 0, 1) := by decide +kernel
theorem dX6_readOrder_84 : decode cX6_readOrder 84 = .ok (.invokevirtual 65, 3) := by decide +kernel
theorem dX6_readOrder_87 : decode cX6_readOrder 87 = .ok (.istore 4, 2) := by decide +kernel
theorem dX6_readOrder_89 : decode cX6_readOrder 89 = .ok (.aload_n 0, 1) := by decide +kernel
theorem dX6_readOrder_90 : decode cX6_readOrder 90 = .ok (.bipush 97, 2) := by decide +kernel
theorem dX6_readOrder_92 : decode cX6_readOrder 92 = .ok (.invokevirtual 68, 3) := by decide +kernel
theorem dX6_readOrder_95 : decode cX6_readOrder 95 = .ok (.ifCond .eq 11, 3) := by decide +kernel
theorem dX6_readOrder_98 : decode cX6_readOrder 98 = .ok (.aload_n 0, 1) := by decide +kernel
theorem dX6_readOrder_99 : decode cX6_readOrder 99 = .ok (.iconst 3, 1) := by decide +kernel
theorem dX6_readOrder_100 : decode cX6_readOrder 100 = .ok (.invokevirtual 72, 3) := by decide +kernel
theorem dX6_readOrder_103 : decode cX6_readOrder 103 = .ok (.goto 4, 3) := by decide +kernel
theorem dX6_readOrder_106 : decode cX6_readOrder 106 = .ok (.iconst 0, 1) := by decide +kernel
theorem dX6_readOrder_107 : decode cX6_readOrder 107 = .ok (.istore 5, 2) := by decide +kernel
theorem dX6_readOrder_109 : decode cX6_readOrder 109 = .ok (.goto 22, 3) := by decide +kernel
theorem dX6_readOrder_112 : decode cX6_readOrder 112 = .ok (.iload_n 2, 1) := by decide +kernel
theorem dX6_readOrder_113 : decode cX6_readOrder 113 = .ok (.bipush 97, 2) := by decide +kernel
theorem dX6_readOrder_115 : decode cX6_readOrder 115 = .ok (.if_icmp .ne 16, 3) := by decide +kernel
theorem dX6_readOrder_118 : decode cX6_readOrder 118 = .ok (.aload_n 0, 1) := by decide +kernel
theorem dX6_readOrder_119 : decode cX6_readOrder 119 = .ok (.bipush 62, 2) := by decide +kernel
theorem dX6_readOrder_121 : decode cX6_readOrder 121 = .ok (.invokevirtual 53, 3) := by decide +kernel
theorem dX6_readOrder_124 : decode cX6_readOrder 124 = .ok (.aload_n 0, 1) := by decide +kernel
theorem dX6_readOrder_125 : decode cX6_readOrder 125 = .ok (.iconst 3, 1) := by decide +kernel
theorem dX6_readOrder_126 : decode cX6_readOrder 126 = .ok (.invokevirtual 72, 3) := by decide +kernel
theorem dX6_readOrder_129 : decode cX6_readOrder 129 = .ok (.istore 4, 2) := by decide +kernel
theorem dX6_readOrder_131 : decode cX6_readOrder 131 = .ok (.aload_n 0, 1) := by decide +kernel
theorem dX6_readOrder_132 : decode cX6_readOrder 132 = .ok (.getfield 14, 3) := by decide +kernel
theorem dX6_readOrder_135 : decode cX6_readOrder 135 = .ok (.iload_n 1, 1) := by decide +kernel
theorem dX6_readOrder_136 : decode cX6_readOrder 136 = .ok (.iload_n 2, 1) := by decide +kernel
theorem dX6_readOrder_137 : decode cX6_readOrder 137 = .ok (.invokevirtual 75, 3) := by decide +kernel
theorem dX6_readOrder_140 : decode cX6_readOrder 140 = .ok (.aload_n 0, 1) := by decide +kernel
theorem dX6_readOrder_141 : decode cX6_readOrder 141 = .ok (.getfield 20, 3) := by decide +kernel
theorem dX6_readOrder_144 : decode cX6_readOrder 144 = .ok (.iload_n 1, 1) := by decide +kernel
theorem dX6_readOrder_145 : decode cX6_readOrder 145 = .ok (.iload_n 3, 1) := by decide +kernel
theorem dX6_readOrder_146 : decode cX6_readOrder 146 = .ok (.invokevirtual 75, 3) := by decide +kernel
theorem dX6_readOrder_149 : decode cX6_readOrder 149 = .ok (.aload_n 0, 1) := by decide +kernel
theorem dX6_readOrder_150 : decode cX6_readOrder 150 = .ok (.getfield 23, 3) := by decide +kernel
theorem dX6_readOrder_153 : decode cX6_readOrder 153 = .ok (.iload_n 1, 1) := by decide +kernel
theorem dX6_readOrder_154 : decode cX6_readOrder 154 = .ok (.iload 4, 2) := by decide +kernel
theorem dX6_readOrder_156 : decode cX6_readOrder 156 = .ok (.invokevirtual 75, 3) := by decide +kernel
theorem dX6_readOrder_159 : decode cX6_readOrder 159 = .ok (.aload_n 0, 1) := by decide +kernel
theorem dX6_readOrder_160 : decode cX6_readOrder 160 = .ok (.getfield 26, 3) := by decide +kernel
theorem dX6_readOrder_163 : decode cX6_readOrder 163 = .ok (.iload_n 1, 1) := by decide +kernel
theorem dX6_readOrder_164 : decode cX6_readOrder 164 = .ok (.iload 5, 2) := by decide +kernel
theorem dX6_readOrder_166 : decode cX6_readOrder 166 = .ok (.invokevirtual 75, 3) := by decide +kernel
theorem dX6_readOrder_169 : decode cX6_readOrder 169 = .ok (.return_, 1) := by decide +kernel
theorem dX6_isKind_0 : decode cX6_isKind 0 = .ok (.iload_n 0, 1) := by decide +kernel
theorem dX6_isKind_1 : decode cX6_isKind 1 = .ok (.bipush 43, 2) := by decide +kernel
theorem dX6_isKind_3 : decode cX6_isKind 3 = .ok (.if_icmp .eq 33, 3) := by decide +kernel
theorem dX6_isKind_6 : decode cX6_isKind 6 = .ok (.iload_n 0, 1) := by decide +kernel
theorem dX6_isKind_7 : decode cX6_isKind 7 = .ok (.bipush 120, 2) := by decide +kernel
theorem dX6_isKind_9 : decode cX6_isKind 9 = .ok (.if_icmp .eq 27, 3) := by decide +kernel
theorem dX6_isKind_12 : decode cX6_isKind 12 = .ok (.iload_n 0, 1) := by decide +kernel
theorem dX6_isKind_13 : decode cX6_isKind 13 = .ok (.bipush 97, 2) := by decide +kernel
theorem dX6_isKind_15 : decode cX6_isKind 15 = .ok (.if_icmp .eq 21, 3) := by decide +kernel
theorem dX6_isKind_18 : decode cX6_isKind 18 = .ok (.iload_n 0, 1) := by decide +kernel
theorem dX6_isKind_19 : decode cX6_isKind 19 = .ok (.bipush 119, 2) := by decide +kernel
theorem dX6_isKind_21 : decode cX6_isKind 21 = .ok (.if_icmp .eq 15, 3) := by decide +kernel
theorem dX6_isKind_24 : decode cX6_isKind 24 = .ok (.iload_n 0, 1) := by decide +kernel
theorem dX6_isKind_25 : decode cX6_isKind 25 = .ok (.bipush 118, 2) := by decide +kernel
theorem dX6_isKind_27 : decode cX6_isKind 27 = .ok (.if_icmp .eq 9, 3) := by decide +kernel
theorem dX6_isKind_30 : decode cX6_isKind 30 = .ok (.iload_n 0, 1) := by decide +kernel
theorem dX6_isKind_31 : decode cX6_isKind 31 = .ok (.bipush 116, 2) := by decide +kernel
theorem dX6_isKind_33 : decode cX6_isKind 33 = .ok (.if_icmp .ne 7, 3) := by decide +kernel
theorem dX6_isKind_36 : decode cX6_isKind 36 = .ok (.iconst 1, 1) := by decide +kernel
theorem dX6_isKind_37 : decode cX6_isKind 37 = .ok (.goto 4, 3) := by decide +kernel
theorem dX6_isKind_40 : decode cX6_isKind 40 = .ok (.iconst 0, 1) := by decide +kernel
theorem dX6_isKind_41 : decode cX6_isKind 41 = .ok (.ireturn, 1) := by decide +kernel
theorem dX6_readNumber_0 : decode cX6_readNumber 0 = .ok (.aload_n 0, 1) := by decide +kernel
theorem dX6_readNumber_1 : decode cX6_readNumber 1 = .ok (.bipush 9, 2) := by decide +kernel
theorem dX6_readNumber_3 : decode cX6_readNumber 3 = .ok (.invokevirtual 72, 3) := by decide +kernel
theorem dX6_readNumber_6 : decode cX6_readNumber 6 = .ok (.istore_n 1, 1) := by decide +kernel
theorem dX6_readNumber_7 : decode cX6_readNumber 7 = .ok (.aload_n 0, 1) := by decide +kernel
theorem dX6_readNumber_8 : decode cX6_readNumber 8 = .ok (.getfield 40, 3) := by decide +kernel
theorem dX6_readNumber_11 : decode cX6_readNumber 11 = .ok (.aload_n 0, 1) := by decide +kernel
theorem dX6_readNumber_12 : decode cX6_readNumber 12 = .ok (.getfield 33, 3) := by decide +kernel
theorem dX6_readNumber_15 : decode cX6_readNumber 15 = .ok (.invokevirtual 57, 3) := by decide +kernel
theorem dX6_readNumber_18 : decode cX6_readNumber 18 = .ok (.istore_n 2, 1) := by decide +kernel
theorem dX6_readNumber_19 : decode cX6_readNumber 19 = .ok (.iload_n 1, 1) := by decide +kernel
theorem dX6_readNumber_20 : decode cX6_readNumber 20 = .ok (.ifCond .eq 19, 3) := by decide +kernel
theorem dX6_readNumber_23 : decode cX6_readNumber 23 = .ok (.iload_n 2, 1) := by decide +kernel
theorem dX6_readNumber_24 : decode cX6_readNumber 24 = .ok (.bipush 48, 2) := by decide +kernel
theorem dX6_readNumber_26 : decode cX6_readNumber 26 = .ok (.if_icmp .lt 13, 3) := by decide +kernel
theorem dX6_readNumber_29 : decode cX6_readNumber 29 = .ok (.iload_n 2, 1) := by decide +kernel
theorem dX6_readNumber_30 : decode cX6_readNumber 30 = .ok (.bipush 57, 2) := by decide +kernel
theorem dX6_readNumber_32 : decode cX6_readNumber 32 = .ok (.if_icmp .gt 7, 3) := by decide +kernel
theorem dX6_readNumber_35 : decode cX6_readNumber 35 = .ok (.iconst 1, 1) := by decide +kernel
theorem dX6_readNumber_36 : decode cX6_readNumber 36 = .ok (.goto 4, 3) := by decide +kernel
theorem dX6_readNumber_39 : decode cX6_readNumber 39 = .ok (.iconst 0, 1) := by decide +kernel
theorem dX6_readNumber_40 : decode cX6_readNumber 40 = .ok (.istore_n 3, 1) := by decide +kernel
theorem dX6_readNumber_41 : decode cX6_readNumber 41 = .ok (.iload_n 3, 1) := by decide +kernel
theorem dX6_readNumber_42 : decode cX6_readNumber 42 = .ok (.ifCond .eq 17, 3) := by decide +kernel
theorem dX6_readNumber_45 : decode cX6_readNumber 45 = .ok (.iload_n 1, 1) := by decide +kernel
theorem dX6_readNumber_46 : decode cX6_readNumber 46 = .ok (.bipush 10, 2) := by decide +kernel
theorem dX6_readNumber_48 : decode cX6_readNumber 48 = .ok (.imul, 1) := by decide +kernel
theorem dX6_readNumber_49 : decode cX6_readNumber 49 = .ok (.aload_n 0, 1) := by decide +kernel
theorem dX6_readNumber_50 : decode cX6_readNumber 50 = .ok (.bipush 9, 2) := by decide +kernel
theorem dX6_readNumber_52 : decode cX6_readNumber 52 = .ok (.invokevirtual 72, 3) := by decide +kernel
theorem dX6_readNumber_55 : decode cX6_readNumber 55 = .ok (.iadd, 1) := by decide +kernel
theorem dX6_readNumber_56 : decode cX6_readNumber 56 = .ok (.goto 4, 3) := by decide +kernel
theorem dX6_readNumber_59 : decode cX6_readNumber 59 = .ok (.iload_n 1, 1) := by decide +kernel
theorem dX6_readNumber_60 : decode cX6_readNumber 60 = .ok (.ireturn, 1) := by decide +kernel
theorem dX6_readDigit_0 : decode cX6_readDigit 0 = .ok (.aload_n 0, 1) := by decide +kernel
theorem dX6_readDigit_1 : decode cX6_readDigit 1 = .ok (.getfield 40, 3) := by decide +kernel
theorem dX6_readDigit_4 : decode cX6_readDigit 4 = .ok (.aload_n 0, 1) := by decide +kernel
theorem dX6_readDigit_5 : decode cX6_readDigit 5 = .ok (.getfield 33, 3) := by decide +kernel
theorem dX6_readDigit_8 : decode cX6_readDigit 8 = .ok (.invokevirtual 57, 3) := by decide +kernel
theorem dX6_readDigit_11 : decode cX6_readDigit 11 = .ok (.bipush 48, 2) := by decide +kernel
theorem dX6_readDigit_13 : decode cX6_readDigit 13 = .ok (.isub, 1) := by decide +kernel
theorem dX6_readDigit_14 : decode cX6_readDigit 14 = .ok (.istore_n 2, 1) := by decide +kernel
theorem dX6_readDigit_15 : decode cX6_readDigit 15 = .ok (.aload_n 0, 1) := by decide +kernel
theorem dX6_readDigit_16 : decode cX6_readDigit 16 = .ok (.getfield 36, 3) := by decide +kernel
theorem dX6_readDigit_19 : decode cX6_readDigit 19 = .ok (.ifCond .ne 12, 3) := by decide +kernel
theorem dX6_readDigit_22 : decode cX6_readDigit 22 = .ok (.iload_n 2, 1) := by decide +kernel
theorem dX6_readDigit_23 : decode cX6_readDigit 23 = .ok (.ifCond .lt 8, 3) := by decide +kernel
theorem dX6_readDigit_26 : decode cX6_readDigit 26 = .ok (.iload_n 2, 1) := by decide +kernel
theorem dX6_readDigit_27 : decode cX6_readDigit 27 = .ok (.iload_n 1, 1) := by decide +kernel
theorem dX6_readDigit_28 : decode cX6_readDigit 28 = .ok (.if_icmp .le 10, 3) := by decide +kernel
theorem dX6_readDigit_31 : decode cX6_readDigit 31 = .ok (.aload_n 0, 1) := by decide +kernel
theorem dX6_readDigit_32 : decode cX6_readDigit 32 = .ok (.iconst 1, 1) := by decide +kernel
theorem dX6_readDigit_33 : decode cX6_readDigit 33 = .ok (.putfield 36, 3) := by decide +kernel
theorem dX6_readDigit_36 : decode cX6_readDigit 36 = .ok (.iconst 0, 1) := by decide +kernel
theorem dX6_readDigit_37 : decode cX6_readDigit 37 = .ok (.ireturn, 1) := by decide +kernel
theorem dX6_readDigit_38 : decode cX6_readDigit 38 = .ok (.aload_n 0, 1) := by decide +kernel
theorem dX6_readDigit_39 : decode cX6_readDigit 39 = .ok (.dup, 1) := by decide +kernel
theorem dX6_readDigit_40 : decode cX6_readDigit 40 = .ok (.getfield 33, 3) := by decide +kernel
theorem dX6_readDigit_43 : decode cX6_readDigit 43 = .ok (.iconst 1, 1) := by decide +kernel
theorem dX6_readDigit_44 : decode cX6_readDigit 44 = .ok (.iadd, 1) := by decide +kernel
theorem dX6_readDigit_45 : decode cX6_readDigit 45 = .ok (.putfield 33, 3) := by decide +kernel
theorem dX6_readDigit_48 : decode cX6_readDigit 48 = .ok (.iload_n 2, 1) := by decide +kernel
theorem dX6_readDigit_49 : decode cX6_readDigit 49 = .ok (.ireturn, 1) := by decide +kernel
theorem dX6_accept_0 : decode cX6_accept 0 = .ok (.aload_n 0, 1) := by decide +kernel
theorem dX6_accept_1 : decode cX6_accept 1 = .ok (.getfield 36, 3) := by decide +kernel
theorem dX6_accept_4 : decode cX6_accept 4 = .ok (.ifCond .ne 22, 3) := by decide +kernel
theorem dX6_accept_7 : decode cX6_accept 7 = .ok (.aload_n 0, 1) := by decide +kernel
theorem dX6_accept_8 : decode cX6_accept 8 = .ok (.getfield 40, 3) := by decide +kernel
theorem dX6_accept_11 : decode cX6_accept 11 = .ok (.aload_n 0, 1) := by decide +kernel
theorem dX6_accept_12 : decode cX6_accept 12 = .ok (.getfield 33, 3) := by decide +kernel
theorem dX6_accept_15 : decode cX6_accept 15 = .ok (.invokevirtual 57, 3) := by decide +kernel
theorem dX6_accept_18 : decode cX6_accept 18 = .ok (.iload_n 1, 1) := by decide +kernel
theorem dX6_accept_19 : decode cX6_accept 19 = .ok (.if_icmp .ne 7, 3) := by decide +kernel
theorem dX6_accept_22 : decode cX6_accept 22 = .ok (.iconst 1, 1) := by decide +kernel
theorem dX6_accept_23 : decode cX6_accept 23 = .ok (.goto 4, 3) := by decide +kernel
theorem dX6_accept_26 : decode cX6_accept 26 = .ok (.iconst 0, 1) := by decide +kernel
theorem dX6_accept_27 : decode cX6_accept 27 = .ok (.istore_n 2, 1) := by decide +kernel
theorem dX6_accept_28 : decode cX6_accept 28 = .ok (.aload_n 0, 1) := by decide +kernel
theorem dX6_accept_29 : decode cX6_accept 29 = .ok (.dup, 1) := by decide +kernel
theorem dX6_accept_30 : decode cX6_accept 30 = .ok (.getfield 33, 3) := by decide +kernel
theorem dX6_accept_33 : decode cX6_accept 33 = .ok (.iload_n 2, 1) := by decide +kernel
theorem dX6_accept_34 : decode cX6_accept 34 = .ok (.ifCond .eq 7, 3) := by decide +kernel
theorem dX6_accept_37 : decode cX6_accept 37 = .ok (.iconst 1, 1) := by decide +kernel
theorem dX6_accept_38 : decode cX6_accept 38 = .ok (.goto 4, 3) := by decide +kernel
theorem dX6_accept_41 : decode cX6_accept 41 = .ok (.iconst 0, 1) := by decide +kernel
theorem dX6_accept_42 : decode cX6_accept 42 = .ok (.iadd, 1) := by decide +kernel
theorem dX6_accept_43 : decode cX6_accept 43 = .ok (.putfield 33, 3) := by decide +kernel
theorem dX6_accept_46 : decode cX6_accept 46 = .ok (.iload_n 2, 1) := by decide +kernel
theorem dX6_accept_47 : decode cX6_accept 47 = .ok (.ireturn, 1) := by decide +kernel
theorem dX6_expect_0 : decode cX6_expect 0 = .ok (.aload_n 0, 1) := by decide +kernel
theorem dX6_expect_1 : decode cX6_expect 1 = .ok (.iload_n 1, 1) := by decide +kernel
theorem dX6_expect_2 : decode cX6_expect 2 = .ok (.invokevirtual 68, 3) := by decide +kernel
theorem dX6_expect_5 : decode cX6_expect 5 = .ok (.ifCond .ne 8, 3) := by decide +kernel
theorem dX6_expect_8 : decode cX6_expect 8 = .ok (.aload_n 0, 1) := by decide +kernel
theorem dX6_expect_9 : decode cX6_expect 9 = .ok (.iconst 1, 1) := by decide +kernel
theorem dX6_expect_10 : decode cX6_expect 10 = .ok (.putfield 36, 3) := by decide +kernel
theorem dX6_expect_13 : decode cX6_expect 13 = .ok (.return_, 1) := by decide +kernel
theorem dX6_orders_0 : decode cX6_orders 0 = .ok (.aload_n 0, 1) := by decide +kernel
theorem dX6_orders_1 : decode cX6_orders 1 = .ok (.getfield 29, 3) := by decide +kernel
theorem dX6_orders_4 : decode cX6_orders 4 = .ok (.ireturn, 1) := by decide +kernel
theorem dX6_kind_0 : decode cX6_kind 0 = .ok (.aload_n 0, 1) := by decide +kernel
theorem dX6_kind_1 : decode cX6_kind 1 = .ok (.getfield 14, 3) := by decide +kernel
theorem dX6_kind_4 : decode cX6_kind 4 = .ok (.iload_n 1, 1) := by decide +kernel
theorem dX6_kind_5 : decode cX6_kind 5 = .ok (.invokevirtual 79, 3) := by decide +kernel
theorem dX6_kind_8 : decode cX6_kind 8 = .ok (.ireturn, 1) := by decide +kernel
theorem dX6_first_0 : decode cX6_first 0 = .ok (.aload_n 0, 1) := by decide +kernel
theorem dX6_first_1 : decode cX6_first 1 = .ok (.getfield 20, 3) := by decide +kernel
theorem dX6_first_4 : decode cX6_first 4 = .ok (.iload_n 1, 1) := by decide +kernel
theorem dX6_first_5 : decode cX6_first 5 = .ok (.invokevirtual 79, 3) := by decide +kernel
theorem dX6_first_8 : decode cX6_first 8 = .ok (.ireturn, 1) := by decide +kernel
theorem dX6_second_0 : decode cX6_second 0 = .ok (.aload_n 0, 1) := by decide +kernel
theorem dX6_second_1 : decode cX6_second 1 = .ok (.getfield 23, 3) := by decide +kernel
theorem dX6_second_4 : decode cX6_second 4 = .ok (.iload_n 1, 1) := by decide +kernel
theorem dX6_second_5 : decode cX6_second 5 = .ok (.invokevirtual 79, 3) := by decide +kernel
theorem dX6_second_8 : decode cX6_second 8 = .ok (.ireturn, 1) := by decide +kernel
theorem dX6_third_0 : decode cX6_third 0 = .ok (.aload_n 0, 1) := by decide +kernel
theorem dX6_third_1 : decode cX6_third 1 = .ok (.getfield 26, 3) := by decide +kernel
theorem dX6_third_4 : decode cX6_third 4 = .ok (.iload_n 1, 1) := by decide +kernel
theorem dX6_third_5 : decode cX6_third 5 = .ok (.invokevirtual 79, 3) := by decide +kernel
theorem dX6_third_8 : decode cX6_third 8 = .ok (.ireturn, 1) := by decide +kernel
theorem dX7_init_0 : decode cX7_init 0 = .ok (.aload_n 0, 1) := by decide +kernel
theorem dX7_init_1 : decode cX7_init 1 = .ok (.invokespecial 1, 3) := by decide +kernel
theorem dX7_init_4 : decode cX7_init 4 = .ok (.aload_n 0, 1) := by decide +kernel
theorem dX7_init_5 : decode cX7_init 5 = .ok (.iload_n 1, 1) := by decide +kernel
theorem dX7_init_6 : decode cX7_init 6 = .ok (.iconst 0, 1) := by decide +kernel
theorem dX7_init_7 : decode cX7_init 7 = .ok (.invokestatic 7, 3) := by decide +kernel
theorem dX7_init_10 : decode cX7_init 10 = .ok (.anewarray 13, 3) := by decide +kernel
theorem dX7_init_13 : decode cX7_init 13 = .ok (.putfield 15, 3) := by decide +kernel
theorem dX7_init_16 : decode cX7_init 16 = .ok (.iconst 0, 1) := by decide +kernel
theorem dX7_init_17 : decode cX7_init 17 = .ok (.istore_n 2, 1) := by decide +kernel
theorem dX7_init_18 : decode cX7_init 18 = .ok (.iload_n 2, 1) := by decide +kernel
theorem dX7_init_19 : decode cX7_init 19 = .ok (.aload_n 0, 1) := by decide +kernel
theorem dX7_init_20 : decode cX7_init 20 = .ok (.getfield 15, 3) := by decide +kernel
theorem dX7_init_23 : decode cX7_init 23 = .ok (.arraylength, 1) := by decide +kernel
theorem dX7_init_24 : decode cX7_init 24 = .ok (.if_icmp .ge 22, 3) := by decide +kernel
theorem dX7_init_27 : decode cX7_init 27 = .ok (.aload_n 0, 1) := by decide +kernel
theorem dX7_init_28 : decode cX7_init 28 = .ok (.getfield 15, 3) := by decide +kernel
theorem dX7_init_31 : decode cX7_init 31 = .ok (.iload_n 2, 1) := by decide +kernel
theorem dX7_init_32 : decode cX7_init 32 = .ok (.new 13, 3) := by decide +kernel
theorem dX7_init_35 : decode cX7_init 35 = .ok (.dup, 1) := by decide +kernel
theorem dX7_init_36 : decode cX7_init 36 = .ok (.invokespecial 21, 3) := by decide +kernel
theorem dX7_init_39 : decode cX7_init 39 = .ok (.aastore, 1) := by decide +kernel
theorem dX7_init_40 : decode cX7_init 40 = .ok (.iinc 2 1, 3) := by decide +kernel
theorem dX7_init_43 : decode cX7_init 43 = .ok (.goto (-25), 3) := by decide +kernel
theorem dX7_init_46 : decode cX7_init 46 = .ok (.return_, 1) := by decide +kernel
theorem dX7_keep_0 : decode cX7_keep 0 = .ok (.aload_n 0, 1) := by decide +kernel
theorem dX7_keep_1 : decode cX7_keep 1 = .ok (.iload_n 1, 1) := by decide +kernel
theorem dX7_keep_2 : decode cX7_keep 2 = .ok (.invokevirtual 22, 3) := by decide +kernel
theorem dX7_keep_5 : decode cX7_keep 5 = .ok (.astore_n 3, 1) := by decide +kernel
theorem dX7_keep_6 : decode cX7_keep 6 = .ok (.aload_n 3, 1) := by decide +kernel
theorem dX7_keep_7 : decode cX7_keep 7 = .ok (.ifnull 8, 3) := by decide +kernel
theorem dX7_keep_10 : decode cX7_keep 10 = .ok (.aload_n 3, 1) := by decide +kernel
theorem dX7_keep_11 : decode cX7_keep 11 = .ok (.aload_n 2, 1) := by decide +kernel
theorem dX7_keep_12 : decode cX7_keep 12 = .ok (.invokevirtual 26, 3) := by decide +kernel
theorem dX7_keep_15 : decode cX7_keep 15 = .ok (.return_, 1) := by decide +kernel
theorem dX7_bringBack_0 : decode cX7_bringBack 0 = .ok (.aload_n 0, 1) := by decide +kernel
theorem dX7_bringBack_1 : decode cX7_bringBack 1 = .ok (.iload_n 1, 1) := by decide +kernel
theorem dX7_bringBack_2 : decode cX7_bringBack 2 = .ok (.invokevirtual 22, 3) := by decide +kernel
theorem dX7_bringBack_5 : decode cX7_bringBack 5 = .ok (.astore_n 3, 1) := by decide +kernel
theorem dX7_bringBack_6 : decode cX7_bringBack 6 = .ok (.aload_n 3, 1) := by decide +kernel
theorem dX7_bringBack_7 : decode cX7_bringBack 7 = .ok (.ifnull 8, 3) := by decide +kernel
theorem dX7_bringBack_10 : decode cX7_bringBack 10 = .ok (.aload_n 2, 1) := by decide +kernel
theorem dX7_bringBack_11 : decode cX7_bringBack 11 = .ok (.aload_n 3, 1) := by decide +kernel
theorem dX7_bringBack_12 : decode cX7_bringBack 12 = .ok (.invokevirtual 26, 3) := by decide +kernel
theorem dX7_bringBack_15 : decode cX7_bringBack 15 = .ok (.return_, 1) := by decide +kernel
theorem dX7_state_0 : decode cX7_state 0 = .ok (.iload_n 1, 1) := by decide +kernel
theorem dX7_state_1 : decode cX7_state 1 = .ok (.ifCond .lt 21, 3) := by decide +kernel
theorem dX7_state_4 : decode cX7_state 4 = .ok (.iload_n 1, 1) := by decide +kernel
theorem dX7_state_5 : decode cX7_state 5 = .ok (.aload_n 0, 1) := by decide +kernel
theorem dX7_state_6 : decode cX7_state 6 = .ok (.getfield 15, 3) := by decide +kernel
theorem dX7_state_9 : decode cX7_state 9 = .ok (.arraylength, 1) := by decide +kernel
theorem dX7_state_10 : decode cX7_state 10 = .ok (.if_icmp .ge 12, 3) := by decide +kernel
theorem dX7_state_13 : decode cX7_state 13 = .ok (.aload_n 0, 1) := by decide +kernel
theorem dX7_state_14 : decode cX7_state 14 = .ok (.getfield 15, 3) := by decide +kernel
theorem dX7_state_17 : decode cX7_state 17 = .ok (.iload_n 1, 1) := by decide +kernel
theorem dX7_state_18 : decode cX7_state 18 = .ok (.aaload, 1) := by decide +kernel
theorem dX7_state_19 : decode cX7_state 19 = .ok (.goto 4, 3) := by decide +kernel
theorem dX7_state_22 : decode cX7_state 22 = .ok (.aconst_null, 1) := by decide +kernel
theorem dX7_state_23 : decode cX7_state 23 = .ok (.areturn, 1) := by decide +kernel
theorem dX8_isHour_0 : decode cX8_isHour 0 = .ok (.iload_n 0, 1) := by decide +kernel
theorem dX8_isHour_1 : decode cX8_isHour 1 = .ok (.ifCond .lt 13, 3) := by decide +kernel
theorem dX8_isHour_4 : decode cX8_isHour 4 = .ok (.iload_n 0, 1) := by decide +kernel
theorem dX8_isHour_5 : decode cX8_isHour 5 = .ok (.bipush 11, 2) := by decide +kernel
theorem dX8_isHour_7 : decode cX8_isHour 7 = .ok (.if_icmp .ge 7, 3) := by decide +kernel
theorem dX8_isHour_10 : decode cX8_isHour 10 = .ok (.iconst 1, 1) := by decide +kernel
theorem dX8_isHour_11 : decode cX8_isHour 11 = .ok (.goto 4, 3) := by decide +kernel
theorem dX8_isHour_14 : decode cX8_isHour 14 = .ok (.iconst 0, 1) := by decide +kernel
theorem dX8_isHour_15 : decode cX8_isHour 15 = .ok (.ireturn, 1) := by decide +kernel
theorem dX8_height_0 : decode cX8_height 0 = .ok (.bipush 6, 2) := by decide +kernel
theorem dX8_height_2 : decode cX8_height 2 = .ok (.iload_n 0, 1) := by decide +kernel
theorem dX8_height_3 : decode cX8_height 3 = .ok (.iconst 5, 1) := by decide +kernel
theorem dX8_height_4 : decode cX8_height 4 = .ok (.isub, 1) := by decide +kernel
theorem dX8_height_5 : decode cX8_height 5 = .ok (.invokestatic 9, 3) := by decide +kernel
theorem dX8_height_8 : decode cX8_height 8 = .ok (.isub, 1) := by decide +kernel
theorem dX8_height_9 : decode cX8_height 9 = .ok (.ireturn, 1) := by decide +kernel
theorem dX8_columns_0 : decode cX8_columns 0 = .ok (.iconst 5, 1) := by decide +kernel
theorem dX8_columns_1 : decode cX8_columns 1 = .ok (.iload_n 0, 1) := by decide +kernel
theorem dX8_columns_2 : decode cX8_columns 2 = .ok (.isub, 1) := by decide +kernel
theorem dX8_columns_3 : decode cX8_columns 3 = .ok (.ireturn, 1) := by decide +kernel
theorem dX9_init_0 : decode cX9_init 0 = .ok (.aload_n 0, 1) := by decide +kernel
theorem dX9_init_1 : decode cX9_init 1 = .ok (.invokespecial 3, 3) := by decide +kernel
theorem dX9_init_4 : decode cX9_init 4 = .ok (.aload_n 0, 1) := by decide +kernel
theorem dX9_init_5 : decode cX9_init 5 = .ok (.new 9, 3) := by decide +kernel
theorem dX9_init_8 : decode cX9_init 8 = .ok (.dup, 1) := by decide +kernel
theorem dX9_init_9 : decode cX9_init 9 = .ok (.invokespecial 11, 3) := by decide +kernel
theorem dX9_init_12 : decode cX9_init 12 = .ok (.putfield 12, 3) := by decide +kernel
theorem dX9_init_15 : decode cX9_init 15 = .ok (.aload_n 0, 1) := by decide +kernel
theorem dX9_init_16 : decode cX9_init 16 = .ok (.new 16, 3) := by decide +kernel
theorem dX9_init_19 : decode cX9_init 19 = .ok (.dup, 1) := by decide +kernel
theorem dX9_init_20 : decode cX9_init 20 = .ok (.aload_n 0, 1) := by decide +kernel
theorem dX9_init_21 : decode cX9_init 21 = .ok (.getfield 12, 3) := by decide +kernel
theorem dX9_init_24 : decode cX9_init 24 = .ok (.invokespecial 18, 3) := by decide +kernel
theorem dX9_init_27 : decode cX9_init 27 = .ok (.putfield 21, 3) := by decide +kernel
theorem dX9_init_30 : decode cX9_init 30 = .ok (.aload_n 0, 1) := by decide +kernel
theorem dX9_init_31 : decode cX9_init 31 = .ok (.new 25, 3) := by decide +kernel
theorem dX9_init_34 : decode cX9_init 34 = .ok (.dup, 1) := by decide +kernel
theorem dX9_init_35 : decode cX9_init 35 = .ok (.aload_n 0, 1) := by decide +kernel
theorem dX9_init_36 : decode cX9_init 36 = .ok (.getfield 12, 3) := by decide +kernel
theorem dX9_init_39 : decode cX9_init 39 = .ok (.invokespecial 27, 3) := by decide +kernel
theorem dX9_init_42 : decode cX9_init 42 = .ok (.putfield 28, 3) := by decide +kernel
theorem dX9_init_45 : decode cX9_init 45 = .ok (.aload_n 0, 1) := by decide +kernel
theorem dX9_init_46 : decode cX9_init 46 = .ok (.new 32, 3) := by decide +kernel
theorem dX9_init_49 : decode cX9_init 49 = .ok (.dup, 1) := by decide +kernel
theorem dX9_init_50 : decode cX9_init 50 = .ok (.invokespecial 34, 3) := by decide +kernel
theorem dX9_init_53 : decode cX9_init 53 = .ok (.putfield 35, 3) := by decide +kernel
theorem dX9_init_56 : decode cX9_init 56 = .ok (.aload_n 0, 1) := by decide +kernel
theorem dX9_init_57 : decode cX9_init 57 = .ok (.new 39, 3) := by decide +kernel
theorem dX9_init_60 : decode cX9_init 60 = .ok (.dup, 1) := by decide +kernel
theorem dX9_init_61 : decode cX9_init 61 = .ok (.aload_n 0, 1) := by decide +kernel
theorem dX9_init_62 : decode cX9_init 62 = .ok (.getfield 35, 3) := by decide +kernel
theorem dX9_init_65 : decode cX9_init 65 = .ok (.invokespecial 41, 3) := by decide +kernel
theorem dX9_init_68 : decode cX9_init 68 = .ok (.putfield 44, 3) := by decide +kernel
theorem dX9_init_71 : decode cX9_init 71 = .ok (.aload_n 0, 1) := by decide +kernel
theorem dX9_init_72 : decode cX9_init 72 = .ok (.new 48, 3) := by decide +kernel
theorem dX9_init_75 : decode cX9_init 75 = .ok (.dup, 1) := by decide +kernel
theorem dX9_init_76 : decode cX9_init 76 = .ok (.invokespecial 50, 3) := by decide +kernel
theorem dX9_init_79 : decode cX9_init 79 = .ok (.putfield 51, 3) := by decide +kernel
theorem dX9_init_82 : decode cX9_init 82 = .ok (.aload_n 0, 1) := by decide +kernel
theorem dX9_init_83 : decode cX9_init 83 = .ok (.new 55, 3) := by decide +kernel
theorem dX9_init_86 : decode cX9_init 86 = .ok (.dup, 1) := by decide +kernel
theorem dX9_init_87 : decode cX9_init 87 = .ok (.iconst 2, 1) := by decide +kernel
theorem dX9_init_88 : decode cX9_init 88 = .ok (.invokespecial 57, 3) := by decide +kernel
theorem dX9_init_91 : decode cX9_init 91 = .ok (.putfield 60, 3) := by decide +kernel
theorem dX9_init_94 : decode cX9_init 94 = .ok (.aload_n 0, 1) := by decide +kernel
theorem dX9_init_95 : decode cX9_init 95 = .ok (.iconst 0, 1) := by decide +kernel
theorem dX9_init_96 : decode cX9_init 96 = .ok (.putfield 64, 3) := by decide +kernel
theorem dX9_init_99 : decode cX9_init 99 = .ok (.return_, 1) := by decide +kernel
theorem dX9_set_0 : decode cX9_set 0 = .ok (.aload_n 0, 1) := by decide +kernel
theorem dX9_set_1 : decode cX9_set 1 = .ok (.getfield 51, 3) := by decide +kernel
theorem dX9_set_4 : decode cX9_set 4 = .ok (.aload_n 0, 1) := by decide +kernel
theorem dX9_set_5 : decode cX9_set 5 = .ok (.getfield 12, 3) := by decide +kernel
theorem dX9_set_8 : decode cX9_set 8 = .ok (.invokevirtual 68, 3) := by decide +kernel
theorem dX9_set_11 : decode cX9_set 11 = .ok (.aload_n 0, 1) := by decide +kernel
theorem dX9_set_12 : decode cX9_set 12 = .ok (.aload_n 0, 1) := by decide +kernel
theorem dX9_set_13 : decode cX9_set 13 = .ok (.getfield 12, 3) := by decide +kernel
theorem dX9_set_16 : decode cX9_set 16 = .ok (.iload_n 1, 1) := by decide +kernel
theorem dX9_set_17 : decode cX9_set 17 = .ok (.iload_n 2, 1) := by decide +kernel
theorem dX9_set_18 : decode cX9_set 18 = .ok (.invokevirtual 71, 3) := by decide +kernel
theorem dX9_set_21 : decode cX9_set 21 = .ok (.invokevirtual 75, 3) := by decide +kernel
theorem dX9_set_24 : decode cX9_set 24 = .ok (.ireturn, 1) := by decide +kernel
theorem dX9_mirror_0 : decode cX9_mirror 0 = .ok (.aload_n 0, 1) := by decide +kernel
theorem dX9_mirror_1 : decode cX9_mirror 1 = .ok (.getfield 51, 3) := by decide +kernel
theorem dX9_mirror_4 : decode cX9_mirror 4 = .ok (.aload_n 0, 1) := by decide +kernel
theorem dX9_mirror_5 : decode cX9_mirror 5 = .ok (.getfield 12, 3) := by decide +kernel
theorem dX9_mirror_8 : decode cX9_mirror 8 = .ok (.invokevirtual 68, 3) := by decide +kernel
theorem dX9_mirror_11 : decode cX9_mirror 11 = .ok (.aload_n 0, 1) := by decide +kernel
theorem dX9_mirror_12 : decode cX9_mirror 12 = .ok (.aload_n 0, 1) := by decide +kernel
theorem dX9_mirror_13 : decode cX9_mirror 13 = .ok (.getfield 12, 3) := by decide +kernel
theorem dX9_mirror_16 : decode cX9_mirror 16 = .ok (.iload_n 1, 1) := by decide +kernel
theorem dX9_mirror_17 : decode cX9_mirror 17 = .ok (.iload_n 2, 1) := by decide +kernel
theorem dX9_mirror_18 : decode cX9_mirror 18 = .ok (.iload_n 3, 1) := by decide +kernel
theorem dX9_mirror_19 : decode cX9_mirror 19 = .ok (.invokevirtual 79, 3) := by decide +kernel
theorem dX9_mirror_22 : decode cX9_mirror 22 = .ok (.invokevirtual 75, 3) := by decide +kernel
theorem dX9_mirror_25 : decode cX9_mirror 25 = .ok (.ireturn, 1) := by decide +kernel
theorem dX9_take_0 : decode cX9_take 0 = .ok (.aload_n 0, 1) := by decide +kernel
theorem dX9_take_1 : decode cX9_take 1 = .ok (.getfield 51, 3) := by decide +kernel
theorem dX9_take_4 : decode cX9_take 4 = .ok (.aload_n 0, 1) := by decide +kernel
theorem dX9_take_5 : decode cX9_take 5 = .ok (.getfield 12, 3) := by decide +kernel
theorem dX9_take_8 : decode cX9_take 8 = .ok (.invokevirtual 68, 3) := by decide +kernel
theorem dX9_take_11 : decode cX9_take 11 = .ok (.aload_n 0, 1) := by decide +kernel
theorem dX9_take_12 : decode cX9_take 12 = .ok (.aload_n 0, 1) := by decide +kernel
theorem dX9_take_13 : decode cX9_take 13 = .ok (.getfield 12, 3) := by decide +kernel
theorem dX9_take_16 : decode cX9_take 16 = .ok (.iload_n 1, 1) := by decide +kernel
theorem dX9_take_17 : decode cX9_take 17 = .ok (.invokevirtual 83, 3) := by decide +kernel
theorem dX9_take_20 : decode cX9_take 20 = .ok (.invokevirtual 75, 3) := by decide +kernel
theorem dX9_take_23 : decode cX9_take 23 = .ok (.ireturn, 1) := by decide +kernel
theorem dX9_aim_0 : decode cX9_aim 0 = .ok (.aload_n 0, 1) := by decide +kernel
theorem dX9_aim_1 : decode cX9_aim 1 = .ok (.getfield 51, 3) := by decide +kernel
theorem dX9_aim_4 : decode cX9_aim 4 = .ok (.aload_n 0, 1) := by decide +kernel
theorem dX9_aim_5 : decode cX9_aim 5 = .ok (.getfield 12, 3) := by decide +kernel
theorem dX9_aim_8 : decode cX9_aim 8 = .ok (.invokevirtual 68, 3) := by decide +kernel
theorem dX9_aim_11 : decode cX9_aim 11 = .ok (.aload_n 0, 1) := by decide +kernel
theorem dX9_aim_12 : decode cX9_aim 12 = .ok (.aload_n 0, 1) := by decide +kernel
theorem dX9_aim_13 : decode cX9_aim 13 = .ok (.getfield 12, 3) := by decide +kernel
theorem dX9_aim_16 : decode cX9_aim 16 = .ok (.iload_n 1, 1) := by decide +kernel
theorem dX9_aim_17 : decode cX9_aim 17 = .ok (.iload_n 2, 1) := by decide +kernel
theorem dX9_aim_18 : decode cX9_aim 18 = .ok (.invokevirtual 86, 3) := by decide +kernel
theorem dX9_aim_21 : decode cX9_aim 21 = .ok (.invokevirtual 75, 3) := by decide +kernel
theorem dX9_aim_24 : decode cX9_aim 24 = .ok (.ireturn, 1) := by decide +kernel
theorem dX9_wash_0 : decode cX9_wash 0 = .ok (.aload_n 0, 1) := by decide +kernel
theorem dX9_wash_1 : decode cX9_wash 1 = .ok (.getfield 51, 3) := by decide +kernel
theorem dX9_wash_4 : decode cX9_wash 4 = .ok (.aload_n 0, 1) := by decide +kernel
theorem dX9_wash_5 : decode cX9_wash 5 = .ok (.getfield 12, 3) := by decide +kernel
theorem dX9_wash_8 : decode cX9_wash 8 = .ok (.invokevirtual 68, 3) := by decide +kernel
theorem dX9_wash_11 : decode cX9_wash 11 = .ok (.aload_n 0, 1) := by decide +kernel
theorem dX9_wash_12 : decode cX9_wash 12 = .ok (.aload_n 0, 1) := by decide +kernel
theorem dX9_wash_13 : decode cX9_wash 13 = .ok (.getfield 12, 3) := by decide +kernel
theorem dX9_wash_16 : decode cX9_wash 16 = .ok (.iload_n 1, 1) := by decide +kernel
theorem dX9_wash_17 : decode cX9_wash 17 = .ok (.invokevirtual 89, 3) := by decide +kernel
theorem dX9_wash_20 : decode cX9_wash 20 = .ok (.invokevirtual 75, 3) := by decide +kernel
theorem dX9_wash_23 : decode cX9_wash 23 = .ok (.ireturn, 1) := by decide +kernel
theorem dX9_wind_0 : decode cX9_wind 0 = .ok (.aload_n 0, 1) := by decide +kernel
theorem dX9_wind_1 : decode cX9_wind 1 = .ok (.getfield 51, 3) := by decide +kernel
theorem dX9_wind_4 : decode cX9_wind 4 = .ok (.aload_n 0, 1) := by decide +kernel
theorem dX9_wind_5 : decode cX9_wind 5 = .ok (.getfield 12, 3) := by decide +kernel
theorem dX9_wind_8 : decode cX9_wind 8 = .ok (.invokevirtual 68, 3) := by decide +kernel
theorem dX9_wind_11 : decode cX9_wind 11 = .ok (.aload_n 0, 1) := by decide +kernel
theorem dX9_wind_12 : decode cX9_wind 12 = .ok (.aload_n 0, 1) := by decide +kernel
theorem dX9_wind_13 : decode cX9_wind 13 = .ok (.getfield 12, 3) := by decide +kernel
theorem dX9_wind_16 : decode cX9_wind 16 = .ok (.iload_n 1, 1) := by decide +kernel
theorem dX9_wind_17 : decode cX9_wind 17 = .ok (.invokevirtual 92, 3) := by decide +kernel
theorem dX9_wind_20 : decode cX9_wind 20 = .ok (.invokevirtual 75, 3) := by decide +kernel
theorem dX9_wind_23 : decode cX9_wind 23 = .ok (.ireturn, 1) := by decide +kernel
theorem dX9_pass_0 : decode cX9_pass 0 = .ok (.aload_n 0, 1) := by decide +kernel
theorem dX9_pass_1 : decode cX9_pass 1 = .ok (.getfield 51, 3) := by decide +kernel
theorem dX9_pass_4 : decode cX9_pass 4 = .ok (.aload_n 0, 1) := by decide +kernel
theorem dX9_pass_5 : decode cX9_pass 5 = .ok (.getfield 12, 3) := by decide +kernel
theorem dX9_pass_8 : decode cX9_pass 8 = .ok (.invokevirtual 68, 3) := by decide +kernel
theorem dX9_pass_11 : decode cX9_pass 11 = .ok (.aload_n 0, 1) := by decide +kernel
theorem dX9_pass_12 : decode cX9_pass 12 = .ok (.aload_n 0, 1) := by decide +kernel
theorem dX9_pass_13 : decode cX9_pass 13 = .ok (.getfield 21, 3) := by decide +kernel
theorem dX9_pass_16 : decode cX9_pass 16 = .ok (.iload_n 1, 1) := by decide +kernel
theorem dX9_pass_17 : decode cX9_pass 17 = .ok (.invokevirtual 95, 3) := by decide +kernel
theorem dX9_pass_20 : decode cX9_pass 20 = .ok (.invokevirtual 75, 3) := by decide +kernel
theorem dX9_pass_23 : decode cX9_pass 23 = .ok (.ireturn, 1) := by decide +kernel
theorem dX9_of_0 : decode cX9_of 0 = .ok (.aload_n 0, 1) := by decide +kernel
theorem dX9_of_1 : decode cX9_of 1 = .ok (.getfield 12, 3) := by decide +kernel
theorem dX9_of_4 : decode cX9_of 4 = .ok (.iload_n 1, 1) := by decide +kernel
theorem dX9_of_5 : decode cX9_of 5 = .ok (.invokevirtual 98, 3) := by decide +kernel
theorem dX9_of_8 : decode cX9_of 8 = .ok (.ifCond .ne 5, 3) := by decide +kernel
theorem dX9_of_11 : decode cX9_of 11 = .ok (.iconst (-1), 1) := by decide +kernel
theorem dX9_of_12 : decode cX9_of 12 = .ok (.ireturn, 1) := by decide +kernel
theorem dX9_of_13 : decode cX9_of 13 = .ok (.iload_n 2, 1) := by decide +kernel
theorem dX9_of_14 : decode cX9_of 14 = .ok (.tableswitch 122 0 5 #[38, 50, 62, 74, 86, 110], 38) := by decide +kernel
theorem dX9_of_52 : decode cX9_of 52 = .ok (.aload_n 0, 1) := by decide +kernel
theorem dX9_of_53 : decode cX9_of 53 = .ok (.getfield 12, 3) := by decide +kernel
theorem dX9_of_56 : decode cX9_of 56 = .ok (.getfield 102, 3) := by decide +kernel
theorem dX9_of_59 : decode cX9_of 59 = .ok (.iload_n 1, 1) := by decide +kernel
theorem dX9_of_60 : decode cX9_of 60 = .ok (.invokevirtual 106, 3) := by decide +kernel
theorem dX9_of_63 : decode cX9_of 63 = .ok (.ireturn, 1) := by decide +kernel
theorem dX9_of_64 : decode cX9_of 64 = .ok (.aload_n 0, 1) := by decide +kernel
theorem dX9_of_65 : decode cX9_of 65 = .ok (.getfield 12, 3) := by decide +kernel
theorem dX9_of_68 : decode cX9_of 68 = .ok (.getfield 111, 3) := by decide +kernel
theorem dX9_of_71 : decode cX9_of 71 = .ok (.iload_n 1, 1) := by decide +kernel
theorem dX9_of_72 : decode cX9_of 72 = .ok (.invokevirtual 106, 3) := by decide +kernel
theorem dX9_of_75 : decode cX9_of 75 = .ok (.ireturn, 1) := by decide +kernel
theorem dX9_of_76 : decode cX9_of 76 = .ok (.aload_n 0, 1) := by decide +kernel
theorem dX9_of_77 : decode cX9_of 77 = .ok (.getfield 12, 3) := by decide +kernel
theorem dX9_of_80 : decode cX9_of 80 = .ok (.getfield 114, 3) := by decide +kernel
theorem dX9_of_83 : decode cX9_of 83 = .ok (.iload_n 1, 1) := by decide +kernel
theorem dX9_of_84 : decode cX9_of 84 = .ok (.invokevirtual 106, 3) := by decide +kernel
theorem dX9_of_87 : decode cX9_of 87 = .ok (.ireturn, 1) := by decide +kernel
theorem dX9_of_88 : decode cX9_of 88 = .ok (.aload_n 0, 1) := by decide +kernel
theorem dX9_of_89 : decode cX9_of 89 = .ok (.getfield 12, 3) := by decide +kernel
theorem dX9_of_92 : decode cX9_of 92 = .ok (.getfield 117, 3) := by decide +kernel
theorem dX9_of_95 : decode cX9_of 95 = .ok (.iload_n 1, 1) := by decide +kernel
theorem dX9_of_96 : decode cX9_of 96 = .ok (.invokevirtual 106, 3) := by decide +kernel
theorem dX9_of_99 : decode cX9_of 99 = .ok (.ireturn, 1) := by decide +kernel
theorem dX9_of_100 : decode cX9_of 100 = .ok (.aload_n 0, 1) := by decide +kernel
theorem dX9_of_101 : decode cX9_of 101 = .ok (.getfield 21, 3) := by decide +kernel
theorem dX9_of_104 : decode cX9_of 104 = .ok (.invokevirtual 120, 3) := by decide +kernel
theorem dX9_of_107 : decode cX9_of 107 = .ok (.aload_n 0, 1) := by decide +kernel
theorem dX9_of_108 : decode cX9_of 108 = .ok (.getfield 21, 3) := by decide +kernel
theorem dX9_of_111 : decode cX9_of 111 = .ok (.iload_n 1, 1) := by decide +kernel
theorem dX9_of_112 : decode cX9_of 112 = .ok (.invokevirtual 123, 3) := by decide +kernel
theorem dX9_of_115 : decode cX9_of 115 = .ok (.ifCond .eq 7, 3) := by decide +kernel
theorem dX9_of_118 : decode cX9_of 118 = .ok (.iconst 1, 1) := by decide +kernel
theorem dX9_of_119 : decode cX9_of 119 = .ok (.goto 4, 3) := by decide +kernel
theorem dX9_of_122 : decode cX9_of 122 = .ok (.iconst 0, 1) := by decide +kernel
theorem dX9_of_123 : decode cX9_of 123 = .ok (.ireturn, 1) := by decide +kernel
theorem dX9_of_124 : decode cX9_of 124 = .ok (.aload_n 0, 1) := by decide +kernel
theorem dX9_of_125 : decode cX9_of 125 = .ok (.getfield 12, 3) := by decide +kernel
theorem dX9_of_128 : decode cX9_of 128 = .ok (.getfield 126, 3) := by decide +kernel
theorem dX9_of_131 : decode cX9_of 131 = .ok (.iload_n 1, 1) := by decide +kernel
theorem dX9_of_132 : decode cX9_of 132 = .ok (.invokevirtual 106, 3) := by decide +kernel
theorem dX9_of_135 : decode cX9_of 135 = .ok (.ireturn, 1) := by decide +kernel
theorem dX9_of_136 : decode cX9_of 136 = .ok (.bipush (-2), 2) := by decide +kernel
theorem dX9_of_138 : decode cX9_of 138 = .ok (.ireturn, 1) := by decide +kernel
theorem dX9_at_0 : decode cX9_at 0 = .ok (.aload_n 0, 1) := by decide +kernel
theorem dX9_at_1 : decode cX9_at 1 = .ok (.getfield 12, 3) := by decide +kernel
theorem dX9_at_4 : decode cX9_at 4 = .ok (.iload_n 1, 1) := by decide +kernel
theorem dX9_at_5 : decode cX9_at 5 = .ok (.invokevirtual 98, 3) := by decide +kernel
theorem dX9_at_8 : decode cX9_at 8 = .ok (.ifCond .eq 10, 3) := by decide +kernel
theorem dX9_at_11 : decode cX9_at 11 = .ok (.iload_n 2, 1) := by decide +kernel
theorem dX9_at_12 : decode cX9_at 12 = .ok (.invokestatic 129, 3) := by decide +kernel
theorem dX9_at_15 : decode cX9_at 15 = .ok (.ifCond .ne 5, 3) := by decide +kernel
theorem dX9_at_18 : decode cX9_at 18 = .ok (.iconst (-1), 1) := by decide +kernel
theorem dX9_at_19 : decode cX9_at 19 = .ok (.ireturn, 1) := by decide +kernel
theorem dX9_at_20 : decode cX9_at 20 = .ok (.aload_n 0, 1) := by decide +kernel
theorem dX9_at_21 : decode cX9_at 21 = .ok (.getfield 21, 3) := by decide +kernel
theorem dX9_at_24 : decode cX9_at 24 = .ok (.invokevirtual 120, 3) := by decide +kernel
theorem dX9_at_27 : decode cX9_at 27 = .ok (.aload_n 0, 1) := by decide +kernel
theorem dX9_at_28 : decode cX9_at 28 = .ok (.getfield 21, 3) := by decide +kernel
theorem dX9_at_31 : decode cX9_at 31 = .ok (.iload_n 2, 1) := by decide +kernel
theorem dX9_at_32 : decode cX9_at 32 = .ok (.invokevirtual 134, 3) := by decide +kernel
theorem dX9_at_35 : decode cX9_at 35 = .ok (.pop, 1) := by decide +kernel
theorem dX9_at_36 : decode cX9_at 36 = .ok (.iload_n 3, 1) := by decide +kernel
theorem dX9_at_37 : decode cX9_at 37 = .ok (.tableswitch 87 0 3 #[31, 51, 60, 77], 31) := by decide +kernel
theorem dX9_at_68 : decode cX9_at 68 = .ok (.aload_n 0, 1) := by decide +kernel
theorem dX9_at_69 : decode cX9_at 69 = .ok (.getfield 21, 3) := by decide +kernel
theorem dX9_at_72 : decode cX9_at 72 = .ok (.iload_n 1, 1) := by decide +kernel
theorem dX9_at_73 : decode cX9_at 73 = .ok (.iload_n 2, 1) := by decide +kernel
theorem dX9_at_74 : decode cX9_at 74 = .ok (.invokevirtual 137, 3) := by decide +kernel
theorem dX9_at_77 : decode cX9_at 77 = .ok (.bipush (-6), 2) := by decide +kernel
theorem dX9_at_79 : decode cX9_at 79 = .ok (.if_icmp .ne 7, 3) := by decide +kernel
theorem dX9_at_82 : decode cX9_at 82 = .ok (.iconst 0, 1) := by decide +kernel
theorem dX9_at_83 : decode cX9_at 83 = .ok (.goto 4, 3) := by decide +kernel
theorem dX9_at_86 : decode cX9_at 86 = .ok (.iconst 1, 1) := by decide +kernel
theorem dX9_at_87 : decode cX9_at 87 = .ok (.ireturn, 1) := by decide +kernel
theorem dX9_at_88 : decode cX9_at 88 = .ok (.aload_n 0, 1) := by decide +kernel
theorem dX9_at_89 : decode cX9_at 89 = .ok (.getfield 21, 3) := by decide +kernel
theorem dX9_at_92 : decode cX9_at 92 = .ok (.iload_n 1, 1) := by decide +kernel
theorem dX9_at_93 : decode cX9_at 93 = .ok (.invokevirtual 140, 3) := by decide +kernel
theorem dX9_at_96 : decode cX9_at 96 = .ok (.ireturn, 1) := by decide +kernel
theorem dX9_at_97 : decode cX9_at 97 = .ok (.aload_n 0, 1) := by decide +kernel
theorem dX9_at_98 : decode cX9_at 98 = .ok (.getfield 21, 3) := by decide +kernel
theorem dX9_at_101 : decode cX9_at 101 = .ok (.iload_n 1, 1) := by decide +kernel
theorem dX9_at_102 : decode cX9_at 102 = .ok (.invokevirtual 143, 3) := by decide +kernel
theorem dX9_at_105 : decode cX9_at 105 = .ok (.ifCond .eq 7, 3) := by decide +kernel
theorem dX9_at_108 : decode cX9_at 108 = .ok (.iconst 1, 1) := by decide +kernel
theorem dX9_at_109 : decode cX9_at 109 = .ok (.goto 4, 3) := by decide +kernel
theorem dX9_at_112 : decode cX9_at 112 = .ok (.iconst 0, 1) := by decide +kernel
theorem dX9_at_113 : decode cX9_at 113 = .ok (.ireturn, 1) := by decide +kernel
theorem dX9_at_114 : decode cX9_at 114 = .ok (.aload_n 0, 1) := by decide +kernel
theorem dX9_at_115 : decode cX9_at 115 = .ok (.getfield 21, 3) := by decide +kernel
theorem dX9_at_118 : decode cX9_at 118 = .ok (.iload_n 1, 1) := by decide +kernel
theorem dX9_at_119 : decode cX9_at 119 = .ok (.iload_n 2, 1) := by decide +kernel
theorem dX9_at_120 : decode cX9_at 120 = .ok (.invokevirtual 137, 3) := by decide +kernel
theorem dX9_at_123 : decode cX9_at 123 = .ok (.ireturn, 1) := by decide +kernel
theorem dX9_at_124 : decode cX9_at 124 = .ok (.bipush (-2), 2) := by decide +kernel
theorem dX9_at_126 : decode cX9_at 126 = .ok (.ireturn, 1) := by decide +kernel
theorem dX9_point_0 : decode cX9_point 0 = .ok (.iload_n 1, 1) := by decide +kernel
theorem dX9_point_1 : decode cX9_point 1 = .ok (.invokestatic 146, 3) := by decide +kernel
theorem dX9_point_4 : decode cX9_point 4 = .ok (.ifCond .eq 10, 3) := by decide +kernel
theorem dX9_point_7 : decode cX9_point 7 = .ok (.iload_n 2, 1) := by decide +kernel
theorem dX9_point_8 : decode cX9_point 8 = .ok (.invokestatic 129, 3) := by decide +kernel
theorem dX9_point_11 : decode cX9_point 11 = .ok (.ifCond .ne 5, 3) := by decide +kernel
theorem dX9_point_14 : decode cX9_point 14 = .ok (.iconst (-1), 1) := by decide +kernel
theorem dX9_point_15 : decode cX9_point 15 = .ok (.ireturn, 1) := by decide +kernel
theorem dX9_point_16 : decode cX9_point 16 = .ok (.aload_n 0, 1) := by decide +kernel
theorem dX9_point_17 : decode cX9_point 17 = .ok (.getfield 21, 3) := by decide +kernel
theorem dX9_point_20 : decode cX9_point 20 = .ok (.invokevirtual 120, 3) := by decide +kernel
theorem dX9_point_23 : decode cX9_point 23 = .ok (.aload_n 0, 1) := by decide +kernel
theorem dX9_point_24 : decode cX9_point 24 = .ok (.getfield 21, 3) := by decide +kernel
theorem dX9_point_27 : decode cX9_point 27 = .ok (.iload_n 2, 1) := by decide +kernel
theorem dX9_point_28 : decode cX9_point 28 = .ok (.invokevirtual 134, 3) := by decide +kernel
theorem dX9_point_31 : decode cX9_point 31 = .ok (.pop, 1) := by decide +kernel
theorem dX9_point_32 : decode cX9_point 32 = .ok (.iload_n 3, 1) := by decide +kernel
theorem dX9_point_33 : decode cX9_point 33 = .ok (.tableswitch 62 0 2 #[27, 36, 45], 27) := by decide +kernel
theorem dX9_point_60 : decode cX9_point 60 = .ok (.aload_n 0, 1) := by decide +kernel
theorem dX9_point_61 : decode cX9_point 61 = .ok (.getfield 21, 3) := by decide +kernel
theorem dX9_point_64 : decode cX9_point 64 = .ok (.iload_n 1, 1) := by decide +kernel
theorem dX9_point_65 : decode cX9_point 65 = .ok (.invokevirtual 149, 3) := by decide +kernel
theorem dX9_point_68 : decode cX9_point 68 = .ok (.ireturn, 1) := by decide +kernel
theorem dX9_point_69 : decode cX9_point 69 = .ok (.aload_n 0, 1) := by decide +kernel
theorem dX9_point_70 : decode cX9_point 70 = .ok (.getfield 12, 3) := by decide +kernel
theorem dX9_point_73 : decode cX9_point 73 = .ok (.iload_n 1, 1) := by decide +kernel
theorem dX9_point_74 : decode cX9_point 74 = .ok (.invokevirtual 152, 3) := by decide +kernel
theorem dX9_point_77 : decode cX9_point 77 = .ok (.ireturn, 1) := by decide +kernel
theorem dX9_point_78 : decode cX9_point 78 = .ok (.aload_n 0, 1) := by decide +kernel
theorem dX9_point_79 : decode cX9_point 79 = .ok (.getfield 12, 3) := by decide +kernel
theorem dX9_point_82 : decode cX9_point 82 = .ok (.iload_n 1, 1) := by decide +kernel
theorem dX9_point_83 : decode cX9_point 83 = .ok (.invokevirtual 152, 3) := by decide +kernel
theorem dX9_point_86 : decode cX9_point 86 = .ok (.aload_n 0, 1) := by decide +kernel
theorem dX9_point_87 : decode cX9_point 87 = .ok (.getfield 21, 3) := by decide +kernel
theorem dX9_point_90 : decode cX9_point 90 = .ok (.invokevirtual 155, 3) := by decide +kernel
theorem dX9_point_93 : decode cX9_point 93 = .ok (.iand, 1) := by decide +kernel
theorem dX9_point_94 : decode cX9_point 94 = .ok (.ireturn, 1) := by decide +kernel
theorem dX9_point_95 : decode cX9_point 95 = .ok (.bipush (-2), 2) := by decide +kernel
theorem dX9_point_97 : decode cX9_point 97 = .ok (.ireturn, 1) := by decide +kernel
theorem dX9_count_0 : decode cX9_count 0 = .ok (.iload_n 1, 1) := by decide +kernel
theorem dX9_count_1 : decode cX9_count 1 = .ok (.tableswitch 205 0 12 #[67, 75, 83, 91, 107, 115, 130, 145, 153, 165, 177, 189, 197], 67) := by decide +kernel
theorem dX9_count_68 : decode cX9_count 68 = .ok (.aload_n 0, 1) := by decide +kernel
theorem dX9_count_69 : decode cX9_count 69 = .ok (.getfield 12, 3) := by decide +kernel
theorem dX9_count_72 : decode cX9_count 72 = .ok (.getfield 159, 3) := by decide +kernel
theorem dX9_count_75 : decode cX9_count 75 = .ok (.ireturn, 1) := by decide +kernel
theorem dX9_count_76 : decode cX9_count 76 = .ok (.aload_n 0, 1) := by decide +kernel
theorem dX9_count_77 : decode cX9_count 77 = .ok (.getfield 12, 3) := by decide +kernel
theorem dX9_count_80 : decode cX9_count 80 = .ok (.getfield 162, 3) := by decide +kernel
theorem dX9_count_83 : decode cX9_count 83 = .ok (.ireturn, 1) := by decide +kernel
theorem dX9_count_84 : decode cX9_count 84 = .ok (.aload_n 0, 1) := by decide +kernel
theorem dX9_count_85 : decode cX9_count 85 = .ok (.getfield 12, 3) := by decide +kernel
theorem dX9_count_88 : decode cX9_count 88 = .ok (.getfield 165, 3) := by decide +kernel
theorem dX9_count_91 : decode cX9_count 91 = .ok (.ireturn, 1) := by decide +kernel
theorem dX9_count_92 : decode cX9_count 92 = .ok (.aload_n 0, 1) := by decide +kernel
theorem dX9_count_93 : decode cX9_count 93 = .ok (.getfield 12, 3) := by decide +kernel
theorem dX9_count_96 : decode cX9_count 96 = .ok (.invokevirtual 168, 3) := by decide +kernel
theorem dX9_count_99 : decode cX9_count 99 = .ok (.ifCond .eq 7, 3) := by decide +kernel
theorem dX9_count_102 : decode cX9_count 102 = .ok (.iconst 1, 1) := by decide +kernel
theorem dX9_count_103 : decode cX9_count 103 = .ok (.goto 4, 3) := by decide +kernel
theorem dX9_count_106 : decode cX9_count 106 = .ok (.iconst 0, 1) := by decide +kernel
theorem dX9_count_107 : decode cX9_count 107 = .ok (.ireturn, 1) := by decide +kernel
theorem dX9_count_108 : decode cX9_count 108 = .ok (.aload_n 0, 1) := by decide +kernel
theorem dX9_count_109 : decode cX9_count 109 = .ok (.getfield 12, 3) := by decide +kernel
theorem dX9_count_112 : decode cX9_count 112 = .ok (.getfield 172, 3) := by decide +kernel
theorem dX9_count_115 : decode cX9_count 115 = .ok (.ireturn, 1) := by decide +kernel
theorem dX9_count_116 : decode cX9_count 116 = .ok (.aload_n 0, 1) := by decide +kernel
theorem dX9_count_117 : decode cX9_count 117 = .ok (.getfield 21, 3) := by decide +kernel
theorem dX9_count_120 : decode cX9_count 120 = .ok (.invokevirtual 120, 3) := by decide +kernel
theorem dX9_count_123 : decode cX9_count 123 = .ok (.aload_n 0, 1) := by decide +kernel
theorem dX9_count_124 : decode cX9_count 124 = .ok (.getfield 21, 3) := by decide +kernel
theorem dX9_count_127 : decode cX9_count 127 = .ok (.invokevirtual 175, 3) := by decide +kernel
theorem dX9_count_130 : decode cX9_count 130 = .ok (.ireturn, 1) := by decide +kernel
theorem dX9_count_131 : decode cX9_count 131 = .ok (.aload_n 0, 1) := by decide +kernel
theorem dX9_count_132 : decode cX9_count 132 = .ok (.getfield 21, 3) := by decide +kernel
theorem dX9_count_135 : decode cX9_count 135 = .ok (.invokevirtual 120, 3) := by decide +kernel
theorem dX9_count_138 : decode cX9_count 138 = .ok (.aload_n 0, 1) := by decide +kernel
theorem dX9_count_139 : decode cX9_count 139 = .ok (.getfield 21, 3) := by decide +kernel
theorem dX9_count_142 : decode cX9_count 142 = .ok (.invokevirtual 178, 3) := by decide +kernel
theorem dX9_count_145 : decode cX9_count 145 = .ok (.ireturn, 1) := by decide +kernel
theorem dX9_count_146 : decode cX9_count 146 = .ok (.aload_n 0, 1) := by decide +kernel
theorem dX9_count_147 : decode cX9_count 147 = .ok (.getfield 12, 3) := by decide +kernel
theorem dX9_count_150 : decode cX9_count 150 = .ok (.invokevirtual 181, 3) := by decide +kernel
theorem dX9_count_153 : decode cX9_count 153 = .ok (.ireturn, 1) := by decide +kernel
theorem dX9_count_154 : decode cX9_count 154 = .ok (.aload_n 0, 1) := by decide +kernel
theorem dX9_count_155 : decode cX9_count 155 = .ok (.getfield 12, 3) := by decide +kernel
theorem dX9_count_158 : decode cX9_count 158 = .ok (.getfield 184, 3) := by decide +kernel
theorem dX9_count_161 : decode cX9_count 161 = .ok (.iconst 0, 1) := by decide +kernel
theorem dX9_count_162 : decode cX9_count 162 = .ok (.invokevirtual 106, 3) := by decide +kernel
theorem dX9_count_165 : decode cX9_count 165 = .ok (.ireturn, 1) := by decide +kernel
theorem dX9_count_166 : decode cX9_count 166 = .ok (.aload_n 0, 1) := by decide +kernel
theorem dX9_count_167 : decode cX9_count 167 = .ok (.getfield 12, 3) := by decide +kernel
theorem dX9_count_170 : decode cX9_count 170 = .ok (.getfield 184, 3) := by decide +kernel
theorem dX9_count_173 : decode cX9_count 173 = .ok (.iconst 1, 1) := by decide +kernel
theorem dX9_count_174 : decode cX9_count 174 = .ok (.invokevirtual 106, 3) := by decide +kernel
theorem dX9_count_177 : decode cX9_count 177 = .ok (.ireturn, 1) := by decide +kernel
theorem dX9_count_178 : decode cX9_count 178 = .ok (.aload_n 0, 1) := by decide +kernel
theorem dX9_count_179 : decode cX9_count 179 = .ok (.getfield 12, 3) := by decide +kernel
theorem dX9_count_182 : decode cX9_count 182 = .ok (.getfield 184, 3) := by decide +kernel
theorem dX9_count_185 : decode cX9_count 185 = .ok (.iconst 2, 1) := by decide +kernel
theorem dX9_count_186 : decode cX9_count 186 = .ok (.invokevirtual 106, 3) := by decide +kernel
theorem dX9_count_189 : decode cX9_count 189 = .ok (.ireturn, 1) := by decide +kernel
theorem dX9_count_190 : decode cX9_count 190 = .ok (.aload_n 0, 1) := by decide +kernel
theorem dX9_count_191 : decode cX9_count 191 = .ok (.getfield 35, 3) := by decide +kernel
theorem dX9_count_194 : decode cX9_count 194 = .ok (.invokevirtual 187, 3) := by decide +kernel
theorem dX9_count_197 : decode cX9_count 197 = .ok (.ireturn, 1) := by decide +kernel
theorem dX9_count_198 : decode cX9_count 198 = .ok (.aload_n 0, 1) := by decide +kernel
theorem dX9_count_199 : decode cX9_count 199 = .ok (.getfield 51, 3) := by decide +kernel
theorem dX9_count_202 : decode cX9_count 202 = .ok (.invokevirtual 190, 3) := by decide +kernel
theorem dX9_count_205 : decode cX9_count 205 = .ok (.ireturn, 1) := by decide +kernel
theorem dX9_count_206 : decode cX9_count 206 = .ok (.bipush (-2), 2) := by decide +kernel
theorem dX9_count_208 : decode cX9_count 208 = .ok (.ireturn, 1) := by decide +kernel
theorem dX9_in_0 : decode cX9_in 0 = .ok (.iload_n 1, 1) := by decide +kernel
theorem dX9_in_1 : decode cX9_in 1 = .ok (.iload_n 2, 1) := by decide +kernel
theorem dX9_in_2 : decode cX9_in 2 = .ok (.invokestatic 193, 3) := by decide +kernel
theorem dX9_in_5 : decode cX9_in 5 = .ok (.ifCond .eq 15, 3) := by decide +kernel
theorem dX9_in_8 : decode cX9_in 8 = .ok (.aload_n 0, 1) := by decide +kernel
theorem dX9_in_9 : decode cX9_in 9 = .ok (.getfield 12, 3) := by decide +kernel
theorem dX9_in_12 : decode cX9_in 12 = .ok (.iload_n 1, 1) := by decide +kernel
theorem dX9_in_13 : decode cX9_in 13 = .ok (.iload_n 2, 1) := by decide +kernel
theorem dX9_in_14 : decode cX9_in 14 = .ok (.invokevirtual 197, 3) := by decide +kernel
theorem dX9_in_17 : decode cX9_in 17 = .ok (.goto 4, 3) := by decide +kernel
theorem dX9_in_20 : decode cX9_in 20 = .ok (.iconst (-1), 1) := by decide +kernel
theorem dX9_in_21 : decode cX9_in 21 = .ok (.ireturn, 1) := by decide +kernel
theorem dX9_worthLeast_0 : decode cX9_worthLeast 0 = .ok (.iload_n 1, 1) := by decide +kernel
theorem dX9_worthLeast_1 : decode cX9_worthLeast 1 = .ok (.invokestatic 200, 3) := by decide +kernel
theorem dX9_worthLeast_4 : decode cX9_worthLeast 4 = .ok (.ifCond .eq 14, 3) := by decide +kernel
theorem dX9_worthLeast_7 : decode cX9_worthLeast 7 = .ok (.aload_n 0, 1) := by decide +kernel
theorem dX9_worthLeast_8 : decode cX9_worthLeast 8 = .ok (.getfield 28, 3) := by decide +kernel
theorem dX9_worthLeast_11 : decode cX9_worthLeast 11 = .ok (.iload_n 1, 1) := by decide +kernel
theorem dX9_worthLeast_12 : decode cX9_worthLeast 12 = .ok (.invokevirtual 203, 3) := by decide +kernel
theorem dX9_worthLeast_15 : decode cX9_worthLeast 15 = .ok (.goto 5, 3) := by decide +kernel
theorem dX9_worthLeast_18 : decode cX9_worthLeast 18 = .ok (.bipush (-2), 2) := by decide +kernel
theorem dX9_worthLeast_20 : decode cX9_worthLeast 20 = .ok (.ireturn, 1) := by decide +kernel
theorem dX9_bestColumn_0 : decode cX9_bestColumn 0 = .ok (.iload_n 1, 1) := by decide +kernel
theorem dX9_bestColumn_1 : decode cX9_bestColumn 1 = .ok (.iconst 0, 1) := by decide +kernel
theorem dX9_bestColumn_2 : decode cX9_bestColumn 2 = .ok (.invokestatic 193, 3) := by decide +kernel
theorem dX9_bestColumn_5 : decode cX9_bestColumn 5 = .ok (.ifCond .eq 17, 3) := by decide +kernel
theorem dX9_bestColumn_8 : decode cX9_bestColumn 8 = .ok (.iload_n 2, 1) := by decide +kernel
theorem dX9_bestColumn_9 : decode cX9_bestColumn 9 = .ok (.invokestatic 146, 3) := by decide +kernel
theorem dX9_bestColumn_12 : decode cX9_bestColumn 12 = .ok (.ifCond .eq 10, 3) := by decide +kernel
theorem dX9_bestColumn_15 : decode cX9_bestColumn 15 = .ok (.iload_n 3, 1) := by decide +kernel
theorem dX9_bestColumn_16 : decode cX9_bestColumn 16 = .ok (.invokestatic 200, 3) := by decide +kernel
theorem dX9_bestColumn_19 : decode cX9_bestColumn 19 = .ok (.ifCond .ne 6, 3) := by decide +kernel
theorem dX9_bestColumn_22 : decode cX9_bestColumn 22 = .ok (.bipush (-2), 2) := by decide +kernel
theorem dX9_bestColumn_24 : decode cX9_bestColumn 24 = .ok (.ireturn, 1) := by decide +kernel
theorem dX9_bestColumn_25 : decode cX9_bestColumn 25 = .ok (.aload_n 0, 1) := by decide +kernel
theorem dX9_bestColumn_26 : decode cX9_bestColumn 26 = .ok (.getfield 28, 3) := by decide +kernel
theorem dX9_bestColumn_29 : decode cX9_bestColumn 29 = .ok (.iload_n 1, 1) := by decide +kernel
theorem dX9_bestColumn_30 : decode cX9_bestColumn 30 = .ok (.iload_n 2, 1) := by decide +kernel
theorem dX9_bestColumn_31 : decode cX9_bestColumn 31 = .ok (.iload_n 3, 1) := by decide +kernel
theorem dX9_bestColumn_32 : decode cX9_bestColumn 32 = .ok (.invokevirtual 206, 3) := by decide +kernel
theorem dX9_bestColumn_35 : decode cX9_bestColumn 35 = .ok (.ireturn, 1) := by decide +kernel
theorem dX9_toWash_0 : decode cX9_toWash 0 = .ok (.aload_n 0, 1) := by decide +kernel
theorem dX9_toWash_1 : decode cX9_toWash 1 = .ok (.getfield 28, 3) := by decide +kernel
theorem dX9_toWash_4 : decode cX9_toWash 4 = .ok (.invokevirtual 209, 3) := by decide +kernel
theorem dX9_toWash_7 : decode cX9_toWash 7 = .ok (.ireturn, 1) := by decide +kernel
theorem dX9_leastLimit_0 : decode cX9_leastLimit 0 = .ok (.aload_n 0, 1) := by decide +kernel
theorem dX9_leastLimit_1 : decode cX9_leastLimit 1 = .ok (.getfield 28, 3) := by decide +kernel
theorem dX9_leastLimit_4 : decode cX9_leastLimit 4 = .ok (.invokevirtual 212, 3) := by decide +kernel
theorem dX9_leastLimit_7 : decode cX9_leastLimit 7 = .ok (.ireturn, 1) := by decide +kernel
theorem dX9_put_0 : decode cX9_put 0 = .ok (.aload_n 0, 1) := by decide +kernel
theorem dX9_put_1 : decode cX9_put 1 = .ok (.getfield 35, 3) := by decide +kernel
theorem dX9_put_4 : decode cX9_put 4 = .ok (.lload_n 1, 1) := by decide +kernel
theorem dX9_put_5 : decode cX9_put 5 = .ok (.invokevirtual 215, 3) := by decide +kernel
theorem dX9_put_8 : decode cX9_put 8 = .ok (.ireturn, 1) := by decide +kernel
theorem dX9_wipe_0 : decode cX9_wipe 0 = .ok (.aload_n 0, 1) := by decide +kernel
theorem dX9_wipe_1 : decode cX9_wipe 1 = .ok (.getfield 35, 3) := by decide +kernel
theorem dX9_wipe_4 : decode cX9_wipe 4 = .ok (.invokevirtual 219, 3) := by decide +kernel
theorem dX9_wipe_7 : decode cX9_wipe 7 = .ok (.ireturn, 1) := by decide +kernel
theorem dX9_fault_0 : decode cX9_fault 0 = .ok (.aload_n 0, 1) := by decide +kernel
theorem dX9_fault_1 : decode cX9_fault 1 = .ok (.getfield 44, 3) := by decide +kernel
theorem dX9_fault_4 : decode cX9_fault 4 = .ok (.invokevirtual 222, 3) := by decide +kernel
theorem dX9_fault_7 : decode cX9_fault 7 = .ok (.ireturn, 1) := by decide +kernel
theorem dX9_carryOut_0 : decode cX9_carryOut 0 = .ok (.aload_n 0, 1) := by decide +kernel
theorem dX9_carryOut_1 : decode cX9_carryOut 1 = .ok (.getfield 44, 3) := by decide +kernel
theorem dX9_carryOut_4 : decode cX9_carryOut 4 = .ok (.invokevirtual 222, 3) := by decide +kernel
theorem dX9_carryOut_7 : decode cX9_carryOut 7 = .ok (.bipush (-6), 2) := by decide +kernel
theorem dX9_carryOut_9 : decode cX9_carryOut 9 = .ok (.if_icmp .eq 6, 3) := by decide +kernel
theorem dX9_carryOut_12 : decode cX9_carryOut 12 = .ok (.bipush (-3), 2) := by decide +kernel
theorem dX9_carryOut_14 : decode cX9_carryOut 14 = .ok (.ireturn, 1) := by decide +kernel
theorem dX9_carryOut_15 : decode cX9_carryOut 15 = .ok (.aload_n 0, 1) := by decide +kernel
theorem dX9_carryOut_16 : decode cX9_carryOut 16 = .ok (.getfield 51, 3) := by decide +kernel
theorem dX9_carryOut_19 : decode cX9_carryOut 19 = .ok (.aload_n 0, 1) := by decide +kernel
theorem dX9_carryOut_20 : decode cX9_carryOut 20 = .ok (.getfield 12, 3) := by decide +kernel
theorem dX9_carryOut_23 : decode cX9_carryOut 23 = .ok (.invokevirtual 68, 3) := by decide +kernel
theorem dX9_carryOut_26 : decode cX9_carryOut 26 = .ok (.aload_n 0, 1) := by decide +kernel
theorem dX9_carryOut_27 : decode cX9_carryOut 27 = .ok (.getfield 44, 3) := by decide +kernel
theorem dX9_carryOut_30 : decode cX9_carryOut 30 = .ok (.invokevirtual 224, 3) := by decide +kernel
theorem dX9_carryOut_33 : decode cX9_carryOut 33 = .ok (.istore_n 1, 1) := by decide +kernel
theorem dX9_carryOut_34 : decode cX9_carryOut 34 = .ok (.iconst 0, 1) := by decide +kernel
theorem dX9_carryOut_35 : decode cX9_carryOut 35 = .ok (.istore_n 2, 1) := by decide +kernel
theorem dX9_carryOut_36 : decode cX9_carryOut 36 = .ok (.iload_n 2, 1) := by decide +kernel
theorem dX9_carryOut_37 : decode cX9_carryOut 37 = .ok (.iload_n 1, 1) := by decide +kernel
theorem dX9_carryOut_38 : decode cX9_carryOut 38 = .ok (.if_icmp .ge 17, 3) := by decide +kernel
theorem dX9_carryOut_41 : decode cX9_carryOut 41 = .ok (.aload_n 0, 1) := by decide +kernel
theorem dX9_carryOut_42 : decode cX9_carryOut 42 = .ok (.iload_n 2, 1) := by decide +kernel
theorem dX9_carryOut_43 : decode cX9_carryOut 43 = .ok (.invokevirtual 227, 3) := by decide +kernel
theorem dX9_carryOut_46 : decode cX9_carryOut 46 = .ok (.ifCond .lt 9, 3) := by decide +kernel
theorem dX9_carryOut_49 : decode cX9_carryOut 49 = .ok (.iinc 2 1, 3) := by decide +kernel
theorem dX9_carryOut_52 : decode cX9_carryOut 52 = .ok (.goto (-16), 3) := by decide +kernel
theorem dX9_carryOut_55 : decode cX9_carryOut 55 = .ok (.aload_n 0, 1) := by decide +kernel
theorem dX9_carryOut_56 : decode cX9_carryOut 56 = .ok (.getfield 35, 3) := by decide +kernel
theorem dX9_carryOut_59 : decode cX9_carryOut 59 = .ok (.invokevirtual 219, 3) := by decide +kernel
theorem dX9_carryOut_62 : decode cX9_carryOut 62 = .ok (.pop, 1) := by decide +kernel
theorem dX9_carryOut_63 : decode cX9_carryOut 63 = .ok (.aload_n 0, 1) := by decide +kernel
theorem dX9_carryOut_64 : decode cX9_carryOut 64 = .ok (.iload_n 2, 1) := by decide +kernel
theorem dX9_carryOut_65 : decode cX9_carryOut 65 = .ok (.invokevirtual 75, 3) := by decide +kernel
theorem dX9_carryOut_68 : decode cX9_carryOut 68 = .ok (.ireturn, 1) := by decide +kernel
theorem dX9_undo_0 : decode cX9_undo 0 = .ok (.aload_n 0, 1) := by decide +kernel
theorem dX9_undo_1 : decode cX9_undo 1 = .ok (.getfield 51, 3) := by decide +kernel
theorem dX9_undo_4 : decode cX9_undo 4 = .ok (.aload_n 0, 1) := by decide +kernel
theorem dX9_undo_5 : decode cX9_undo 5 = .ok (.getfield 12, 3) := by decide +kernel
theorem dX9_undo_8 : decode cX9_undo 8 = .ok (.invokevirtual 230, 3) := by decide +kernel
theorem dX9_undo_11 : decode cX9_undo 11 = .ok (.ifCond .eq 13, 3) := by decide +kernel
theorem dX9_undo_14 : decode cX9_undo 14 = .ok (.aload_n 0, 1) := by decide +kernel
theorem dX9_undo_15 : decode cX9_undo 15 = .ok (.getfield 51, 3) := by decide +kernel
theorem dX9_undo_18 : decode cX9_undo 18 = .ok (.invokevirtual 190, 3) := by decide +kernel
theorem dX9_undo_21 : decode cX9_undo 21 = .ok (.goto 5, 3) := by decide +kernel
theorem dX9_undo_24 : decode cX9_undo 24 = .ok (.bipush (-5), 2) := by decide +kernel
theorem dX9_undo_26 : decode cX9_undo 26 = .ok (.ireturn, 1) := by decide +kernel
theorem dX9_save_0 : decode cX9_save 0 = .ok (.iload_n 1, 1) := by decide +kernel
theorem dX9_save_1 : decode cX9_save 1 = .ok (.invokestatic 234, 3) := by decide +kernel
theorem dX9_save_4 : decode cX9_save 4 = .ok (.ifCond .ne 6, 3) := by decide +kernel
theorem dX9_save_7 : decode cX9_save 7 = .ok (.bipush (-2), 2) := by decide +kernel
theorem dX9_save_9 : decode cX9_save 9 = .ok (.ireturn, 1) := by decide +kernel
theorem dX9_save_10 : decode cX9_save 10 = .ok (.aload_n 0, 1) := by decide +kernel
theorem dX9_save_11 : decode cX9_save 11 = .ok (.getfield 60, 3) := by decide +kernel
theorem dX9_save_14 : decode cX9_save 14 = .ok (.iload_n 1, 1) := by decide +kernel
theorem dX9_save_15 : decode cX9_save 15 = .ok (.aload_n 0, 1) := by decide +kernel
theorem dX9_save_16 : decode cX9_save 16 = .ok (.getfield 12, 3) := by decide +kernel
theorem dX9_save_19 : decode cX9_save 19 = .ok (.invokevirtual 237, 3) := by decide +kernel
theorem dX9_save_22 : decode cX9_save 22 = .ok (.aload_n 0, 1) := by decide +kernel
theorem dX9_save_23 : decode cX9_save 23 = .ok (.dup, 1) := by decide +kernel
theorem dX9_save_24 : decode cX9_save 24 = .ok (.getfield 64, 3) := by decide +kernel
theorem dX9_save_27 : decode cX9_save 27 = .ok (.iconst 1, 1) := by decide +kernel
theorem dX9_save_28 : decode cX9_save 28 = .ok (.iload_n 1, 1) := by decide +kernel
theorem dX9_save_29 : decode cX9_save 29 = .ok (.ishl, 1) := by decide +kernel
theorem dX9_save_30 : decode cX9_save 30 = .ok (.ior, 1) := by decide +kernel
theorem dX9_save_31 : decode cX9_save 31 = .ok (.putfield 64, 3) := by decide +kernel
theorem dX9_save_34 : decode cX9_save 34 = .ok (.aload_n 0, 1) := by decide +kernel
theorem dX9_save_35 : decode cX9_save 35 = .ok (.getfield 12, 3) := by decide +kernel
theorem dX9_save_38 : decode cX9_save 38 = .ok (.getfield 162, 3) := by decide +kernel
theorem dX9_save_41 : decode cX9_save 41 = .ok (.ireturn, 1) := by decide +kernel
theorem dX9_restore_0 : decode cX9_restore 0 = .ok (.iload_n 1, 1) := by decide +kernel
theorem dX9_restore_1 : decode cX9_restore 1 = .ok (.invokestatic 234, 3) := by decide +kernel
theorem dX9_restore_4 : decode cX9_restore 4 = .ok (.ifCond .ne 6, 3) := by decide +kernel
theorem dX9_restore_7 : decode cX9_restore 7 = .ok (.bipush (-2), 2) := by decide +kernel
theorem dX9_restore_9 : decode cX9_restore 9 = .ok (.ireturn, 1) := by decide +kernel
theorem dX9_restore_10 : decode cX9_restore 10 = .ok (.aload_n 0, 1) := by decide +kernel
theorem dX9_restore_11 : decode cX9_restore 11 = .ok (.getfield 64, 3) := by decide +kernel
theorem dX9_restore_14 : decode cX9_restore 14 = .ok (.iload_n 1, 1) := by decide +kernel
theorem dX9_restore_15 : decode cX9_restore 15 = .ok (.ishr, 1) := by decide +kernel
theorem dX9_restore_16 : decode cX9_restore 16 = .ok (.iconst 1, 1) := by decide +kernel
theorem dX9_restore_17 : decode cX9_restore 17 = .ok (.iand, 1) := by decide +kernel
theorem dX9_restore_18 : decode cX9_restore 18 = .ok (.ifCond .ne 6, 3) := by decide +kernel
theorem dX9_restore_21 : decode cX9_restore 21 = .ok (.bipush (-5), 2) := by decide +kernel
theorem dX9_restore_23 : decode cX9_restore 23 = .ok (.ireturn, 1) := by decide +kernel
theorem dX9_restore_24 : decode cX9_restore 24 = .ok (.aload_n 0, 1) := by decide +kernel
theorem dX9_restore_25 : decode cX9_restore 25 = .ok (.getfield 51, 3) := by decide +kernel
theorem dX9_restore_28 : decode cX9_restore 28 = .ok (.aload_n 0, 1) := by decide +kernel
theorem dX9_restore_29 : decode cX9_restore 29 = .ok (.getfield 12, 3) := by decide +kernel
theorem dX9_restore_32 : decode cX9_restore 32 = .ok (.invokevirtual 68, 3) := by decide +kernel
theorem dX9_restore_35 : decode cX9_restore 35 = .ok (.aload_n 0, 1) := by decide +kernel
theorem dX9_restore_36 : decode cX9_restore 36 = .ok (.getfield 60, 3) := by decide +kernel
theorem dX9_restore_39 : decode cX9_restore 39 = .ok (.iload_n 1, 1) := by decide +kernel
theorem dX9_restore_40 : decode cX9_restore 40 = .ok (.aload_n 0, 1) := by decide +kernel
theorem dX9_restore_41 : decode cX9_restore 41 = .ok (.getfield 12, 3) := by decide +kernel
theorem dX9_restore_44 : decode cX9_restore 44 = .ok (.invokevirtual 241, 3) := by decide +kernel
theorem dX9_restore_47 : decode cX9_restore 47 = .ok (.aload_n 0, 1) := by decide +kernel
theorem dX9_restore_48 : decode cX9_restore 48 = .ok (.aload_n 0, 1) := by decide +kernel
theorem dX9_restore_49 : decode cX9_restore 49 = .ok (.getfield 12, 3) := by decide +kernel
theorem dX9_restore_52 : decode cX9_restore 52 = .ok (.getfield 162, 3) := by decide +kernel
theorem dX9_restore_55 : decode cX9_restore 55 = .ok (.invokevirtual 75, 3) := by decide +kernel
theorem dX9_restore_58 : decode cX9_restore 58 = .ok (.ireturn, 1) := by decide +kernel
theorem dX9_recorded_0 : decode cX9_recorded 0 = .ok (.iload_n 1, 1) := by decide +kernel
theorem dX9_recorded_1 : decode cX9_recorded 1 = .ok (.ifCond .lt 10, 3) := by decide +kernel
theorem dX9_recorded_4 : decode cX9_recorded 4 = .ok (.aload_n 0, 1) := by decide +kernel
theorem dX9_recorded_5 : decode cX9_recorded 5 = .ok (.getfield 51, 3) := by decide +kernel
theorem dX9_recorded_8 : decode cX9_recorded 8 = .ok (.invokevirtual 244, 3) := by decide +kernel
theorem dX9_recorded_11 : decode cX9_recorded 11 = .ok (.iload_n 1, 1) := by decide +kernel
theorem dX9_recorded_12 : decode cX9_recorded 12 = .ok (.ireturn, 1) := by decide +kernel
theorem dX9_carry_0 : decode cX9_carry 0 = .ok (.aload_n 0, 1) := by decide +kernel
theorem dX9_carry_1 : decode cX9_carry 1 = .ok (.getfield 44, 3) := by decide +kernel
theorem dX9_carry_4 : decode cX9_carry 4 = .ok (.iload_n 1, 1) := by decide +kernel
theorem dX9_carry_5 : decode cX9_carry 5 = .ok (.invokevirtual 247, 3) := by decide +kernel
theorem dX9_carry_8 : decode cX9_carry 8 = .ok (.istore_n 2, 1) := by decide +kernel
theorem dX9_carry_9 : decode cX9_carry 9 = .ok (.aload_n 0, 1) := by decide +kernel
theorem dX9_carry_10 : decode cX9_carry 10 = .ok (.getfield 44, 3) := by decide +kernel
theorem dX9_carry_13 : decode cX9_carry 13 = .ok (.iload_n 1, 1) := by decide +kernel
theorem dX9_carry_14 : decode cX9_carry 14 = .ok (.invokevirtual 250, 3) := by decide +kernel
theorem dX9_carry_17 : decode cX9_carry 17 = .ok (.istore_n 3, 1) := by decide +kernel
theorem dX9_carry_18 : decode cX9_carry 18 = .ok (.aload_n 0, 1) := by decide +kernel
theorem dX9_carry_19 : decode cX9_carry 19 = .ok (.getfield 44, 3) := by decide +kernel
theorem dX9_carry_22 : decode cX9_carry 22 = .ok (.iload_n 1, 1) := by decide +kernel
theorem dX9_carry_23 : decode cX9_carry 23 = .ok (.invokevirtual 253, 3) := by decide +kernel
theorem dX9_carry_26 : decode cX9_carry 26 = .ok (.lookupswitch 122 #[(43, 58), (97, 85), (116, 113), (118, 104), (119, 95), (120, 76)], 58) := by decide +kernel
theorem dX9_carry_84 : decode cX9_carry 84 = .ok (.aload_n 0, 1) := by decide +kernel
theorem dX9_carry_85 : decode cX9_carry 85 = .ok (.getfield 12, 3) := by decide +kernel
theorem dX9_carry_88 : decode cX9_carry 88 = .ok (.iload_n 2, 1) := by decide +kernel
theorem dX9_carry_89 : decode cX9_carry 89 = .ok (.iload_n 3, 1) := by decide +kernel
theorem dX9_carry_90 : decode cX9_carry 90 = .ok (.aload_n 0, 1) := by decide +kernel
theorem dX9_carry_91 : decode cX9_carry 91 = .ok (.getfield 44, 3) := by decide +kernel
theorem dX9_carry_94 : decode cX9_carry 94 = .ok (.iload_n 1, 1) := by decide +kernel
theorem dX9_carry_95 : decode cX9_carry 95 = .ok (.invokevirtual 256, 3) := by decide +kernel
theorem dX9_carry_98 : decode cX9_carry 98 = .ok (.invokevirtual 79, 3) := by decide +kernel
theorem dX9_carry_101 : decode cX9_carry 101 = .ok (.ireturn, 1) := by decide +kernel
theorem dX9_carry_102 : decode cX9_carry 102 = .ok (.aload_n 0, 1) := by decide +kernel
theorem dX9_carry_103 : decode cX9_carry 103 = .ok (.getfield 12, 3) := by decide +kernel
theorem dX9_carry_106 : decode cX9_carry 106 = .ok (.iload_n 2, 1) := by decide +kernel
theorem dX9_carry_107 : decode cX9_carry 107 = .ok (.invokevirtual 83, 3) := by decide +kernel
theorem dX9_carry_110 : decode cX9_carry 110 = .ok (.ireturn, 1) := by decide +kernel
theorem dX9_carry_111 : decode cX9_carry 111 = .ok (.aload_n 0, 1) := by decide +kernel
theorem dX9_carry_112 : decode cX9_carry 112 = .ok (.getfield 12, 3) := by decide +kernel
theorem dX9_carry_115 : decode cX9_carry 115 = .ok (.iload_n 2, 1) := by decide +kernel
theorem dX9_carry_116 : decode cX9_carry 116 = .ok (.iload_n 3, 1) := by decide +kernel
theorem dX9_carry_117 : decode cX9_carry 117 = .ok (.invokevirtual 86, 3) := by decide +kernel
theorem dX9_carry_120 : decode cX9_carry 120 = .ok (.ireturn, 1) := by decide +kernel
theorem dX9_carry_121 : decode cX9_carry 121 = .ok (.aload_n 0, 1) := by decide +kernel
theorem dX9_carry_122 : decode cX9_carry 122 = .ok (.getfield 12, 3) := by decide +kernel
theorem dX9_carry_125 : decode cX9_carry 125 = .ok (.iload_n 2, 1) := by decide +kernel
theorem dX9_carry_126 : decode cX9_carry 126 = .ok (.invokevirtual 89, 3) := by decide +kernel
theorem dX9_carry_129 : decode cX9_carry 129 = .ok (.ireturn, 1) := by decide +kernel
theorem dX9_carry_130 : decode cX9_carry 130 = .ok (.aload_n 0, 1) := by decide +kernel
theorem dX9_carry_131 : decode cX9_carry 131 = .ok (.getfield 12, 3) := by decide +kernel
theorem dX9_carry_134 : decode cX9_carry 134 = .ok (.iload_n 2, 1) := by decide +kernel
theorem dX9_carry_135 : decode cX9_carry 135 = .ok (.invokevirtual 92, 3) := by decide +kernel
theorem dX9_carry_138 : decode cX9_carry 138 = .ok (.ireturn, 1) := by decide +kernel
theorem dX9_carry_139 : decode cX9_carry 139 = .ok (.aload_n 0, 1) := by decide +kernel
theorem dX9_carry_140 : decode cX9_carry 140 = .ok (.getfield 21, 3) := by decide +kernel
theorem dX9_carry_143 : decode cX9_carry 143 = .ok (.iload_n 2, 1) := by decide +kernel
theorem dX9_carry_144 : decode cX9_carry 144 = .ok (.invokevirtual 95, 3) := by decide +kernel
theorem dX9_carry_147 : decode cX9_carry 147 = .ok (.ireturn, 1) := by decide +kernel
theorem dX9_carry_148 : decode cX9_carry 148 = .ok (.bipush (-3), 2) := by decide +kernel
theorem dX9_carry_150 : decode cX9_carry 150 = .ok (.ireturn, 1) := by decide +kernel
theorem dX9_isPlace_0 : decode cX9_isPlace 0 = .ok (.iload_n 0, 1) := by decide +kernel
theorem dX9_isPlace_1 : decode cX9_isPlace 1 = .ok (.ifCond .lt 23, 3) := by decide +kernel
theorem dX9_isPlace_4 : decode cX9_isPlace 4 = .ok (.iload_n 0, 1) := by decide +kernel
theorem dX9_isPlace_5 : decode cX9_isPlace 5 = .ok (.bipush 20, 2) := by decide +kernel
theorem dX9_isPlace_7 : decode cX9_isPlace 7 = .ok (.if_icmp .ge 17, 3) := by decide +kernel
theorem dX9_isPlace_10 : decode cX9_isPlace 10 = .ok (.iload_n 1, 1) := by decide +kernel
theorem dX9_isPlace_11 : decode cX9_isPlace 11 = .ok (.ifCond .lt 13, 3) := by decide +kernel
theorem dX9_isPlace_14 : decode cX9_isPlace 14 = .ok (.iload_n 1, 1) := by decide +kernel
theorem dX9_isPlace_15 : decode cX9_isPlace 15 = .ok (.bipush 20, 2) := by decide +kernel
theorem dX9_isPlace_17 : decode cX9_isPlace 17 = .ok (.if_icmp .ge 7, 3) := by decide +kernel
theorem dX9_isPlace_20 : decode cX9_isPlace 20 = .ok (.iconst 1, 1) := by decide +kernel
theorem dX9_isPlace_21 : decode cX9_isPlace 21 = .ok (.goto 4, 3) := by decide +kernel
theorem dX9_isPlace_24 : decode cX9_isPlace 24 = .ok (.iconst 0, 1) := by decide +kernel
theorem dX9_isPlace_25 : decode cX9_isPlace 25 = .ok (.ireturn, 1) := by decide +kernel
theorem dX9_isAimPoint_0 : decode cX9_isAimPoint 0 = .ok (.iload_n 0, 1) := by decide +kernel
theorem dX9_isAimPoint_1 : decode cX9_isAimPoint 1 = .ok (.ifCond .lt 12, 3) := by decide +kernel
theorem dX9_isAimPoint_4 : decode cX9_isAimPoint 4 = .ok (.iload_n 0, 1) := by decide +kernel
theorem dX9_isAimPoint_5 : decode cX9_isAimPoint 5 = .ok (.iconst 4, 1) := by decide +kernel
theorem dX9_isAimPoint_6 : decode cX9_isAimPoint 6 = .ok (.if_icmp .ge 7, 3) := by decide +kernel
theorem dX9_isAimPoint_9 : decode cX9_isAimPoint 9 = .ok (.iconst 1, 1) := by decide +kernel
theorem dX9_isAimPoint_10 : decode cX9_isAimPoint 10 = .ok (.goto 4, 3) := by decide +kernel
theorem dX9_isAimPoint_13 : decode cX9_isAimPoint 13 = .ok (.iconst 0, 1) := by decide +kernel
theorem dX9_isAimPoint_14 : decode cX9_isAimPoint 14 = .ok (.ireturn, 1) := by decide +kernel
theorem dX9_isChoice_0 : decode cX9_isChoice 0 = .ok (.iload_n 0, 1) := by decide +kernel
theorem dX9_isChoice_1 : decode cX9_isChoice 1 = .ok (.ifCond .eq 8, 3) := by decide +kernel
theorem dX9_isChoice_4 : decode cX9_isChoice 4 = .ok (.iload_n 0, 1) := by decide +kernel
theorem dX9_isChoice_5 : decode cX9_isChoice 5 = .ok (.iconst 1, 1) := by decide +kernel
theorem dX9_isChoice_6 : decode cX9_isChoice 6 = .ok (.if_icmp .ne 7, 3) := by decide +kernel
theorem dX9_isChoice_9 : decode cX9_isChoice 9 = .ok (.iconst 1, 1) := by decide +kernel
theorem dX9_isChoice_10 : decode cX9_isChoice 10 = .ok (.goto 4, 3) := by decide +kernel
theorem dX9_isChoice_13 : decode cX9_isChoice 13 = .ok (.iconst 0, 1) := by decide +kernel
theorem dX9_isChoice_14 : decode cX9_isChoice 14 = .ok (.ireturn, 1) := by decide +kernel
theorem dX9_isSlot_0 : decode cX9_isSlot 0 = .ok (.iload_n 0, 1) := by decide +kernel
theorem dX9_isSlot_1 : decode cX9_isSlot 1 = .ok (.ifCond .lt 12, 3) := by decide +kernel
theorem dX9_isSlot_4 : decode cX9_isSlot 4 = .ok (.iload_n 0, 1) := by decide +kernel
theorem dX9_isSlot_5 : decode cX9_isSlot 5 = .ok (.iconst 2, 1) := by decide +kernel
theorem dX9_isSlot_6 : decode cX9_isSlot 6 = .ok (.if_icmp .ge 7, 3) := by decide +kernel
theorem dX9_isSlot_9 : decode cX9_isSlot 9 = .ok (.iconst 1, 1) := by decide +kernel
theorem dX9_isSlot_10 : decode cX9_isSlot 10 = .ok (.goto 4, 3) := by decide +kernel
theorem dX9_isSlot_13 : decode cX9_isSlot 13 = .ok (.iconst 0, 1) := by decide +kernel
theorem dX9_isSlot_14 : decode cX9_isSlot 14 = .ok (.ireturn, 1) := by decide +kernel
theorem dX10_init_0 : decode cX10_init 0 = .ok (.aload_n 0, 1) := by decide +kernel
theorem dX10_init_1 : decode cX10_init 1 = .ok (.invokespecial 1, 3) := by decide +kernel
theorem dX10_init_4 : decode cX10_init 4 = .ok (.aload_n 0, 1) := by decide +kernel
theorem dX10_init_5 : decode cX10_init 5 = .ok (.sipush 132, 3) := by decide +kernel
theorem dX10_init_8 : decode cX10_init 8 = .ok (.newarray .int, 2) := by decide +kernel
theorem dX10_init_10 : decode cX10_init 10 = .ok (.putfield 7, 3) := by decide +kernel
theorem dX10_init_13 : decode cX10_init 13 = .ok (.aload_n 0, 1) := by decide +kernel
theorem dX10_init_14 : decode cX10_init 14 = .ok (.sipush 132, 3) := by decide +kernel
theorem dX10_init_17 : decode cX10_init 17 = .ok (.newarray .int, 2) := by decide +kernel
theorem dX10_init_19 : decode cX10_init 19 = .ok (.putfield 13, 3) := by decide +kernel
theorem dX10_init_22 : decode cX10_init 22 = .ok (.aload_n 0, 1) := by decide +kernel
theorem dX10_init_23 : decode cX10_init 23 = .ok (.sipush 132, 3) := by decide +kernel
theorem dX10_init_26 : decode cX10_init 26 = .ok (.newarray .int, 2) := by decide +kernel
theorem dX10_init_28 : decode cX10_init 28 = .ok (.putfield 16, 3) := by decide +kernel
theorem dX10_init_31 : decode cX10_init 31 = .ok (.aload_n 0, 1) := by decide +kernel
theorem dX10_init_32 : decode cX10_init 32 = .ok (.sipush 792, 3) := by decide +kernel
theorem dX10_init_35 : decode cX10_init 35 = .ok (.newarray .int, 2) := by decide +kernel
theorem dX10_init_37 : decode cX10_init 37 = .ok (.putfield 19, 3) := by decide +kernel
theorem dX10_init_40 : decode cX10_init 40 = .ok (.aload_n 0, 1) := by decide +kernel
theorem dX10_init_41 : decode cX10_init 41 = .ok (.sipush 264, 3) := by decide +kernel
theorem dX10_init_44 : decode cX10_init 44 = .ok (.newarray .int, 2) := by decide +kernel
theorem dX10_init_46 : decode cX10_init 46 = .ok (.putfield 22, 3) := by decide +kernel
theorem dX10_init_49 : decode cX10_init 49 = .ok (.aload_n 0, 1) := by decide +kernel
theorem dX10_init_50 : decode cX10_init 50 = .ok (.iconst 2, 1) := by decide +kernel
theorem dX10_init_51 : decode cX10_init 51 = .ok (.newarray .int, 2) := by decide +kernel
theorem dX10_init_53 : decode cX10_init 53 = .ok (.putfield 25, 3) := by decide +kernel
theorem dX10_init_56 : decode cX10_init 56 = .ok (.aload_n 0, 1) := by decide +kernel
theorem dX10_init_57 : decode cX10_init 57 = .ok (.bipush 25, 2) := by decide +kernel
theorem dX10_init_59 : decode cX10_init 59 = .ok (.newarray .int, 2) := by decide +kernel
theorem dX10_init_61 : decode cX10_init 61 = .ok (.putfield 28, 3) := by decide +kernel
theorem dX10_init_64 : decode cX10_init 64 = .ok (.aload_n 0, 1) := by decide +kernel
theorem dX10_init_65 : decode cX10_init 65 = .ok (.bipush 25, 2) := by decide +kernel
theorem dX10_init_67 : decode cX10_init 67 = .ok (.newarray .int, 2) := by decide +kernel
theorem dX10_init_69 : decode cX10_init 69 = .ok (.putfield 31, 3) := by decide +kernel
theorem dX10_init_72 : decode cX10_init 72 = .ok (.aload_n 0, 1) := by decide +kernel
theorem dX10_init_73 : decode cX10_init 73 = .ok (.iconst 4, 1) := by decide +kernel
theorem dX10_init_74 : decode cX10_init 74 = .ok (.newarray .int, 2) := by decide +kernel
theorem dX10_init_76 : decode cX10_init 76 = .ok (.putfield 34, 3) := by decide +kernel
theorem dX10_init_79 : decode cX10_init 79 = .ok (.aload_n 0, 1) := by decide +kernel
theorem dX10_init_80 : decode cX10_init 80 = .ok (.bipush 25, 2) := by decide +kernel
theorem dX10_init_82 : decode cX10_init 82 = .ok (.newarray .int, 2) := by decide +kernel
theorem dX10_init_84 : decode cX10_init 84 = .ok (.putfield 37, 3) := by decide +kernel
theorem dX10_init_87 : decode cX10_init 87 = .ok (.aload_n 0, 1) := by decide +kernel
theorem dX10_init_88 : decode cX10_init 88 = .ok (.bipush 80, 2) := by decide +kernel
theorem dX10_init_90 : decode cX10_init 90 = .ok (.newarray .int, 2) := by decide +kernel
theorem dX10_init_92 : decode cX10_init 92 = .ok (.putfield 40, 3) := by decide +kernel
theorem dX10_init_95 : decode cX10_init 95 = .ok (.aload_n 0, 1) := by decide +kernel
theorem dX10_init_96 : decode cX10_init 96 = .ok (.getfield 7, 3) := by decide +kernel
theorem dX10_init_99 : decode cX10_init 99 = .ok (.iconst 0, 1) := by decide +kernel
theorem dX10_init_100 : decode cX10_init 100 = .ok (.sipush 400, 3) := by decide +kernel
theorem dX10_init_103 : decode cX10_init 103 = .ok (.iastore, 1) := by decide +kernel
theorem dX10_init_104 : decode cX10_init 104 = .ok (.aload_n 0, 1) := by decide +kernel
theorem dX10_init_105 : decode cX10_init 105 = .ok (.getfield 7, 3) := by decide +kernel
theorem dX10_init_108 : decode cX10_init 108 = .ok (.iconst 1, 1) := by decide +kernel
theorem dX10_init_109 : decode cX10_init 109 = .ok (.bipush 50, 2) := by decide +kernel
theorem dX10_init_111 : decode cX10_init 111 = .ok (.iastore, 1) := by decide +kernel
theorem dX10_init_112 : decode cX10_init 112 = .ok (.aload_n 0, 1) := by decide +kernel
theorem dX10_init_113 : decode cX10_init 113 = .ok (.getfield 7, 3) := by decide +kernel
theorem dX10_init_116 : decode cX10_init 116 = .ok (.iconst 2, 1) := by decide +kernel
theorem dX10_init_117 : decode cX10_init 117 = .ok (.iconst 2, 1) := by decide +kernel
theorem dX10_init_118 : decode cX10_init 118 = .ok (.iastore, 1) := by decide +kernel
theorem dX10_init_119 : decode cX10_init 119 = .ok (.return_, 1) := by decide +kernel
theorem dX10_isIn_0 : decode cX10_isIn 0 = .ok (.lload_n 0, 1) := by decide +kernel
theorem dX10_isIn_1 : decode cX10_isIn 1 = .ok (.lload_n 2, 1) := by decide +kernel
theorem dX10_isIn_2 : decode cX10_isIn 2 = .ok (.lcmp, 1) := by decide +kernel
theorem dX10_isIn_3 : decode cX10_isIn 3 = .ok (.ifCond .lt 14, 3) := by decide +kernel
theorem dX10_isIn_6 : decode cX10_isIn 6 = .ok (.lload_n 0, 1) := by decide +kernel
theorem dX10_isIn_7 : decode cX10_isIn 7 = .ok (.lload 4, 2) := by decide +kernel
theorem dX10_isIn_9 : decode cX10_isIn 9 = .ok (.lcmp, 1) := by decide +kernel
theorem dX10_isIn_10 : decode cX10_isIn 10 = .ok (.ifCond .gt 7, 3) := by decide +kernel
theorem dX10_isIn_13 : decode cX10_isIn 13 = .ok (.iconst 1, 1) := by decide +kernel
theorem dX10_isIn_14 : decode cX10_isIn 14 = .ok (.goto 4, 3) := by decide +kernel
theorem dX10_isIn_17 : decode cX10_isIn 17 = .ok (.iconst 0, 1) := by decide +kernel
theorem dX10_isIn_18 : decode cX10_isIn 18 = .ok (.ireturn, 1) := by decide +kernel
theorem dX10_copy_0 : decode cX10_copy 0 = .ok (.iconst 0, 1) := by decide +kernel
theorem dX10_copy_1 : decode cX10_copy 1 = .ok (.istore_n 2, 1) := by decide +kernel
theorem dX10_copy_2 : decode cX10_copy 2 = .ok (.iload_n 2, 1) := by decide +kernel
theorem dX10_copy_3 : decode cX10_copy 3 = .ok (.sipush 132, 3) := by decide +kernel
theorem dX10_copy_6 : decode cX10_copy 6 = .ok (.if_icmp .ge 15, 3) := by decide +kernel
theorem dX10_copy_9 : decode cX10_copy 9 = .ok (.aload_n 1, 1) := by decide +kernel
theorem dX10_copy_10 : decode cX10_copy 10 = .ok (.iload_n 2, 1) := by decide +kernel
theorem dX10_copy_11 : decode cX10_copy 11 = .ok (.aload_n 0, 1) := by decide +kernel
theorem dX10_copy_12 : decode cX10_copy 12 = .ok (.iload_n 2, 1) := by decide +kernel
theorem dX10_copy_13 : decode cX10_copy 13 = .ok (.iaload, 1) := by decide +kernel
theorem dX10_copy_14 : decode cX10_copy 14 = .ok (.iastore, 1) := by decide +kernel
theorem dX10_copy_15 : decode cX10_copy 15 = .ok (.iinc 2 1, 3) := by decide +kernel
theorem dX10_copy_18 : decode cX10_copy 18 = .ok (.goto (-16), 3) := by decide +kernel
theorem dX10_copy_21 : decode cX10_copy 21 = .ok (.return_, 1) := by decide +kernel
theorem dX10_changed_0 : decode cX10_changed 0 = .ok (.aload_n 0, 1) := by decide +kernel
theorem dX10_changed_1 : decode cX10_changed 1 = .ok (.getfield 43, 3) := by decide +kernel
theorem dX10_changed_4 : decode cX10_changed 4 = .ok (.bipush 6, 2) := by decide +kernel
theorem dX10_changed_6 : decode cX10_changed 6 = .ok (.if_icmp .ne 44, 3) := by decide +kernel
theorem dX10_changed_9 : decode cX10_changed 9 = .ok (.iconst 0, 1) := by decide +kernel
theorem dX10_changed_10 : decode cX10_changed 10 = .ok (.istore_n 2, 1) := by decide +kernel
theorem dX10_changed_11 : decode cX10_changed 11 = .ok (.iload_n 2, 1) := by decide +kernel
theorem dX10_changed_12 : decode cX10_changed 12 = .ok (.sipush 660, 3) := by decide +kernel
theorem dX10_changed_15 : decode cX10_changed 15 = .ok (.if_icmp .ge 25, 3) := by decide +kernel
theorem dX10_changed_18 : decode cX10_changed 18 = .ok (.aload_n 0, 1) := by decide +kernel
theorem dX10_changed_19 : decode cX10_changed 19 = .ok (.getfield 19, 3) := by decide +kernel
theorem dX10_changed_22 : decode cX10_changed 22 = .ok (.iload_n 2, 1) := by decide +kernel
theorem dX10_changed_23 : decode cX10_changed 23 = .ok (.aload_n 0, 1) := by decide +kernel
theorem dX10_changed_24 : decode cX10_changed 24 = .ok (.getfield 19, 3) := by decide +kernel
theorem dX10_changed_27 : decode cX10_changed 27 = .ok (.iload_n 2, 1) := by decide +kernel
theorem dX10_changed_28 : decode cX10_changed 28 = .ok (.sipush 132, 3) := by decide +kernel
theorem dX10_changed_31 : decode cX10_changed 31 = .ok (.iadd, 1) := by decide +kernel
theorem dX10_changed_32 : decode cX10_changed 32 = .ok (.iaload, 1) := by decide +kernel
theorem dX10_changed_33 : decode cX10_changed 33 = .ok (.iastore, 1) := by decide +kernel
