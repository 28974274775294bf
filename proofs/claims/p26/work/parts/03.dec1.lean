theorem dX4_creditUsed_7 : decode cX4_creditUsed 7 = .ok (.getfield 46, 3) := by decide +kernel
theorem dX4_creditUsed_10 : decode cX4_creditUsed 10 = .ok (.if_icmp .ge 33, 3) := by decide +kernel
theorem dX4_creditUsed_13 : decode cX4_creditUsed 13 = .ok (.aload_n 0, 1) := by decide +kernel
theorem dX4_creditUsed_14 : decode cX4_creditUsed 14 = .ok (.iload_n 1, 1) := by decide +kernel
theorem dX4_creditUsed_15 : decode cX4_creditUsed 15 = .ok (.invokevirtual 130, 3) := by decide +kernel
theorem dX4_creditUsed_18 : decode cX4_creditUsed 18 = .ok (.ifCond .eq 19, 3) := by decide +kernel
theorem dX4_creditUsed_21 : decode cX4_creditUsed 21 = .ok (.aload_n 0, 1) := by decide +kernel
theorem dX4_creditUsed_22 : decode cX4_creditUsed 22 = .ok (.getfield 39, 3) := by decide +kernel
theorem dX4_creditUsed_25 : decode cX4_creditUsed 25 = .ok (.iload_n 1, 1) := by decide +kernel
theorem dX4_creditUsed_26 : decode cX4_creditUsed 26 = .ok (.aload_n 0, 1) := by decide +kernel
theorem dX4_creditUsed_27 : decode cX4_creditUsed 27 = .ok (.getfield 23, 3) := by decide +kernel
theorem dX4_creditUsed_30 : decode cX4_creditUsed 30 = .ok (.iload_n 1, 1) := by decide +kernel
theorem dX4_creditUsed_31 : decode cX4_creditUsed 31 = .ok (.invokevirtual 54, 3) := by decide +kernel
theorem dX4_creditUsed_34 : decode cX4_creditUsed 34 = .ok (.invokevirtual 133, 3) := by decide +kernel
theorem dX4_creditUsed_37 : decode cX4_creditUsed 37 = .ok (.iinc 1 1, 3) := by decide +kernel
theorem dX4_creditUsed_40 : decode cX4_creditUsed 40 = .ok (.goto (-38), 3) := by decide +kernel
theorem dX4_creditUsed_43 : decode cX4_creditUsed 43 = .ok (.return_, 1) := by decide +kernel
theorem dX4_isBlocked_0 : decode cX4_isBlocked 0 = .ok (.aload_n 0, 1) := by decide +kernel
theorem dX4_isBlocked_1 : decode cX4_isBlocked 1 = .ok (.getfield 32, 3) := by decide +kernel
theorem dX4_isBlocked_4 : decode cX4_isBlocked 4 = .ok (.iload_n 1, 1) := by decide +kernel
theorem dX4_isBlocked_5 : decode cX4_isBlocked 5 = .ok (.ishr, 1) := by decide +kernel
theorem dX4_isBlocked_6 : decode cX4_isBlocked 6 = .ok (.iconst 1, 1) := by decide +kernel
theorem dX4_isBlocked_7 : decode cX4_isBlocked 7 = .ok (.iand, 1) := by decide +kernel
theorem dX4_isBlocked_8 : decode cX4_isBlocked 8 = .ok (.ifCond .eq 7, 3) := by decide +kernel
theorem dX4_isBlocked_11 : decode cX4_isBlocked 11 = .ok (.iconst 1, 1) := by decide +kernel
theorem dX4_isBlocked_12 : decode cX4_isBlocked 12 = .ok (.goto 4, 3) := by decide +kernel
theorem dX4_isBlocked_15 : decode cX4_isBlocked 15 = .ok (.iconst 0, 1) := by decide +kernel
theorem dX4_isBlocked_16 : decode cX4_isBlocked 16 = .ok (.ireturn, 1) := by decide +kernel
theorem dX4_blocked_0 : decode cX4_blocked 0 = .ok (.aload_n 0, 1) := by decide +kernel
theorem dX4_blocked_1 : decode cX4_blocked 1 = .ok (.getfield 32, 3) := by decide +kernel
theorem dX4_blocked_4 : decode cX4_blocked 4 = .ok (.ireturn, 1) := by decide +kernel
theorem dX4_shader_0 : decode cX4_shader 0 = .ok (.aload_n 0, 1) := by decide +kernel
theorem dX4_shader_1 : decode cX4_shader 1 = .ok (.getfield 20, 3) := by decide +kernel
theorem dX4_shader_4 : decode cX4_shader 4 = .ok (.iload_n 1, 1) := by decide +kernel
theorem dX4_shader_5 : decode cX4_shader 5 = .ok (.bipush 11, 2) := by decide +kernel
theorem dX4_shader_7 : decode cX4_shader 7 = .ok (.imul, 1) := by decide +kernel
theorem dX4_shader_8 : decode cX4_shader 8 = .ok (.iload_n 2, 1) := by decide +kernel
theorem dX4_shader_9 : decode cX4_shader 9 = .ok (.iadd, 1) := by decide +kernel
theorem dX4_shader_10 : decode cX4_shader 10 = .ok (.invokevirtual 54, 3) := by decide +kernel
theorem dX4_shader_13 : decode cX4_shader 13 = .ok (.ireturn, 1) := by decide +kernel
theorem dX4_given_0 : decode cX4_given 0 = .ok (.aload_n 0, 1) := by decide +kernel
theorem dX4_given_1 : decode cX4_given 1 = .ok (.getfield 23, 3) := by decide +kernel
theorem dX4_given_4 : decode cX4_given 4 = .ok (.iload_n 1, 1) := by decide +kernel
theorem dX4_given_5 : decode cX4_given 5 = .ok (.invokevirtual 54, 3) := by decide +kernel
theorem dX4_given_8 : decode cX4_given 8 = .ok (.ireturn, 1) := by decide +kernel
theorem dX4_isUsed_0 : decode cX4_isUsed 0 = .ok (.aload_n 0, 1) := by decide +kernel
theorem dX4_isUsed_1 : decode cX4_isUsed 1 = .ok (.getfield 36, 3) := by decide +kernel
theorem dX4_isUsed_4 : decode cX4_isUsed 4 = .ok (.iload_n 1, 1) := by decide +kernel
theorem dX4_isUsed_5 : decode cX4_isUsed 5 = .ok (.ishr, 1) := by decide +kernel
theorem dX4_isUsed_6 : decode cX4_isUsed 6 = .ok (.iconst 1, 1) := by decide +kernel
theorem dX4_isUsed_7 : decode cX4_isUsed 7 = .ok (.iand, 1) := by decide +kernel
theorem dX4_isUsed_8 : decode cX4_isUsed 8 = .ok (.ifCond .eq 7, 3) := by decide +kernel
theorem dX4_isUsed_11 : decode cX4_isUsed 11 = .ok (.iconst 1, 1) := by decide +kernel
theorem dX4_isUsed_12 : decode cX4_isUsed 12 = .ok (.goto 4, 3) := by decide +kernel
theorem dX4_isUsed_15 : decode cX4_isUsed 15 = .ok (.iconst 0, 1) := by decide +kernel
theorem dX4_isUsed_16 : decode cX4_isUsed 16 = .ok (.ireturn, 1) := by decide +kernel
theorem dX4_used_0 : decode cX4_used 0 = .ok (.aload_n 0, 1) := by decide +kernel
theorem dX4_used_1 : decode cX4_used 1 = .ok (.getfield 36, 3) := by decide +kernel
theorem dX4_used_4 : decode cX4_used 4 = .ok (.ireturn, 1) := by decide +kernel
theorem dX4_held_0 : decode cX4_held 0 = .ok (.aload_n 0, 1) := by decide +kernel
theorem dX4_held_1 : decode cX4_held 1 = .ok (.getfield 29, 3) := by decide +kernel
theorem dX4_held_4 : decode cX4_held 4 = .ok (.iload_n 1, 1) := by decide +kernel
theorem dX4_held_5 : decode cX4_held 5 = .ok (.invokevirtual 54, 3) := by decide +kernel
theorem dX4_held_8 : decode cX4_held 8 = .ok (.ireturn, 1) := by decide +kernel
theorem dX5_init_0 : decode cX5_init 0 = .ok (.aload_n 0, 1) := by decide +kernel
theorem dX5_init_1 : decode cX5_init 1 = .ok (.invokespecial 3, 3) := by decide +kernel
theorem dX5_init_4 : decode cX5_init 4 = .ok (.aload_n 0, 1) := by decide +kernel
theorem dX5_init_5 : decode cX5_init 5 = .ok (.new 9, 3) := by decide +kernel
theorem dX5_init_8 : decode cX5_init 8 = .ok (.dup, 1) := by decide +kernel
theorem dX5_init_9 : decode cX5_init 9 = .ok (.bipush 80, 2) := by decide +kernel
theorem dX5_init_11 : decode cX5_init 11 = .ok (.invokespecial 11, 3) := by decide +kernel
theorem dX5_init_14 : decode cX5_init 14 = .ok (.putfield 14, 3) := by decide +kernel
theorem dX5_init_17 : decode cX5_init 17 = .ok (.aload_n 0, 1) := by decide +kernel
theorem dX5_init_18 : decode cX5_init 18 = .ok (.iconst 0, 1) := by decide +kernel
theorem dX5_init_19 : decode cX5_init 19 = .ok (.putfield 20, 3) := by decide +kernel
theorem dX5_init_22 : decode cX5_init 22 = .ok (.return_, 1) := by decide +kernel
theorem dX5_length_0 : decode cX5_length 0 = .ok (.aload_n 0, 1) := by decide +kernel
theorem dX5_length_1 : decode cX5_length 1 = .ok (.getfield 20, 3) := by decide +kernel
theorem dX5_length_4 : decode cX5_length 4 = .ok (.ireturn, 1) := by decide +kernel
theorem dX6_init_0 : decode cX6_init 0 = .ok (.aload_n 0, 1) := by decide +kernel
theorem dX6_init_1 : decode cX6_init 1 = .ok (.invokespecial 3, 3) := by decide +kernel
theorem dX6_init_4 : decode cX6_init 4 = .ok (.aload_n 0, 1) := by decide +kernel
theorem dX6_init_5 : decode cX6_init 5 = .ok (.new 9, 3) := by decide +kernel
theorem dX6_init_8 : decode cX6_init 8 = .ok (.dup, 1) := by decide +kernel
theorem dX6_init_9 : decode cX6_init 9 = .ok (.bipush 80, 2) := by decide +kernel
theorem dX6_init_11 : decode cX6_init 11 = .ok (.invokespecial 11, 3) := by decide +kernel
theorem dX6_init_14 : decode cX6_init 14 = .ok (.putfield 14, 3) := by decide +kernel
theorem dX6_init_17 : decode cX6_init 17 = .ok (.aload_n 0, 1) := by decide +kernel
theorem dX6_init_18 : decode cX6_init 18 = .ok (.new 9, 3) := by decide +kernel
theorem dX6_init_21 : decode cX6_init 21 = .ok (.dup, 1) := by decide +kernel
theorem dX6_init_22 : decode cX6_init 22 = .ok (.bipush 80, 2) := by decide +kernel
theorem dX6_init_24 : decode cX6_init 24 = .ok (.invokespecial 11, 3) := by decide +kernel
theorem dX6_init_27 : decode cX6_init 27 = .ok (.putfield 20, 3) := by decide +kernel
theorem dX6_init_30 : decode cX6_init 30 = .ok (.aload_n 0, 1) := by decide +kernel
theorem dX6_init_31 : decode cX6_init 31 = .ok (.new 9, 3) := by decide +kernel
theorem dX6_init_34 : decode cX6_init 34 = .ok (.dup, 1) := by decide +kernel
theorem dX6_init_35 : decode cX6_init 35 = .ok (.bipush 80, 2) := by decide +kernel
theorem dX6_init_37 : decode cX6_init 37 = .ok (.invokespecial 11, 3) := by decide +kernel
theorem dX6_init_40 : decode cX6_init 40 = .ok (.putfield 23, 3) := by decide +kernel
theorem dX6_init_43 : decode cX6_init 43 = .ok (.aload_n 0, 1) := by decide +kernel
theorem dX6_init_44 : decode cX6_init 44 = .ok (.new 9, 3) := by decide +kernel
theorem dX6_init_47 : decode cX6_init 47 = .ok (.dup, 1) := by decide +kernel
theorem dX6_init_48 : decode cX6_init 48 = .ok (.bipush 80, 2) := by decide +kernel
theorem dX6_init_50 : decode cX6_init 50 = .ok (.invokespecial 11, 3) := by decide +kernel
theorem dX6_init_53 : decode cX6_init 53 = .ok (.putfield 26, 3) := by decide +kernel
theorem dX6_init_56 : decode cX6_init 56 = .ok (.aload_n 0, 1) := by decide +kernel
theorem dX6_init_57 : decode cX6_init 57 = .ok (.iconst 0, 1) := by decide +kernel
theorem dX6_init_58 : decode cX6_init 58 = .ok (.putfield 29, 3) := by decide +kernel
theorem dX6_init_61 : decode cX6_init 61 = .ok (.aload_n 0, 1) := by decide +kernel
theorem dX6_init_62 : decode cX6_init 62 = .ok (.iconst 0, 1) := by decide +kernel
theorem dX6_init_63 : decode cX6_init 63 = .ok (.putfield 33, 3) := by decide +kernel
theorem dX6_init_66 : decode cX6_init 66 = .ok (.aload_n 0, 1) := by decide +kernel
theorem dX6_init_67 : decode cX6_init 67 = .ok (.iconst 0, 1) := by decide +kernel
theorem dX6_init_68 : decode cX6_init 68 = .ok (.putfield 36, 3) := by decide +kernel
theorem dX6_init_71 : decode cX6_init 71 = .ok (.aload_n 0, 1) := by decide +kernel
theorem dX6_init_72 : decode cX6_init 72 = .ok (.aload_n 1, 1) := by decide +kernel
theorem dX6_init_73 : decode cX6_init 73 = .ok (.putfield 40, 3) := by decide +kernel
theorem dX6_init_76 : decode cX6_init 76 = .ok (.return_, 1) := by decide +kernel
theorem dX7_init_0 : decode cX7_init 0 = .ok (.aload_n 0, 1) := by decide +kernel
theorem dX7_init_1 : decode cX7_init 1 = .ok (.invokespecial 1, 3) := by decide +kernel
theorem dX7_init_4 : decode cX7_init 4 = .ok (.aload_n 0, 1) := by decide +kernel
theorem dX7_init_5 : decode cX7_init 5 = .ok (.iload_n 1, 1) := by decide +kernel
theorem dX7_init_6 : decode cX7_init 6 = .ok (.iconst 0, 1) := by decide +kernel
theorem dX7_init_7 : decode cX7_init 7 = .ok (.invokestatic 7, 3) := by decide +kernel
theorem dX7_init_10 : decode cX7_init 10 = .ok (.anewarray 13, 3) := by decide +kernel
theorem dX7_init_13 : decode cX7_init 13 = .ok (.putfield 15, 3) := by decide +kernel
theorem dX7_init_16 : decode cX7_init 16 = .ok (.iconst 0, 1) := by decide +kernel
theorem dX7_init_17 : decode cX7_init 17 = .ok (.istore_n 2, 1) := by decide +kernel
theorem dX7_init_18 : decode cX7_init 18 = .ok (.iload_n 2, 1) := by decide +kernel
theorem dX7_init_19 : decode cX7_init 19 = .ok (.aload_n 0, 1) := by decide +kernel
theorem dX7_init_20 : decode cX7_init 20 = .ok (.getfield 15, 3) := by decide +kernel
theorem dX7_init_23 : decode cX7_init 23 = .ok (.arraylength, 1) := by decide +kernel
theorem dX7_init_24 : decode cX7_init 24 = .ok (.if_icmp .ge 22, 3) := by decide +kernel
theorem dX7_init_27 : decode cX7_init 27 = .ok (.aload_n 0, 1) := by decide +kernel
theorem dX7_init_28 : decode cX7_init 28 = .ok (.getfield 15, 3) := by decide +kernel
theorem dX7_init_31 : decode cX7_init 31 = .ok (.iload_n 2, 1) := by decide +kernel
theorem dX7_init_32 : decode cX7_init 32 = .ok (.new 13, 3) := by decide +kernel
theorem dX7_init_35 : decode cX7_init 35 = .ok (.dup, 1) := by decide +kernel
theorem dX7_init_36 : decode cX7_init 36 = .ok (.invokespecial 21, 3) := by decide +kernel
theorem dX7_init_39 : decode cX7_init 39 = .ok (.aastore, 1) := by decide +kernel
theorem dX7_init_40 : decode cX7_init 40 = .ok (.iinc 2 1, 3) := by decide +kernel
theorem dX7_init_43 : decode cX7_init 43 = .ok (.goto (-25), 3) := by decide +kernel
theorem dX7_init_46 : decode cX7_init 46 = .ok (.return_, 1) := by decide +kernel
theorem dX7_keep_0 : decode cX7_keep 0 = .ok (.aload_n 0, 1) := by decide +kernel
theorem dX7_keep_1 : decode cX7_keep 1 = .ok (.iload_n 1, 1) := by decide +kernel
theorem dX7_keep_2 : decode cX7_keep 2 = .ok (.invokevirtual 22, 3) := by decide +kernel
theorem dX7_keep_5 : decode cX7_keep 5 = .ok (.astore_n 3, 1) := by decide +kernel
theorem dX7_keep_6 : decode cX7_keep 6 = .ok (.aload_n 3, 1) := by decide +kernel
theorem dX7_keep_7 : decode cX7_keep 7 = .ok (.ifnull 8, 3) := by decide +kernel
theorem dX7_keep_10 : decode cX7_keep 10 = .ok (.aload_n 3, 1) := by decide +kernel
theorem dX7_keep_11 : decode cX7_keep 11 = .ok (.aload_n 2, 1) := by decide +kernel
theorem dX7_keep_12 : decode cX7_keep 12 = .ok (.invokevirtual 26, 3) := by decide +kernel
theorem dX7_keep_15 : decode cX7_keep 15 = .ok (.return_, 1) := by decide +kernel
theorem dX7_bringBack_0 : decode cX7_bringBack 0 = .ok (.aload_n 0, 1) := by decide +kernel
theorem dX7_bringBack_1 : decode cX7_bringBack 1 = .ok (.iload_n 1, 1) := by decide +kernel
theorem dX7_bringBack_2 : decode cX7_bringBack 2 = .ok (.invokevirtual 22, 3) := by decide +kernel
theorem dX7_bringBack_5 : decode cX7_bringBack 5 = .ok (.astore_n 3, 1) := by decide +kernel
theorem dX7_bringBack_6 : decode cX7_bringBack 6 = .ok (.aload_n 3, 1) := by decide +kernel
theorem dX7_bringBack_7 : decode cX7_bringBack 7 = .ok (.ifnull 8, 3) := by decide +kernel
theorem dX7_bringBack_10 : decode cX7_bringBack 10 = .ok (.aload_n 2, 1) := by decide +kernel
theorem dX7_bringBack_11 : decode cX7_bringBack 11 = .ok (.aload_n 3, 1) := by decide +kernel
theorem dX7_bringBack_12 : decode cX7_bringBack 12 = .ok (.invokevirtual 26, 3) := by decide +kernel
theorem dX7_bringBack_15 : decode cX7_bringBack 15 = .ok (.return_, 1) := by decide +kernel
theorem dX7_state_0 : decode cX7_state 0 = .ok (.iload_n 1, 1) := by decide +kernel
theorem dX7_state_1 : decode cX7_state 1 = .ok (.ifCond .lt 21, 3) := by decide +kernel
theorem dX7_state_4 : decode cX7_state 4 = .ok (.iload_n 1, 1) := by decide +kernel
theorem dX7_state_5 : decode cX7_state 5 = .ok (.aload_n 0, 1) := by decide +kernel
theorem dX7_state_6 : decode cX7_state 6 = .ok (.getfield 15, 3) := by decide +kernel
theorem dX7_state_9 : decode cX7_state 9 = .ok (.arraylength, 1) := by decide +kernel
theorem dX7_state_10 : decode cX7_state 10 = .ok (.if_icmp .ge 12, 3) := by decide +kernel
theorem dX7_state_13 : decode cX7_state 13 = .ok (.aload_n 0, 1) := by decide +kernel
theorem dX7_state_14 : decode cX7_state 14 = .ok (.getfield 15, 3) := by decide +kernel
theorem dX7_state_17 : decode cX7_state 17 = .ok (.iload_n 1, 1) := by decide +kernel
theorem dX7_state_18 : decode cX7_state 18 = .ok (.aaload, 1) := by decide +kernel
theorem dX7_state_19 : decode cX7_state 19 = .ok (.goto 4, 3) := by decide +kernel
theorem dX7_state_22 : decode cX7_state 22 = .ok (.aconst_null, 1) := by decide +kernel
theorem dX7_state_23 : decode cX7_state 23 = .ok (.areturn, 1) := by decide +kernel
theorem dX8_isHour_0 : decode cX8_isHour 0 = .ok (.iload_n 0, 1) := by decide +kernel
theorem dX8_isHour_1 : decode cX8_isHour 1 = .ok (.ifCond .lt 13, 3) := by decide +kernel
theorem dX8_isHour_4 : decode cX8_isHour 4 = .ok (.iload_n 0, 1) := by decide +kernel
theorem dX8_isHour_5 : decode cX8_isHour 5 = .ok (.bipush 11, 2) := by decide +kernel
theorem dX8_isHour_7 : decode cX8_isHour 7 = .ok (.if_icmp .ge 7, 3) := by decide +kernel
theorem dX8_isHour_10 : decode cX8_isHour 10 = .ok (.iconst 1, 1) := by decide +kernel
theorem dX8_isHour_11 : decode cX8_isHour 11 = .ok (.goto 4, 3) := by decide +kernel
theorem dX8_isHour_14 : decode cX8_isHour 14 = .ok (.iconst 0, 1) := by decide +kernel
theorem dX8_isHour_15 : decode cX8_isHour 15 = .ok (.ireturn, 1) := by decide +kernel
theorem dX8_height_0 : decode cX8_height 0 = .ok (.bipush 6, 2) := by decide +kernel
theorem dX8_height_2 : decode cX8_height 2 = .ok (.iload_n 0, 1) := by decide +kernel
theorem dX8_height_3 : decode cX8_height 3 = .ok (.iconst 5, 1) := by decide +kernel
theorem dX8_height_4 : decode cX8_height 4 = .ok (.isub, 1) := by decide +kernel
theorem dX8_height_5 : decode cX8_height 5 = .ok (.invokestatic 9, 3) := by decide +kernel
theorem dX8_height_8 : decode cX8_height 8 = .ok (.isub, 1) := by decide +kernel
theorem dX8_height_9 : decode cX8_height 9 = .ok (.ireturn, 1) := by decide +kernel
theorem dX8_columns_0 : decode cX8_columns 0 = .ok (.iconst 5, 1) := by decide +kernel
theorem dX8_columns_1 : decode cX8_columns 1 = .ok (.iload_n 0, 1) := by decide +kernel
theorem dX8_columns_2 : decode cX8_columns 2 = .ok (.isub, 1) := by decide +kernel
theorem dX8_columns_3 : decode cX8_columns 3 = .ok (.ireturn, 1) := by decide +kernel
theorem dX9_init_0 : decode cX9_init 0 = .ok (.aload_n 0, 1) := by decide +kernel
theorem dX9_init_1 : decode cX9_init 1 = .ok (.invokespecial 3, 3) := by decide +kernel
theorem dX9_init_4 : decode cX9_init 4 = .ok (.aload_n 0, 1) := by decide +kernel
theorem dX9_init_5 : decode cX9_init 5 = .ok (.new 9, 3) := by decide +kernel
theorem dX9_init_8 : decode cX9_init 8 = .ok (.dup, 1) := by decide +kernel
theorem dX9_init_9 : decode cX9_init 9 = .ok (.invokespecial 11, 3) := by decide +kernel
theorem dX9_init_12 : decode cX9_init 12 = .ok (.putfield 12, 3) := by decide +kernel
theorem dX9_init_15 : decode cX9_init 15 = .ok (.aload_n 0, 1) := by decide +kernel
theorem dX9_init_16 : decode cX9_init 16 = .ok (.new 16, 3) := by decide +kernel
theorem dX9_init_19 : decode cX9_init 19 = .ok (.dup, 1) := by decide +kernel
theorem dX9_init_20 : decode cX9_init 20 = .ok (.aload_n 0, 1) := by decide +kernel
theorem dX9_init_21 : decode cX9_init 21 = .ok (.getfield 12, 3) := by decide +kernel
theorem dX9_init_24 : decode cX9_init 24 = .ok (.invokespecial 18, 3) := by decide +kernel
theorem dX9_init_27 : decode cX9_init 27 = .ok (.putfield 21, 3) := by decide +kernel
theorem dX9_init_30 : decode cX9_init 30 = .ok (.aload_n 0, 1) := by decide +kernel
theorem dX9_init_31 : decode cX9_init 31 = .ok (.new 25, 3) := by decide +kernel
theorem dX9_init_34 : decode cX9_init 34 = .ok (.dup, 1) := by decide +kernel
theorem dX9_init_35 : decode cX9_init 35 = .ok (.aload_n 0, 1) := by decide +kernel
theorem dX9_init_36 : decode cX9_init 36 = .ok (.getfield 12, 3) := by decide +kernel
theorem dX9_init_39 : decode cX9_init 39 = .ok (.invokespecial 27, 3) := by decide +kernel
theorem dX9_init_42 : decode cX9_init 42 = .ok (.putfield 28, 3) := by decide +kernel
theorem dX9_init_45 : decode cX9_init 45 = .ok (.aload_n 0, 1) := by decide +kernel
theorem dX9_init_46 : decode cX9_init 46 = .ok (.new 32, 3) := by decide +kernel
theorem dX9_init_49 : decode cX9_init 49 = .ok (.dup, 1) := by decide +kernel
theorem dX9_init_50 : decode cX9_init 50 = .ok (.invokespecial 34, 3) := by decide +kernel
theorem dX9_init_53 : decode cX9_init 53 = .ok (.putfield 35, 3) := by decide +kernel
theorem dX9_init_56 : decode cX9_init 56 = .ok (.aload_n 0, 1) := by decide +kernel
theorem dX9_init_57 : decode cX9_init 57 = .ok (.new 39, 3) := by decide +kernel
theorem dX9_init_60 : decode cX9_init 60 = .ok (.dup, 1) := by decide +kernel
theorem dX9_init_61 : decode cX9_init 61 = .ok (.aload_n 0, 1) := by decide +kernel
theorem dX9_init_62 : decode cX9_init 62 = .ok (.getfield 35, 3) := by decide +kernel
theorem dX9_init_65 : decode cX9_init 65 = .ok (.invokespecial 41, 3) := by decide +kernel
theorem dX9_init_68 : decode cX9_init 68 = .ok (.putfield 44, 3) := by decide +kernel
theorem dX9_init_71 : decode cX9_init 71 = .ok (.aload_n 0, 1) := by decide +kernel
theorem dX9_init_72 : decode cX9_init 72 = .ok (.new 48, 3) := by decide +kernel
theorem dX9_init_75 : decode cX9_init 75 = .ok (.dup, 1) := by decide +kernel
theorem dX9_init_76 : decode cX9_init 76 = .ok (.invokespecial 50, 3) := by decide +kernel
theorem dX9_init_79 : decode cX9_init 79 = .ok (.putfield 51, 3) := by decide +kernel
theorem dX9_init_82 : decode cX9_init 82 = .ok (.aload_n 0, 1) := by decide +kernel
theorem dX9_init_83 : decode cX9_init 83 = .ok (.new 55, 3) := by decide +kernel
theorem dX9_init_86 : decode cX9_init 86 = .ok (.dup, 1) := by decide +kernel
theorem dX9_init_87 : decode cX9_init 87 = .ok (.iconst 2, 1) := by decide +kernel
theorem dX9_init_88 : decode cX9_init 88 = .ok (.invokespecial 57, 3) := by decide +kernel
theorem dX9_init_91 : decode cX9_init 91 = .ok (.putfield 60, 3) := by decide +kernel
theorem dX9_init_94 : decode cX9_init 94 = .ok (.aload_n 0, 1) := by decide +kernel
theorem dX9_init_95 : decode cX9_init 95 = .ok (.iconst 0, 1) := by decide +kernel
theorem dX9_init_96 : decode cX9_init 96 = .ok (.putfield 64, 3) := by decide +kernel
theorem dX9_init_99 : decode cX9_init 99 = .ok (.return_, 1) := by decide +kernel
theorem dX9_set_0 : decode cX9_set 0 = .ok (.aload_n 0, 1) := by decide +kernel
theorem dX9_set_1 : decode cX9_set 1 = .ok (.getfield 51, 3) := by decide +kernel
theorem dX9_set_4 : decode cX9_set 4 = .ok (.aload_n 0, 1) := by decide +kernel
theorem dX9_set_5 : decode cX9_set 5 = .ok (.getfield 12, 3) := by decide +kernel
theorem dX9_set_8 : decode cX9_set 8 = .ok (.invokevirtual 68, 3) := by decide +kernel
theorem dX9_set_11 : decode cX9_set 11 = .ok (.aload_n 0, 1) := by decide +kernel
theorem dX9_set_12 : decode cX9_set 12 = .ok (.aload_n 0, 1) := by decide +kernel
theorem dX9_set_13 : decode cX9_set 13 = .ok (.getfield 12, 3) := by decide +kernel
theorem dX9_set_16 : decode cX9_set 16 = .ok (.iload_n 1, 1) := by decide +kernel
theorem dX9_set_17 : decode cX9_set 17 = .ok (.iload_n 2, 1) := by decide +kernel
theorem dX9_set_18 : decode cX9_set 18 = .ok (.invokevirtual 71, 3) := by decide +kernel
theorem dX9_set_21 : decode cX9_set 21 = .ok (.invokevirtual 75, 3) := by decide +kernel
theorem dX9_set_24 : decode cX9_set 24 = .ok (.ireturn, 1) := by decide +kernel
theorem dX9_mirror_0 : decode cX9_mirror 0 = .ok (.aload_n 0, 1) := by decide +kernel
theorem dX9_mirror_1 : decode cX9_mirror 1 = .ok (.getfield 51, 3) := by decide +kernel
theorem dX9_mirror_4 : decode cX9_mirror 4 = .ok (.aload_n 0, 1) := by decide +kernel
theorem dX9_mirror_5 : decode cX9_mirror 5 = .ok (.getfield 12, 3) := by decide +kernel
theorem dX9_mirror_8 : decode cX9_mirror 8 = .ok (.invokevirtual 68, 3) := by decide +kernel
theorem dX9_mirror_11 : decode cX9_mirror 11 = .ok (.aload_n 0, 1) := by decide +kernel
theorem dX9_mirror_12 : decode cX9_mirror 12 = .ok (.aload_n 0, 1) := by decide +kernel
theorem dX9_mirror_13 : decode cX9_mirror 13 = .ok (.getfield 12, 3) := by decide +kernel
theorem dX9_mirror_16 : decode cX9_mirror 16 = .ok (.iload_n 1, 1) := by decide +kernel
theorem dX9_mirror_17 : decode cX9_mirror 17 = .ok (.iload_n 2, 1) := by decide +kernel
theorem dX9_mirror_18 : decode cX9_mirror 18 = .ok (.iload_n 3, 1) := by decide +kernel
theorem dX9_mirror_19 : decode cX9_mirror 19 = .ok (.invokevirtual 79, 3) := by decide +kernel
theorem dX9_mirror_22 : decode cX9_mirror 22 = .ok (.invokevirtual 75, 3) := by decide +kernel
theorem dX9_mirror_25 : decode cX9_mirror 25 = .ok (.ireturn, 1) := by decide +kernel
theorem dX9_take_0 : decode cX9_take 0 = .ok (.aload_n 0, 1) := by decide +kernel
theorem dX9_take_1 : decode cX9_take 1 = .ok (.getfield 51, 3) := by decide +kernel
theorem dX9_take_4 : decode cX9_take 4 = .ok (.aload_n 0, 1) := by decide +kernel
theorem dX9_take_5 : decode cX9_take 5 = .ok (.getfield 12, 3) := by decide +kernel
theorem dX9_take_8 : decode cX9_take 8 = .ok (.invokevirtual 68, 3) := by decide +kernel
theorem dX9_take_11 : decode cX9_take 11 = .ok (.aload_n 0, 1) := by decide +kernel
theorem dX9_take_12 : decode cX9_take 12 = .ok (.aload_n 0, 1) := by decide +kernel
theorem dX9_take_13 : decode cX9_take 13 = .ok (.getfield 12, 3) := by decide +kernel
theorem dX9_take_16 : decode cX9_take 16 = .ok (.iload_n 1, 1) := by decide +kernel
theorem dX9_take_17 : decode cX9_take 17 = .ok (.invokevirtual 83, 3) := by decide +kernel
theorem dX9_take_20 : decode cX9_take 20 = .ok (.invokevirtual 75, 3) := by decide +kernel
theorem dX9_take_23 : decode cX9_take 23 = .ok (.ireturn, 1) := by decide +kernel
theorem dX9_aim_0 : decode cX9_aim 0 = .ok (.aload_n 0, 1) := by decide +kernel
theorem dX9_aim_1 : decode cX9_aim 1 = .ok (.getfield 51, 3) := by decide +kernel
theorem dX9_aim_4 : decode cX9_aim 4 = .ok (.aload_n 0, 1) := by decide +kernel
theorem dX9_aim_5 : decode cX9_aim 5 = .ok (.getfield 12, 3) := by decide +kernel
theorem dX9_aim_8 : decode cX9_aim 8 = .ok (.invokevirtual 68, 3) := by decide +kernel
theorem dX9_aim_11 : decode cX9_aim 11 = .ok (.aload_n 0, 1) := by decide +kernel
theorem dX9_aim_12 : decode cX9_aim 12 = .ok (.aload_n 0, 1) := by decide +kernel
theorem dX9_aim_13 : decode cX9_aim 13 = .ok (.getfield 12, 3) := by decide +kernel
theorem dX9_aim_16 : decode cX9_aim 16 = .ok (.iload_n 1, 1) := by decide +kernel
theorem dX9_aim_17 : decode cX9_aim 17 = .ok (.iload_n 2, 1) := by decide +kernel
theorem dX9_aim_18 : decode cX9_aim 18 = .ok (.invokevirtual 86, 3) := by decide +kernel
theorem dX9_aim_21 : decode cX9_aim 21 = .ok (.invokevirtual 75, 3) := by decide +kernel
theorem dX9_aim_24 : decode cX9_aim 24 = .ok (.ireturn, 1) := by decide +kernel
theorem dX9_wash_0 : decode cX9_wash 0 = .ok (.aload_n 0, 1) := by decide +kernel
theorem dX9_wash_1 : decode cX9_wash 1 = .ok (.getfield 51, 3) := by decide +kernel
theorem dX9_wash_4 : decode cX9_wash 4 = .ok (.aload_n 0, 1) := by decide +kernel
theorem dX9_wash_5 : decode cX9_wash 5 = .ok (.getfield 12, 3) := by decide +kernel
theorem dX9_wash_8 : decode cX9_wash 8 = .ok (.invokevirtual 68, 3) := by decide +kernel
theorem dX9_wash_11 : decode cX9_wash 11 = .ok (.aload_n 0, 1) := by decide +kernel
theorem dX9_wash_12 : decode cX9_wash 12 = .ok (.aload_n 0, 1) := by decide +kernel
theorem dX9_wash_13 : decode cX9_wash 13 = .ok (.getfield 12, 3) := by decide +kernel
theorem dX9_wash_16 : decode cX9_wash 16 = .ok (.iload_n 1, 1) := by decide +kernel
theorem dX9_wash_17 : decode cX9_wash 17 = .ok (.invokevirtual 89, 3) := by decide +kernel
theorem dX9_wash_20 : decode cX9_wash 20 = .ok (.invokevirtual 75, 3) := by decide +kernel
theorem dX9_wash_23 : decode cX9_wash 23 = .ok (.ireturn, 1) := by decide +kernel
theorem dX9_wind_0 : decode cX9_wind 0 = .ok (.aload_n 0, 1) := by decide +kernel
theorem dX9_wind_1 : decode cX9_wind 1 = .ok (.getfield 51, 3) := by decide +kernel
theorem dX9_wind_4 : decode cX9_wind 4 = .ok (.aload_n 0, 1) := by decide +kernel
theorem dX9_wind_5 : decode cX9_wind 5 = .ok (.getfield 12, 3) := by decide +kernel
theorem dX9_wind_8 : decode cX9_wind 8 = .ok (.invokevirtual 68, 3) := by decide +kernel
theorem dX9_wind_11 : decode cX9_wind 11 = .ok (.aload_n 0, 1) := by decide +kernel
theorem dX9_wind_12 : decode cX9_wind 12 = .ok (.aload_n 0, 1) := by decide +kernel
theorem dX9_wind_13 : decode cX9_wind 13 = .ok (.getfield 12, 3) := by decide +kernel
theorem dX9_wind_16 : decode cX9_wind 16 = .ok (.iload_n 1, 1) := by decide +kernel
theorem dX9_wind_17 : decode cX9_wind 17 = .ok (.invokevirtual 92, 3) := by decide +kernel
theorem dX9_wind_20 : decode cX9_wind 20 = .ok (.invokevirtual 75, 3) := by decide +kernel
theorem dX9_wind_23 : decode cX9_wind 23 = .ok (.ireturn, 1) := by decide +kernel
theorem dX9_pass_0 : decode cX9_pass 0 = .ok (.aload_n 0, 1) := by decide +kernel
theorem dX9_pass_1 : decode cX9_pass 1 = .ok (.getfield 51, 3) := by decide +kernel
theorem dX9_pass_4 : decode cX9_pass 4 = .ok (.aload_n 0, 1) := by decide +kernel
theorem dX9_pass_5 : decode cX9_pass 5 = .ok (.getfield 12, 3) := by decide +kernel
theorem dX9_pass_8 : decode cX9_pass 8 = .ok (.invokevirtual 68, 3) := by decide +kernel
theorem dX9_pass_11 : decode cX9_pass 11 = .ok (.aload_n 0, 1) := by decide +kernel
theorem dX9_pass_12 : decode cX9_pass 12 = .ok (.aload_n 0, 1) := by decide +kernel
theorem dX9_pass_13 : decode cX9_pass 13 = .ok (.getfield 21, 3) := by decide +kernel
theorem dX9_pass_16 : decode cX9_pass 16 = .ok (.iload_n 1, 1) := by decide +kernel
theorem dX9_pass_17 : decode cX9_pass 17 = .ok (.invokevirtual 95, 3) := by decide +kernel
theorem dX9_pass_20 : decode cX9_pass 20 = .ok (.invokevirtual 75, 3) := by decide +kernel
theorem dX9_pass_23 : decode cX9_pass 23 = .ok (.ireturn, 1) := by decide +kernel
theorem dX9_of_0 : decode cX9_of 0 = .ok (.aload_n 0, 1) := by decide +kernel
theorem dX9_of_1 : decode cX9_of 1 = .ok (.getfield 12, 3) := by decide +kernel
theorem dX9_of_4 : decode cX9_of 4 = .ok (.iload_n 1, 1) := by decide +kernel
theorem dX9_of_5 : decode cX9_of 5 = .ok (.invokevirtual 98, 3) := by decide +kernel
theorem dX9_of_8 : decode cX9_of 8 = .ok (.ifCond .ne 5, 3) := by decide +kernel
theorem dX9_of_11 : decode cX9_of 11 = .ok (.iconst (-1), 1) := by decide +kernel
theorem dX9_of_12 : decode cX9_of 12 = .ok (.ireturn, 1) := by decide +kernel
theorem dX9_of_13 : decode cX9_of 13 = .ok (.iload_n 2, 1) := by decide +kernel
theorem dX9_of_14 : decode cX9_of 14 = .ok (.tableswitch 122 0 5 #[38, 50, 62, 74, 86, 110], 38) := by decide +kernel
theorem dX9_of_52 : decode cX9_of 52 = .ok (.aload_n 0, 1) := by decide +kernel
theorem dX9_of_53 : decode cX9_of 53 = .ok (.getfield 12, 3) := by decide +kernel
theorem dX9_of_56 : decode cX9_of 56 = .ok (.getfield 102, 3) := by decide +kernel
theorem dX9_of_59 : decode cX9_of 59 = .ok (.iload_n 1, 1) := by decide +kernel
theorem dX9_of_60 : decode cX9_of 60 = .ok (.invokevirtual 106, 3) := by decide +kernel
theorem dX9_of_63 : decode cX9_of 63 = .ok (.ireturn, 1) := by decide +kernel
theorem dX9_of_64 : decode cX9_of 64 = .ok (.aload_n 0, 1) := by decide +kernel
theorem dX9_of_65 : decode cX9_of 65 = .ok (.getfield 12, 3) := by decide +kernel
theorem dX9_of_68 : decode cX9_of 68 = .ok (.getfield 111, 3) := by decide +kernel
theorem dX9_of_71 : decode cX9_of 71 = .ok (.iload_n 1, 1) := by decide +kernel
theorem dX9_of_72 : decode cX9_of 72 = .ok (.invokevirtual 106, 3) := by decide +kernel
theorem dX9_of_75 : decode cX9_of 75 = .ok (.ireturn, 1) := by decide +kernel
theorem dX9_of_76 : decode cX9_of 76 = .ok (.aload_n 0, 1) := by decide +kernel
theorem dX9_of_77 : decode cX9_of 77 = .ok (.getfield 12, 3) := by decide +kernel
theorem dX9_of_80 : decode cX9_of 80 = .ok (.getfield 114, 3) := by decide +kernel
theorem dX9_of_83 : decode cX9_of 83 = .ok (.iload_n 1, 1) := by decide +kernel
theorem dX9_of_84 : decode cX9_of 84 = .ok (.invokevirtual 106, 3) := by decide +kernel
theorem dX9_of_87 : decode cX9_of 87 = .ok (.ireturn, 1) := by decide +kernel
theorem dX9_of_88 : decode cX9_of 88 = .ok (.aload_n 0, 1) := by decide +kernel
theorem dX9_of_89 : decode cX9_of 89 = .ok (.getfield 12, 3) := by decide +kernel
theorem dX9_of_92 : decode cX9_of 92 = .ok (.getfield 117, 3) := by decide +kernel
theorem dX9_of_95 : decode cX9_of 95 = .ok (.iload_n 1, 1) := by decide +kernel
theorem dX9_of_96 : decode cX9_of 96 = .ok (.invokevirtual 106, 3) := by decide +kernel
theorem dX9_of_99 : decode cX9_of 99 = .ok (.ireturn, 1) := by decide +kernel
theorem dX9_of_100 : decode cX9_of 100 = .ok (.aload_n 0, 1) := by decide +kernel
theorem dX9_of_101 : decode cX9_of 101 = .ok (.getfield 21, 3) := by decide +kernel
theorem dX9_of_104 : decode cX9_of 104 = .ok (.invokevirtual 120, 3) := by decide +kernel
theorem dX9_of_107 : decode cX9_of 107 = .ok (.aload_n 0, 1) := by decide +kernel
theorem dX9_of_108 : decode cX9_of 108 = .ok (.getfield 21, 3) := by decide +kernel
theorem dX9_of_111 : decode cX9_of 111 = .ok (.iload_n 1, 1) := by decide +kernel
theorem dX9_of_112 : decode cX9_of 112 = .ok (.invokevirtual 123, 3) := by decide +kernel
theorem dX9_of_115 : decode cX9_of 115 = .ok (.ifCond .eq 7, 3) := by decide +kernel
theorem dX9_of_118 : decode cX9_of 118 = .ok (.iconst 1, 1) := by decide +kernel
theorem dX9_of_119 : decode cX9_of 119 = .ok (.goto 4, 3) := by decide +kernel
theorem dX9_of_122 : decode cX9_of 122 = .ok (.iconst 0, 1) := by decide +kernel
theorem dX9_of_123 : decode cX9_of 123 = .ok (.ireturn, 1) := by decide +kernel
theorem dX9_of_124 : decode cX9_of 124 = .ok (.aload_n 0, 1) := by decide +kernel
theorem dX9_of_125 : decode cX9_of 125 = .ok (.getfield 12, 3) := by decide +kernel
theorem dX9_of_128 : decode cX9_of 128 = .ok (.getfield 126, 3) := by decide +kernel
theorem dX9_of_131 : decode cX9_of 131 = .ok (.iload_n 1, 1) := by decide +kernel
theorem dX9_of_132 : decode cX9_of 132 = .ok (.invokevirtual 106, 3) := by decide +kernel
theorem dX9_of_135 : decode cX9_of 135 = .ok (.ireturn, 1) := by decide +kernel
theorem dX9_of_136 : decode cX9_of 136 = .ok (.bipush (-2), 2) := by decide +kernel
theorem dX9_of_138 : decode cX9_of 138 = .ok (.ireturn, 1) := by decide +kernel
theorem dX9_at_0 : decode cX9_at 0 = .ok (.aload_n 0, 1) := by decide +kernel
theorem dX9_at_1 : decode cX9_at 1 = .ok (.getfield 12, 3) := by decide +kernel
theorem dX9_at_4 : decode cX9_at 4 = .ok (.iload_n 1, 1) := by decide +kernel
theorem dX9_at_5 : decode cX9_at 5 = .ok (.invokevirtual 98, 3) := by decide +kernel
theorem dX9_at_8 : decode cX9_at 8 = .ok (.ifCond .eq 10, 3) := by decide +kernel
theorem dX9_at_11 : decode cX9_at 11 = .ok (.iload_n 2, 1) := by decide +kernel
theorem dX9_at_12 : decode cX9_at 12 = .ok (.invokestatic 129, 3) := by decide +kernel
theorem dX9_at_15 : decode cX9_at 15 = .ok (.ifCond .ne 5, 3) := by decide +kernel
theorem dX9_at_18 : decode cX9_at 18 = .ok (.iconst (-1), 1) := by decide +kernel
theorem dX9_at_19 : decode cX9_at 19 = .ok (.ireturn, 1) := by decide +kernel
theorem dX9_at_20 : decode cX9_at 20 = .ok (.aload_n 0, 1) := by decide +kernel
theorem dX9_at_21 : decode cX9_at 21 = .ok (.getfield 21, 3) := by decide +kernel
theorem dX9_at_24 : decode cX9_at 24 = .ok (.invokevirtual 120, 3) := by decide +kernel
theorem dX9_at_27 : decode cX9_at 27 = .ok (.aload_n 0, 1) := by decide +kernel
theorem dX9_at_28 : decode cX9_at 28 = .ok (.getfield 21, 3) := by decide +kernel
theorem dX9_at_31 : decode cX9_at 31 = .ok (.iload_n 2, 1) := by decide +kernel
theorem dX9_at_32 : decode cX9_at 32 = .ok (.invokevirtual 134, 3) := by decide +kernel
theorem dX9_at_35 : decode cX9_at 35 = .ok (.pop, 1) := by decide +kernel
theorem dX9_at_36 : decode cX9_at 36 = .ok (.iload_n 3, 1) := by decide +kernel
theorem dX9_at_37 : decode cX9_at 37 = .ok (.tableswitch 87 0 3 #[31, 51, 60, 77], 31) := by decide +kernel
theorem dX9_at_68 : decode cX9_at 68 = .ok (.aload_n 0, 1) := by decide +kernel
theorem dX9_at_69 : decode cX9_at 69 = .ok (.getfield 21, 3) := by decide +kernel
theorem dX9_at_72 : decode cX9_at 72 = .ok (.iload_n 1, 1) := by decide +kernel
theorem dX9_at_73 : decode cX9_at 73 = .ok (.iload_n 2, 1) := by decide +kernel
theorem dX9_at_74 : decode cX9_at 74 = .ok (.invokevirtual 137, 3) := by decide +kernel
theorem dX9_at_77 : decode cX9_at 77 = .ok (.bipush (-6), 2) := by decide +kernel
theorem dX9_at_79 : decode cX9_at 79 = .ok (.if_icmp .ne 7, 3) := by decide +kernel
theorem dX9_at_82 : decode cX9_at 82 = .ok (.iconst 0, 1) := by decide +kernel
theorem dX9_at_83 : decode cX9_at 83 = .ok (.goto 4, 3) := by decide +kernel
theorem dX9_at_86 : decode cX9_at 86 = .ok (.iconst 1, 1) := by decide +kernel
theorem dX9_at_87 : decode cX9_at 87 = .ok (.ireturn, 1) := by decide +kernel
theorem dX9_at_88 : decode cX9_at 88 = .ok (.aload_n 0, 1) := by decide +kernel
theorem dX9_at_89 : decode cX9_at 89 = .ok (.getfield 21, 3) := by decide +kernel
theorem dX9_at_92 : decode cX9_at 92 = .ok (.iload_n 1, 1) := by decide +kernel
theorem dX9_at_93 : decode cX9_at 93 = .ok (.invokevirtual 140, 3) := by decide +kernel
theorem dX9_at_96 : decode cX9_at 96 = .ok (.ireturn, 1) := by decide +kernel
theorem dX9_at_97 : decode cX9_at 97 = .ok (.aload_n 0, 1) := by decide +kernel
theorem dX9_at_98 : decode cX9_at 98 = .ok (.getfield 21, 3) := by decide +kernel
theorem dX9_at_101 : decode cX9_at 101 = .ok (.iload_n 1, 1) := by decide +kernel
theorem dX9_at_102 : decode cX9_at 102 = .ok (.invokevirtual 143, 3) := by decide +kernel
theorem dX9_at_105 : decode cX9_at 105 = .ok (.ifCond .eq 7, 3) := by decide +kernel
theorem dX9_at_108 : decode cX9_at 108 = .ok (.iconst 1, 1) := by decide +kernel
theorem dX9_at_109 : decode cX9_at 109 = .ok (.goto 4, 3) := by decide +kernel
theorem dX9_at_112 : decode cX9_at 112 = .ok (.iconst 0, 1) := by decide +kernel
theorem dX9_at_113 : decode cX9_at 113 = .ok (.ireturn, 1) := by decide +kernel
theorem dX9_at_114 : decode cX9_at 114 = .ok (.aload_n 0, 1) := by decide +kernel
theorem dX9_at_115 : decode cX9_at 115 = .ok (.getfield 21, 3) := by decide +kernel
theorem dX9_at_118 : decode cX9_at 118 = .ok (.iload_n 1, 1) := by decide +kernel
theorem dX9_at_119 : decode cX9_at 119 = .ok (.iload_n 2, 1) := by decide +kernel
theorem dX9_at_120 : decode cX9_at 120 = .ok (.invokevirtual 137, 3) := by decide +kernel
theorem dX9_at_123 : decode cX9_at 123 = .ok (.ireturn, 1) := by decide +kernel
theorem dX9_at_124 : decode cX9_at 124 = .ok (.bipush (-2), 2) := by decide +kernel
theorem dX9_at_126 : decode cX9_at 126 = .ok (.ireturn, 1) := by decide +kernel
theorem dX9_point_0 : decode cX9_point 0 = .ok (.iload_n 1, 1) := by decide +kernel
theorem dX9_point_1 : decode cX9_point 1 = .ok (.invokestatic 146, 3) := by decide +kernel
theorem dX9_point_4 : decode cX9_point 4 = .ok (.ifCond .eq 10, 3) := by decide +kernel
theorem dX9_point_7 : decode cX9_point 7 = .ok (.iload_n 2, 1) := by decide +kernel
theorem dX9_point_8 : decode cX9_point 8 = .ok (.invokestatic 129, 3) := by decide +kernel
theorem dX9_point_11 : decode cX9_point 11 = .ok (.ifCond .ne 5, 3) := by decide +kernel
theorem dX9_point_14 : decode cX9_point 14 = .ok (.iconst (-1), 1) := by decide +kernel
theorem dX9_point_15 : decode cX9_point 15 = .ok (.ireturn, 1) := by decide +kernel
theorem dX9_point_16 : decode cX9_point 16 = .ok (.aload_n 0, 1) := by decide +kernel
theorem dX9_point_17 : decode cX9_point 17 = .ok (.getfield 21, 3) := by decide +kernel
theorem dX9_point_20 : decode cX9_point 20 = .ok (.invokevirtual 120, 3) := by decide +kernel
theorem dX9_point_23 : decode cX9_point 23 = .ok (.aload_n 0, 1) := by decide +kernel
theorem dX9_point_24 : decode cX9_point 24 = .ok (.getfield 21, 3) := by decide +kernel
theorem dX9_point_27 : decode cX9_point 27 = .ok (.iload_n 2, 1) := by decide +kernel
theorem dX9_point_28 : decode cX9_point 28 = .ok (.invokevirtual 134, 3) := by decide +kernel
theorem dX9_point_31 : decode cX9_point 31 = .ok (.pop, 1) := by decide +kernel
theorem dX9_point_32 : decode cX9_point 32 = .ok (.iload_n 3, 1) := by decide +kernel
theorem dX9_point_33 : decode cX9_point 33 = .ok (.tableswitch 62 0 2 #[27, 36, 45], 27) := by decide +kernel
theorem dX9_point_60 : decode cX9_point 60 = .ok (.aload_n 0, 1) := by decide +kernel
theorem dX9_point_61 : decode cX9_point 61 = .ok (.getfield 21, 3) := by decide +kernel
theorem dX9_point_64 : decode cX9_point 64 = .ok (.iload_n 1, 1) := by decide +kernel
theorem dX9_point_65 : decode cX9_point 65 = .ok (.invokevirtual 149, 3) := by decide +kernel
theorem dX9_point_68 : decode cX9_point 68 = .ok (.ireturn, 1) := by decide +kernel
theorem dX9_point_69 : decode cX9_point 69 = .ok (.aload_n 0, 1) := by decide +kernel
theorem dX9_point_70 : decode cX9_point 70 = .ok (.getfield 12, 3) := by decide +kernel
theorem dX9_point_73 : decode cX9_point 73 = .ok (.iload_n 1, 1) := by decide +kernel
theorem dX9_point_74 : decode cX9_point 74 = .ok (.invokevirtual 152, 3) := by decide +kernel
theorem dX9_point_77 : decode cX9_point 77 = .ok (.ireturn, 1) := by decide +kernel
theorem dX9_point_78 : decode cX9_point 78 = .ok (.aload_n 0, 1) := by decide +kernel
theorem dX9_point_79 : decode cX9_point 79 = .ok (.getfield 12, 3) := by decide +kernel
theorem dX9_point_82 : decode cX9_point 82 = .ok (.iload_n 1, 1) := by decide +kernel
theorem dX9_point_83 : decode cX9_point 83 = .ok (.invokevirtual 152, 3) := by decide +kernel
theorem dX9_point_86 : decode cX9_point 86 = .ok (.aload_n 0, 1) := by decide +kernel
theorem dX9_point_87 : decode cX9_point 87 = .ok (.getfield 21, 3) := by decide +kernel
theorem dX9_point_90 : decode cX9_point 90 = .ok (.invokevirtual 155, 3) := by decide +kernel
theorem dX9_point_93 : decode cX9_point 93 = .ok (.iand, 1) := by decide +kernel
theorem dX9_point_94 : decode cX9_point 94 = .ok (.ireturn, 1) := by decide +kernel
theorem dX9_point_95 : decode cX9_point 95 = .ok (.bipush (-2), 2) := by decide +kernel
theorem dX9_point_97 : decode cX9_point 97 = .ok (.ireturn, 1) := by decide +kernel
theorem dX9_count_0 : decode cX9_count 0 = .ok (.iload_n 1, 1) := by decide +kernel
theorem dX9_count_1 : decode cX9_count 1 = .ok (.tableswitch 205 0 12 #[67, 75, 83, 91, 107, 115, 130, 145, 153, 165, 177, 189, 197], 67) := by decide +kernel
theorem dX9_count_68 : decode cX9_count 68 = .ok (.aload_n 0, 1) := by decide +kernel
theorem dX9_count_69 : decode cX9_count 69 = .ok (.getfield 12, 3) := by decide +kernel
theorem dX9_count_72 : decode cX9_count 72 = .ok (.getfield 159, 3) := by decide +kernel
theorem dX9_count_75 : decode cX9_count 75 = .ok (.ireturn, 1) := by decide +kernel
theorem dX9_count_76 : decode cX9_count 76 = .ok (.aload_n 0, 1) := by decide +kernel
theorem dX9_count_77 : decode cX9_count 77 = .ok (.getfield 12, 3) := by decide +kernel
theorem dX9_count_80 : decode cX9_count 80 = .ok (.getfield 162, 3) := by decide +kernel
theorem dX9_count_83 : decode cX9_count 83 = .ok (.ireturn, 1) := by decide +kernel
theorem dX9_count_84 : decode cX9_count 84 = .ok (.aload_n 0, 1) := by decide +kernel
theorem dX9_count_85 : decode cX9_count 85 = .ok (.getfield 12, 3) := by decide +kernel
theorem dX9_count_88 : decode cX9_count 88 = .ok (.getfield 165, 3) := by decide +kernel
theorem dX9_count_91 : decode cX9_count 91 = .ok (.ireturn, 1) := by decide +kernel
theorem dX9_count_92 : decode cX9_count 92 = .ok (.aload_n 0, 1) := by decide +kernel
theorem dX9_count_93 : decode cX9_count 93 = .ok (.getfield 12, 3) := by decide +kernel
theorem dX9_count_96 : decode cX9_count 96 = .ok (.invokevirtual 168, 3) := by decide +kernel
theorem dX9_count_99 : decode cX9_count 99 = .ok (.ifCond .eq 7, 3) := by decide +kernel
theorem dX9_count_102 : decode cX9_count 102 = .ok (.iconst 1, 1) := by decide +kernel
theorem dX9_count_103 : decode cX9_count 103 = .ok (.goto 4, 3) := by decide +kernel
theorem dX9_count_106 : decode cX9_count 106 = .ok (.iconst 0, 1) := by decide +kernel
theorem dX9_count_107 : decode cX9_count 107 = .ok (.ireturn, 1) := by decide +kernel
theorem dX9_count_108 : decode cX9_count 108 = .ok (.aload_n 0, 1) := by decide +kernel
theorem dX9_count_109 : decode cX9_count 109 = .ok (.getfield 12, 3) := by decide +kernel
theorem dX9_count_112 : decode cX9_count 112 = .ok (.getfield 172, 3) := by decide +kernel
theorem dX9_count_115 : decode cX9_count 115 = .ok (.ireturn, 1) := by decide +kernel
theorem dX9_count_116 : decode cX9_count 116 = .ok (.aload_n 0, 1) := by decide +kernel
theorem dX9_count_117 : decode cX9_count 117 = .ok (.getfield 21, 3) := by decide +kernel
theorem dX9_count_120 : decode cX9_count 120 = .ok (.invokevirtual 120, 3) := by decide +kernel
theorem dX9_count_123 : decode cX9_count 123 = .ok (.aload_n 0, 1) := by decide +kernel
theorem dX9_count_124 : decode cX9_count 124 = .ok (.getfield 21, 3) := by decide +kernel
theorem dX9_count_127 : decode cX9_count 127 = .ok (.invokevirtual 175, 3) := by decide +kernel
theorem dX9_count_130 : decode cX9_count 130 = .ok (.ireturn, 1) := by decide +kernel
theorem dX9_count_131 : decode cX9_count 131 = .ok (.aload_n 0, 1) := by decide +kernel
theorem dX9_count_132 : decode cX9_count 132 = .ok (.getfield 21, 3) := by decide +kernel
theorem dX9_count_135 : decode cX9_count 135 = .ok (.invokevirtual 120, 3) := by decide +kernel
theorem dX9_count_138 : decode cX9_count 138 = .ok (.aload_n 0, 1) := by decide +kernel
theorem dX9_count_139 : decode cX9_count 139 = .ok (.getfield 21, 3) := by decide +kernel
theorem dX9_count_142 : decode cX9_count 142 = .ok (.invokevirtual 178, 3) := by decide +kernel
theorem dX9_count_145 : decode cX9_count 145 = .ok (.ireturn, 1) := by decide +kernel
theorem dX9_count_146 : decode cX9_count 146 = .ok (.aload_n 0, 1) := by decide +kernel
theorem dX9_count_147 : decode cX9_count 147 = .ok (.getfield 12, 3) := by decide +kernel
theorem dX9_count_150 : decode cX9_count 150 = .ok (.invokevirtual 181, 3) := by decide +kernel
theorem dX9_count_153 : decode cX9_count 153 = .ok (.ireturn, 1) := by decide +kernel
theorem dX9_count_154 : decode cX9_count 154 = .ok (.aload_n 0, 1) := by decide +kernel
theorem dX9_count_155 : decode cX9_count 155 = .ok (.getfield 12, 3) := by decide +kernel
theorem dX9_count_158 : decode cX9_count 158 = .ok (.getfield 184, 3) := by decide +kernel
theorem dX9_count_161 : decode cX9_count 161 = .ok (.iconst 0, 1) := by decide +kernel
theorem dX9_count_162 : decode cX9_count 162 = .ok (.invokevirtual 106, 3) := by decide +kernel
theorem dX9_count_165 : decode cX9_count 165 = .ok (.ireturn, 1) := by decide +kernel
theorem dX9_count_166 : decode cX9_count 166 = .ok (.aload_n 0, 1) := by decide +kernel
theorem dX9_count_167 : decode cX9_count 167 = .ok (.getfield 12, 3) := by decide +kernel
theorem dX9_count_170 : decode cX9_count 170 = .ok (.getfield 184, 3) := by decide +kernel
theorem dX9_count_173 : decode cX9_count 173 = .ok (.iconst 1, 1) := by decide +kernel
theorem dX9_count_174 : decode cX9_count 174 = .ok (.invokevirtual 106, 3) := by decide +kernel
theorem dX9_count_177 : decode cX9_count 177 = .ok (.ireturn, 1) := by decide +kernel
theorem dX9_count_178 : decode cX9_count 178 = .ok (.aload_n 0, 1) := by decide +kernel
theorem dX9_count_179 : decode cX9_count 179 = .ok (.getfield 12, 3) := by decide +kernel
theorem dX9_count_182 : decode cX9_count 182 = .ok (.getfield 184, 3) := by decide +kernel
theorem dX9_count_185 : decode cX9_count 185 = .ok (.iconst 2, 1) := by decide +kernel
theorem dX9_count_186 : decode cX9_count 186 = .ok (.invokevirtual 106, 3) := by decide +kernel
theorem dX9_count_189 : decode cX9_count 189 = .ok (.ireturn, 1) := by decide +kernel
theorem dX9_count_190 : decode cX9_count 190 = .ok (.aload_n 0, 1) := by decide +kernel
theorem dX9_count_191 : decode cX9_count 191 = .ok (.getfield 35, 3) := by decide +kernel
theorem dX9_count_194 : decode cX9_count 194 = .ok (.invokevirtual 187, 3) := by decide +kernel
theorem dX9_count_197 : decode cX9_count 197 = .ok (.ireturn, 1) := by decide +kernel
theorem dX9_count_198 : decode cX9_count 198 = .ok (.aload_n 0, 1) := by decide +kernel
theorem dX9_count_199 : decode cX9_count 199 = .ok (.getfield 51, 3) := by decide +kernel
theorem dX9_count_202 : decode cX9_count 202 = .ok (.invokevirtual 190, 3) := by decide +kernel
theorem dX9_count_205 : decode cX9_count 205 = .ok (.ireturn, 1) := by decide +kernel
theorem dX9_count_206 : decode cX9_count 206 = .ok (.bipush (-2), 2) := by decide +kernel
theorem dX9_count_208 : decode cX9_count 208 = .ok (.ireturn, 1) := by decide +kernel
theorem dX9_in_0 : decode cX9_in 0 = .ok (.iload_n 1, 1) := by decide +kernel
theorem dX9_in_1 : decode cX9_in 1 = .ok (.iload_n 2, 1) := by decide +kernel
theorem dX9_in_2 : decode cX9_in 2 = .ok (.invokestatic 193, 3) := by decide +kernel
theorem dX9_in_5 : decode cX9_in 5 = .ok (.ifCond .eq 15, 3) := by decide +kernel
theorem dX9_in_8 : decode cX9_in 8 = .ok (.aload_n 0, 1) := by decide +kernel
theorem dX9_in_9 : decode cX9_in 9 = .ok (.getfield 12, 3) := by decide +kernel
theorem dX9_in_12 : decode cX9_in 12 = .ok (.iload_n 1, 1) := by decide +kernel
theorem dX9_in_13 : decode cX9_in 13 = .ok (.iload_n 2, 1) := by decide +kernel
theorem dX9_in_14 : decode cX9_in 14 = .ok (.invokevirtual 197, 3) := by decide +kernel
theorem dX9_in_17 : decode cX9_in 17 = .ok (.goto 4, 3) := by decide +kernel
theorem dX9_in_20 : decode cX9_in 20 = .ok (.iconst (-1), 1) := by decide +kernel
theorem dX9_in_21 : decode cX9_in 21 = .ok (.ireturn, 1) := by decide +kernel
theorem dX9_worthLeast_0 : decode cX9_worthLeast 0 = .ok (.iload_n 1, 1) := by decide +kernel
theorem dX9_worthLeast_1 : decode cX9_worthLeast 1 = .ok (.invokestatic 200, 3) := by decide +kernel
theorem dX9_worthLeast_4 : decode cX9_worthLeast 4 = .ok (.ifCond .eq 14, 3) := by decide +kernel
theorem dX9_worthLeast_7 : decode cX9_worthLeast 7 = .ok (.aload_n 0, 1) := by decide +kernel
theorem dX9_worthLeast_8 : decode cX9_worthLeast 8 = .ok (.getfield 28, 3) := by decide +kernel
theorem dX9_worthLeast_11 : decode cX9_worthLeast 11 = .ok (.iload_n 1, 1) := by decide +kernel
theorem dX9_worthLeast_12 : decode cX9_worthLeast 12 = .ok (.invokevirtual 203, 3) := by decide +kernel
theorem dX9_worthLeast_15 : decode cX9_worthLeast 15 = .ok (.goto 5, 3) := by decide +kernel
theorem dX9_worthLeast_18 : decode cX9_worthLeast 18 = .ok (.bipush (-2), 2) := by decide +kernel
theorem dX9_worthLeast_20 : decode cX9_worthLeast 20 = .ok (.ireturn, 1) := by decide +kernel
theorem dX9_bestColumn_0 : decode cX9_bestColumn 0 = .ok (.iload_n 1, 1) := by decide +kernel
theorem dX9_bestColumn_1 : decode cX9_bestColumn 1 = .ok (.iconst 0, 1) := by decide +kernel
theorem dX9_bestColumn_2 : decode cX9_bestColumn 2 = .ok (.invokestatic 193, 3) := by decide +kernel
theorem dX9_bestColumn_5 : decode cX9_bestColumn 5 = .ok (.ifCond .eq 17, 3) := by decide +kernel
theorem dX9_bestColumn_8 : decode cX9_bestColumn 8 = .ok (.iload_n 2, 1) := by decide +kernel
theorem dX9_bestColumn_9 : decode cX9_bestColumn 9 = .ok (.invokestatic 146, 3) := by decide +kernel
theorem dX9_bestColumn_12 : decode cX9_bestColumn 12 = .ok (.ifCond .eq 10, 3) := by decide +kernel
theorem dX9_bestColumn_15 : decode cX9_bestColumn 15 = .ok (.iload_n 3, 1) := by decide +kernel
theorem dX9_bestColumn_16 : decode cX9_bestColumn 16 = .ok (.invokestatic 200, 3) := by decide +kernel
theorem dX9_bestColumn_19 : decode cX9_bestColumn 19 = .ok (.ifCond .ne 6, 3) := by decide +kernel
theorem dX9_bestColumn_22 : decode cX9_bestColumn 22 = .ok (.bipush (-2), 2) := by decide +kernel
theorem dX9_bestColumn_24 : decode cX9_bestColumn 24 = .ok (.ireturn, 1) := by decide +kernel
theorem dX9_bestColumn_25 : decode cX9_bestColumn 25 = .ok (.aload_n 0, 1) := by decide +kernel
theorem dX9_bestColumn_26 : decode cX9_bestColumn 26 = .ok (.getfield 28, 3) := by decide +kernel
theorem dX9_bestColumn_29 : decode cX9_bestColumn 29 = .ok (.iload_n 1, 1) := by decide +kernel
theorem dX9_bestColumn_30 : decode cX9_bestColumn 30 = .ok (.iload_n 2, 1) := by decide +kernel
theorem dX9_bestColumn_31 : decode cX9_bestColumn 31 = .ok (.iload_n 3, 1) := by decide +kernel
theorem dX9_bestColumn_32 : decode cX9_bestColumn 32 = .ok (.invokevirtual 206, 3) := by decide +kernel
theorem dX9_bestColumn_35 : decode cX9_bestColumn 35 = .ok (.ireturn, 1) := by decide +kernel
theorem dX9_toWash_0 : decode cX9_toWash 0 = .ok (.aload_n 0, 1) := by decide +kernel
theorem dX9_toWash_1 : decode cX9_toWash 1 = .ok (.getfield 28, 3) := by decide +kernel
theorem dX9_toWash_4 : decode cX9_toWash 4 = .ok (.invokevirtual 209, 3) := by decide +kernel
theorem dX9_toWash_7 : decode cX9_toWash 7 = .ok (.ireturn, 1) := by decide +kernel
theorem dX9_leastLimit_0 : decode cX9_leastLimit 0 = .ok (.aload_n 0, 1) := by decide +kernel
theorem dX9_leastLimit_1 : decode cX9_leastLimit 1 = .ok (.getfield 28, 3) := by decide +kernel
theorem dX9_leastLimit_4 : decode cX9_leastLimit 4 = .ok (.invokevirtual 212, 3) := by decide +kernel
theorem dX9_leastLimit_7 : decode cX9_leastLimit 7 = .ok (.ireturn, 1) := by decide +kernel
theorem dX9_undo_0 : decode cX9_undo 0 = .ok (.aload_n 0, 1) := by decide +kernel
theorem dX9_undo_1 : decode cX9_undo 1 = .ok (.getfield 51, 3) := by decide +kernel
theorem dX9_undo_4 : decode cX9_undo 4 = .ok (.aload_n 0, 1) := by decide +kernel
theorem dX9_undo_5 : decode cX9_undo 5 = .ok (.getfield 12, 3) := by decide +kernel
theorem dX9_undo_8 : decode cX9_undo 8 = .ok (.invokevirtual 230, 3) := by decide +kernel
theorem dX9_undo_11 : decode cX9_undo 11 = .ok (.ifCond .eq 13, 3) := by decide +kernel
theorem dX9_undo_14 : decode cX9_undo 14 = .ok (.aload_n 0, 1) := by decide +kernel
theorem dX9_undo_15 : decode cX9_undo 15 = .ok (.getfield 51, 3) := by decide +kernel
theorem dX9_undo_18 : decode cX9_undo 18 = .ok (.invokevirtual 190, 3) := by decide +kernel
theorem dX9_undo_21 : decode cX9_undo 21 = .ok (.goto 5, 3) := by decide +kernel
theorem dX9_undo_24 : decode cX9_undo 24 = .ok (.bipush (-5), 2) := by decide +kernel
theorem dX9_undo_26 : decode cX9_undo 26 = .ok (.ireturn, 1) := by decide +kernel
theorem dX9_recorded_0 : decode cX9_recorded 0 = .ok (.iload_n 1, 1) := by decide +kernel
theorem dX9_recorded_1 : decode cX9_recorded 1 = .ok (.ifCond .lt 10, 3) := by decide +kernel
theorem dX9_recorded_4 : decode cX9_recorded 4 = .ok (.aload_n 0, 1) := by decide +kernel
theorem dX9_recorded_5 : decode cX9_recorded 5 = .ok (.getfield 51, 3) := by decide +kernel
theorem dX9_recorded_8 : decode cX9_recorded 8 = .ok (.invokevirtual 244, 3) := by decide +kernel
theorem dX9_recorded_11 : decode cX9_recorded 11 = .ok (.iload_n 1, 1) := by decide +kernel
theorem dX9_recorded_12 : decode cX9_recorded 12 = .ok (.ireturn, 1) := by decide +kernel
theorem dX9_isPlace_0 : decode cX9_isPlace 0 = .ok (.iload_n 0, 1) := by decide +kernel
theorem dX9_isPlace_1 : decode cX9_isPlace 1 = .ok (.ifCond .lt 23, 3) := by decide +kernel
theorem dX9_isPlace_4 : decode cX9_isPlace 4 = .ok (.iload_n 0, 1) := by decide +kernel
theorem dX9_isPlace_5 : decode cX9_isPlace 5 = .ok (.bipush 20, 2) := by decide +kernel
theorem dX9_isPlace_7 : decode cX9_isPlace 7 = .ok (.if_icmp .ge 17, 3) := by decide +kernel
theorem dX9_isPlace_10 : decode cX9_isPlace 10 = .ok (.iload_n 1, 1) := by decide +kernel
theorem dX9_isPlace_11 : decode cX9_isPlace 11 = .ok (.ifCond .lt 13, 3) := by decide +kernel
theorem dX9_isPlace_14 : decode cX9_isPlace 14 = .ok (.iload_n 1, 1) := by decide +kernel
theorem dX9_isPlace_15 : decode cX9_isPlace 15 = .ok (.bipush 20, 2) := by decide +kernel
theorem dX9_isPlace_17 : decode cX9_isPlace 17 = .ok (.if_icmp .ge 7, 3) := by decide +kernel
theorem dX9_isPlace_20 : decode cX9_isPlace 20 = .ok (.iconst 1, 1) := by decide +kernel
theorem dX9_isPlace_21 : decode cX9_isPlace 21 = .ok (.goto 4, 3) := by decide +kernel
theorem dX9_isPlace_24 : decode cX9_isPlace 24 = .ok (.iconst 0, 1) := by decide +kernel
theorem dX9_isPlace_25 : decode cX9_isPlace 25 = .ok (.ireturn, 1) := by decide +kernel
theorem dX9_isAimPoint_0 : decode cX9_isAimPoint 0 = .ok (.iload_n 0, 1) := by decide +kernel
theorem dX9_isAimPoint_1 : decode cX9_isAimPoint 1 = .ok (.ifCond .lt 12, 3) := by decide +kernel
theorem dX9_isAimPoint_4 : decode cX9_isAimPoint 4 = .ok (.iload_n 0, 1) := by decide +kernel
theorem dX9_isAimPoint_5 : decode cX9_isAimPoint 5 = .ok (.iconst 4, 1) := by decide +kernel
theorem dX9_isAimPoint_6 : decode cX9_isAimPoint 6 = .ok (.if_icmp .ge 7, 3) := by decide +kernel
theorem dX9_isAimPoint_9 : decode cX9_isAimPoint 9 = .ok (.iconst 1, 1) := by decide +kernel
theorem dX9_isAimPoint_10 : decode cX9_isAimPoint 10 = .ok (.goto 4, 3) := by decide +kernel
theorem dX9_isAimPoint_13 : decode cX9_isAimPoint 13 = .ok (.iconst 0, 1) := by decide +kernel
theorem dX9_isAimPoint_14 : decode cX9_isAimPoint 14 = .ok (.ireturn, 1) := by decide +kernel
theorem dX9_isChoice_0 : decode cX9_isChoice 0 = .ok (.iload_n 0, 1) := by decide +kernel
theorem dX9_isChoice_1 : decode cX9_isChoice 1 = .ok (.ifCond .eq 8, 3) := by decide +kernel
theorem dX9_isChoice_4 : decode cX9_isChoice 4 = .ok (.iload_n 0, 1) := by decide +kernel
theorem dX9_isChoice_5 : decode cX9_isChoice 5 = .ok (.iconst 1, 1) := by decide +kernel
theorem dX9_isChoice_6 : decode cX9_isChoice 6 = .ok (.if_icmp .ne 7, 3) := by decide +kernel
theorem dX9_isChoice_9 : decode cX9_isChoice 9 = .ok (.iconst 1, 1) := by decide +kernel
theorem dX9_isChoice_10 : decode cX9_isChoice 10 = .ok (.goto 4, 3) := by decide +kernel
theorem dX9_isChoice_13 : decode cX9_isChoice 13 = .ok (.iconst 0, 1) := by decide +kernel
theorem dX9_isChoice_14 : decode cX9_isChoice 14 = .ok (.ireturn, 1) := by decide +kernel
theorem dJ9_abs_0f7a4_0 : decode cJ9_abs_0f7a4 0 = .ok (.iload_n 0, 1) := by decide +kernel
theorem dJ9_abs_0f7a4_1 : decode cJ9_abs_0f7a4 1 = .ok (.ifCond .ge 8, 3) := by decide +kernel
theorem dJ9_abs_0f7a4_4 : decode cJ9_abs_0f7a4 4 = .ok (.iload_n 0, 1) := by decide +kernel
theorem dJ9_abs_0f7a4_5 : decode cJ9_abs_0f7a4 5 = .ok (.ineg, 1) := by decide +kernel
theorem dJ9_abs_0f7a4_6 : decode cJ9_abs_0f7a4 6 = .ok (.goto 4, 3) := by decide +kernel
theorem dJ9_abs_0f7a4_9 : decode cJ9_abs_0f7a4 9 = .ok (.iload_n 0, 1) := by decide +kernel
theorem dJ9_abs_0f7a4_10 : decode cJ9_abs_0f7a4 10 = .ok (.ireturn, 1) := by decide +kernel
theorem dJ9_max_7cf53_0 : decode cJ9_max_7cf53 0 = .ok (.iload_n 0, 1) := by decide +kernel
theorem dJ9_max_7cf53_1 : decode cJ9_max_7cf53 1 = .ok (.iload_n 1, 1) := by decide +kernel
theorem dJ9_max_7cf53_2 : decode cJ9_max_7cf53 2 = .ok (.if_icmp .lt 7, 3) := by decide +kernel
theorem dJ9_max_7cf53_5 : decode cJ9_max_7cf53 5 = .ok (.iload_n 0, 1) := by decide +kernel
theorem dJ9_max_7cf53_6 : decode cJ9_max_7cf53 6 = .ok (.goto 4, 3) := by decide +kernel
theorem dJ9_max_7cf53_9 : decode cJ9_max_7cf53 9 = .ok (.iload_n 1, 1) := by decide +kernel
theorem dJ9_max_7cf53_10 : decode cJ9_max_7cf53 10 = .ok (.ireturn, 1) := by decide +kernel
theorem dJ9_min_7cf53_0 : decode cJ9_min_7cf53 0 = .ok (.iload_n 0, 1) := by decide +kernel
theorem dJ9_min_7cf53_1 : decode cJ9_min_7cf53 1 = .ok (.iload_n 1, 1) := by decide +kernel
theorem dJ9_min_7cf53_2 : decode cJ9_min_7cf53 2 = .ok (.if_icmp .gt 7, 3) := by decide +kernel
theorem dJ9_min_7cf53_5 : decode cJ9_min_7cf53 5 = .ok (.iload_n 0, 1) := by decide +kernel
theorem dJ9_min_7cf53_6 : decode cJ9_min_7cf53 6 = .ok (.goto 4, 3) := by decide +kernel
theorem dJ9_min_7cf53_9 : decode cJ9_min_7cf53 9 = .ok (.iload_n 1, 1) := by decide +kernel
theorem dJ9_min_7cf53_10 : decode cJ9_min_7cf53 10 = .ok (.ireturn, 1) := by decide +kernel
theorem dJ7_fill_53178_0 : decode cJ7_fill_53178 0 = .ok (.iconst 0, 1) := by decide +kernel
theorem dJ7_fill_53178_1 : decode cJ7_fill_53178 1 = .ok (.istore_n 2, 1) := by decide +kernel
theorem dJ7_fill_53178_2 : decode cJ7_fill_53178 2 = .ok (.aload_n 0, 1) := by decide +kernel
theorem dJ7_fill_53178_3 : decode cJ7_fill_53178 3 = .ok (.arraylength, 1) := by decide +kernel
theorem dJ7_fill_53178_4 : decode cJ7_fill_53178 4 = .ok (.istore_n 3, 1) := by decide +kernel
theorem dJ7_fill_53178_5 : decode cJ7_fill_53178 5 = .ok (.iload_n 2, 1) := by decide +kernel
theorem dJ7_fill_53178_6 : decode cJ7_fill_53178 6 = .ok (.iload_n 3, 1) := by decide +kernel
theorem dJ7_fill_53178_7 : decode cJ7_fill_53178 7 = .ok (.if_icmp .ge 13, 3) := by decide +kernel
theorem dJ7_fill_53178_10 : decode cJ7_fill_53178 10 = .ok (.aload_n 0, 1) := by decide +kernel
theorem dJ7_fill_53178_11 : decode cJ7_fill_53178 11 = .ok (.iload_n 2, 1) := by decide +kernel
theorem dJ7_fill_53178_12 : decode cJ7_fill_53178 12 = .ok (.iload_n 1, 1) := by decide +kernel
theorem dJ7_fill_53178_13 : decode cJ7_fill_53178 13 = .ok (.iastore, 1) := by decide +kernel
theorem dJ7_fill_53178_14 : decode cJ7_fill_53178 14 = .ok (.iinc 2 1, 3) := by decide +kernel
theorem dJ7_fill_53178_17 : decode cJ7_fill_53178 17 = .ok (.goto (-12), 3) := by decide +kernel
theorem dJ7_fill_53178_20 : decode cJ7_fill_53178 20 = .ok (.return_, 1) := by decide +kernel
theorem dL_cell_0 : decode cL_cell 0 = .ok (.iload_n 1, 1) := by decide +kernel
theorem dL_cell_1 : decode cL_cell 1 = .ok (.aload_n 0, 1) := by decide +kernel
theorem dL_cell_2 : decode cL_cell 2 = .ok (.arraylength, 1) := by decide +kernel
theorem dL_cell_3 : decode cL_cell 3 = .ok (.if_icmp .ge 9, 3) := by decide +kernel
theorem dL_cell_6 : decode cL_cell 6 = .ok (.aload_n 0, 1) := by decide +kernel
theorem dL_cell_7 : decode cL_cell 7 = .ok (.iload_n 1, 1) := by decide +kernel
theorem dL_cell_8 : decode cL_cell 8 = .ok (.iaload, 1) := by decide +kernel
theorem dL_cell_9 : decode cL_cell 9 = .ok (.goto 11, 3) := by decide +kernel
theorem dL_cell_12 : decode cL_cell 12 = .ok (.ldc 7, 2) := by decide +kernel
theorem dL_cell_14 : decode cL_cell 14 = .ok (.iload_n 1, 1) := by decide +kernel
theorem dL_cell_15 : decode cL_cell 15 = .ok (.sipush 1129, 3) := by decide +kernel
theorem dL_cell_18 : decode cL_cell 18 = .ok (.iadd, 1) := by decide +kernel
theorem dL_cell_19 : decode cL_cell 19 = .ok (.imul, 1) := by decide +kernel
theorem dL_cell_20 : decode cL_cell 20 = .ok (.ireturn, 1) := by decide +kernel
theorem dL_up_0 : decode cL_up 0 = .ok (.iload_n 0, 1) := by decide +kernel
theorem dL_up_1 : decode cL_up 1 = .ok (.ldc 8, 2) := by decide +kernel
theorem dL_up_3 : decode cL_up 3 = .ok (.iand, 1) := by decide +kernel
theorem dL_up_4 : decode cL_up 4 = .ok (.iload_n 1, 1) := by decide +kernel
theorem dL_up_5 : decode cL_up 5 = .ok (.irem, 1) := by decide +kernel
theorem dL_up_6 : decode cL_up 6 = .ok (.ireturn, 1) := by decide +kernel
theorem dL_isStep_0 : decode cL_isStep 0 = .ok (.iload_n 2, 1) := by decide +kernel
theorem dL_isStep_1 : decode cL_isStep 1 = .ok (.iconst 4, 1) := by decide +kernel
theorem dL_isStep_2 : decode cL_isStep 2 = .ok (.ishr, 1) := by decide +kernel
theorem dL_isStep_3 : decode cL_isStep 3 = .ok (.istore 4, 2) := by decide +kernel
theorem dL_isStep_5 : decode cL_isStep 5 = .ok (.aload_n 0, 1) := by decide +kernel
theorem dL_isStep_6 : decode cL_isStep 6 = .ok (.iconst 1, 1) := by decide +kernel
theorem dL_isStep_7 : decode cL_isStep 7 = .ok (.invokevirtual 9, 3) := by decide +kernel
theorem dL_isStep_10 : decode cL_isStep 10 = .ok (.istore 5, 2) := by decide +kernel
theorem dL_isStep_12 : decode cL_isStep 12 = .ok (.iload 4, 2) := by decide +kernel
theorem dL_isStep_14 : decode cL_isStep 14 = .ok (.iload 5, 2) := by decide +kernel
theorem dL_isStep_16 : decode cL_isStep 16 = .ok (.iconst 1, 1) := by decide +kernel
theorem dL_isStep_17 : decode cL_isStep 17 = .ok (.iadd, 1) := by decide +kernel
theorem dL_isStep_18 : decode cL_isStep 18 = .ok (.invokestatic 15, 3) := by decide +kernel
theorem dL_isStep_21 : decode cL_isStep 21 = .ok (.istore 6, 2) := by decide +kernel
theorem dL_isStep_23 : decode cL_isStep 23 = .ok (.aload_n 0, 1) := by decide +kernel
theorem dL_isStep_24 : decode cL_isStep 24 = .ok (.iconst 5, 1) := by decide +kernel
theorem dL_isStep_25 : decode cL_isStep 25 = .ok (.invokevirtual 9, 3) := by decide +kernel
theorem dL_isStep_28 : decode cL_isStep 28 = .ok (.istore 7, 2) := by decide +kernel
theorem dL_isStep_30 : decode cL_isStep 30 = .ok (.iload_n 2, 1) := by decide +kernel
theorem dL_isStep_31 : decode cL_isStep 31 = .ok (.bipush 14, 2) := by decide +kernel
theorem dL_isStep_33 : decode cL_isStep 33 = .ok (.invokestatic 15, 3) := by decide +kernel
theorem dL_isStep_36 : decode cL_isStep 36 = .ok (.tableswitch 719 0 12 #[68, 68, 68, 68, 247, 302, 384, 436, 517, 517, 607, 607, 693], 68) := by decide +kernel
theorem dL_isStep_104 : decode cL_isStep 104 = .ok (.iload_n 3, 1) := by decide +kernel
theorem dL_isStep_105 : decode cL_isStep 105 = .ok (.iload 4, 2) := by decide +kernel
theorem dL_isStep_107 : decode cL_isStep 107 = .ok (.iconst 2, 1) := by decide +kernel
theorem dL_isStep_108 : decode cL_isStep 108 = .ok (.invokestatic 15, 3) := by decide +kernel
theorem dL_isStep_111 : decode cL_isStep 111 = .ok (.ifCond .ne 8, 3) := by decide +kernel
theorem dL_isStep_114 : decode cL_isStep 114 = .ok (.bipush 20, 2) := by decide +kernel
theorem dL_isStep_116 : decode cL_isStep 116 = .ok (.goto 5, 3) := by decide +kernel
theorem dL_isStep_119 : decode cL_isStep 119 = .ok (.bipush 7, 2) := by decide +kernel
theorem dL_isStep_121 : decode cL_isStep 121 = .ok (.invokestatic 15, 3) := by decide +kernel
theorem dL_isStep_124 : decode cL_isStep 124 = .ok (.istore 8, 2) := by decide +kernel
theorem dL_isStep_126 : decode cL_isStep 126 = .ok (.iload 4, 2) := by decide +kernel
theorem dL_isStep_128 : decode cL_isStep 128 = .ok (.iconst 2, 1) := by decide +kernel
theorem dL_isStep_129 : decode cL_isStep 129 = .ok (.invokestatic 15, 3) := by decide +kernel
theorem dL_isStep_132 : decode cL_isStep 132 = .ok (.ifCond .ne 16, 3) := by decide +kernel
theorem dL_isStep_135 : decode cL_isStep 135 = .ok (.iconst 1, 1) := by decide +kernel
theorem dL_isStep_136 : decode cL_isStep 136 = .ok (.iload_n 3, 1) := by decide +kernel
theorem dL_isStep_137 : decode cL_isStep 137 = .ok (.iconst 5, 1) := by decide +kernel
theorem dL_isStep_138 : decode cL_isStep 138 = .ok (.ishr, 1) := by decide +kernel
theorem dL_isStep_139 : decode cL_isStep 139 = .ok (.bipush 19, 2) := by decide +kernel
theorem dL_isStep_141 : decode cL_isStep 141 = .ok (.invokestatic 15, 3) := by decide +kernel
theorem dL_isStep_144 : decode cL_isStep 144 = .ok (.iadd, 1) := by decide +kernel
theorem dL_isStep_145 : decode cL_isStep 145 = .ok (.goto 13, 3) := by decide +kernel
theorem dL_isStep_148 : decode cL_isStep 148 = .ok (.bipush 8, 2) := by decide +kernel
theorem dL_isStep_150 : decode cL_isStep 150 = .ok (.iload_n 3, 1) := by decide +kernel
theorem dL_isStep_151 : decode cL_isStep 151 = .ok (.iconst 5, 1) := by decide +kernel
theorem dL_isStep_152 : decode cL_isStep 152 = .ok (.ishr, 1) := by decide +kernel
theorem dL_isStep_153 : decode cL_isStep 153 = .ok (.iconst 5, 1) := by decide +kernel
theorem dL_isStep_154 : decode cL_isStep 154 = .ok (.invokestatic 15, 3) := by decide +kernel
theorem dL_isStep_157 : decode cL_isStep 157 = .ok (.iadd, 1) := by decide +kernel
theorem dL_isStep_158 : decode cL_isStep 158 = .ok (.istore 9, 2) := by decide +kernel
theorem dL_isStep_160 : decode cL_isStep 160 = .ok (.iload_n 3, 1) := by decide +kernel
theorem dL_isStep_161 : decode cL_isStep 161 = .ok (.bipush 9, 2) := by decide +kernel
theorem dL_isStep_163 : decode cL_isStep 163 = .ok (.ishr, 1) := by decide +kernel
theorem dL_isStep_164 : decode cL_isStep 164 = .ok (.iconst 4, 1) := by decide +kernel
theorem dL_isStep_165 : decode cL_isStep 165 = .ok (.invokestatic 15, 3) := by decide +kernel
theorem dL_isStep_168 : decode cL_isStep 168 = .ok (.istore 10, 2) := by decide +kernel
theorem dL_isStep_170 : decode cL_isStep 170 = .ok (.aload_n 0, 1) := by decide +kernel
theorem dL_isStep_171 : decode cL_isStep 171 = .ok (.iload 8, 2) := by decide +kernel
theorem dL_isStep_173 : decode cL_isStep 173 = .ok (.iload 9, 2) := by decide +kernel
theorem dL_isStep_175 : decode cL_isStep 175 = .ok (.invokevirtual 21, 3) := by decide +kernel
theorem dL_isStep_178 : decode cL_isStep 178 = .ok (.istore 11, 2) := by decide +kernel
theorem dL_isStep_180 : decode cL_isStep 180 = .ok (.aload_n 0, 1) := by decide +kernel
theorem dL_isStep_181 : decode cL_isStep 181 = .ok (.iload 8, 2) := by decide +kernel
theorem dL_isStep_183 : decode cL_isStep 183 = .ok (.iload 9, 2) := by decide +kernel
theorem dL_isStep_185 : decode cL_isStep 185 = .ok (.iload 10, 2) := by decide +kernel
theorem dL_isStep_187 : decode cL_isStep 187 = .ok (.invokevirtual 24, 3) := by decide +kernel
theorem dL_isStep_190 : decode cL_isStep 190 = .ok (.istore 12, 2) := by decide +kernel
theorem dL_isStep_192 : decode cL_isStep 192 = .ok (.iload 12, 2) := by decide +kernel
theorem dL_isStep_194 : decode cL_isStep 194 = .ok (.aload_n 1, 1) := by decide +kernel
theorem dL_isStep_195 : decode cL_isStep 195 = .ok (.iload 8, 2) := by decide +kernel
theorem dL_isStep_197 : decode cL_isStep 197 = .ok (.bipush 20, 2) := by decide +kernel
theorem dL_isStep_199 : decode cL_isStep 199 = .ok (.iload 9, 2) := by decide +kernel
theorem dL_isStep_201 : decode cL_isStep 201 = .ok (.isub, 1) := by decide +kernel
theorem dL_isStep_202 : decode cL_isStep 202 = .ok (.iload 10, 2) := by decide +kernel
theorem dL_isStep_204 : decode cL_isStep 204 = .ok (.invokevirtual 24, 3) := by decide +kernel
theorem dL_isStep_207 : decode cL_isStep 207 = .ok (.if_icmp .ne 74, 3) := by decide +kernel
theorem dL_isStep_210 : decode cL_isStep 210 = .ok (.iload 12, 2) := by decide +kernel
theorem dL_isStep_212 : decode cL_isStep 212 = .ok (.iload 11, 2) := by decide +kernel
theorem dL_isStep_214 : decode cL_isStep 214 = .ok (.ifCond .lt 8, 3) := by decide +kernel
theorem dL_isStep_217 : decode cL_isStep 217 = .ok (.bipush (-5), 2) := by decide +kernel
theorem dL_isStep_219 : decode cL_isStep 219 = .ok (.goto 17, 3) := by decide +kernel
theorem dL_isStep_222 : decode cL_isStep 222 = .ok (.iload 5, 2) := by decide +kernel
theorem dL_isStep_224 : decode cL_isStep 224 = .ok (.bipush 24, 2) := by decide +kernel
theorem dL_isStep_226 : decode cL_isStep 226 = .ok (.if_icmp .ne 8, 3) := by decide +kernel
theorem dL_isStep_229 : decode cL_isStep 229 = .ok (.bipush (-4), 2) := by decide +kernel
theorem dL_isStep_231 : decode cL_isStep 231 = .ok (.goto 5, 3) := by decide +kernel
theorem dL_isStep_234 : decode cL_isStep 234 = .ok (.iload 5, 2) := by decide +kernel
theorem dL_isStep_236 : decode cL_isStep 236 = .ok (.if_icmp .ne 45, 3) := by decide +kernel
theorem dL_isStep_239 : decode cL_isStep 239 = .ok (.iload 12, 2) := by decide +kernel
theorem dL_isStep_241 : decode cL_isStep 241 = .ok (.ifCond .lt 36, 3) := by decide +kernel
theorem dL_isStep_244 : decode cL_isStep 244 = .ok (.aload_n 0, 1) := by decide +kernel
theorem dL_isStep_245 : decode cL_isStep 245 = .ok (.iload 8, 2) := by decide +kernel
theorem dL_isStep_247 : decode cL_isStep 247 = .ok (.iload 9, 2) := by decide +kernel
theorem dL_isStep_249 : decode cL_isStep 249 = .ok (.invokevirtual 21, 3) := by decide +kernel
theorem dL_isStep_252 : decode cL_isStep 252 = .ok (.iload 5, 2) := by decide +kernel
theorem dL_isStep_254 : decode cL_isStep 254 = .ok (.if_icmp .ne 27, 3) := by decide +kernel
theorem dL_isStep_257 : decode cL_isStep 257 = .ok (.aload_n 0, 1) := by decide +kernel
theorem dL_isStep_258 : decode cL_isStep 258 = .ok (.iload 5, 2) := by decide +kernel
theorem dL_isStep_260 : decode cL_isStep 260 = .ok (.iconst 3, 1) := by decide +kernel
theorem dL_isStep_261 : decode cL_isStep 261 = .ok (.invokevirtual 28, 3) := by decide +kernel
theorem dL_isStep_264 : decode cL_isStep 264 = .ok (.ifCond .ne 17, 3) := by decide +kernel
theorem dL_isStep_267 : decode cL_isStep 267 = .ok (.aload_n 0, 1) := by decide +kernel
theorem dL_isStep_268 : decode cL_isStep 268 = .ok (.iload 5, 2) := by decide +kernel
theorem dL_isStep_270 : decode cL_isStep 270 = .ok (.iconst 5, 1) := by decide +kernel
theorem dL_isStep_271 : decode cL_isStep 271 = .ok (.invokevirtual 28, 3) := by decide +kernel
theorem dL_isStep_274 : decode cL_isStep 274 = .ok (.ifCond .ne 7, 3) := by decide +kernel
theorem dL_isStep_277 : decode cL_isStep 277 = .ok (.iconst 1, 1) := by decide +kernel
theorem dL_isStep_278 : decode cL_isStep 278 = .ok (.goto 4, 3) := by decide +kernel
theorem dL_isStep_281 : decode cL_isStep 281 = .ok (.iconst 0, 1) := by decide +kernel
theorem dL_isStep_282 : decode cL_isStep 282 = .ok (.ireturn, 1) := by decide +kernel
theorem dL_isStep_283 : decode cL_isStep 283 = .ok (.iload_n 3, 1) := by decide +kernel
theorem dL_isStep_284 : decode cL_isStep 284 = .ok (.iconst 3, 1) := by decide +kernel
theorem dL_isStep_285 : decode cL_isStep 285 = .ok (.invokestatic 15, 3) := by decide +kernel
theorem dL_isStep_288 : decode cL_isStep 288 = .ok (.ifCond .le 5, 3) := by decide +kernel
theorem dL_isStep_291 : decode cL_isStep 291 = .ok (.iconst 1, 1) := by decide +kernel
theorem dL_isStep_292 : decode cL_isStep 292 = .ok (.ireturn, 1) := by decide +kernel
theorem dL_isStep_293 : decode cL_isStep 293 = .ok (.aload_n 0, 1) := by decide +kernel
theorem dL_isStep_294 : decode cL_isStep 294 = .ok (.iload 6, 2) := by decide +kernel
theorem dL_isStep_296 : decode cL_isStep 296 = .ok (.invokevirtual 31, 3) := by decide +kernel
theorem dL_isStep_299 : decode cL_isStep 299 = .ok (.istore 8, 2) := by decide +kernel
theorem dL_isStep_301 : decode cL_isStep 301 = .ok (.iload 8, 2) := by decide +kernel
theorem dL_isStep_303 : decode cL_isStep 303 = .ok (.aload_n 1, 1) := by decide +kernel
theorem dL_isStep_304 : decode cL_isStep 304 = .ok (.iload 6, 2) := by decide +kernel
theorem dL_isStep_306 : decode cL_isStep 306 = .ok (.invokevirtual 31, 3) := by decide +kernel
theorem dL_isStep_309 : decode cL_isStep 309 = .ok (.if_icmp .ne 27, 3) := by decide +kernel
theorem dL_isStep_312 : decode cL_isStep 312 = .ok (.iload 8, 2) := by decide +kernel
theorem dL_isStep_314 : decode cL_isStep 314 = .ok (.iload 6, 2) := by decide +kernel
theorem dL_isStep_316 : decode cL_isStep 316 = .ok (.iload 5, 2) := by decide +kernel
theorem dL_isStep_318 : decode cL_isStep 318 = .ok (.if_icmp .ne 7, 3) := by decide +kernel
theorem dL_isStep_321 : decode cL_isStep 321 = .ok (.iconst (-1), 1) := by decide +kernel
theorem dL_isStep_322 : decode cL_isStep 322 = .ok (.goto 7, 3) := by decide +kernel
theorem dL_isStep_325 : decode cL_isStep 325 = .ok (.iload 5, 2) := by decide +kernel
theorem dL_isStep_327 : decode cL_isStep 327 = .ok (.iconst 1, 1) := by decide +kernel
theorem dL_isStep_328 : decode cL_isStep 328 = .ok (.isub, 1) := by decide +kernel
theorem dL_isStep_329 : decode cL_isStep 329 = .ok (.if_icmp .ne 7, 3) := by decide +kernel
theorem dL_isStep_332 : decode cL_isStep 332 = .ok (.iconst 1, 1) := by decide +kernel
theorem dL_isStep_333 : decode cL_isStep 333 = .ok (.goto 4, 3) := by decide +kernel
theorem dL_isStep_336 : decode cL_isStep 336 = .ok (.iconst 0, 1) := by decide +kernel
theorem dL_isStep_337 : decode cL_isStep 337 = .ok (.ireturn, 1) := by decide +kernel
theorem dL_isStep_338 : decode cL_isStep 338 = .ok (.iload_n 3, 1) := by decide +kernel
theorem dL_isStep_339 : decode cL_isStep 339 = .ok (.iconst 4, 1) := by decide +kernel
theorem dL_isStep_340 : decode cL_isStep 340 = .ok (.invokestatic 15, 3) := by decide +kernel
theorem dL_isStep_343 : decode cL_isStep 343 = .ok (.istore 8, 2) := by decide +kernel
theorem dL_isStep_345 : decode cL_isStep 345 = .ok (.aload_n 0, 1) := by decide +kernel
theorem dL_isStep_346 : decode cL_isStep 346 = .ok (.iload 6, 2) := by decide +kernel
theorem dL_isStep_348 : decode cL_isStep 348 = .ok (.iconst 2, 1) := by decide +kernel
theorem dL_isStep_349 : decode cL_isStep 349 = .ok (.invokevirtual 28, 3) := by decide +kernel
theorem dL_isStep_352 : decode cL_isStep 352 = .ok (.istore 9, 2) := by decide +kernel
theorem dL_isStep_354 : decode cL_isStep 354 = .ok (.aload_n 0, 1) := by decide +kernel
theorem dL_isStep_355 : decode cL_isStep 355 = .ok (.iload 6, 2) := by decide +kernel
theorem dL_isStep_357 : decode cL_isStep 357 = .ok (.iload 8, 2) := by decide +kernel
theorem dL_isStep_359 : decode cL_isStep 359 = .ok (.invokevirtual 34, 3) := by decide +kernel
theorem dL_isStep_362 : decode cL_isStep 362 = .ok (.istore 10, 2) := by decide +kernel
theorem dL_isStep_364 : decode cL_isStep 364 = .ok (.iload 10, 2) := by decide +kernel
theorem dL_isStep_366 : decode cL_isStep 366 = .ok (.aload_n 1, 1) := by decide +kernel
theorem dL_isStep_367 : decode cL_isStep 367 = .ok (.iload 6, 2) := by decide +kernel
theorem dL_isStep_369 : decode cL_isStep 369 = .ok (.iload 8, 2) := by decide +kernel
theorem dL_isStep_371 : decode cL_isStep 371 = .ok (.invokevirtual 34, 3) := by decide +kernel
theorem dL_isStep_374 : decode cL_isStep 374 = .ok (.if_icmp .ne 44, 3) := by decide +kernel
theorem dL_isStep_377 : decode cL_isStep 377 = .ok (.iload 10, 2) := by decide +kernel
theorem dL_isStep_379 : decode cL_isStep 379 = .ok (.iload 6, 2) := by decide +kernel
theorem dL_isStep_381 : decode cL_isStep 381 = .ok (.iload 5, 2) := by decide +kernel
theorem dL_isStep_383 : decode cL_isStep 383 = .ok (.if_icmp .ne 7, 3) := by decide +kernel
theorem dL_isStep_386 : decode cL_isStep 386 = .ok (.iconst (-1), 1) := by decide +kernel
theorem dL_isStep_387 : decode cL_isStep 387 = .ok (.goto 5, 3) := by decide +kernel
theorem dL_isStep_390 : decode cL_isStep 390 = .ok (.iload 9, 2) := by decide +kernel
theorem dL_isStep_392 : decode cL_isStep 392 = .ok (.if_icmp .ne 26, 3) := by decide +kernel
theorem dL_isStep_395 : decode cL_isStep 395 = .ok (.iload 6, 2) := by decide +kernel
theorem dL_isStep_397 : decode cL_isStep 397 = .ok (.iload 5, 2) := by decide +kernel
theorem dL_isStep_399 : decode cL_isStep 399 = .ok (.if_icmp .eq 15, 3) := by decide +kernel
theorem dL_isStep_402 : decode cL_isStep 402 = .ok (.aload_n 0, 1) := by decide +kernel
theorem dL_isStep_403 : decode cL_isStep 403 = .ok (.iload 6, 2) := by decide +kernel
theorem dL_isStep_405 : decode cL_isStep 405 = .ok (.iconst 2, 1) := by decide +kernel
theorem dL_isStep_406 : decode cL_isStep 406 = .ok (.invokevirtual 28, 3) := by decide +kernel
theorem dL_isStep_409 : decode cL_isStep 409 = .ok (.iload 8, 2) := by decide +kernel
theorem dL_isStep_411 : decode cL_isStep 411 = .ok (.if_icmp .ne 7, 3) := by decide +kernel
theorem dL_isStep_414 : decode cL_isStep 414 = .ok (.iconst 1, 1) := by decide +kernel
theorem dL_isStep_415 : decode cL_isStep 415 = .ok (.goto 4, 3) := by decide +kernel
theorem dL_isStep_418 : decode cL_isStep 418 = .ok (.iconst 0, 1) := by decide +kernel
theorem dL_isStep_419 : decode cL_isStep 419 = .ok (.ireturn, 1) := by decide +kernel
theorem dL_isStep_420 : decode cL_isStep 420 = .ok (.aload_n 0, 1) := by decide +kernel
theorem dL_isStep_421 : decode cL_isStep 421 = .ok (.iload 6, 2) := by decide +kernel
theorem dL_isStep_423 : decode cL_isStep 423 = .ok (.iconst 3, 1) := by decide +kernel
theorem dL_isStep_424 : decode cL_isStep 424 = .ok (.invokevirtual 28, 3) := by decide +kernel
theorem dL_isStep_427 : decode cL_isStep 427 = .ok (.istore 8, 2) := by decide +kernel
theorem dL_isStep_429 : decode cL_isStep 429 = .ok (.aload_n 0, 1) := by decide +kernel
theorem dL_isStep_430 : decode cL_isStep 430 = .ok (.iload 6, 2) := by decide +kernel
theorem dL_isStep_432 : decode cL_isStep 432 = .ok (.invokevirtual 37, 3) := by decide +kernel
theorem dL_isStep_435 : decode cL_isStep 435 = .ok (.istore 9, 2) := by decide +kernel
theorem dL_isStep_437 : decode cL_isStep 437 = .ok (.iload 9, 2) := by decide +kernel
theorem dL_isStep_439 : decode cL_isStep 439 = .ok (.aload_n 1, 1) := by decide +kernel
theorem dL_isStep_440 : decode cL_isStep 440 = .ok (.iload 6, 2) := by decide +kernel
theorem dL_isStep_442 : decode cL_isStep 442 = .ok (.invokevirtual 37, 3) := by decide +kernel
theorem dL_isStep_445 : decode cL_isStep 445 = .ok (.if_icmp .ne 25, 3) := by decide +kernel
theorem dL_isStep_448 : decode cL_isStep 448 = .ok (.iload 9, 2) := by decide +kernel
theorem dL_isStep_450 : decode cL_isStep 450 = .ok (.iload 6, 2) := by decide +kernel
theorem dL_isStep_452 : decode cL_isStep 452 = .ok (.iload 5, 2) := by decide +kernel
theorem dL_isStep_454 : decode cL_isStep 454 = .ok (.if_icmp .ne 7, 3) := by decide +kernel
theorem dL_isStep_457 : decode cL_isStep 457 = .ok (.iconst (-1), 1) := by decide +kernel
theorem dL_isStep_458 : decode cL_isStep 458 = .ok (.goto 5, 3) := by decide +kernel
theorem dL_isStep_461 : decode cL_isStep 461 = .ok (.iload 8, 2) := by decide +kernel
theorem dL_isStep_463 : decode cL_isStep 463 = .ok (.if_icmp .ne 7, 3) := by decide +kernel
theorem dL_isStep_466 : decode cL_isStep 466 = .ok (.iconst 1, 1) := by decide +kernel
theorem dL_isStep_467 : decode cL_isStep 467 = .ok (.goto 4, 3) := by decide +kernel
theorem dL_isStep_470 : decode cL_isStep 470 = .ok (.iconst 0, 1) := by decide +kernel
theorem dL_isStep_471 : decode cL_isStep 471 = .ok (.ireturn, 1) := by decide +kernel
theorem dL_isStep_472 : decode cL_isStep 472 = .ok (.iload_n 3, 1) := by decide +kernel
theorem dL_isStep_473 : decode cL_isStep 473 = .ok (.iload 4, 2) := by decide +kernel
theorem dL_isStep_475 : decode cL_isStep 475 = .ok (.iconst 3, 1) := by decide +kernel
theorem dL_isStep_476 : decode cL_isStep 476 = .ok (.invokestatic 15, 3) := by decide +kernel
theorem dL_isStep_479 : decode cL_isStep 479 = .ok (.ifCond .ne 8, 3) := by decide +kernel
theorem dL_isStep_482 : decode cL_isStep 482 = .ok (.bipush 100, 2) := by decide +kernel
theorem dL_isStep_484 : decode cL_isStep 484 = .ok (.goto 5, 3) := by decide +kernel
theorem dL_isStep_487 : decode cL_isStep 487 = .ok (.bipush 40, 2) := by decide +kernel
theorem dL_isStep_489 : decode cL_isStep 489 = .ok (.invokestatic 15, 3) := by decide +kernel
theorem dL_isStep_492 : decode cL_isStep 492 = .ok (.istore 8, 2) := by decide +kernel
theorem dL_isStep_494 : decode cL_isStep 494 = .ok (.aload_n 0, 1) := by decide +kernel
theorem dL_isStep_495 : decode cL_isStep 495 = .ok (.iload 8, 2) := by decide +kernel
theorem dL_isStep_497 : decode cL_isStep 497 = .ok (.invokevirtual 40, 3) := by decide +kernel
theorem dL_isStep_500 : decode cL_isStep 500 = .ok (.istore 9, 2) := by decide +kernel
theorem dL_isStep_502 : decode cL_isStep 502 = .ok (.iload 9, 2) := by decide +kernel
theorem dL_isStep_504 : decode cL_isStep 504 = .ok (.aload_n 1, 1) := by decide +kernel
theorem dL_isStep_505 : decode cL_isStep 505 = .ok (.iload 8, 2) := by decide +kernel
theorem dL_isStep_507 : decode cL_isStep 507 = .ok (.invokevirtual 40, 3) := by decide +kernel
theorem dL_isStep_510 : decode cL_isStep 510 = .ok (.if_icmp .ne 41, 3) := by decide +kernel
theorem dL_isStep_513 : decode cL_isStep 513 = .ok (.iload 9, 2) := by decide +kernel
theorem dL_isStep_515 : decode cL_isStep 515 = .ok (.iload 8, 2) := by decide +kernel
theorem dL_isStep_517 : decode cL_isStep 517 = .ok (.aload_n 0, 1) := by decide +kernel
theorem dL_isStep_518 : decode cL_isStep 518 = .ok (.bipush 9, 2) := by decide +kernel
theorem dL_isStep_520 : decode cL_isStep 520 = .ok (.invokevirtual 9, 3) := by decide +kernel
theorem dL_isStep_523 : decode cL_isStep 523 = .ok (.if_icmp .le 7, 3) := by decide +kernel
theorem dL_isStep_526 : decode cL_isStep 526 = .ok (.iconst 1, 1) := by decide +kernel
theorem dL_isStep_527 : decode cL_isStep 527 = .ok (.goto 4, 3) := by decide +kernel
theorem dL_isStep_530 : decode cL_isStep 530 = .ok (.iconst 0, 1) := by decide +kernel
theorem dL_isStep_531 : decode cL_isStep 531 = .ok (.if_icmp .ne 20, 3) := by decide +kernel
theorem dL_isStep_534 : decode cL_isStep 534 = .ok (.iload 9, 2) := by decide +kernel
theorem dL_isStep_536 : decode cL_isStep 536 = .ok (.ifCond .eq 11, 3) := by decide +kernel
theorem dL_isStep_539 : decode cL_isStep 539 = .ok (.aload_n 0, 1) := by decide +kernel
theorem dL_isStep_540 : decode cL_isStep 540 = .ok (.iconst 5, 1) := by decide +kernel
theorem dL_isStep_541 : decode cL_isStep 541 = .ok (.invokevirtual 9, 3) := by decide +kernel
theorem dL_isStep_544 : decode cL_isStep 544 = .ok (.ifCond .ne 7, 3) := by decide +kernel
theorem dL_isStep_547 : decode cL_isStep 547 = .ok (.iconst 1, 1) := by decide +kernel
theorem dL_isStep_548 : decode cL_isStep 548 = .ok (.goto 4, 3) := by decide +kernel
theorem dL_isStep_551 : decode cL_isStep 551 = .ok (.iconst 0, 1) := by decide +kernel
theorem dL_isStep_552 : decode cL_isStep 552 = .ok (.ireturn, 1) := by decide +kernel
theorem dL_isStep_553 : decode cL_isStep 553 = .ok (.iload 4, 2) := by decide +kernel
theorem dL_isStep_555 : decode cL_isStep 555 = .ok (.iconst 3, 1) := by decide +kernel
theorem dL_isStep_556 : decode cL_isStep 556 = .ok (.invokestatic 15, 3) := by decide +kernel
theorem dL_isStep_559 : decode cL_isStep 559 = .ok (.istore 8, 2) := by decide +kernel
theorem dL_isStep_561 : decode cL_isStep 561 = .ok (.iload 8, 2) := by decide +kernel
theorem dL_isStep_563 : decode cL_isStep 563 = .ok (.ifCond .ne 15, 3) := by decide +kernel
theorem dL_isStep_566 : decode cL_isStep 566 = .ok (.iconst 1, 1) := by decide +kernel
theorem dL_isStep_567 : decode cL_isStep 567 = .ok (.iload_n 3, 1) := by decide +kernel
theorem dL_isStep_568 : decode cL_isStep 568 = .ok (.sipush 300, 3) := by decide +kernel
theorem dL_isStep_571 : decode cL_isStep 571 = .ok (.invokestatic 15, 3) := by decide +kernel
theorem dL_isStep_574 : decode cL_isStep 574 = .ok (.iadd, 1) := by decide +kernel
theorem dL_isStep_575 : decode cL_isStep 575 = .ok (.goto 27, 3) := by decide +kernel
theorem dL_isStep_578 : decode cL_isStep 578 = .ok (.iload 8, 2) := by decide +kernel
theorem dL_isStep_580 : decode cL_isStep 580 = .ok (.iconst 1, 1) := by decide +kernel
theorem dL_isStep_581 : decode cL_isStep 581 = .ok (.if_icmp .ne 15, 3) := by decide +kernel
theorem dL_isStep_584 : decode cL_isStep 584 = .ok (.bipush 20, 2) := by decide +kernel
theorem dL_isStep_586 : decode cL_isStep 586 = .ok (.iload_n 3, 1) := by decide +kernel
theorem dL_isStep_587 : decode cL_isStep 587 = .ok (.bipush 80, 2) := by decide +kernel
theorem dL_isStep_589 : decode cL_isStep 589 = .ok (.invokestatic 15, 3) := by decide +kernel
theorem dL_isStep_592 : decode cL_isStep 592 = .ok (.iadd, 1) := by decide +kernel
theorem dL_isStep_593 : decode cL_isStep 593 = .ok (.goto 9, 3) := by decide +kernel
theorem dL_isStep_596 : decode cL_isStep 596 = .ok (.iload_n 3, 1) := by decide +kernel
theorem dL_isStep_597 : decode cL_isStep 597 = .ok (.bipush 21, 2) := by decide +kernel
theorem dL_isStep_599 : decode cL_isStep 599 = .ok (.invokestatic 15, 3) := by decide +kernel
theorem dL_isStep_602 : decode cL_isStep 602 = .ok (.istore 9, 2) := by decide +kernel
theorem dL_isStep_604 : decode cL_isStep 604 = .ok (.aload_n 0, 1) := by decide +kernel
theorem dL_isStep_605 : decode cL_isStep 605 = .ok (.iload 8, 2) := by decide +kernel
theorem dL_isStep_607 : decode cL_isStep 607 = .ok (.iload 9, 2) := by decide +kernel
theorem dL_isStep_609 : decode cL_isStep 609 = .ok (.invokevirtual 43, 3) := by decide +kernel
theorem dL_isStep_612 : decode cL_isStep 612 = .ok (.aload_n 1, 1) := by decide +kernel
theorem dL_isStep_613 : decode cL_isStep 613 = .ok (.iload 8, 2) := by decide +kernel
theorem dL_isStep_615 : decode cL_isStep 615 = .ok (.iload 9, 2) := by decide +kernel
theorem dL_isStep_617 : decode cL_isStep 617 = .ok (.invokevirtual 43, 3) := by decide +kernel
theorem dL_isStep_620 : decode cL_isStep 620 = .ok (.if_icmp .ne 21, 3) := by decide +kernel
theorem dL_isStep_623 : decode cL_isStep 623 = .ok (.aload_n 0, 1) := by decide +kernel
theorem dL_isStep_624 : decode cL_isStep 624 = .ok (.bipush 8, 2) := by decide +kernel
theorem dL_isStep_626 : decode cL_isStep 626 = .ok (.iload 8, 2) := by decide +kernel
theorem dL_isStep_628 : decode cL_isStep 628 = .ok (.iadd, 1) := by decide +kernel
theorem dL_isStep_629 : decode cL_isStep 629 = .ok (.invokevirtual 9, 3) := by decide +kernel
theorem dL_isStep_632 : decode cL_isStep 632 = .ok (.iload 9, 2) := by decide +kernel
theorem dL_isStep_634 : decode cL_isStep 634 = .ok (.if_icmp .ne 7, 3) := by decide +kernel
theorem dL_isStep_637 : decode cL_isStep 637 = .ok (.iconst 1, 1) := by decide +kernel
theorem dL_isStep_638 : decode cL_isStep 638 = .ok (.goto 4, 3) := by decide +kernel
theorem dL_isStep_641 : decode cL_isStep 641 = .ok (.iconst 0, 1) := by decide +kernel
theorem dL_isStep_642 : decode cL_isStep 642 = .ok (.ireturn, 1) := by decide +kernel
theorem dL_isStep_643 : decode cL_isStep 643 = .ok (.iconst 1, 1) := by decide +kernel
theorem dL_isStep_644 : decode cL_isStep 644 = .ok (.iload_n 3, 1) := by decide +kernel
theorem dL_isStep_645 : decode cL_isStep 645 = .ok (.iload 4, 2) := by decide +kernel
theorem dL_isStep_647 : decode cL_isStep 647 = .ok (.iconst 3, 1) := by decide +kernel
theorem dL_isStep_648 : decode cL_isStep 648 = .ok (.invokestatic 15, 3) := by decide +kernel
theorem dL_isStep_651 : decode cL_isStep 651 = .ok (.ifCond .ne 8, 3) := by decide +kernel
theorem dL_isStep_654 : decode cL_isStep 654 = .ok (.bipush 15, 2) := by decide +kernel
theorem dL_isStep_656 : decode cL_isStep 656 = .ok (.goto 4, 3) := by decide +kernel
theorem dL_isStep_659 : decode cL_isStep 659 = .ok (.iconst 2, 1) := by decide +kernel
theorem dL_isStep_660 : decode cL_isStep 660 = .ok (.invokestatic 15, 3) := by decide +kernel
theorem dL_isStep_663 : decode cL_isStep 663 = .ok (.iadd, 1) := by decide +kernel
theorem dL_isStep_664 : decode cL_isStep 664 = .ok (.istore 8, 2) := by decide +kernel
theorem dL_isStep_666 : decode cL_isStep 666 = .ok (.aload_n 0, 1) := by decide +kernel
theorem dL_isStep_667 : decode cL_isStep 667 = .ok (.iconst 4, 1) := by decide +kernel
theorem dL_isStep_668 : decode cL_isStep 668 = .ok (.invokevirtual 9, 3) := by decide +kernel
theorem dL_isStep_671 : decode cL_isStep 671 = .ok (.istore 9, 2) := by decide +kernel
theorem dL_isStep_673 : decode cL_isStep 673 = .ok (.aload_n 0, 1) := by decide +kernel
theorem dL_isStep_674 : decode cL_isStep 674 = .ok (.iload 8, 2) := by decide +kernel
theorem dL_isStep_676 : decode cL_isStep 676 = .ok (.invokevirtual 46, 3) := by decide +kernel
theorem dL_isStep_679 : decode cL_isStep 679 = .ok (.istore 10, 2) := by decide +kernel
theorem dL_isStep_681 : decode cL_isStep 681 = .ok (.iload 10, 2) := by decide +kernel
theorem dL_isStep_683 : decode cL_isStep 683 = .ok (.aload_n 1, 1) := by decide +kernel
theorem dL_isStep_684 : decode cL_isStep 684 = .ok (.iload 8, 2) := by decide +kernel
theorem dL_isStep_686 : decode cL_isStep 686 = .ok (.invokevirtual 46, 3) := by decide +kernel
theorem dL_isStep_689 : decode cL_isStep 689 = .ok (.if_icmp .ne 38, 3) := by decide +kernel
theorem dL_isStep_692 : decode cL_isStep 692 = .ok (.aload_n 0, 1) := by decide +kernel
theorem dL_isStep_693 : decode cL_isStep 693 = .ok (.iconst 4, 1) := by decide +kernel
theorem dL_isStep_694 : decode cL_isStep 694 = .ok (.invokevirtual 9, 3) := by decide +kernel
theorem dL_isStep_697 : decode cL_isStep 697 = .ok (.iload 9, 2) := by decide +kernel
theorem dL_isStep_699 : decode cL_isStep 699 = .ok (.iload 10, 2) := by decide +kernel
theorem dL_isStep_701 : decode cL_isStep 701 = .ok (.iadd, 1) := by decide +kernel
theorem dL_isStep_702 : decode cL_isStep 702 = .ok (.if_icmp .ne 25, 3) := by decide +kernel
theorem dL_isStep_705 : decode cL_isStep 705 = .ok (.iload 10, 2) := by decide +kernel
theorem dL_isStep_707 : decode cL_isStep 707 = .ok (.ifCond .lt 20, 3) := by decide +kernel
theorem dL_isStep_710 : decode cL_isStep 710 = .ok (.iload 8, 2) := by decide +kernel
theorem dL_isStep_712 : decode cL_isStep 712 = .ok (.iconst 1, 1) := by decide +kernel
theorem dL_isStep_713 : decode cL_isStep 713 = .ok (.if_icmp .gt 10, 3) := by decide +kernel
theorem dL_isStep_716 : decode cL_isStep 716 = .ok (.iload 10, 2) := by decide +kernel
theorem dL_isStep_718 : decode cL_isStep 718 = .ok (.iload 7, 2) := by decide +kernel
theorem dL_isStep_720 : decode cL_isStep 720 = .ok (.if_icmp .ne 7, 3) := by decide +kernel
theorem dL_isStep_723 : decode cL_isStep 723 = .ok (.iconst 1, 1) := by decide +kernel
theorem dL_isStep_724 : decode cL_isStep 724 = .ok (.goto 4, 3) := by decide +kernel
theorem dL_isStep_727 : decode cL_isStep 727 = .ok (.iconst 0, 1) := by decide +kernel
theorem dL_isStep_728 : decode cL_isStep 728 = .ok (.ireturn, 1) := by decide +kernel
theorem dL_isStep_729 : decode cL_isStep 729 = .ok (.aload_n 0, 1) := by decide +kernel
theorem dL_isStep_730 : decode cL_isStep 730 = .ok (.bipush 12, 2) := by decide +kernel
theorem dL_isStep_732 : decode cL_isStep 732 = .ok (.invokevirtual 9, 3) := by decide +kernel
theorem dL_isStep_735 : decode cL_isStep 735 = .ok (.ifCond .eq 14, 3) := by decide +kernel
theorem dL_isStep_738 : decode cL_isStep 738 = .ok (.aload_n 0, 1) := by decide +kernel
theorem dL_isStep_739 : decode cL_isStep 739 = .ok (.invokevirtual 49, 3) := by decide +kernel
theorem dL_isStep_742 : decode cL_isStep 742 = .ok (.aload_n 1, 1) := by decide +kernel
theorem dL_isStep_743 : decode cL_isStep 743 = .ok (.invokevirtual 49, 3) := by decide +kernel
theorem dL_isStep_746 : decode cL_isStep 746 = .ok (.if_icmp .ne 7, 3) := by decide +kernel
theorem dL_isStep_749 : decode cL_isStep 749 = .ok (.iconst 1, 1) := by decide +kernel
theorem dL_isStep_750 : decode cL_isStep 750 = .ok (.goto 4, 3) := by decide +kernel
theorem dL_isStep_753 : decode cL_isStep 753 = .ok (.iconst 0, 1) := by decide +kernel
theorem dL_isStep_754 : decode cL_isStep 754 = .ok (.ireturn, 1) := by decide +kernel
theorem dL_isStep_755 : decode cL_isStep 755 = .ok (.aload_n 0, 1) := by decide +kernel
theorem dL_isStep_756 : decode cL_isStep 756 = .ok (.aload_n 1, 1) := by decide +kernel
theorem dL_isStep_757 : decode cL_isStep 757 = .ok (.iload_n 3, 1) := by decide +kernel
theorem dL_isStep_758 : decode cL_isStep 758 = .ok (.bipush 20, 2) := by decide +kernel
theorem dL_isStep_760 : decode cL_isStep 760 = .ok (.invokestatic 15, 3) := by decide +kernel
theorem dL_isStep_763 : decode cL_isStep 763 = .ok (.iload_n 3, 1) := by decide +kernel
theorem dL_isStep_764 : decode cL_isStep 764 = .ok (.bipush 6, 2) := by decide +kernel
theorem dL_isStep_766 : decode cL_isStep 766 = .ok (.ishr, 1) := by decide +kernel
theorem dL_isStep_767 : decode cL_isStep 767 = .ok (.iconst 4, 1) := by decide +kernel
theorem dL_isStep_768 : decode cL_isStep 768 = .ok (.invokestatic 15, 3) := by decide +kernel
theorem dL_isStep_771 : decode cL_isStep 771 = .ok (.invokestatic 53, 3) := by decide +kernel
theorem dL_isStep_774 : decode cL_isStep 774 = .ok (.ireturn, 1) := by decide +kernel
theorem dL_isFound_0 : decode cL_isFound 0 = .ok (.aload_n 0, 1) := by decide +kernel
theorem dL_isFound_1 : decode cL_isFound 1 = .ok (.iload_n 2, 1) := by decide +kernel
theorem dL_isFound_2 : decode cL_isFound 2 = .ok (.iload_n 3, 1) := by decide +kernel
theorem dL_isFound_3 : decode cL_isFound 3 = .ok (.iconst 0, 1) := by decide +kernel
theorem dL_isFound_4 : decode cL_isFound 4 = .ok (.invokevirtual 57, 3) := by decide +kernel
theorem dL_isFound_7 : decode cL_isFound 7 = .ok (.istore 4, 2) := by decide +kernel
theorem dL_isFound_9 : decode cL_isFound 9 = .ok (.aload_n 0, 1) := by decide +kernel
theorem dL_isFound_10 : decode cL_isFound 10 = .ok (.iload_n 2, 1) := by decide +kernel
theorem dL_isFound_11 : decode cL_isFound 11 = .ok (.iload_n 3, 1) := by decide +kernel
theorem dL_isFound_12 : decode cL_isFound 12 = .ok (.iconst 1, 1) := by decide +kernel
theorem dL_isFound_13 : decode cL_isFound 13 = .ok (.invokevirtual 57, 3) := by decide +kernel
theorem dL_isFound_16 : decode cL_isFound 16 = .ok (.istore 5, 2) := by decide +kernel
theorem dL_isFound_18 : decode cL_isFound 18 = .ok (.aload_n 0, 1) := by decide +kernel
theorem dL_isFound_19 : decode cL_isFound 19 = .ok (.iconst 0, 1) := by decide +kernel
theorem dL_isFound_20 : decode cL_isFound 20 = .ok (.invokevirtual 60, 3) := by decide +kernel
theorem dL_isFound_23 : decode cL_isFound 23 = .ok (.aload_n 1, 1) := by decide +kernel
theorem dL_isFound_24 : decode cL_isFound 24 = .ok (.iconst 0, 1) := by decide +kernel
theorem dL_isFound_25 : decode cL_isFound 25 = .ok (.invokevirtual 60, 3) := by decide +kernel
theorem dL_isFound_28 : decode cL_isFound 28 = .ok (.if_icmp .ne 42, 3) := by decide +kernel
theorem dL_isFound_31 : decode cL_isFound 31 = .ok (.aload_n 0, 1) := by decide +kernel
theorem dL_isFound_32 : decode cL_isFound 32 = .ok (.iconst 1, 1) := by decide +kernel
theorem dL_isFound_33 : decode cL_isFound 33 = .ok (.invokevirtual 60, 3) := by decide +kernel
theorem dL_isFound_36 : decode cL_isFound 36 = .ok (.aload_n 1, 1) := by decide +kernel
theorem dL_isFound_37 : decode cL_isFound 37 = .ok (.iconst 1, 1) := by decide +kernel
theorem dL_isFound_38 : decode cL_isFound 38 = .ok (.invokevirtual 60, 3) := by decide +kernel
theorem dL_isFound_41 : decode cL_isFound 41 = .ok (.if_icmp .ne 29, 3) := by decide +kernel
theorem dL_isFound_44 : decode cL_isFound 44 = .ok (.aload_n 0, 1) := by decide +kernel
theorem dL_isFound_45 : decode cL_isFound 45 = .ok (.invokevirtual 63, 3) := by decide +kernel
theorem dL_isFound_48 : decode cL_isFound 48 = .ok (.aload_n 1, 1) := by decide +kernel
theorem dL_isFound_49 : decode cL_isFound 49 = .ok (.invokevirtual 63, 3) := by decide +kernel
theorem dL_isFound_52 : decode cL_isFound 52 = .ok (.if_icmp .ne 18, 3) := by decide +kernel
theorem dL_isFound_55 : decode cL_isFound 55 = .ok (.aload_n 0, 1) := by decide +kernel
theorem dL_isFound_56 : decode cL_isFound 56 = .ok (.invokevirtual 66, 3) := by decide +kernel
theorem dL_isFound_59 : decode cL_isFound 59 = .ok (.aload_n 1, 1) := by decide +kernel
theorem dL_isFound_60 : decode cL_isFound 60 = .ok (.invokevirtual 66, 3) := by decide +kernel
theorem dL_isFound_63 : decode cL_isFound 63 = .ok (.if_icmp .ne 7, 3) := by decide +kernel
theorem dL_isFound_66 : decode cL_isFound 66 = .ok (.iconst 1, 1) := by decide +kernel
theorem dL_isFound_67 : decode cL_isFound 67 = .ok (.goto 4, 3) := by decide +kernel
theorem dL_isFound_70 : decode cL_isFound 70 = .ok (.iconst 0, 1) := by decide +kernel
theorem dL_isFound_71 : decode cL_isFound 71 = .ok (.istore 6, 2) := by decide +kernel
theorem dL_isFound_73 : decode cL_isFound 73 = .ok (.aload_n 0, 1) := by decide +kernel
theorem dL_isFound_74 : decode cL_isFound 74 = .ok (.iconst 1, 1) := by decide +kernel
theorem dL_isFound_75 : decode cL_isFound 75 = .ok (.invokevirtual 9, 3) := by decide +kernel
theorem dL_isFound_78 : decode cL_isFound 78 = .ok (.istore 7, 2) := by decide +kernel
theorem dL_isFound_80 : decode cL_isFound 80 = .ok (.iload 4, 2) := by decide +kernel
theorem dL_isFound_82 : decode cL_isFound 82 = .ok (.bipush (-6), 2) := by decide +kernel
theorem dL_isFound_84 : decode cL_isFound 84 = .ok (.if_icmp .eq 10, 3) := by decide +kernel
theorem dL_isFound_87 : decode cL_isFound 87 = .ok (.iload 7, 2) := by decide +kernel
theorem dL_isFound_89 : decode cL_isFound 89 = .ok (.bipush 24, 2) := by decide +kernel
theorem dL_isFound_91 : decode cL_isFound 91 = .ok (.if_icmp .ne 6, 3) := by decide +kernel
theorem dL_isFound_94 : decode cL_isFound 94 = .ok (.iload 6, 2) := by decide +kernel
theorem dL_isFound_96 : decode cL_isFound 96 = .ok (.ireturn, 1) := by decide +kernel
theorem dL_isFound_97 : decode cL_isFound 97 = .ok (.iload 6, 2) := by decide +kernel
theorem dL_isFound_99 : decode cL_isFound 99 = .ok (.ifCond .eq 49, 3) := by decide +kernel
theorem dL_isFound_102 : decode cL_isFound 102 = .ok (.aload_n 0, 1) := by decide +kernel
theorem dL_isFound_103 : decode cL_isFound 103 = .ok (.iload_n 2, 1) := by decide +kernel
theorem dL_isFound_104 : decode cL_isFound 104 = .ok (.iload 4, 2) := by decide +kernel
theorem dL_isFound_106 : decode cL_isFound 106 = .ok (.invokevirtual 21, 3) := by decide +kernel
theorem dL_isFound_109 : decode cL_isFound 109 = .ok (.bipush (-6), 2) := by decide +kernel
theorem dL_isFound_111 : decode cL_isFound 111 = .ok (.if_icmp .ne 37, 3) := by decide +kernel
theorem dL_isFound_114 : decode cL_isFound 114 = .ok (.aload_n 0, 1) := by decide +kernel
theorem dL_isFound_115 : decode cL_isFound 115 = .ok (.iload_n 2, 1) := by decide +kernel
theorem dL_isFound_116 : decode cL_isFound 116 = .ok (.iload 4, 2) := by decide +kernel
theorem dL_isFound_118 : decode cL_isFound 118 = .ok (.iload_n 3, 1) := by decide +kernel
theorem dL_isFound_119 : decode cL_isFound 119 = .ok (.invokevirtual 24, 3) := by decide +kernel
theorem dL_isFound_122 : decode cL_isFound 122 = .ok (.iload 7, 2) := by decide +kernel
theorem dL_isFound_124 : decode cL_isFound 124 = .ok (.if_icmp .ne 24, 3) := by decide +kernel
theorem dL_isFound_127 : decode cL_isFound 127 = .ok (.aload_n 0, 1) := by decide +kernel
theorem dL_isFound_128 : decode cL_isFound 128 = .ok (.iconst 5, 1) := by decide +kernel
theorem dL_isFound_129 : decode cL_isFound 129 = .ok (.invokevirtual 9, 3) := by decide +kernel
theorem dL_isFound_132 : decode cL_isFound 132 = .ok (.iload 5, 2) := by decide +kernel
theorem dL_isFound_134 : decode cL_isFound 134 = .ok (.if_icmp .ne 14, 3) := by decide +kernel
theorem dL_isFound_137 : decode cL_isFound 137 = .ok (.aload_n 0, 1) := by decide +kernel
theorem dL_isFound_138 : decode cL_isFound 138 = .ok (.invokevirtual 49, 3) := by decide +kernel
theorem dL_isFound_141 : decode cL_isFound 141 = .ok (.ifCond .lt 7, 3) := by decide +kernel
theorem dL_isFound_144 : decode cL_isFound 144 = .ok (.iconst 1, 1) := by decide +kernel
theorem dL_isFound_145 : decode cL_isFound 145 = .ok (.goto 4, 3) := by decide +kernel
theorem dL_isFound_148 : decode cL_isFound 148 = .ok (.iconst 0, 1) := by decide +kernel
theorem dL_isFound_149 : decode cL_isFound 149 = .ok (.istore 6, 2) := by decide +kernel
theorem dL_isFound_151 : decode cL_isFound 151 = .ok (.iload 6, 2) := by decide +kernel
theorem dL_isFound_153 : decode cL_isFound 153 = .ok (.ifCond .eq 49, 3) := by decide +kernel
theorem dL_isFound_156 : decode cL_isFound 156 = .ok (.aload_n 1, 1) := by decide +kernel
theorem dL_isFound_157 : decode cL_isFound 157 = .ok (.iconst 0, 1) := by decide +kernel
theorem dL_isFound_158 : decode cL_isFound 158 = .ok (.invokevirtual 37, 3) := by decide +kernel
theorem dL_isFound_161 : decode cL_isFound 161 = .ok (.iconst (-1), 1) := by decide +kernel
theorem dL_isFound_162 : decode cL_isFound 162 = .ok (.if_icmp .lt 40, 3) := by decide +kernel
theorem dL_isFound_165 : decode cL_isFound 165 = .ok (.iload 7, 2) := by decide +kernel
theorem dL_isFound_167 : decode cL_isFound 167 = .ok (.ifCond .ne 24, 3) := by decide +kernel
theorem dL_isFound_170 : decode cL_isFound 170 = .ok (.aload_n 1, 1) := by decide +kernel
theorem dL_isFound_171 : decode cL_isFound 171 = .ok (.iload_n 2, 1) := by decide +kernel
theorem dL_isFound_172 : decode cL_isFound 172 = .ok (.bipush 10, 2) := by decide +kernel
theorem dL_isFound_174 : decode cL_isFound 174 = .ok (.iconst 0, 1) := by decide +kernel
theorem dL_isFound_175 : decode cL_isFound 175 = .ok (.invokevirtual 24, 3) := by decide +kernel
theorem dL_isFound_178 : decode cL_isFound 178 = .ok (.ifCond .ne 24, 3) := by decide +kernel
theorem dL_isFound_181 : decode cL_isFound 181 = .ok (.aload_n 1, 1) := by decide +kernel
theorem dL_isFound_182 : decode cL_isFound 182 = .ok (.invokevirtual 49, 3) := by decide +kernel
theorem dL_isFound_185 : decode cL_isFound 185 = .ok (.ifCond .lt 17, 3) := by decide +kernel
theorem dL_isFound_188 : decode cL_isFound 188 = .ok (.goto 10, 3) := by decide +kernel
theorem dL_isFound_191 : decode cL_isFound 191 = .ok (.aload_n 1, 1) := by decide +kernel
theorem dL_isFound_192 : decode cL_isFound 192 = .ok (.invokevirtual 49, 3) := by decide +kernel
theorem dL_isFound_195 : decode cL_isFound 195 = .ok (.ifCond .lt 7, 3) := by decide +kernel
theorem dL_isFound_198 : decode cL_isFound 198 = .ok (.iconst 1, 1) := by decide +kernel
theorem dL_isFound_199 : decode cL_isFound 199 = .ok (.goto 4, 3) := by decide +kernel
theorem dL_isFound_202 : decode cL_isFound 202 = .ok (.iconst 0, 1) := by decide +kernel
theorem dL_isFound_203 : decode cL_isFound 203 = .ok (.ireturn, 1) := by decide +kernel
theorem dL_areAlike_0 : decode cL_areAlike 0 = .ok (.iconst 1, 1) := by decide +kernel
theorem dL_areAlike_1 : decode cL_areAlike 1 = .ok (.istore_n 2, 1) := by decide +kernel
theorem dL_areAlike_2 : decode cL_areAlike 2 = .ok (.iconst 0, 1) := by decide +kernel
theorem dL_areAlike_3 : decode cL_areAlike 3 = .ok (.istore_n 3, 1) := by decide +kernel
theorem dL_areAlike_4 : decode cL_areAlike 4 = .ok (.iload_n 3, 1) := by decide +kernel
theorem dL_areAlike_5 : decode cL_areAlike 5 = .ok (.bipush 11, 2) := by decide +kernel
theorem dL_areAlike_7 : decode cL_areAlike 7 = .ok (.if_icmp .ge 32, 3) := by decide +kernel
theorem dL_areAlike_10 : decode cL_areAlike 10 = .ok (.iload_n 2, 1) := by decide +kernel
theorem dL_areAlike_11 : decode cL_areAlike 11 = .ok (.ifCond .eq 20, 3) := by decide +kernel
theorem dL_areAlike_14 : decode cL_areAlike 14 = .ok (.aload_n 0, 1) := by decide +kernel
theorem dL_areAlike_15 : decode cL_areAlike 15 = .ok (.iload_n 3, 1) := by decide +kernel
theorem dL_areAlike_16 : decode cL_areAlike 16 = .ok (.invokevirtual 9, 3) := by decide +kernel
theorem dL_areAlike_19 : decode cL_areAlike 19 = .ok (.aload_n 1, 1) := by decide +kernel
theorem dL_areAlike_20 : decode cL_areAlike 20 = .ok (.iload_n 3, 1) := by decide +kernel
theorem dL_areAlike_21 : decode cL_areAlike 21 = .ok (.invokevirtual 9, 3) := by decide +kernel
theorem dL_areAlike_24 : decode cL_areAlike 24 = .ok (.if_icmp .ne 7, 3) := by decide +kernel
theorem dL_areAlike_27 : decode cL_areAlike 27 = .ok (.iconst 1, 1) := by decide +kernel
theorem dL_areAlike_28 : decode cL_areAlike 28 = .ok (.goto 4, 3) := by decide +kernel
theorem dL_areAlike_31 : decode cL_areAlike 31 = .ok (.iconst 0, 1) := by decide +kernel
theorem dL_areAlike_32 : decode cL_areAlike 32 = .ok (.istore_n 2, 1) := by decide +kernel
theorem dL_areAlike_33 : decode cL_areAlike 33 = .ok (.iinc 3 1, 3) := by decide +kernel
theorem dL_areAlike_36 : decode cL_areAlike 36 = .ok (.goto (-32), 3) := by decide +kernel
theorem dL_areAlike_39 : decode cL_areAlike 39 = .ok (.iconst 0, 1) := by decide +kernel
theorem dL_areAlike_40 : decode cL_areAlike 40 = .ok (.istore_n 3, 1) := by decide +kernel
theorem dL_areAlike_41 : decode cL_areAlike 41 = .ok (.iload_n 3, 1) := by decide +kernel
theorem dL_areAlike_42 : decode cL_areAlike 42 = .ok (.aload_n 0, 1) := by decide +kernel
theorem dL_areAlike_43 : decode cL_areAlike 43 = .ok (.iconst 1, 1) := by decide +kernel
theorem dL_areAlike_44 : decode cL_areAlike 44 = .ok (.invokevirtual 9, 3) := by decide +kernel
theorem dL_areAlike_47 : decode cL_areAlike 47 = .ok (.if_icmp .ge 132, 3) := by decide +kernel
theorem dL_areAlike_50 : decode cL_areAlike 50 = .ok (.iload_n 2, 1) := by decide +kernel
theorem dL_areAlike_51 : decode cL_areAlike 51 = .ok (.ifCond .eq 128, 3) := by decide +kernel
theorem dL_areAlike_54 : decode cL_areAlike 54 = .ok (.iconst 0, 1) := by decide +kernel
theorem dL_areAlike_55 : decode cL_areAlike 55 = .ok (.istore 4, 2) := by decide +kernel
theorem dL_areAlike_57 : decode cL_areAlike 57 = .ok (.iload 4, 2) := by decide +kernel
theorem dL_areAlike_59 : decode cL_areAlike 59 = .ok (.bipush 6, 2) := by decide +kernel
theorem dL_areAlike_61 : decode cL_areAlike 61 = .ok (.if_icmp .ge 54, 3) := by decide +kernel
theorem dL_areAlike_64 : decode cL_areAlike 64 = .ok (.iload_n 2, 1) := by decide +kernel
theorem dL_areAlike_65 : decode cL_areAlike 65 = .ok (.ifCond .eq 42, 3) := by decide +kernel
theorem dL_areAlike_68 : decode cL_areAlike 68 = .ok (.aload_n 1, 1) := by decide +kernel
theorem dL_areAlike_69 : decode cL_areAlike 69 = .ok (.iload_n 3, 1) := by decide +kernel
theorem dL_areAlike_70 : decode cL_areAlike 70 = .ok (.iload 4, 2) := by decide +kernel
theorem dL_areAlike_72 : decode cL_areAlike 72 = .ok (.invokevirtual 28, 3) := by decide +kernel
theorem dL_areAlike_75 : decode cL_areAlike 75 = .ok (.iload 4, 2) := by decide +kernel
theorem dL_areAlike_77 : decode cL_areAlike 77 = .ok (.iconst 1, 1) := by decide +kernel
theorem dL_areAlike_78 : decode cL_areAlike 78 = .ok (.if_icmp .ne 15, 3) := by decide +kernel
theorem dL_areAlike_81 : decode cL_areAlike 81 = .ok (.bipush 20, 2) := by decide +kernel
theorem dL_areAlike_83 : decode cL_areAlike 83 = .ok (.aload_n 0, 1) := by decide +kernel
theorem dL_areAlike_84 : decode cL_areAlike 84 = .ok (.iload_n 3, 1) := by decide +kernel
theorem dL_areAlike_85 : decode cL_areAlike 85 = .ok (.iconst 1, 1) := by decide +kernel
theorem dL_areAlike_86 : decode cL_areAlike 86 = .ok (.invokevirtual 28, 3) := by decide +kernel
theorem dL_areAlike_89 : decode cL_areAlike 89 = .ok (.isub, 1) := by decide +kernel
theorem dL_areAlike_90 : decode cL_areAlike 90 = .ok (.goto 10, 3) := by decide +kernel
theorem dL_areAlike_93 : decode cL_areAlike 93 = .ok (.aload_n 0, 1) := by decide +kernel
theorem dL_areAlike_94 : decode cL_areAlike 94 = .ok (.iload_n 3, 1) := by decide +kernel
theorem dL_areAlike_95 : decode cL_areAlike 95 = .ok (.iload 4, 2) := by decide +kernel
theorem dL_areAlike_97 : decode cL_areAlike 97 = .ok (.invokevirtual 28, 3) := by decide +kernel
theorem dL_areAlike_100 : decode cL_areAlike 100 = .ok (.if_icmp .ne 7, 3) := by decide +kernel
theorem dL_areAlike_103 : decode cL_areAlike 103 = .ok (.iconst 1, 1) := by decide +kernel
theorem dL_areAlike_104 : decode cL_areAlike 104 = .ok (.goto 4, 3) := by decide +kernel
theorem dL_areAlike_107 : decode cL_areAlike 107 = .ok (.iconst 0, 1) := by decide +kernel
theorem dL_areAlike_108 : decode cL_areAlike 108 = .ok (.istore_n 2, 1) := by decide +kernel
theorem dL_areAlike_109 : decode cL_areAlike 109 = .ok (.iinc 4 1, 3) := by decide +kernel
theorem dL_areAlike_112 : decode cL_areAlike 112 = .ok (.goto (-55), 3) := by decide +kernel
theorem dL_areAlike_115 : decode cL_areAlike 115 = .ok (.iconst 0, 1) := by decide +kernel
theorem dL_areAlike_116 : decode cL_areAlike 116 = .ok (.istore 4, 2) := by decide +kernel
theorem dL_areAlike_118 : decode cL_areAlike 118 = .ok (.iload 4, 2) := by decide +kernel
theorem dL_areAlike_120 : decode cL_areAlike 120 = .ok (.bipush 44, 2) := by decide +kernel
theorem dL_areAlike_122 : decode cL_areAlike 122 = .ok (.if_icmp .ge 51, 3) := by decide +kernel
theorem dL_areAlike_125 : decode cL_areAlike 125 = .ok (.iload_n 2, 1) := by decide +kernel
theorem dL_areAlike_126 : decode cL_areAlike 126 = .ok (.ifCond .eq 39, 3) := by decide +kernel
theorem dL_areAlike_129 : decode cL_areAlike 129 = .ok (.aload_n 0, 1) := by decide +kernel
theorem dL_areAlike_130 : decode cL_areAlike 130 = .ok (.iload_n 3, 1) := by decide +kernel
theorem dL_areAlike_131 : decode cL_areAlike 131 = .ok (.iload 4, 2) := by decide +kernel
theorem dL_areAlike_133 : decode cL_areAlike 133 = .ok (.iconst 4, 1) := by decide +kernel
theorem dL_areAlike_134 : decode cL_areAlike 134 = .ok (.idiv, 1) := by decide +kernel
theorem dL_areAlike_135 : decode cL_areAlike 135 = .ok (.iload 4, 2) := by decide +kernel
theorem dL_areAlike_137 : decode cL_areAlike 137 = .ok (.iconst 4, 1) := by decide +kernel
theorem dL_areAlike_138 : decode cL_areAlike 138 = .ok (.irem, 1) := by decide +kernel
theorem dL_areAlike_139 : decode cL_areAlike 139 = .ok (.invokevirtual 69, 3) := by decide +kernel
theorem dL_areAlike_142 : decode cL_areAlike 142 = .ok (.aload_n 1, 1) := by decide +kernel
theorem dL_areAlike_143 : decode cL_areAlike 143 = .ok (.iload_n 3, 1) := by decide +kernel
theorem dL_areAlike_144 : decode cL_areAlike 144 = .ok (.bipush 10, 2) := by decide +kernel
theorem dL_areAlike_146 : decode cL_areAlike 146 = .ok (.iload 4, 2) := by decide +kernel
theorem dL_areAlike_148 : decode cL_areAlike 148 = .ok (.iconst 4, 1) := by decide +kernel
theorem dL_areAlike_149 : decode cL_areAlike 149 = .ok (.idiv, 1) := by decide +kernel
theorem dL_areAlike_150 : decode cL_areAlike 150 = .ok (.isub, 1) := by decide +kernel
theorem dL_areAlike_151 : decode cL_areAlike 151 = .ok (.iload 4, 2) := by decide +kernel
theorem dL_areAlike_153 : decode cL_areAlike 153 = .ok (.iconst 4, 1) := by decide +kernel
theorem dL_areAlike_154 : decode cL_areAlike 154 = .ok (.irem, 1) := by decide +kernel
theorem dL_areAlike_155 : decode cL_areAlike 155 = .ok (.invokevirtual 69, 3) := by decide +kernel
theorem dL_areAlike_158 : decode cL_areAlike 158 = .ok (.if_icmp .ne 7, 3) := by decide +kernel
theorem dL_areAlike_161 : decode cL_areAlike 161 = .ok (.iconst 1, 1) := by decide +kernel
theorem dL_areAlike_162 : decode cL_areAlike 162 = .ok (.goto 4, 3) := by decide +kernel
theorem dL_areAlike_165 : decode cL_areAlike 165 = .ok (.iconst 0, 1) := by decide +kernel
theorem dL_areAlike_166 : decode cL_areAlike 166 = .ok (.istore_n 2, 1) := by decide +kernel
theorem dL_areAlike_167 : decode cL_areAlike 167 = .ok (.iinc 4 1, 3) := by decide +kernel
theorem dL_areAlike_170 : decode cL_areAlike 170 = .ok (.goto (-52), 3) := by decide +kernel
theorem dL_areAlike_173 : decode cL_areAlike 173 = .ok (.iinc 3 1, 3) := by decide +kernel
theorem dL_areAlike_176 : decode cL_areAlike 176 = .ok (.goto (-135), 3) := by decide +kernel
theorem dL_areAlike_179 : decode cL_areAlike 179 = .ok (.iconst 0, 1) := by decide +kernel
theorem dL_areAlike_180 : decode cL_areAlike 180 = .ok (.istore_n 3, 1) := by decide +kernel
theorem dL_areAlike_181 : decode cL_areAlike 181 = .ok (.iload_n 3, 1) := by decide +kernel
theorem dL_areAlike_182 : decode cL_areAlike 182 = .ok (.bipush 44, 2) := by decide +kernel
theorem dL_areAlike_184 : decode cL_areAlike 184 = .ok (.if_icmp .ge 68, 3) := by decide +kernel
theorem dL_areAlike_187 : decode cL_areAlike 187 = .ok (.iload_n 2, 1) := by decide +kernel
theorem dL_areAlike_188 : decode cL_areAlike 188 = .ok (.ifCond .eq 64, 3) := by decide +kernel
theorem dL_areAlike_191 : decode cL_areAlike 191 = .ok (.iconst 0, 1) := by decide +kernel
theorem dL_areAlike_192 : decode cL_areAlike 192 = .ok (.istore 4, 2) := by decide +kernel
theorem dL_areAlike_194 : decode cL_areAlike 194 = .ok (.iload 4, 2) := by decide +kernel
theorem dL_areAlike_196 : decode cL_areAlike 196 = .ok (.iconst 3, 1) := by decide +kernel
theorem dL_areAlike_197 : decode cL_areAlike 197 = .ok (.if_icmp .ge 49, 3) := by decide +kernel
theorem dL_areAlike_200 : decode cL_areAlike 200 = .ok (.iload_n 2, 1) := by decide +kernel
theorem dL_areAlike_201 : decode cL_areAlike 201 = .ok (.ifCond .eq 37, 3) := by decide +kernel
theorem dL_areAlike_204 : decode cL_areAlike 204 = .ok (.aload_n 0, 1) := by decide +kernel
theorem dL_areAlike_205 : decode cL_areAlike 205 = .ok (.iload_n 3, 1) := by decide +kernel
theorem dL_areAlike_206 : decode cL_areAlike 206 = .ok (.iconst 4, 1) := by decide +kernel
theorem dL_areAlike_207 : decode cL_areAlike 207 = .ok (.irem, 1) := by decide +kernel
theorem dL_areAlike_208 : decode cL_areAlike 208 = .ok (.iload_n 3, 1) := by decide +kernel
theorem dL_areAlike_209 : decode cL_areAlike 209 = .ok (.iconst 4, 1) := by decide +kernel
theorem dL_areAlike_210 : decode cL_areAlike 210 = .ok (.idiv, 1) := by decide +kernel
theorem dL_areAlike_211 : decode cL_areAlike 211 = .ok (.iload 4, 2) := by decide +kernel
theorem dL_areAlike_213 : decode cL_areAlike 213 = .ok (.invokevirtual 72, 3) := by decide +kernel
theorem dL_areAlike_216 : decode cL_areAlike 216 = .ok (.aload_n 1, 1) := by decide +kernel
theorem dL_areAlike_217 : decode cL_areAlike 217 = .ok (.iload_n 3, 1) := by decide +kernel
theorem dL_areAlike_218 : decode cL_areAlike 218 = .ok (.iconst 4, 1) := by decide +kernel
theorem dL_areAlike_219 : decode cL_areAlike 219 = .ok (.irem, 1) := by decide +kernel
theorem dL_areAlike_220 : decode cL_areAlike 220 = .ok (.bipush 10, 2) := by decide +kernel
theorem dL_areAlike_222 : decode cL_areAlike 222 = .ok (.iload_n 3, 1) := by decide +kernel
