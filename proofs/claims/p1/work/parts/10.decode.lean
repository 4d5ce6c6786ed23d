theorem d_X_init_0 : decode b_X_init 0 = .ok (.aload_n 0, 1) := by decide +kernel
theorem d_X_init_1 : decode b_X_init 1 = .ok (.invokespecial 1, 3) := by decide +kernel
theorem d_X_init_4 : decode b_X_init 4 = .ok (.aload_n 0, 1) := by decide +kernel
theorem d_X_init_5 : decode b_X_init 5 = .ok (.bipush 64, 2) := by decide +kernel
theorem d_X_init_7 : decode b_X_init 7 = .ok (.newarray .int, 2) := by decide +kernel
theorem d_X_init_9 : decode b_X_init 9 = .ok (.putfield 9, 3) := by decide +kernel
theorem d_X_init_12 : decode b_X_init 12 = .ok (.aload_n 0, 1) := by decide +kernel
theorem d_X_init_13 : decode b_X_init 13 = .ok (.bipush 8, 2) := by decide +kernel
theorem d_X_init_15 : decode b_X_init 15 = .ok (.newarray .int, 2) := by decide +kernel
theorem d_X_init_17 : decode b_X_init 17 = .ok (.putfield 13, 3) := by decide +kernel
theorem d_X_init_20 : decode b_X_init 20 = .ok (.aload_n 0, 1) := by decide +kernel
theorem d_X_init_21 : decode b_X_init 21 = .ok (.iconst 2, 1) := by decide +kernel
theorem d_X_init_22 : decode b_X_init 22 = .ok (.iconst 4, 1) := by decide +kernel
theorem d_X_init_23 : decode b_X_init 23 = .ok (.iload_n 1, 1) := by decide +kernel
theorem d_X_init_24 : decode b_X_init 24 = .ok (.invokestatic 16, 3) := by decide +kernel
theorem d_X_init_27 : decode b_X_init 27 = .ok (.invokestatic 22, 3) := by decide +kernel
theorem d_X_init_30 : decode b_X_init 30 = .ok (.anewarray 25, 3) := by decide +kernel
theorem d_X_init_33 : decode b_X_init 33 = .ok (.putfield 27, 3) := by decide +kernel
theorem d_X_init_36 : decode b_X_init 36 = .ok (.iconst 0, 1) := by decide +kernel
theorem d_X_init_37 : decode b_X_init 37 = .ok (.istore_n 2, 1) := by decide +kernel
theorem d_X_init_38 : decode b_X_init 38 = .ok (.iload_n 2, 1) := by decide +kernel
theorem d_X_init_39 : decode b_X_init 39 = .ok (.aload_n 0, 1) := by decide +kernel
theorem d_X_init_40 : decode b_X_init 40 = .ok (.getfield 27, 3) := by decide +kernel
theorem d_X_init_43 : decode b_X_init 43 = .ok (.arraylength, 1) := by decide +kernel
theorem d_X_init_44 : decode b_X_init 44 = .ok (.if_icmp .ge 22, 3) := by decide +kernel
theorem d_X_init_47 : decode b_X_init 47 = .ok (.aload_n 0, 1) := by decide +kernel
theorem d_X_init_48 : decode b_X_init 48 = .ok (.getfield 27, 3) := by decide +kernel
theorem d_X_init_51 : decode b_X_init 51 = .ok (.iload_n 2, 1) := by decide +kernel
theorem d_X_init_52 : decode b_X_init 52 = .ok (.new 25, 3) := by decide +kernel
theorem d_X_init_55 : decode b_X_init 55 = .ok (.dup, 1) := by decide +kernel
theorem d_X_init_56 : decode b_X_init 56 = .ok (.invokespecial 31, 3) := by decide +kernel
theorem d_X_init_59 : decode b_X_init 59 = .ok (.aastore, 1) := by decide +kernel
theorem d_X_init_60 : decode b_X_init 60 = .ok (.iinc 2 1, 3) := by decide +kernel
theorem d_X_init_63 : decode b_X_init 63 = .ok (.goto (-25), 3) := by decide +kernel
theorem d_X_init_66 : decode b_X_init 66 = .ok (.return_, 1) := by decide +kernel
theorem d_X_request_0 : decode b_X_request 0 = .ok (.aload_n 0, 1) := by decide +kernel
theorem d_X_request_1 : decode b_X_request 1 = .ok (.iload_n 1, 1) := by decide +kernel
theorem d_X_request_2 : decode b_X_request 2 = .ok (.invokevirtual 32, 3) := by decide +kernel
theorem d_X_request_5 : decode b_X_request 5 = .ok (.astore 5, 2) := by decide +kernel
theorem d_X_request_7 : decode b_X_request 7 = .ok (.iload_n 2, 1) := by decide +kernel
theorem d_X_request_8 : decode b_X_request 8 = .ok (.invokestatic 36, 3) := by decide +kernel
theorem d_X_request_11 : decode b_X_request 11 = .ok (.ifCond .eq 28, 3) := by decide +kernel
theorem d_X_request_14 : decode b_X_request 14 = .ok (.iload_n 3, 1) := by decide +kernel
theorem d_X_request_15 : decode b_X_request 15 = .ok (.ifCond .lt 24, 3) := by decide +kernel
theorem d_X_request_18 : decode b_X_request 18 = .ok (.iload_n 3, 1) := by decide +kernel
theorem d_X_request_19 : decode b_X_request 19 = .ok (.iconst 2, 1) := by decide +kernel
theorem d_X_request_20 : decode b_X_request 20 = .ok (.if_icmp .gt 19, 3) := by decide +kernel
theorem d_X_request_23 : decode b_X_request 23 = .ok (.iload 4, 2) := by decide +kernel
theorem d_X_request_25 : decode b_X_request 25 = .ok (.ifCond .lt 14, 3) := by decide +kernel
theorem d_X_request_28 : decode b_X_request 28 = .ok (.iload 4, 2) := by decide +kernel
theorem d_X_request_30 : decode b_X_request 30 = .ok (.iconst 1, 1) := by decide +kernel
theorem d_X_request_31 : decode b_X_request 31 = .ok (.bipush 8, 2) := by decide +kernel
theorem d_X_request_33 : decode b_X_request 33 = .ok (.iload_n 3, 1) := by decide +kernel
theorem d_X_request_34 : decode b_X_request 34 = .ok (.imul, 1) := by decide +kernel
theorem d_X_request_35 : decode b_X_request 35 = .ok (.ishl, 1) := by decide +kernel
theorem d_X_request_36 : decode b_X_request 36 = .ok (.if_icmp .lt 13, 3) := by decide +kernel
theorem d_X_request_39 : decode b_X_request 39 = .ok (.new 40, 3) := by decide +kernel
theorem d_X_request_42 : decode b_X_request 42 = .ok (.dup, 1) := by decide +kernel
theorem d_X_request_43 : decode b_X_request 43 = .ok (.ldc 42, 2) := by decide +kernel
theorem d_X_request_45 : decode b_X_request 45 = .ok (.invokespecial 44, 3) := by decide +kernel
theorem d_X_request_48 : decode b_X_request 48 = .ok (.athrow, 1) := by decide +kernel
theorem d_X_request_49 : decode b_X_request 49 = .ok (.aload 5, 2) := by decide +kernel
theorem d_X_request_51 : decode b_X_request 51 = .ok (.getfield 47, 3) := by decide +kernel
theorem d_X_request_54 : decode b_X_request 54 = .ok (.bipush 7, 2) := by decide +kernel
theorem d_X_request_56 : decode b_X_request 56 = .ok (.if_icmp .eq 14, 3) := by decide +kernel
theorem d_X_request_59 : decode b_X_request 59 = .ok (.aload 5, 2) := by decide +kernel
theorem d_X_request_61 : decode b_X_request 61 = .ok (.getfield 51, 3) := by decide +kernel
theorem d_X_request_64 : decode b_X_request 64 = .ok (.invokevirtual 55, 3) := by decide +kernel
theorem d_X_request_67 : decode b_X_request 67 = .ok (.ifCond .eq 13, 3) := by decide +kernel
theorem d_X_request_70 : decode b_X_request 70 = .ok (.new 61, 3) := by decide +kernel
theorem d_X_request_73 : decode b_X_request 73 = .ok (.dup, 1) := by decide +kernel
theorem d_X_request_74 : decode b_X_request 74 = .ok (.ldc 63, 2) := by decide +kernel
theorem d_X_request_76 : decode b_X_request 76 = .ok (.invokespecial 65, 3) := by decide +kernel
theorem d_X_request_79 : decode b_X_request 79 = .ok (.athrow, 1) := by decide +kernel
theorem d_X_request_80 : decode b_X_request 80 = .ok (.aload 5, 2) := by decide +kernel
theorem d_X_request_82 : decode b_X_request 82 = .ok (.getfield 51, 3) := by decide +kernel
theorem d_X_request_85 : decode b_X_request 85 = .ok (.iload_n 2, 1) := by decide +kernel
theorem d_X_request_86 : decode b_X_request 86 = .ok (.iload_n 3, 1) := by decide +kernel
theorem d_X_request_87 : decode b_X_request 87 = .ok (.iload 4, 2) := by decide +kernel
theorem d_X_request_89 : decode b_X_request 89 = .ok (.invokestatic 66, 3) := by decide +kernel
theorem d_X_request_92 : decode b_X_request 92 = .ok (.invokevirtual 70, 3) := by decide +kernel
theorem d_X_request_95 : decode b_X_request 95 = .ok (.aload 5, 2) := by decide +kernel
theorem d_X_request_97 : decode b_X_request 97 = .ok (.getfield 51, 3) := by decide +kernel
theorem d_X_request_100 : decode b_X_request 100 = .ok (.getfield 74, 3) := by decide +kernel
theorem d_X_request_103 : decode b_X_request 103 = .ok (.ireturn, 1) := by decide +kernel
theorem d_X_filter_0 : decode b_X_filter 0 = .ok (.aload_n 0, 1) := by decide +kernel
theorem d_X_filter_1 : decode b_X_filter 1 = .ok (.iload_n 1, 1) := by decide +kernel
theorem d_X_filter_2 : decode b_X_filter 2 = .ok (.invokevirtual 32, 3) := by decide +kernel
theorem d_X_filter_5 : decode b_X_filter 5 = .ok (.astore 4, 2) := by decide +kernel
theorem d_X_filter_7 : decode b_X_filter 7 = .ok (.iload_n 2, 1) := by decide +kernel
theorem d_X_filter_8 : decode b_X_filter 8 = .ok (.invokestatic 36, 3) := by decide +kernel
theorem d_X_filter_11 : decode b_X_filter 11 = .ok (.ifCond .eq 10, 3) := by decide +kernel
theorem d_X_filter_14 : decode b_X_filter 14 = .ok (.iload_n 3, 1) := by decide +kernel
theorem d_X_filter_15 : decode b_X_filter 15 = .ok (.invokestatic 36, 3) := by decide +kernel
theorem d_X_filter_18 : decode b_X_filter 18 = .ok (.ifCond .ne 13, 3) := by decide +kernel
theorem d_X_filter_21 : decode b_X_filter 21 = .ok (.new 40, 3) := by decide +kernel
theorem d_X_filter_24 : decode b_X_filter 24 = .ok (.dup, 1) := by decide +kernel
theorem d_X_filter_25 : decode b_X_filter 25 = .ok (.ldc 77, 2) := by decide +kernel
theorem d_X_filter_27 : decode b_X_filter 27 = .ok (.invokespecial 44, 3) := by decide +kernel
theorem d_X_filter_30 : decode b_X_filter 30 = .ok (.athrow, 1) := by decide +kernel
theorem d_X_filter_31 : decode b_X_filter 31 = .ok (.aload 4, 2) := by decide +kernel
theorem d_X_filter_33 : decode b_X_filter 33 = .ok (.iload_n 2, 1) := by decide +kernel
theorem d_X_filter_34 : decode b_X_filter 34 = .ok (.putfield 79, 3) := by decide +kernel
theorem d_X_filter_37 : decode b_X_filter 37 = .ok (.aload 4, 2) := by decide +kernel
theorem d_X_filter_39 : decode b_X_filter 39 = .ok (.iload_n 3, 1) := by decide +kernel
theorem d_X_filter_40 : decode b_X_filter 40 = .ok (.putfield 82, 3) := by decide +kernel
theorem d_X_filter_43 : decode b_X_filter 43 = .ok (.return_, 1) := by decide +kernel
theorem d_X_disturb_0 : decode b_X_disturb 0 = .ok (.aload_n 0, 1) := by decide +kernel
theorem d_X_disturb_1 : decode b_X_disturb 1 = .ok (.iload_n 1, 1) := by decide +kernel
theorem d_X_disturb_2 : decode b_X_disturb 2 = .ok (.invokevirtual 32, 3) := by decide +kernel
theorem d_X_disturb_5 : decode b_X_disturb 5 = .ok (.astore_n 3, 1) := by decide +kernel
theorem d_X_disturb_6 : decode b_X_disturb 6 = .ok (.iload_n 2, 1) := by decide +kernel
theorem d_X_disturb_7 : decode b_X_disturb 7 = .ok (.invokestatic 85, 3) := by decide +kernel
theorem d_X_disturb_10 : decode b_X_disturb 10 = .ok (.aload_n 3, 1) := by decide +kernel
theorem d_X_disturb_11 : decode b_X_disturb 11 = .ok (.getfield 88, 3) := by decide +kernel
theorem d_X_disturb_14 : decode b_X_disturb 14 = .ok (.iload_n 2, 1) := by decide +kernel
theorem d_X_disturb_15 : decode b_X_disturb 15 = .ok (.invokevirtual 92, 3) := by decide +kernel
theorem d_X_disturb_18 : decode b_X_disturb 18 = .ok (.return_, 1) := by decide +kernel
theorem d_X_pass_0 : decode b_X_pass 0 = .ok (.iload_n 1, 1) := by decide +kernel
theorem d_X_pass_1 : decode b_X_pass 1 = .ok (.invokestatic 85, 3) := by decide +kernel
theorem d_X_pass_4 : decode b_X_pass 4 = .ok (.aload_n 0, 1) := by decide +kernel
theorem d_X_pass_5 : decode b_X_pass 5 = .ok (.getfield 13, 3) := by decide +kernel
theorem d_X_pass_8 : decode b_X_pass 8 = .ok (.iconst 1, 1) := by decide +kernel
theorem d_X_pass_9 : decode b_X_pass 9 = .ok (.iaload, 1) := by decide +kernel
theorem d_X_pass_10 : decode b_X_pass 10 = .ok (.istore_n 2, 1) := by decide +kernel
theorem d_X_pass_11 : decode b_X_pass 11 = .ok (.iconst 0, 1) := by decide +kernel
theorem d_X_pass_12 : decode b_X_pass 12 = .ok (.istore_n 3, 1) := by decide +kernel
theorem d_X_pass_13 : decode b_X_pass 13 = .ok (.iload_n 3, 1) := by decide +kernel
theorem d_X_pass_14 : decode b_X_pass 14 = .ok (.iload_n 1, 1) := by decide +kernel
theorem d_X_pass_15 : decode b_X_pass 15 = .ok (.if_icmp .ge 13, 3) := by decide +kernel
theorem d_X_pass_18 : decode b_X_pass 18 = .ok (.aload_n 0, 1) := by decide +kernel
theorem d_X_pass_19 : decode b_X_pass 19 = .ok (.invokevirtual 97, 3) := by decide +kernel
theorem d_X_pass_22 : decode b_X_pass 22 = .ok (.iinc 3 1, 3) := by decide +kernel
theorem d_X_pass_25 : decode b_X_pass 25 = .ok (.goto (-12), 3) := by decide +kernel
theorem d_X_pass_28 : decode b_X_pass 28 = .ok (.aload_n 0, 1) := by decide +kernel
theorem d_X_pass_29 : decode b_X_pass 29 = .ok (.getfield 13, 3) := by decide +kernel
theorem d_X_pass_32 : decode b_X_pass 32 = .ok (.iconst 1, 1) := by decide +kernel
theorem d_X_pass_33 : decode b_X_pass 33 = .ok (.iaload, 1) := by decide +kernel
theorem d_X_pass_34 : decode b_X_pass 34 = .ok (.iload_n 2, 1) := by decide +kernel
theorem d_X_pass_35 : decode b_X_pass 35 = .ok (.isub, 1) := by decide +kernel
theorem d_X_pass_36 : decode b_X_pass 36 = .ok (.ireturn, 1) := by decide +kernel
theorem d_X_level_0 : decode b_X_level 0 = .ok (.iload_n 1, 1) := by decide +kernel
theorem d_X_level_1 : decode b_X_level 1 = .ok (.ifCond .lt 19, 3) := by decide +kernel
theorem d_X_level_4 : decode b_X_level 4 = .ok (.iload_n 1, 1) := by decide +kernel
theorem d_X_level_5 : decode b_X_level 5 = .ok (.bipush 64, 2) := by decide +kernel
theorem d_X_level_7 : decode b_X_level 7 = .ok (.if_icmp .ge 13, 3) := by decide +kernel
theorem d_X_level_10 : decode b_X_level 10 = .ok (.iload_n 1, 1) := by decide +kernel
theorem d_X_level_11 : decode b_X_level 11 = .ok (.aload_n 0, 1) := by decide +kernel
theorem d_X_level_12 : decode b_X_level 12 = .ok (.getfield 13, 3) := by decide +kernel
theorem d_X_level_15 : decode b_X_level 15 = .ok (.iconst 0, 1) := by decide +kernel
theorem d_X_level_16 : decode b_X_level 16 = .ok (.iaload, 1) := by decide +kernel
theorem d_X_level_17 : decode b_X_level 17 = .ok (.if_icmp .lt 5, 3) := by decide +kernel
theorem d_X_level_20 : decode b_X_level 20 = .ok (.iconst (-1), 1) := by decide +kernel
theorem d_X_level_21 : decode b_X_level 21 = .ok (.ireturn, 1) := by decide +kernel
theorem d_X_level_22 : decode b_X_level 22 = .ok (.aload_n 0, 1) := by decide +kernel
theorem d_X_level_23 : decode b_X_level 23 = .ok (.getfield 9, 3) := by decide +kernel
theorem d_X_level_26 : decode b_X_level 26 = .ok (.aload_n 0, 1) := by decide +kernel
theorem d_X_level_27 : decode b_X_level 27 = .ok (.getfield 13, 3) := by decide +kernel
theorem d_X_level_30 : decode b_X_level 30 = .ok (.iconst 0, 1) := by decide +kernel
theorem d_X_level_31 : decode b_X_level 31 = .ok (.iaload, 1) := by decide +kernel
theorem d_X_level_32 : decode b_X_level 32 = .ok (.iconst 1, 1) := by decide +kernel
theorem d_X_level_33 : decode b_X_level 33 = .ok (.isub, 1) := by decide +kernel
theorem d_X_level_34 : decode b_X_level 34 = .ok (.iload_n 1, 1) := by decide +kernel
theorem d_X_level_35 : decode b_X_level 35 = .ok (.isub, 1) := by decide +kernel
theorem d_X_level_36 : decode b_X_level 36 = .ok (.bipush 64, 2) := by decide +kernel
theorem d_X_level_38 : decode b_X_level 38 = .ok (.irem, 1) := by decide +kernel
theorem d_X_level_39 : decode b_X_level 39 = .ok (.iaload, 1) := by decide +kernel
theorem d_X_level_40 : decode b_X_level 40 = .ok (.ireturn, 1) := by decide +kernel
theorem d_X_state_0 : decode b_X_state 0 = .ok (.aload_n 0, 1) := by decide +kernel
theorem d_X_state_1 : decode b_X_state 1 = .ok (.iload_n 1, 1) := by decide +kernel
theorem d_X_state_2 : decode b_X_state 2 = .ok (.invokevirtual 32, 3) := by decide +kernel
theorem d_X_state_5 : decode b_X_state 5 = .ok (.getfield 47, 3) := by decide +kernel
theorem d_X_state_8 : decode b_X_state 8 = .ok (.ireturn, 1) := by decide +kernel
theorem d_X_count_0 : decode b_X_count 0 = .ok (.aload_n 0, 1) := by decide +kernel
theorem d_X_count_1 : decode b_X_count 1 = .ok (.iload_n 1, 1) := by decide +kernel
theorem d_X_count_2 : decode b_X_count 2 = .ok (.invokevirtual 32, 3) := by decide +kernel
theorem d_X_count_5 : decode b_X_count 5 = .ok (.astore_n 3, 1) := by decide +kernel
theorem d_X_count_6 : decode b_X_count 6 = .ok (.iload_n 2, 1) := by decide +kernel
theorem d_X_count_7 : decode b_X_count 7 = .ok (.tableswitch 64 0 4 #[33, 38, 43, 51, 59], 33) := by decide +kernel
theorem d_X_count_40 : decode b_X_count 40 = .ok (.aload_n 3, 1) := by decide +kernel
theorem d_X_count_41 : decode b_X_count 41 = .ok (.getfield 100, 3) := by decide +kernel
theorem d_X_count_44 : decode b_X_count 44 = .ok (.ireturn, 1) := by decide +kernel
theorem d_X_count_45 : decode b_X_count 45 = .ok (.aload_n 3, 1) := by decide +kernel
theorem d_X_count_46 : decode b_X_count 46 = .ok (.getfield 103, 3) := by decide +kernel
theorem d_X_count_49 : decode b_X_count 49 = .ok (.ireturn, 1) := by decide +kernel
theorem d_X_count_50 : decode b_X_count 50 = .ok (.aload_n 3, 1) := by decide +kernel
theorem d_X_count_51 : decode b_X_count 51 = .ok (.getfield 51, 3) := by decide +kernel
theorem d_X_count_54 : decode b_X_count 54 = .ok (.getfield 74, 3) := by decide +kernel
theorem d_X_count_57 : decode b_X_count 57 = .ok (.ireturn, 1) := by decide +kernel
theorem d_X_count_58 : decode b_X_count 58 = .ok (.aload_n 3, 1) := by decide +kernel
theorem d_X_count_59 : decode b_X_count 59 = .ok (.getfield 106, 3) := by decide +kernel
theorem d_X_count_62 : decode b_X_count 62 = .ok (.getfield 74, 3) := by decide +kernel
theorem d_X_count_65 : decode b_X_count 65 = .ok (.ireturn, 1) := by decide +kernel
theorem d_X_count_66 : decode b_X_count 66 = .ok (.aload_n 3, 1) := by decide +kernel
theorem d_X_count_67 : decode b_X_count 67 = .ok (.getfield 109, 3) := by decide +kernel
theorem d_X_count_70 : decode b_X_count 70 = .ok (.ireturn, 1) := by decide +kernel
theorem d_X_count_71 : decode b_X_count 71 = .ok (.new 40, 3) := by decide +kernel
theorem d_X_count_74 : decode b_X_count 74 = .ok (.dup, 1) := by decide +kernel
theorem d_X_count_75 : decode b_X_count 75 = .ok (.ldc 112, 2) := by decide +kernel
theorem d_X_count_77 : decode b_X_count 77 = .ok (.invokespecial 44, 3) := by decide +kernel
theorem d_X_count_80 : decode b_X_count 80 = .ok (.athrow, 1) := by decide +kernel
theorem d_X_take_0 : decode b_X_take 0 = .ok (.aload_n 0, 1) := by decide +kernel
theorem d_X_take_1 : decode b_X_take 1 = .ok (.iload_n 1, 1) := by decide +kernel
theorem d_X_take_2 : decode b_X_take 2 = .ok (.invokevirtual 32, 3) := by decide +kernel
theorem d_X_take_5 : decode b_X_take 5 = .ok (.astore_n 2, 1) := by decide +kernel
theorem d_X_take_6 : decode b_X_take 6 = .ok (.aload_n 2, 1) := by decide +kernel
theorem d_X_take_7 : decode b_X_take 7 = .ok (.getfield 106, 3) := by decide +kernel
theorem d_X_take_10 : decode b_X_take 10 = .ok (.getfield 74, 3) := by decide +kernel
theorem d_X_take_13 : decode b_X_take 13 = .ok (.ifCond .ne 13, 3) := by decide +kernel
theorem d_X_take_16 : decode b_X_take 16 = .ok (.new 61, 3) := by decide +kernel
theorem d_X_take_19 : decode b_X_take 19 = .ok (.dup, 1) := by decide +kernel
theorem d_X_take_20 : decode b_X_take 20 = .ok (.ldc 114, 2) := by decide +kernel
theorem d_X_take_22 : decode b_X_take 22 = .ok (.invokespecial 65, 3) := by decide +kernel
theorem d_X_take_25 : decode b_X_take 25 = .ok (.athrow, 1) := by decide +kernel
theorem d_X_take_26 : decode b_X_take 26 = .ok (.aload_n 2, 1) := by decide +kernel
theorem d_X_take_27 : decode b_X_take 27 = .ok (.getfield 106, 3) := by decide +kernel
theorem d_X_take_30 : decode b_X_take 30 = .ok (.iconst 0, 1) := by decide +kernel
theorem d_X_take_31 : decode b_X_take 31 = .ok (.invokevirtual 116, 3) := by decide +kernel
theorem d_X_take_34 : decode b_X_take 34 = .ok (.ireturn, 1) := by decide +kernel
theorem d_X_total_0 : decode b_X_total 0 = .ok (.iload_n 1, 1) := by decide +kernel
theorem d_X_total_1 : decode b_X_total 1 = .ok (.ifCond .lt 9, 3) := by decide +kernel
theorem d_X_total_4 : decode b_X_total 4 = .ok (.iload_n 1, 1) := by decide +kernel
theorem d_X_total_5 : decode b_X_total 5 = .ok (.bipush 8, 2) := by decide +kernel
theorem d_X_total_7 : decode b_X_total 7 = .ok (.if_icmp .lt 13, 3) := by decide +kernel
theorem d_X_total_10 : decode b_X_total 10 = .ok (.new 40, 3) := by decide +kernel
theorem d_X_total_13 : decode b_X_total 13 = .ok (.dup, 1) := by decide +kernel
theorem d_X_total_14 : decode b_X_total 14 = .ok (.ldc 120, 2) := by decide +kernel
theorem d_X_total_16 : decode b_X_total 16 = .ok (.invokespecial 44, 3) := by decide +kernel
theorem d_X_total_19 : decode b_X_total 19 = .ok (.athrow, 1) := by decide +kernel
theorem d_X_total_20 : decode b_X_total 20 = .ok (.aload_n 0, 1) := by decide +kernel
theorem d_X_total_21 : decode b_X_total 21 = .ok (.getfield 13, 3) := by decide +kernel
theorem d_X_total_24 : decode b_X_total 24 = .ok (.iload_n 1, 1) := by decide +kernel
theorem d_X_total_25 : decode b_X_total 25 = .ok (.iaload, 1) := by decide +kernel
theorem d_X_total_26 : decode b_X_total 26 = .ok (.ireturn, 1) := by decide +kernel
theorem d_X_nodeOf_0 : decode b_X_nodeOf 0 = .ok (.iload_n 1, 1) := by decide +kernel
theorem d_X_nodeOf_1 : decode b_X_nodeOf 1 = .ok (.ifCond .lt 12, 3) := by decide +kernel
theorem d_X_nodeOf_4 : decode b_X_nodeOf 4 = .ok (.iload_n 1, 1) := by decide +kernel
theorem d_X_nodeOf_5 : decode b_X_nodeOf 5 = .ok (.aload_n 0, 1) := by decide +kernel
theorem d_X_nodeOf_6 : decode b_X_nodeOf 6 = .ok (.getfield 27, 3) := by decide +kernel
theorem d_X_nodeOf_9 : decode b_X_nodeOf 9 = .ok (.arraylength, 1) := by decide +kernel
theorem d_X_nodeOf_10 : decode b_X_nodeOf 10 = .ok (.if_icmp .lt 13, 3) := by decide +kernel
theorem d_X_nodeOf_13 : decode b_X_nodeOf 13 = .ok (.new 40, 3) := by decide +kernel
theorem d_X_nodeOf_16 : decode b_X_nodeOf 16 = .ok (.dup, 1) := by decide +kernel
theorem d_X_nodeOf_17 : decode b_X_nodeOf 17 = .ok (.ldc 122, 2) := by decide +kernel
theorem d_X_nodeOf_19 : decode b_X_nodeOf 19 = .ok (.invokespecial 44, 3) := by decide +kernel
theorem d_X_nodeOf_22 : decode b_X_nodeOf 22 = .ok (.athrow, 1) := by decide +kernel
theorem d_X_nodeOf_23 : decode b_X_nodeOf 23 = .ok (.aload_n 0, 1) := by decide +kernel
theorem d_X_nodeOf_24 : decode b_X_nodeOf 24 = .ok (.getfield 27, 3) := by decide +kernel
theorem d_X_nodeOf_27 : decode b_X_nodeOf 27 = .ok (.iload_n 1, 1) := by decide +kernel
theorem d_X_nodeOf_28 : decode b_X_nodeOf 28 = .ok (.aaload, 1) := by decide +kernel
theorem d_X_nodeOf_29 : decode b_X_nodeOf 29 = .ok (.areturn, 1) := by decide +kernel
theorem d_X_isEleven_0 : decode b_X_isEleven 0 = .ok (.iload_n 0, 1) := by decide +kernel
theorem d_X_isEleven_1 : decode b_X_isEleven 1 = .ok (.ifCond .lt 14, 3) := by decide +kernel
theorem d_X_isEleven_4 : decode b_X_isEleven 4 = .ok (.iload_n 0, 1) := by decide +kernel
theorem d_X_isEleven_5 : decode b_X_isEleven 5 = .ok (.sipush 2047, 3) := by decide +kernel
theorem d_X_isEleven_8 : decode b_X_isEleven 8 = .ok (.if_icmp .gt 7, 3) := by decide +kernel
theorem d_X_isEleven_11 : decode b_X_isEleven 11 = .ok (.iconst 1, 1) := by decide +kernel
theorem d_X_isEleven_12 : decode b_X_isEleven 12 = .ok (.goto 4, 3) := by decide +kernel
theorem d_X_isEleven_15 : decode b_X_isEleven 15 = .ok (.iconst 0, 1) := by decide +kernel
theorem d_X_isEleven_16 : decode b_X_isEleven 16 = .ok (.ireturn, 1) := by decide +kernel
theorem d_X_checkBitTimes_0 : decode b_X_checkBitTimes 0 = .ok (.iload_n 0, 1) := by decide +kernel
theorem d_X_checkBitTimes_1 : decode b_X_checkBitTimes 1 = .ok (.iconst 1, 1) := by decide +kernel
theorem d_X_checkBitTimes_2 : decode b_X_checkBitTimes 2 = .ok (.if_icmp .lt 10, 3) := by decide +kernel
theorem d_X_checkBitTimes_5 : decode b_X_checkBitTimes 5 = .ok (.iload_n 0, 1) := by decide +kernel
theorem d_X_checkBitTimes_6 : decode b_X_checkBitTimes 6 = .ok (.sipush 200, 3) := by decide +kernel
theorem d_X_checkBitTimes_9 : decode b_X_checkBitTimes 9 = .ok (.if_icmp .le 13, 3) := by decide +kernel
theorem d_X_checkBitTimes_12 : decode b_X_checkBitTimes 12 = .ok (.new 40, 3) := by decide +kernel
theorem d_X_checkBitTimes_15 : decode b_X_checkBitTimes 15 = .ok (.dup, 1) := by decide +kernel
theorem d_X_checkBitTimes_16 : decode b_X_checkBitTimes 16 = .ok (.ldc 124, 2) := by decide +kernel
theorem d_X_checkBitTimes_18 : decode b_X_checkBitTimes 18 = .ok (.invokespecial 44, 3) := by decide +kernel
theorem d_X_checkBitTimes_21 : decode b_X_checkBitTimes 21 = .ok (.athrow, 1) := by decide +kernel
theorem d_X_checkBitTimes_22 : decode b_X_checkBitTimes 22 = .ok (.return_, 1) := by decide +kernel
theorem d_X_passOne_0 : decode b_X_passOne 0 = .ok (.iconst 1, 1) := by decide +kernel
theorem d_X_passOne_1 : decode b_X_passOne 1 = .ok (.istore_n 1, 1) := by decide +kernel
theorem d_X_passOne_2 : decode b_X_passOne 2 = .ok (.iconst 0, 1) := by decide +kernel
theorem d_X_passOne_3 : decode b_X_passOne 3 = .ok (.istore_n 2, 1) := by decide +kernel
theorem d_X_passOne_4 : decode b_X_passOne 4 = .ok (.iload_n 2, 1) := by decide +kernel
theorem d_X_passOne_5 : decode b_X_passOne 5 = .ok (.aload_n 0, 1) := by decide +kernel
theorem d_X_passOne_6 : decode b_X_passOne 6 = .ok (.getfield 27, 3) := by decide +kernel
theorem d_X_passOne_9 : decode b_X_passOne 9 = .ok (.arraylength, 1) := by decide +kernel
theorem d_X_passOne_10 : decode b_X_passOne 10 = .ok (.if_icmp .ge 21, 3) := by decide +kernel
theorem d_X_passOne_13 : decode b_X_passOne 13 = .ok (.iload_n 1, 1) := by decide +kernel
theorem d_X_passOne_14 : decode b_X_passOne 14 = .ok (.aload_n 0, 1) := by decide +kernel
theorem d_X_passOne_15 : decode b_X_passOne 15 = .ok (.getfield 27, 3) := by decide +kernel
theorem d_X_passOne_18 : decode b_X_passOne 18 = .ok (.iload_n 2, 1) := by decide +kernel
theorem d_X_passOne_19 : decode b_X_passOne 19 = .ok (.aaload, 1) := by decide +kernel
theorem d_X_passOne_20 : decode b_X_passOne 20 = .ok (.invokevirtual 126, 3) := by decide +kernel
theorem d_X_passOne_23 : decode b_X_passOne 23 = .ok (.iand, 1) := by decide +kernel
theorem d_X_passOne_24 : decode b_X_passOne 24 = .ok (.istore_n 1, 1) := by decide +kernel
theorem d_X_passOne_25 : decode b_X_passOne 25 = .ok (.iinc 2 1, 3) := by decide +kernel
theorem d_X_passOne_28 : decode b_X_passOne 28 = .ok (.goto (-24), 3) := by decide +kernel
theorem d_X_passOne_31 : decode b_X_passOne 31 = .ok (.iconst 0, 1) := by decide +kernel
theorem d_X_passOne_32 : decode b_X_passOne 32 = .ok (.istore_n 2, 1) := by decide +kernel
theorem d_X_passOne_33 : decode b_X_passOne 33 = .ok (.iload_n 2, 1) := by decide +kernel
theorem d_X_passOne_34 : decode b_X_passOne 34 = .ok (.aload_n 0, 1) := by decide +kernel
theorem d_X_passOne_35 : decode b_X_passOne 35 = .ok (.getfield 27, 3) := by decide +kernel
theorem d_X_passOne_38 : decode b_X_passOne 38 = .ok (.arraylength, 1) := by decide +kernel
theorem d_X_passOne_39 : decode b_X_passOne 39 = .ok (.if_icmp .ge 34, 3) := by decide +kernel
theorem d_X_passOne_42 : decode b_X_passOne 42 = .ok (.aload_n 0, 1) := by decide +kernel
theorem d_X_passOne_43 : decode b_X_passOne 43 = .ok (.getfield 27, 3) := by decide +kernel
theorem d_X_passOne_46 : decode b_X_passOne 46 = .ok (.iload_n 2, 1) := by decide +kernel
theorem d_X_passOne_47 : decode b_X_passOne 47 = .ok (.aaload, 1) := by decide +kernel
theorem d_X_passOne_48 : decode b_X_passOne 48 = .ok (.iload_n 1, 1) := by decide +kernel
theorem d_X_passOne_49 : decode b_X_passOne 49 = .ok (.invokevirtual 130, 3) := by decide +kernel
theorem d_X_passOne_52 : decode b_X_passOne 52 = .ok (.istore_n 3, 1) := by decide +kernel
theorem d_X_passOne_53 : decode b_X_passOne 53 = .ok (.iload_n 3, 1) := by decide +kernel
theorem d_X_passOne_54 : decode b_X_passOne 54 = .ok (.ifCond .eq 13, 3) := by decide +kernel
theorem d_X_passOne_57 : decode b_X_passOne 57 = .ok (.aload_n 0, 1) := by decide +kernel
theorem d_X_passOne_58 : decode b_X_passOne 58 = .ok (.getfield 13, 3) := by decide +kernel
theorem d_X_passOne_61 : decode b_X_passOne 61 = .ok (.iload_n 3, 1) := by decide +kernel
theorem d_X_passOne_62 : decode b_X_passOne 62 = .ok (.dup2, 1) := by decide +kernel
theorem d_X_passOne_63 : decode b_X_passOne 63 = .ok (.iaload, 1) := by decide +kernel
theorem d_X_passOne_64 : decode b_X_passOne 64 = .ok (.iconst 1, 1) := by decide +kernel
theorem d_X_passOne_65 : decode b_X_passOne 65 = .ok (.iadd, 1) := by decide +kernel
theorem d_X_passOne_66 : decode b_X_passOne 66 = .ok (.iastore, 1) := by decide +kernel
theorem d_X_passOne_67 : decode b_X_passOne 67 = .ok (.iinc 2 1, 3) := by decide +kernel
theorem d_X_passOne_70 : decode b_X_passOne 70 = .ok (.goto (-37), 3) := by decide +kernel
theorem d_X_passOne_73 : decode b_X_passOne 73 = .ok (.aload_n 0, 1) := by decide +kernel
theorem d_X_passOne_74 : decode b_X_passOne 74 = .ok (.getfield 9, 3) := by decide +kernel
theorem d_X_passOne_77 : decode b_X_passOne 77 = .ok (.aload_n 0, 1) := by decide +kernel
theorem d_X_passOne_78 : decode b_X_passOne 78 = .ok (.getfield 13, 3) := by decide +kernel
theorem d_X_passOne_81 : decode b_X_passOne 81 = .ok (.iconst 0, 1) := by decide +kernel
theorem d_X_passOne_82 : decode b_X_passOne 82 = .ok (.iaload, 1) := by decide +kernel
theorem d_X_passOne_83 : decode b_X_passOne 83 = .ok (.bipush 64, 2) := by decide +kernel
theorem d_X_passOne_85 : decode b_X_passOne 85 = .ok (.invokestatic 133, 3) := by decide +kernel
theorem d_X_passOne_88 : decode b_X_passOne 88 = .ok (.iload_n 1, 1) := by decide +kernel
theorem d_X_passOne_89 : decode b_X_passOne 89 = .ok (.iastore, 1) := by decide +kernel
theorem d_X_passOne_90 : decode b_X_passOne 90 = .ok (.aload_n 0, 1) := by decide +kernel
theorem d_X_passOne_91 : decode b_X_passOne 91 = .ok (.getfield 13, 3) := by decide +kernel
theorem d_X_passOne_94 : decode b_X_passOne 94 = .ok (.iconst 0, 1) := by decide +kernel
theorem d_X_passOne_95 : decode b_X_passOne 95 = .ok (.dup2, 1) := by decide +kernel
theorem d_X_passOne_96 : decode b_X_passOne 96 = .ok (.iaload, 1) := by decide +kernel
theorem d_X_passOne_97 : decode b_X_passOne 97 = .ok (.iconst 1, 1) := by decide +kernel
theorem d_X_passOne_98 : decode b_X_passOne 98 = .ok (.iadd, 1) := by decide +kernel
theorem d_X_passOne_99 : decode b_X_passOne 99 = .ok (.iastore, 1) := by decide +kernel
theorem d_X_passOne_100 : decode b_X_passOne 100 = .ok (.return_, 1) := by decide +kernel
theorem d_Fr_init_0 : decode b_Fr_init 0 = .ok (.aload_n 0, 1) := by decide +kernel
theorem d_Fr_init_1 : decode b_Fr_init 1 = .ok (.invokespecial 3, 3) := by decide +kernel
theorem d_Fr_init_4 : decode b_Fr_init 4 = .ok (.aload_n 0, 1) := by decide +kernel
theorem d_Fr_init_5 : decode b_Fr_init 5 = .ok (.iconst 4, 1) := by decide +kernel
theorem d_Fr_init_6 : decode b_Fr_init 6 = .ok (.newarray .int, 2) := by decide +kernel
theorem d_Fr_init_8 : decode b_Fr_init 8 = .ok (.putfield 9, 3) := by decide +kernel
theorem d_Fr_init_11 : decode b_Fr_init 11 = .ok (.aload_n 0, 1) := by decide +kernel
theorem d_Fr_init_12 : decode b_Fr_init 12 = .ok (.iconst 0, 1) := by decide +kernel
theorem d_Fr_init_13 : decode b_Fr_init 13 = .ok (.putfield 15, 3) := by decide +kernel
theorem d_Fr_init_16 : decode b_Fr_init 16 = .ok (.return_, 1) := by decide +kernel
theorem d_Fr_packed_0 : decode b_Fr_packed 0 = .ok (.iload_n 0, 1) := by decide +kernel
theorem d_Fr_packed_1 : decode b_Fr_packed 1 = .ok (.sipush 2048, 3) := by decide +kernel
theorem d_Fr_packed_4 : decode b_Fr_packed 4 = .ok (.iload_n 1, 1) := by decide +kernel
theorem d_Fr_packed_5 : decode b_Fr_packed 5 = .ok (.imul, 1) := by decide +kernel
theorem d_Fr_packed_6 : decode b_Fr_packed 6 = .ok (.iadd, 1) := by decide +kernel
theorem d_Fr_packed_7 : decode b_Fr_packed 7 = .ok (.sipush 8192, 3) := by decide +kernel
theorem d_Fr_packed_10 : decode b_Fr_packed 10 = .ok (.iload_n 2, 1) := by decide +kernel
theorem d_Fr_packed_11 : decode b_Fr_packed 11 = .ok (.imul, 1) := by decide +kernel
theorem d_Fr_packed_12 : decode b_Fr_packed 12 = .ok (.iadd, 1) := by decide +kernel
theorem d_Fr_packed_13 : decode b_Fr_packed 13 = .ok (.ireturn, 1) := by decide +kernel
theorem d_Fr_isFull_0 : decode b_Fr_isFull 0 = .ok (.aload_n 0, 1) := by decide +kernel
theorem d_Fr_isFull_1 : decode b_Fr_isFull 1 = .ok (.getfield 15, 3) := by decide +kernel
theorem d_Fr_isFull_4 : decode b_Fr_isFull 4 = .ok (.iconst 4, 1) := by decide +kernel
theorem d_Fr_isFull_5 : decode b_Fr_isFull 5 = .ok (.if_icmp .lt 7, 3) := by decide +kernel
theorem d_Fr_isFull_8 : decode b_Fr_isFull 8 = .ok (.iconst 1, 1) := by decide +kernel
theorem d_Fr_isFull_9 : decode b_Fr_isFull 9 = .ok (.goto 4, 3) := by decide +kernel
theorem d_Fr_isFull_12 : decode b_Fr_isFull 12 = .ok (.iconst 0, 1) := by decide +kernel
theorem d_Fr_isFull_13 : decode b_Fr_isFull 13 = .ok (.ireturn, 1) := by decide +kernel
theorem d_Fr_add_0 : decode b_Fr_add 0 = .ok (.aload_n 0, 1) := by decide +kernel
theorem d_Fr_add_1 : decode b_Fr_add 1 = .ok (.invokevirtual 19, 3) := by decide +kernel
theorem d_Fr_add_4 : decode b_Fr_add 4 = .ok (.ifCond .ne 23, 3) := by decide +kernel
theorem d_Fr_add_7 : decode b_Fr_add 7 = .ok (.aload_n 0, 1) := by decide +kernel
theorem d_Fr_add_8 : decode b_Fr_add 8 = .ok (.getfield 9, 3) := by decide +kernel
theorem d_Fr_add_11 : decode b_Fr_add 11 = .ok (.aload_n 0, 1) := by decide +kernel
theorem d_Fr_add_12 : decode b_Fr_add 12 = .ok (.getfield 15, 3) := by decide +kernel
theorem d_Fr_add_15 : decode b_Fr_add 15 = .ok (.iload_n 1, 1) := by decide +kernel
theorem d_Fr_add_16 : decode b_Fr_add 16 = .ok (.iastore, 1) := by decide +kernel
theorem d_Fr_add_17 : decode b_Fr_add 17 = .ok (.aload_n 0, 1) := by decide +kernel
theorem d_Fr_add_18 : decode b_Fr_add 18 = .ok (.dup, 1) := by decide +kernel
theorem d_Fr_add_19 : decode b_Fr_add 19 = .ok (.getfield 15, 3) := by decide +kernel
theorem d_Fr_add_22 : decode b_Fr_add 22 = .ok (.iconst 1, 1) := by decide +kernel
theorem d_Fr_add_23 : decode b_Fr_add 23 = .ok (.iadd, 1) := by decide +kernel
theorem d_Fr_add_24 : decode b_Fr_add 24 = .ok (.putfield 15, 3) := by decide +kernel
theorem d_Fr_add_27 : decode b_Fr_add 27 = .ok (.return_, 1) := by decide +kernel
theorem d_Di_init_0 : decode b_Di_init 0 = .ok (.aload_n 0, 1) := by decide +kernel
theorem d_Di_init_1 : decode b_Di_init 1 = .ok (.invokespecial 3, 3) := by decide +kernel
theorem d_Di_init_4 : decode b_Di_init 4 = .ok (.aload_n 0, 1) := by decide +kernel
theorem d_Di_init_5 : decode b_Di_init 5 = .ok (.sipush 201, 3) := by decide +kernel
theorem d_Di_init_8 : decode b_Di_init 8 = .ok (.newarray .boolean, 2) := by decide +kernel
theorem d_Di_init_10 : decode b_Di_init 10 = .ok (.putfield 9, 3) := by decide +kernel
theorem d_Di_init_13 : decode b_Di_init 13 = .ok (.aload_n 0, 1) := by decide +kernel
theorem d_Di_init_14 : decode b_Di_init 14 = .ok (.iconst 0, 1) := by decide +kernel
theorem d_Di_init_15 : decode b_Di_init 15 = .ok (.putfield 15, 3) := by decide +kernel
theorem d_Di_init_18 : decode b_Di_init 18 = .ok (.return_, 1) := by decide +kernel
theorem d_Di_mark_0 : decode b_Di_mark 0 = .ok (.aload_n 0, 1) := by decide +kernel
theorem d_Di_mark_1 : decode b_Di_mark 1 = .ok (.getfield 9, 3) := by decide +kernel
theorem d_Di_mark_4 : decode b_Di_mark 4 = .ok (.aload_n 0, 1) := by decide +kernel
theorem d_Di_mark_5 : decode b_Di_mark 5 = .ok (.getfield 15, 3) := by decide +kernel
theorem d_Di_mark_8 : decode b_Di_mark 8 = .ok (.iload_n 1, 1) := by decide +kernel
theorem d_Di_mark_9 : decode b_Di_mark 9 = .ok (.iadd, 1) := by decide +kernel
theorem d_Di_mark_10 : decode b_Di_mark 10 = .ok (.aload_n 0, 1) := by decide +kernel
theorem d_Di_mark_11 : decode b_Di_mark 11 = .ok (.getfield 9, 3) := by decide +kernel
theorem d_Di_mark_14 : decode b_Di_mark 14 = .ok (.arraylength, 1) := by decide +kernel
theorem d_Di_mark_15 : decode b_Di_mark 15 = .ok (.invokestatic 19, 3) := by decide +kernel
theorem d_Di_mark_18 : decode b_Di_mark 18 = .ok (.iconst 1, 1) := by decide +kernel
theorem d_Di_mark_19 : decode b_Di_mark 19 = .ok (.bastore, 1) := by decide +kernel
theorem d_Di_mark_20 : decode b_Di_mark 20 = .ok (.return_, 1) := by decide +kernel
theorem d_Di_next_0 : decode b_Di_next 0 = .ok (.aload_n 0, 1) := by decide +kernel
theorem d_Di_next_1 : decode b_Di_next 1 = .ok (.aload_n 0, 1) := by decide +kernel
theorem d_Di_next_2 : decode b_Di_next 2 = .ok (.getfield 15, 3) := by decide +kernel
theorem d_Di_next_5 : decode b_Di_next 5 = .ok (.iconst 1, 1) := by decide +kernel
theorem d_Di_next_6 : decode b_Di_next 6 = .ok (.iadd, 1) := by decide +kernel
theorem d_Di_next_7 : decode b_Di_next 7 = .ok (.aload_n 0, 1) := by decide +kernel
theorem d_Di_next_8 : decode b_Di_next 8 = .ok (.getfield 9, 3) := by decide +kernel
theorem d_Di_next_11 : decode b_Di_next 11 = .ok (.arraylength, 1) := by decide +kernel
theorem d_Di_next_12 : decode b_Di_next 12 = .ok (.irem, 1) := by decide +kernel
theorem d_Di_next_13 : decode b_Di_next 13 = .ok (.putfield 15, 3) := by decide +kernel
theorem d_Di_next_16 : decode b_Di_next 16 = .ok (.aload_n 0, 1) := by decide +kernel
theorem d_Di_next_17 : decode b_Di_next 17 = .ok (.getfield 9, 3) := by decide +kernel
theorem d_Di_next_20 : decode b_Di_next 20 = .ok (.aload_n 0, 1) := by decide +kernel
theorem d_Di_next_21 : decode b_Di_next 21 = .ok (.getfield 15, 3) := by decide +kernel
theorem d_Di_next_24 : decode b_Di_next 24 = .ok (.baload, 1) := by decide +kernel
theorem d_Di_next_25 : decode b_Di_next 25 = .ok (.istore_n 1, 1) := by decide +kernel
theorem d_Di_next_26 : decode b_Di_next 26 = .ok (.aload_n 0, 1) := by decide +kernel
theorem d_Di_next_27 : decode b_Di_next 27 = .ok (.getfield 9, 3) := by decide +kernel
theorem d_Di_next_30 : decode b_Di_next 30 = .ok (.aload_n 0, 1) := by decide +kernel
theorem d_Di_next_31 : decode b_Di_next 31 = .ok (.getfield 15, 3) := by decide +kernel
theorem d_Di_next_34 : decode b_Di_next 34 = .ok (.iconst 0, 1) := by decide +kernel
theorem d_Di_next_35 : decode b_Di_next 35 = .ok (.bastore, 1) := by decide +kernel
theorem d_Di_next_36 : decode b_Di_next 36 = .ok (.iload_n 1, 1) := by decide +kernel
theorem d_Di_next_37 : decode b_Di_next 37 = .ok (.ireturn, 1) := by decide +kernel
theorem d_Co_init_0 : decode b_Co_init 0 = .ok (.aload_n 0, 1) := by decide +kernel
theorem d_Co_init_1 : decode b_Co_init 1 = .ok (.invokespecial 5, 3) := by decide +kernel
theorem d_Co_init_4 : decode b_Co_init 4 = .ok (.aload_n 0, 1) := by decide +kernel
theorem d_Co_init_5 : decode b_Co_init 5 = .ok (.bipush 50, 2) := by decide +kernel
theorem d_Co_init_7 : decode b_Co_init 7 = .ok (.newarray .int, 2) := by decide +kernel
theorem d_Co_init_9 : decode b_Co_init 9 = .ok (.putfield 11, 3) := by decide +kernel
theorem d_Co_init_12 : decode b_Co_init 12 = .ok (.aload_n 0, 1) := by decide +kernel
theorem d_Co_init_13 : decode b_Co_init 13 = .ok (.iconst 0, 1) := by decide +kernel
theorem d_Co_init_14 : decode b_Co_init 14 = .ok (.putfield 15, 3) := by decide +kernel
theorem d_Co_init_17 : decode b_Co_init 17 = .ok (.aload_n 0, 1) := by decide +kernel
theorem d_Co_init_18 : decode b_Co_init 18 = .ok (.iconst 0, 1) := by decide +kernel
theorem d_Co_init_19 : decode b_Co_init 19 = .ok (.putfield 19, 3) := by decide +kernel
theorem d_Co_init_22 : decode b_Co_init 22 = .ok (.return_, 1) := by decide +kernel
theorem d_Re_init_0 : decode b_Re_init 0 = .ok (.aload_n 0, 1) := by decide +kernel
theorem d_Re_init_1 : decode b_Re_init 1 = .ok (.invokespecial 3, 3) := by decide +kernel
theorem d_Re_init_4 : decode b_Re_init 4 = .ok (.aload_n 0, 1) := by decide +kernel
theorem d_Re_init_5 : decode b_Re_init 5 = .ok (.iconst 0, 1) := by decide +kernel
theorem d_Re_init_6 : decode b_Re_init 6 = .ok (.putfield 9, 3) := by decide +kernel
theorem d_Re_init_9 : decode b_Re_init 9 = .ok (.aload_n 0, 1) := by decide +kernel
theorem d_Re_init_10 : decode b_Re_init 10 = .ok (.bipush 50, 2) := by decide +kernel
theorem d_Re_init_12 : decode b_Re_init 12 = .ok (.putfield 17, 3) := by decide +kernel
theorem d_Re_init_15 : decode b_Re_init 15 = .ok (.aload_n 0, 1) := by decide +kernel
theorem d_Re_init_16 : decode b_Re_init 16 = .ok (.iconst 1, 1) := by decide +kernel
theorem d_Re_init_17 : decode b_Re_init 17 = .ok (.putfield 20, 3) := by decide +kernel
theorem d_Re_init_20 : decode b_Re_init 20 = .ok (.aload_n 0, 1) := by decide +kernel
theorem d_Re_init_21 : decode b_Re_init 21 = .ok (.iconst 0, 1) := by decide +kernel
theorem d_Re_init_22 : decode b_Re_init 22 = .ok (.putfield 23, 3) := by decide +kernel
theorem d_Re_init_25 : decode b_Re_init 25 = .ok (.aload_n 0, 1) := by decide +kernel
theorem d_Re_init_26 : decode b_Re_init 26 = .ok (.iconst 0, 1) := by decide +kernel
theorem d_Re_init_27 : decode b_Re_init 27 = .ok (.putfield 26, 3) := by decide +kernel
theorem d_Re_init_30 : decode b_Re_init 30 = .ok (.aload_n 0, 1) := by decide +kernel
theorem d_Re_init_31 : decode b_Re_init 31 = .ok (.iconst 0, 1) := by decide +kernel
theorem d_Re_init_32 : decode b_Re_init 32 = .ok (.putfield 29, 3) := by decide +kernel
theorem d_Re_init_35 : decode b_Re_init 35 = .ok (.aload_n 0, 1) := by decide +kernel
theorem d_Re_init_36 : decode b_Re_init 36 = .ok (.iconst 0, 1) := by decide +kernel
theorem d_Re_init_37 : decode b_Re_init 37 = .ok (.putfield 32, 3) := by decide +kernel
theorem d_Re_init_40 : decode b_Re_init 40 = .ok (.aload_n 0, 1) := by decide +kernel
theorem d_Re_init_41 : decode b_Re_init 41 = .ok (.iconst 0, 1) := by decide +kernel
theorem d_Re_init_42 : decode b_Re_init 42 = .ok (.putfield 35, 3) := by decide +kernel
theorem d_Re_init_45 : decode b_Re_init 45 = .ok (.return_, 1) := by decide +kernel
theorem d_No_init_0 : decode b_No_init 0 = .ok (.aload_n 0, 1) := by decide +kernel
theorem d_No_init_1 : decode b_No_init 1 = .ok (.invokespecial 3, 3) := by decide +kernel
theorem d_No_init_4 : decode b_No_init 4 = .ok (.aload_n 0, 1) := by decide +kernel
theorem d_No_init_5 : decode b_No_init 5 = .ok (.new 9, 3) := by decide +kernel
theorem d_No_init_8 : decode b_No_init 8 = .ok (.dup, 1) := by decide +kernel
theorem d_No_init_9 : decode b_No_init 9 = .ok (.invokespecial 11, 3) := by decide +kernel
theorem d_No_init_12 : decode b_No_init 12 = .ok (.putfield 12, 3) := by decide +kernel
theorem d_No_init_15 : decode b_No_init 15 = .ok (.aload_n 0, 1) := by decide +kernel
theorem d_No_init_16 : decode b_No_init 16 = .ok (.new 9, 3) := by decide +kernel
theorem d_No_init_19 : decode b_No_init 19 = .ok (.dup, 1) := by decide +kernel
theorem d_No_init_20 : decode b_No_init 20 = .ok (.invokespecial 11, 3) := by decide +kernel
theorem d_No_init_23 : decode b_No_init 23 = .ok (.putfield 18, 3) := by decide +kernel
theorem d_No_init_26 : decode b_No_init 26 = .ok (.aload_n 0, 1) := by decide +kernel
theorem d_No_init_27 : decode b_No_init 27 = .ok (.new 21, 3) := by decide +kernel
theorem d_No_init_30 : decode b_No_init 30 = .ok (.dup, 1) := by decide +kernel
theorem d_No_init_31 : decode b_No_init 31 = .ok (.invokespecial 23, 3) := by decide +kernel
theorem d_No_init_34 : decode b_No_init 34 = .ok (.putfield 24, 3) := by decide +kernel
theorem d_No_init_37 : decode b_No_init 37 = .ok (.aload_n 0, 1) := by decide +kernel
theorem d_No_init_38 : decode b_No_init 38 = .ok (.new 28, 3) := by decide +kernel
theorem d_No_init_41 : decode b_No_init 41 = .ok (.dup, 1) := by decide +kernel
theorem d_No_init_42 : decode b_No_init 42 = .ok (.invokespecial 30, 3) := by decide +kernel
theorem d_No_init_45 : decode b_No_init 45 = .ok (.putfield 31, 3) := by decide +kernel
theorem d_No_init_48 : decode b_No_init 48 = .ok (.aload_n 0, 1) := by decide +kernel
theorem d_No_init_49 : decode b_No_init 49 = .ok (.new 35, 3) := by decide +kernel
theorem d_No_init_52 : decode b_No_init 52 = .ok (.dup, 1) := by decide +kernel
theorem d_No_init_53 : decode b_No_init 53 = .ok (.invokespecial 37, 3) := by decide +kernel
theorem d_No_init_56 : decode b_No_init 56 = .ok (.putfield 38, 3) := by decide +kernel
theorem d_No_init_59 : decode b_No_init 59 = .ok (.aload_n 0, 1) := by decide +kernel
theorem d_No_init_60 : decode b_No_init 60 = .ok (.iconst 0, 1) := by decide +kernel
theorem d_No_init_61 : decode b_No_init 61 = .ok (.putfield 42, 3) := by decide +kernel
theorem d_No_init_64 : decode b_No_init 64 = .ok (.aload_n 0, 1) := by decide +kernel
theorem d_No_init_65 : decode b_No_init 65 = .ok (.iconst 0, 1) := by decide +kernel
theorem d_No_init_66 : decode b_No_init 66 = .ok (.putfield 46, 3) := by decide +kernel
theorem d_No_init_69 : decode b_No_init 69 = .ok (.aload_n 0, 1) := by decide +kernel
theorem d_No_init_70 : decode b_No_init 70 = .ok (.iconst 0, 1) := by decide +kernel
theorem d_No_init_71 : decode b_No_init 71 = .ok (.putfield 49, 3) := by decide +kernel
theorem d_No_init_74 : decode b_No_init 74 = .ok (.aload_n 0, 1) := by decide +kernel
theorem d_No_init_75 : decode b_No_init 75 = .ok (.iconst 0, 1) := by decide +kernel
theorem d_No_init_76 : decode b_No_init 76 = .ok (.putfield 52, 3) := by decide +kernel
theorem d_No_init_79 : decode b_No_init 79 = .ok (.aload_n 0, 1) := by decide +kernel
theorem d_No_init_80 : decode b_No_init 80 = .ok (.iconst 0, 1) := by decide +kernel
theorem d_No_init_81 : decode b_No_init 81 = .ok (.putfield 55, 3) := by decide +kernel
theorem d_No_init_84 : decode b_No_init 84 = .ok (.aload_n 0, 1) := by decide +kernel
theorem d_No_init_85 : decode b_No_init 85 = .ok (.iconst 0, 1) := by decide +kernel
theorem d_No_init_86 : decode b_No_init 86 = .ok (.putfield 58, 3) := by decide +kernel
theorem d_No_init_89 : decode b_No_init 89 = .ok (.aload_n 0, 1) := by decide +kernel
theorem d_No_init_90 : decode b_No_init 90 = .ok (.iconst 0, 1) := by decide +kernel
theorem d_No_init_91 : decode b_No_init 91 = .ok (.putfield 61, 3) := by decide +kernel
theorem d_No_init_94 : decode b_No_init 94 = .ok (.aload_n 0, 1) := by decide +kernel
theorem d_No_init_95 : decode b_No_init 95 = .ok (.iconst 0, 1) := by decide +kernel
theorem d_No_init_96 : decode b_No_init 96 = .ok (.putfield 64, 3) := by decide +kernel
theorem d_No_init_99 : decode b_No_init 99 = .ok (.aload_n 0, 1) := by decide +kernel
theorem d_No_init_100 : decode b_No_init 100 = .ok (.iconst 1, 1) := by decide +kernel
theorem d_No_init_101 : decode b_No_init 101 = .ok (.putfield 67, 3) := by decide +kernel
theorem d_No_init_104 : decode b_No_init 104 = .ok (.aload_n 0, 1) := by decide +kernel
theorem d_No_init_105 : decode b_No_init 105 = .ok (.iconst 0, 1) := by decide +kernel
theorem d_No_init_106 : decode b_No_init 106 = .ok (.putfield 70, 3) := by decide +kernel
theorem d_No_init_109 : decode b_No_init 109 = .ok (.aload_n 0, 1) := by decide +kernel
theorem d_No_init_110 : decode b_No_init 110 = .ok (.iconst 0, 1) := by decide +kernel
theorem d_No_init_111 : decode b_No_init 111 = .ok (.putfield 74, 3) := by decide +kernel
theorem d_No_init_114 : decode b_No_init 114 = .ok (.aload_n 0, 1) := by decide +kernel
theorem d_No_init_115 : decode b_No_init 115 = .ok (.iconst 0, 1) := by decide +kernel
theorem d_No_init_116 : decode b_No_init 116 = .ok (.putfield 77, 3) := by decide +kernel
theorem d_No_init_119 : decode b_No_init 119 = .ok (.aload_n 0, 1) := by decide +kernel
theorem d_No_init_120 : decode b_No_init 120 = .ok (.iconst 0, 1) := by decide +kernel
theorem d_No_init_121 : decode b_No_init 121 = .ok (.putfield 80, 3) := by decide +kernel
theorem d_No_init_124 : decode b_No_init 124 = .ok (.return_, 1) := by decide +kernel
theorem d_No_drive_0 : decode b_No_drive 0 = .ok (.aload_n 0, 1) := by decide +kernel
theorem d_No_drive_1 : decode b_No_drive 1 = .ok (.getfield 42, 3) := by decide +kernel
theorem d_No_drive_4 : decode b_No_drive 4 = .ok (.ifCond .ne 17, 3) := by decide +kernel
theorem d_No_drive_7 : decode b_No_drive 7 = .ok (.aload_n 0, 1) := by decide +kernel
theorem d_No_drive_8 : decode b_No_drive 8 = .ok (.getfield 12, 3) := by decide +kernel
theorem d_No_drive_11 : decode b_No_drive 11 = .ok (.getfield 83, 3) := by decide +kernel
theorem d_No_drive_14 : decode b_No_drive 14 = .ok (.ifCond .le 7, 3) := by decide +kernel
theorem d_No_drive_17 : decode b_No_drive 17 = .ok (.aload_n 0, 1) := by decide +kernel
theorem d_No_drive_18 : decode b_No_drive 18 = .ok (.invokevirtual 86, 3) := by decide +kernel
theorem d_No_drive_21 : decode b_No_drive 21 = .ok (.aload_n 0, 1) := by decide +kernel
theorem d_No_drive_22 : decode b_No_drive 22 = .ok (.aload_n 0, 1) := by decide +kernel
theorem d_No_drive_23 : decode b_No_drive 23 = .ok (.invokevirtual 89, 3) := by decide +kernel
theorem d_No_drive_26 : decode b_No_drive 26 = .ok (.putfield 67, 3) := by decide +kernel
theorem d_No_drive_29 : decode b_No_drive 29 = .ok (.aload_n 0, 1) := by decide +kernel
theorem d_No_drive_30 : decode b_No_drive 30 = .ok (.getfield 67, 3) := by decide +kernel
theorem d_No_drive_33 : decode b_No_drive 33 = .ok (.ireturn, 1) := by decide +kernel
theorem d_No_levelToDrive_0 : decode b_No_levelToDrive 0 = .ok (.aload_n 0, 1) := by decide +kernel
theorem d_No_levelToDrive_1 : decode b_No_levelToDrive 1 = .ok (.getfield 42, 3) := by decide +kernel
theorem d_No_levelToDrive_4 : decode b_No_levelToDrive 4 = .ok (.tableswitch 72 1 3 #[28, 33, 59], 28) := by decide +kernel
theorem d_No_levelToDrive_32 : decode b_No_levelToDrive 32 = .ok (.aload_n 0, 1) := by decide +kernel
theorem d_No_levelToDrive_33 : decode b_No_levelToDrive 33 = .ok (.invokevirtual 93, 3) := by decide +kernel
theorem d_No_levelToDrive_36 : decode b_No_levelToDrive 36 = .ok (.ireturn, 1) := by decide +kernel
theorem d_No_levelToDrive_37 : decode b_No_levelToDrive 37 = .ok (.aload_n 0, 1) := by decide +kernel
theorem d_No_levelToDrive_38 : decode b_No_levelToDrive 38 = .ok (.getfield 38, 3) := by decide +kernel
theorem d_No_levelToDrive_41 : decode b_No_levelToDrive 41 = .ok (.invokevirtual 96, 3) := by decide +kernel
theorem d_No_levelToDrive_44 : decode b_No_levelToDrive 44 = .ok (.ifCond .eq 17, 3) := by decide +kernel
theorem d_No_levelToDrive_47 : decode b_No_levelToDrive 47 = .ok (.aload_n 0, 1) := by decide +kernel
theorem d_No_levelToDrive_48 : decode b_No_levelToDrive 48 = .ok (.getfield 38, 3) := by decide +kernel
theorem d_No_levelToDrive_51 : decode b_No_levelToDrive 51 = .ok (.invokevirtual 100, 3) := by decide +kernel
theorem d_No_levelToDrive_54 : decode b_No_levelToDrive 54 = .ok (.ifCond .eq 7, 3) := by decide +kernel
theorem d_No_levelToDrive_57 : decode b_No_levelToDrive 57 = .ok (.iconst 0, 1) := by decide +kernel
theorem d_No_levelToDrive_58 : decode b_No_levelToDrive 58 = .ok (.goto 4, 3) := by decide +kernel
theorem d_No_levelToDrive_61 : decode b_No_levelToDrive 61 = .ok (.iconst 1, 1) := by decide +kernel
theorem d_No_levelToDrive_62 : decode b_No_levelToDrive 62 = .ok (.ireturn, 1) := by decide +kernel
theorem d_No_levelToDrive_63 : decode b_No_levelToDrive 63 = .ok (.aload_n 0, 1) := by decide +kernel
theorem d_No_levelToDrive_64 : decode b_No_levelToDrive 64 = .ok (.getfield 70, 3) := by decide +kernel
theorem d_No_levelToDrive_67 : decode b_No_levelToDrive 67 = .ok (.ifCond .eq 7, 3) := by decide +kernel
theorem d_No_levelToDrive_70 : decode b_No_levelToDrive 70 = .ok (.iconst 1, 1) := by decide +kernel
theorem d_No_levelToDrive_71 : decode b_No_levelToDrive 71 = .ok (.goto 4, 3) := by decide +kernel
theorem d_No_levelToDrive_74 : decode b_No_levelToDrive 74 = .ok (.iconst 0, 1) := by decide +kernel
theorem d_No_levelToDrive_75 : decode b_No_levelToDrive 75 = .ok (.ireturn, 1) := by decide +kernel
theorem d_No_levelToDrive_76 : decode b_No_levelToDrive 76 = .ok (.iconst 1, 1) := by decide +kernel
theorem d_No_levelToDrive_77 : decode b_No_levelToDrive 77 = .ok (.ireturn, 1) := by decide +kernel
theorem d_No_see_0 : decode b_No_see 0 = .ok (.aload_n 0, 1) := by decide +kernel
theorem d_No_see_1 : decode b_No_see 1 = .ok (.getfield 24, 3) := by decide +kernel
theorem d_No_see_4 : decode b_No_see 4 = .ok (.invokevirtual 116, 3) := by decide +kernel
theorem d_No_see_7 : decode b_No_see 7 = .ok (.ifCond .eq 9, 3) := by decide +kernel
theorem d_No_see_10 : decode b_No_see 10 = .ok (.iconst 1, 1) := by decide +kernel
theorem d_No_see_11 : decode b_No_see 11 = .ok (.iload_n 1, 1) := by decide +kernel
theorem d_No_see_12 : decode b_No_see 12 = .ok (.isub, 1) := by decide +kernel
theorem d_No_see_13 : decode b_No_see 13 = .ok (.goto 4, 3) := by decide +kernel
theorem d_No_see_16 : decode b_No_see 16 = .ok (.iload_n 1, 1) := by decide +kernel
theorem d_No_see_17 : decode b_No_see 17 = .ok (.istore_n 2, 1) := by decide +kernel
theorem d_No_see_18 : decode b_No_see 18 = .ok (.aload_n 0, 1) := by decide +kernel
theorem d_No_see_19 : decode b_No_see 19 = .ok (.getfield 42, 3) := by decide +kernel
theorem d_No_see_22 : decode b_No_see 22 = .ok (.tableswitch 84 1 7 #[42, 48, 54, 60, 66, 72, 78], 42) := by decide +kernel
theorem d_No_see_64 : decode b_No_see 64 = .ok (.aload_n 0, 1) := by decide +kernel
theorem d_No_see_65 : decode b_No_see 65 = .ok (.iload_n 2, 1) := by decide +kernel
theorem d_No_see_66 : decode b_No_see 66 = .ok (.invokevirtual 119, 3) := by decide +kernel
theorem d_No_see_69 : decode b_No_see 69 = .ok (.ireturn, 1) := by decide +kernel
theorem d_No_see_70 : decode b_No_see 70 = .ok (.aload_n 0, 1) := by decide +kernel
theorem d_No_see_71 : decode b_No_see 71 = .ok (.iload_n 2, 1) := by decide +kernel
theorem d_No_see_72 : decode b_No_see 72 = .ok (.invokevirtual 122, 3) := by decide +kernel
theorem d_No_see_75 : decode b_No_see 75 = .ok (.ireturn, 1) := by decide +kernel
theorem d_No_see_76 : decode b_No_see 76 = .ok (.aload_n 0, 1) := by decide +kernel
theorem d_No_see_77 : decode b_No_see 77 = .ok (.iload_n 2, 1) := by decide +kernel
theorem d_No_see_78 : decode b_No_see 78 = .ok (.invokevirtual 125, 3) := by decide +kernel
theorem d_No_see_81 : decode b_No_see 81 = .ok (.ireturn, 1) := by decide +kernel
theorem d_No_see_82 : decode b_No_see 82 = .ok (.aload_n 0, 1) := by decide +kernel
theorem d_No_see_83 : decode b_No_see 83 = .ok (.iload_n 2, 1) := by decide +kernel
theorem d_No_see_84 : decode b_No_see 84 = .ok (.invokevirtual 128, 3) := by decide +kernel
theorem d_No_see_87 : decode b_No_see 87 = .ok (.ireturn, 1) := by decide +kernel
theorem d_No_see_88 : decode b_No_see 88 = .ok (.aload_n 0, 1) := by decide +kernel
theorem d_No_see_89 : decode b_No_see 89 = .ok (.iload_n 2, 1) := by decide +kernel
theorem d_No_see_90 : decode b_No_see 90 = .ok (.invokevirtual 131, 3) := by decide +kernel
theorem d_No_see_93 : decode b_No_see 93 = .ok (.ireturn, 1) := by decide +kernel
theorem d_No_see_94 : decode b_No_see 94 = .ok (.aload_n 0, 1) := by decide +kernel
theorem d_No_see_95 : decode b_No_see 95 = .ok (.iload_n 2, 1) := by decide +kernel
theorem d_No_see_96 : decode b_No_see 96 = .ok (.invokevirtual 134, 3) := by decide +kernel
theorem d_No_see_99 : decode b_No_see 99 = .ok (.ireturn, 1) := by decide +kernel
theorem d_No_see_100 : decode b_No_see 100 = .ok (.aload_n 0, 1) := by decide +kernel
theorem d_No_see_101 : decode b_No_see 101 = .ok (.iload_n 2, 1) := by decide +kernel
theorem d_No_see_102 : decode b_No_see 102 = .ok (.invokevirtual 137, 3) := by decide +kernel
theorem d_No_see_105 : decode b_No_see 105 = .ok (.ireturn, 1) := by decide +kernel
theorem d_No_see_106 : decode b_No_see 106 = .ok (.iload_n 2, 1) := by decide +kernel
theorem d_No_see_107 : decode b_No_see 107 = .ok (.ifCond .ne 10, 3) := by decide +kernel
theorem d_No_see_110 : decode b_No_see 110 = .ok (.aload_n 0, 1) := by decide +kernel
theorem d_No_see_111 : decode b_No_see 111 = .ok (.invokevirtual 140, 3) := by decide +kernel
theorem d_No_see_114 : decode b_No_see 114 = .ok (.goto 4, 3) := by decide +kernel
theorem d_No_see_117 : decode b_No_see 117 = .ok (.iconst 0, 1) := by decide +kernel
theorem d_No_see_118 : decode b_No_see 118 = .ok (.ireturn, 1) := by decide +kernel
theorem d_M_init_0 : decode b_M_init 0 = .ok (.aload_n 0, 1) := by decide +kernel
theorem d_M_init_1 : decode b_M_init 1 = .ok (.invokespecial 1, 3) := by decide +kernel
theorem d_M_init_4 : decode b_M_init 4 = .ok (.aload_n 0, 1) := by decide +kernel
theorem d_M_init_5 : decode b_M_init 5 = .ok (.bipush 8, 2) := by decide +kernel
theorem d_M_init_7 : decode b_M_init 7 = .ok (.newarray .int, 2) := by decide +kernel
theorem d_M_init_9 : decode b_M_init 9 = .ok (.putfield 7, 3) := by decide +kernel
theorem d_M_init_12 : decode b_M_init 12 = .ok (.aload_n 0, 1) := by decide +kernel
theorem d_M_init_13 : decode b_M_init 13 = .ok (.bipush 64, 2) := by decide +kernel
theorem d_M_init_15 : decode b_M_init 15 = .ok (.newarray .int, 2) := by decide +kernel
theorem d_M_init_17 : decode b_M_init 17 = .ok (.putfield 13, 3) := by decide +kernel
theorem d_M_init_20 : decode b_M_init 20 = .ok (.aload_n 0, 1) := by decide +kernel
theorem d_M_init_21 : decode b_M_init 21 = .ok (.sipush 1024, 3) := by decide +kernel
theorem d_M_init_24 : decode b_M_init 24 = .ok (.newarray .boolean, 2) := by decide +kernel
theorem d_M_init_26 : decode b_M_init 26 = .ok (.putfield 16, 3) := by decide +kernel
theorem d_M_init_29 : decode b_M_init 29 = .ok (.aload_n 0, 1) := by decide +kernel
theorem d_M_init_30 : decode b_M_init 30 = .ok (.iconst 4, 1) := by decide +kernel
theorem d_M_init_31 : decode b_M_init 31 = .ok (.newarray .int, 2) := by decide +kernel
theorem d_M_init_33 : decode b_M_init 33 = .ok (.putfield 20, 3) := by decide +kernel
theorem d_M_init_36 : decode b_M_init 36 = .ok (.aload_n 0, 1) := by decide +kernel
theorem d_M_init_37 : decode b_M_init 37 = .ok (.iconst 4, 1) := by decide +kernel
theorem d_M_init_38 : decode b_M_init 38 = .ok (.newarray .int, 2) := by decide +kernel
theorem d_M_init_40 : decode b_M_init 40 = .ok (.putfield 23, 3) := by decide +kernel
theorem d_M_init_43 : decode b_M_init 43 = .ok (.aload_n 0, 1) := by decide +kernel
theorem d_M_init_44 : decode b_M_init 44 = .ok (.iconst 4, 1) := by decide +kernel
theorem d_M_init_45 : decode b_M_init 45 = .ok (.newarray .int, 2) := by decide +kernel
theorem d_M_init_47 : decode b_M_init 47 = .ok (.putfield 26, 3) := by decide +kernel
theorem d_M_init_50 : decode b_M_init 50 = .ok (.aload_n 0, 1) := by decide +kernel
theorem d_M_init_51 : decode b_M_init 51 = .ok (.iconst 4, 1) := by decide +kernel
theorem d_M_init_52 : decode b_M_init 52 = .ok (.newarray .int, 2) := by decide +kernel
theorem d_M_init_54 : decode b_M_init 54 = .ok (.putfield 29, 3) := by decide +kernel
theorem d_M_init_57 : decode b_M_init 57 = .ok (.aload_n 0, 1) := by decide +kernel
theorem d_M_init_58 : decode b_M_init 58 = .ok (.iconst 4, 1) := by decide +kernel
theorem d_M_init_59 : decode b_M_init 59 = .ok (.newarray .int, 2) := by decide +kernel
theorem d_M_init_61 : decode b_M_init 61 = .ok (.putfield 32, 3) := by decide +kernel
theorem d_M_init_64 : decode b_M_init 64 = .ok (.aload_n 0, 1) := by decide +kernel
theorem d_M_init_65 : decode b_M_init 65 = .ok (.iconst 4, 1) := by decide +kernel
theorem d_M_init_66 : decode b_M_init 66 = .ok (.newarray .int, 2) := by decide +kernel
theorem d_M_init_68 : decode b_M_init 68 = .ok (.putfield 35, 3) := by decide +kernel
theorem d_M_init_71 : decode b_M_init 71 = .ok (.aload_n 0, 1) := by decide +kernel
theorem d_M_init_72 : decode b_M_init 72 = .ok (.iconst 4, 1) := by decide +kernel
theorem d_M_init_73 : decode b_M_init 73 = .ok (.newarray .int, 2) := by decide +kernel
theorem d_M_init_75 : decode b_M_init 75 = .ok (.putfield 38, 3) := by decide +kernel
theorem d_M_init_78 : decode b_M_init 78 = .ok (.aload_n 0, 1) := by decide +kernel
theorem d_M_init_79 : decode b_M_init 79 = .ok (.bipush 16, 2) := by decide +kernel
theorem d_M_init_81 : decode b_M_init 81 = .ok (.newarray .int, 2) := by decide +kernel
theorem d_M_init_83 : decode b_M_init 83 = .ok (.putfield 41, 3) := by decide +kernel
theorem d_M_init_86 : decode b_M_init 86 = .ok (.aload_n 0, 1) := by decide +kernel
theorem d_M_init_87 : decode b_M_init 87 = .ok (.bipush 16, 2) := by decide +kernel
theorem d_M_init_89 : decode b_M_init 89 = .ok (.newarray .int, 2) := by decide +kernel
theorem d_M_init_91 : decode b_M_init 91 = .ok (.putfield 44, 3) := by decide +kernel
theorem d_M_init_94 : decode b_M_init 94 = .ok (.aload_n 0, 1) := by decide +kernel
theorem d_M_init_95 : decode b_M_init 95 = .ok (.bipush 16, 2) := by decide +kernel
theorem d_M_init_97 : decode b_M_init 97 = .ok (.newarray .int, 2) := by decide +kernel
theorem d_M_init_99 : decode b_M_init 99 = .ok (.putfield 47, 3) := by decide +kernel
theorem d_M_init_102 : decode b_M_init 102 = .ok (.aload_n 0, 1) := by decide +kernel
theorem d_M_init_103 : decode b_M_init 103 = .ok (.iconst 4, 1) := by decide +kernel
theorem d_M_init_104 : decode b_M_init 104 = .ok (.newarray .int, 2) := by decide +kernel
theorem d_M_init_106 : decode b_M_init 106 = .ok (.putfield 50, 3) := by decide +kernel
theorem d_M_init_109 : decode b_M_init 109 = .ok (.aload_n 0, 1) := by decide +kernel
theorem d_M_init_110 : decode b_M_init 110 = .ok (.iconst 4, 1) := by decide +kernel
theorem d_M_init_111 : decode b_M_init 111 = .ok (.newarray .int, 2) := by decide +kernel
theorem d_M_init_113 : decode b_M_init 113 = .ok (.putfield 53, 3) := by decide +kernel
theorem d_M_init_116 : decode b_M_init 116 = .ok (.aload_n 0, 1) := by decide +kernel
theorem d_M_init_117 : decode b_M_init 117 = .ok (.bipush 16, 2) := by decide +kernel
theorem d_M_init_119 : decode b_M_init 119 = .ok (.newarray .int, 2) := by decide +kernel
theorem d_M_init_121 : decode b_M_init 121 = .ok (.putfield 56, 3) := by decide +kernel
theorem d_M_init_124 : decode b_M_init 124 = .ok (.aload_n 0, 1) := by decide +kernel
theorem d_M_init_125 : decode b_M_init 125 = .ok (.iconst 4, 1) := by decide +kernel
theorem d_M_init_126 : decode b_M_init 126 = .ok (.newarray .int, 2) := by decide +kernel
theorem d_M_init_128 : decode b_M_init 128 = .ok (.putfield 59, 3) := by decide +kernel
theorem d_M_init_131 : decode b_M_init 131 = .ok (.aload_n 0, 1) := by decide +kernel
theorem d_M_init_132 : decode b_M_init 132 = .ok (.iconst 4, 1) := by decide +kernel
theorem d_M_init_133 : decode b_M_init 133 = .ok (.newarray .int, 2) := by decide +kernel
theorem d_M_init_135 : decode b_M_init 135 = .ok (.putfield 62, 3) := by decide +kernel
theorem d_M_init_138 : decode b_M_init 138 = .ok (.aload_n 0, 1) := by decide +kernel
theorem d_M_init_139 : decode b_M_init 139 = .ok (.iconst 4, 1) := by decide +kernel
theorem d_M_init_140 : decode b_M_init 140 = .ok (.newarray .int, 2) := by decide +kernel
theorem d_M_init_142 : decode b_M_init 142 = .ok (.putfield 65, 3) := by decide +kernel
theorem d_M_init_145 : decode b_M_init 145 = .ok (.aload_n 0, 1) := by decide +kernel
theorem d_M_init_146 : decode b_M_init 146 = .ok (.iconst 4, 1) := by decide +kernel
theorem d_M_init_147 : decode b_M_init 147 = .ok (.newarray .int, 2) := by decide +kernel
theorem d_M_init_149 : decode b_M_init 149 = .ok (.putfield 68, 3) := by decide +kernel
theorem d_M_init_152 : decode b_M_init 152 = .ok (.aload_n 0, 1) := by decide +kernel
theorem d_M_init_153 : decode b_M_init 153 = .ok (.iconst 4, 1) := by decide +kernel
theorem d_M_init_154 : decode b_M_init 154 = .ok (.newarray .int, 2) := by decide +kernel
theorem d_M_init_156 : decode b_M_init 156 = .ok (.putfield 71, 3) := by decide +kernel
theorem d_M_init_159 : decode b_M_init 159 = .ok (.aload_n 0, 1) := by decide +kernel
theorem d_M_init_160 : decode b_M_init 160 = .ok (.iconst 4, 1) := by decide +kernel
theorem d_M_init_161 : decode b_M_init 161 = .ok (.newarray .int, 2) := by decide +kernel
theorem d_M_init_163 : decode b_M_init 163 = .ok (.putfield 74, 3) := by decide +kernel
theorem d_M_init_166 : decode b_M_init 166 = .ok (.aload_n 0, 1) := by decide +kernel
theorem d_M_init_167 : decode b_M_init 167 = .ok (.iconst 4, 1) := by decide +kernel
theorem d_M_init_168 : decode b_M_init 168 = .ok (.newarray .int, 2) := by decide +kernel
theorem d_M_init_170 : decode b_M_init 170 = .ok (.putfield 77, 3) := by decide +kernel
theorem d_M_init_173 : decode b_M_init 173 = .ok (.aload_n 0, 1) := by decide +kernel
theorem d_M_init_174 : decode b_M_init 174 = .ok (.iconst 4, 1) := by decide +kernel
theorem d_M_init_175 : decode b_M_init 175 = .ok (.newarray .int, 2) := by decide +kernel
theorem d_M_init_177 : decode b_M_init 177 = .ok (.putfield 80, 3) := by decide +kernel
theorem d_M_init_180 : decode b_M_init 180 = .ok (.aload_n 0, 1) := by decide +kernel
theorem d_M_init_181 : decode b_M_init 181 = .ok (.iconst 4, 1) := by decide +kernel
theorem d_M_init_182 : decode b_M_init 182 = .ok (.newarray .int, 2) := by decide +kernel
theorem d_M_init_184 : decode b_M_init 184 = .ok (.putfield 83, 3) := by decide +kernel
theorem d_M_init_187 : decode b_M_init 187 = .ok (.aload_n 0, 1) := by decide +kernel
theorem d_M_init_188 : decode b_M_init 188 = .ok (.iconst 4, 1) := by decide +kernel
theorem d_M_init_189 : decode b_M_init 189 = .ok (.newarray .boolean, 2) := by decide +kernel
theorem d_M_init_191 : decode b_M_init 191 = .ok (.putfield 86, 3) := by decide +kernel
theorem d_M_init_194 : decode b_M_init 194 = .ok (.aload_n 0, 1) := by decide +kernel
theorem d_M_init_195 : decode b_M_init 195 = .ok (.iconst 4, 1) := by decide +kernel
theorem d_M_init_196 : decode b_M_init 196 = .ok (.newarray .int, 2) := by decide +kernel
theorem d_M_init_198 : decode b_M_init 198 = .ok (.putfield 89, 3) := by decide +kernel
theorem d_M_init_201 : decode b_M_init 201 = .ok (.aload_n 0, 1) := by decide +kernel
theorem d_M_init_202 : decode b_M_init 202 = .ok (.iconst 4, 1) := by decide +kernel
theorem d_M_init_203 : decode b_M_init 203 = .ok (.newarray .int, 2) := by decide +kernel
theorem d_M_init_205 : decode b_M_init 205 = .ok (.putfield 92, 3) := by decide +kernel
theorem d_M_init_208 : decode b_M_init 208 = .ok (.aload_n 0, 1) := by decide +kernel
theorem d_M_init_209 : decode b_M_init 209 = .ok (.iconst 4, 1) := by decide +kernel
theorem d_M_init_210 : decode b_M_init 210 = .ok (.newarray .int, 2) := by decide +kernel
theorem d_M_init_212 : decode b_M_init 212 = .ok (.putfield 95, 3) := by decide +kernel
theorem d_M_init_215 : decode b_M_init 215 = .ok (.aload_n 0, 1) := by decide +kernel
theorem d_M_init_216 : decode b_M_init 216 = .ok (.iconst 4, 1) := by decide +kernel
theorem d_M_init_217 : decode b_M_init 217 = .ok (.newarray .int, 2) := by decide +kernel
theorem d_M_init_219 : decode b_M_init 219 = .ok (.putfield 98, 3) := by decide +kernel
theorem d_M_init_222 : decode b_M_init 222 = .ok (.aload_n 0, 1) := by decide +kernel
theorem d_M_init_223 : decode b_M_init 223 = .ok (.iload_n 1, 1) := by decide +kernel
theorem d_M_init_224 : decode b_M_init 224 = .ok (.iconst 2, 1) := by decide +kernel
theorem d_M_init_225 : decode b_M_init 225 = .ok (.if_icmp .ge 7, 3) := by decide +kernel
theorem d_M_init_228 : decode b_M_init 228 = .ok (.iconst 2, 1) := by decide +kernel
theorem d_M_init_229 : decode b_M_init 229 = .ok (.goto 13, 3) := by decide +kernel
theorem d_M_init_232 : decode b_M_init 232 = .ok (.iload_n 1, 1) := by decide +kernel
theorem d_M_init_233 : decode b_M_init 233 = .ok (.iconst 4, 1) := by decide +kernel
theorem d_M_init_234 : decode b_M_init 234 = .ok (.if_icmp .le 7, 3) := by decide +kernel
theorem d_M_init_237 : decode b_M_init 237 = .ok (.iconst 4, 1) := by decide +kernel
theorem d_M_init_238 : decode b_M_init 238 = .ok (.goto 4, 3) := by decide +kernel
theorem d_M_init_241 : decode b_M_init 241 = .ok (.iload_n 1, 1) := by decide +kernel
theorem d_M_init_242 : decode b_M_init 242 = .ok (.putfield 101, 3) := by decide +kernel
theorem d_M_init_245 : decode b_M_init 245 = .ok (.return_, 1) := by decide +kernel
theorem d_M_thrown_0 : decode b_M_thrown 0 = .ok (.aload_n 0, 1) := by decide +kernel
theorem d_M_thrown_1 : decode b_M_thrown 1 = .ok (.getfield 105, 3) := by decide +kernel
theorem d_M_thrown_4 : decode b_M_thrown 4 = .ok (.ireturn, 1) := by decide +kernel
theorem d_M_noNode_0 : decode b_M_noNode 0 = .ok (.iload_n 1, 1) := by decide +kernel
theorem d_M_noNode_1 : decode b_M_noNode 1 = .ok (.ifCond .lt 11, 3) := by decide +kernel
theorem d_M_noNode_4 : decode b_M_noNode 4 = .ok (.iload_n 1, 1) := by decide +kernel
theorem d_M_noNode_5 : decode b_M_noNode 5 = .ok (.aload_n 0, 1) := by decide +kernel
theorem d_M_noNode_6 : decode b_M_noNode 6 = .ok (.getfield 101, 3) := by decide +kernel
theorem d_M_noNode_9 : decode b_M_noNode 9 = .ok (.if_icmp .lt 7, 3) := by decide +kernel
theorem d_M_noNode_12 : decode b_M_noNode 12 = .ok (.iconst 1, 1) := by decide +kernel
theorem d_M_noNode_13 : decode b_M_noNode 13 = .ok (.goto 4, 3) := by decide +kernel
theorem d_M_noNode_16 : decode b_M_noNode 16 = .ok (.iconst 0, 1) := by decide +kernel
theorem d_M_noNode_17 : decode b_M_noNode 17 = .ok (.ireturn, 1) := by decide +kernel
theorem d_M_request_0 : decode b_M_request 0 = .ok (.aload_n 0, 1) := by decide +kernel
theorem d_M_request_1 : decode b_M_request 1 = .ok (.iload_n 1, 1) := by decide +kernel
theorem d_M_request_2 : decode b_M_request 2 = .ok (.invokevirtual 108, 3) := by decide +kernel
theorem d_M_request_5 : decode b_M_request 5 = .ok (.ifCond .ne 39, 3) := by decide +kernel
theorem d_M_request_8 : decode b_M_request 8 = .ok (.iload_n 2, 1) := by decide +kernel
theorem d_M_request_9 : decode b_M_request 9 = .ok (.ifCond .lt 35, 3) := by decide +kernel
theorem d_M_request_12 : decode b_M_request 12 = .ok (.iload_n 2, 1) := by decide +kernel
theorem d_M_request_13 : decode b_M_request 13 = .ok (.sipush 2047, 3) := by decide +kernel
theorem d_M_request_16 : decode b_M_request 16 = .ok (.if_icmp .gt 28, 3) := by decide +kernel
theorem d_M_request_19 : decode b_M_request 19 = .ok (.iload_n 3, 1) := by decide +kernel
theorem d_M_request_20 : decode b_M_request 20 = .ok (.ifCond .lt 24, 3) := by decide +kernel
theorem d_M_request_23 : decode b_M_request 23 = .ok (.iload_n 3, 1) := by decide +kernel
theorem d_M_request_24 : decode b_M_request 24 = .ok (.iconst 2, 1) := by decide +kernel
theorem d_M_request_25 : decode b_M_request 25 = .ok (.if_icmp .gt 19, 3) := by decide +kernel
theorem d_M_request_28 : decode b_M_request 28 = .ok (.iload 4, 2) := by decide +kernel
theorem d_M_request_30 : decode b_M_request 30 = .ok (.ifCond .lt 14, 3) := by decide +kernel
theorem d_M_request_33 : decode b_M_request 33 = .ok (.iload 4, 2) := by decide +kernel
theorem d_M_request_35 : decode b_M_request 35 = .ok (.iconst 1, 1) := by decide +kernel
theorem d_M_request_36 : decode b_M_request 36 = .ok (.bipush 8, 2) := by decide +kernel
theorem d_M_request_38 : decode b_M_request 38 = .ok (.iload_n 3, 1) := by decide +kernel
theorem d_M_request_39 : decode b_M_request 39 = .ok (.imul, 1) := by decide +kernel
theorem d_M_request_40 : decode b_M_request 40 = .ok (.ishl, 1) := by decide +kernel
theorem d_M_request_41 : decode b_M_request 41 = .ok (.if_icmp .lt 7, 3) := by decide +kernel
theorem d_M_request_44 : decode b_M_request 44 = .ok (.iconst 1, 1) := by decide +kernel
theorem d_M_request_45 : decode b_M_request 45 = .ok (.goto 4, 3) := by decide +kernel
theorem d_M_request_48 : decode b_M_request 48 = .ok (.iconst 0, 1) := by decide +kernel
theorem d_M_request_49 : decode b_M_request 49 = .ok (.istore 5, 2) := by decide +kernel
theorem d_M_request_51 : decode b_M_request 51 = .ok (.aload_n 0, 1) := by decide +kernel
theorem d_M_request_52 : decode b_M_request 52 = .ok (.iload 5, 2) := by decide +kernel
theorem d_M_request_54 : decode b_M_request 54 = .ok (.ifCond .eq 7, 3) := by decide +kernel
theorem d_M_request_57 : decode b_M_request 57 = .ok (.iconst 1, 1) := by decide +kernel
theorem d_M_request_58 : decode b_M_request 58 = .ok (.goto 29, 3) := by decide +kernel
theorem d_M_request_61 : decode b_M_request 61 = .ok (.aload_n 0, 1) := by decide +kernel
theorem d_M_request_62 : decode b_M_request 62 = .ok (.getfield 38, 3) := by decide +kernel
theorem d_M_request_65 : decode b_M_request 65 = .ok (.iload_n 1, 1) := by decide +kernel
theorem d_M_request_66 : decode b_M_request 66 = .ok (.iaload, 1) := by decide +kernel
theorem d_M_request_67 : decode b_M_request 67 = .ok (.iconst 4, 1) := by decide +kernel
theorem d_M_request_68 : decode b_M_request 68 = .ok (.if_icmp .eq 14, 3) := by decide +kernel
theorem d_M_request_71 : decode b_M_request 71 = .ok (.aload_n 0, 1) := by decide +kernel
theorem d_M_request_72 : decode b_M_request 72 = .ok (.getfield 20, 3) := by decide +kernel
theorem d_M_request_75 : decode b_M_request 75 = .ok (.iload_n 1, 1) := by decide +kernel
theorem d_M_request_76 : decode b_M_request 76 = .ok (.iaload, 1) := by decide +kernel
theorem d_M_request_77 : decode b_M_request 77 = .ok (.bipush 7, 2) := by decide +kernel
theorem d_M_request_79 : decode b_M_request 79 = .ok (.if_icmp .ne 7, 3) := by decide +kernel
theorem d_M_request_82 : decode b_M_request 82 = .ok (.iconst 2, 1) := by decide +kernel
theorem d_M_request_83 : decode b_M_request 83 = .ok (.goto 4, 3) := by decide +kernel
theorem d_M_request_86 : decode b_M_request 86 = .ok (.iconst 0, 1) := by decide +kernel
theorem d_M_request_87 : decode b_M_request 87 = .ok (.putfield 105, 3) := by decide +kernel
theorem d_M_request_90 : decode b_M_request 90 = .ok (.aload_n 0, 1) := by decide +kernel
theorem d_M_request_91 : decode b_M_request 91 = .ok (.getfield 105, 3) := by decide +kernel
theorem d_M_request_94 : decode b_M_request 94 = .ok (.ifCond .eq 5, 3) := by decide +kernel
theorem d_M_request_97 : decode b_M_request 97 = .ok (.iconst 0, 1) := by decide +kernel
theorem d_M_request_98 : decode b_M_request 98 = .ok (.ireturn, 1) := by decide +kernel
theorem d_M_request_99 : decode b_M_request 99 = .ok (.iconst 4, 1) := by decide +kernel
theorem d_M_request_100 : decode b_M_request 100 = .ok (.iload_n 1, 1) := by decide +kernel
theorem d_M_request_101 : decode b_M_request 101 = .ok (.imul, 1) := by decide +kernel
theorem d_M_request_102 : decode b_M_request 102 = .ok (.aload_n 0, 1) := by decide +kernel
theorem d_M_request_103 : decode b_M_request 103 = .ok (.getfield 38, 3) := by decide +kernel
theorem d_M_request_106 : decode b_M_request 106 = .ok (.iload_n 1, 1) := by decide +kernel
theorem d_M_request_107 : decode b_M_request 107 = .ok (.iaload, 1) := by decide +kernel
theorem d_M_request_108 : decode b_M_request 108 = .ok (.iadd, 1) := by decide +kernel
theorem d_M_request_109 : decode b_M_request 109 = .ok (.istore 6, 2) := by decide +kernel
theorem d_M_request_111 : decode b_M_request 111 = .ok (.aload_n 0, 1) := by decide +kernel
theorem d_M_request_112 : decode b_M_request 112 = .ok (.getfield 41, 3) := by decide +kernel
theorem d_M_request_115 : decode b_M_request 115 = .ok (.iload 6, 2) := by decide +kernel
theorem d_M_request_117 : decode b_M_request 117 = .ok (.iload_n 2, 1) := by decide +kernel
theorem d_M_request_118 : decode b_M_request 118 = .ok (.iastore, 1) := by decide +kernel
theorem d_M_request_119 : decode b_M_request 119 = .ok (.aload_n 0, 1) := by decide +kernel
theorem d_M_request_120 : decode b_M_request 120 = .ok (.getfield 44, 3) := by decide +kernel
theorem d_M_request_123 : decode b_M_request 123 = .ok (.iload 6, 2) := by decide +kernel
theorem d_M_request_125 : decode b_M_request 125 = .ok (.iload_n 3, 1) := by decide +kernel
theorem d_M_request_126 : decode b_M_request 126 = .ok (.iastore, 1) := by decide +kernel
theorem d_M_request_127 : decode b_M_request 127 = .ok (.aload_n 0, 1) := by decide +kernel
theorem d_M_request_128 : decode b_M_request 128 = .ok (.getfield 47, 3) := by decide +kernel
theorem d_M_request_131 : decode b_M_request 131 = .ok (.iload 6, 2) := by decide +kernel
theorem d_M_request_133 : decode b_M_request 133 = .ok (.iload 4, 2) := by decide +kernel
theorem d_M_request_135 : decode b_M_request 135 = .ok (.iastore, 1) := by decide +kernel
theorem d_M_request_136 : decode b_M_request 136 = .ok (.aload_n 0, 1) := by decide +kernel
theorem d_M_request_137 : decode b_M_request 137 = .ok (.getfield 38, 3) := by decide +kernel
theorem d_M_request_140 : decode b_M_request 140 = .ok (.iload_n 1, 1) := by decide +kernel
theorem d_M_request_141 : decode b_M_request 141 = .ok (.dup2, 1) := by decide +kernel
theorem d_M_request_142 : decode b_M_request 142 = .ok (.iaload, 1) := by decide +kernel
theorem d_M_request_143 : decode b_M_request 143 = .ok (.iconst 1, 1) := by decide +kernel
theorem d_M_request_144 : decode b_M_request 144 = .ok (.iadd, 1) := by decide +kernel
theorem d_M_request_145 : decode b_M_request 145 = .ok (.iastore, 1) := by decide +kernel
theorem d_M_request_146 : decode b_M_request 146 = .ok (.aload_n 0, 1) := by decide +kernel
theorem d_M_request_147 : decode b_M_request 147 = .ok (.getfield 38, 3) := by decide +kernel
theorem d_M_request_150 : decode b_M_request 150 = .ok (.iload_n 1, 1) := by decide +kernel
theorem d_M_request_151 : decode b_M_request 151 = .ok (.iaload, 1) := by decide +kernel
theorem d_M_request_152 : decode b_M_request 152 = .ok (.ireturn, 1) := by decide +kernel
theorem d_M_filter_0 : decode b_M_filter 0 = .ok (.aload_n 0, 1) := by decide +kernel
theorem d_M_filter_1 : decode b_M_filter 1 = .ok (.aload_n 0, 1) := by decide +kernel
theorem d_M_filter_2 : decode b_M_filter 2 = .ok (.iload_n 1, 1) := by decide +kernel
theorem d_M_filter_3 : decode b_M_filter 3 = .ok (.invokevirtual 108, 3) := by decide +kernel
theorem d_M_filter_6 : decode b_M_filter 6 = .ok (.ifCond .ne 25, 3) := by decide +kernel
theorem d_M_filter_9 : decode b_M_filter 9 = .ok (.iload_n 2, 1) := by decide +kernel
theorem d_M_filter_10 : decode b_M_filter 10 = .ok (.ifCond .lt 21, 3) := by decide +kernel
theorem d_M_filter_13 : decode b_M_filter 13 = .ok (.iload_n 2, 1) := by decide +kernel
theorem d_M_filter_14 : decode b_M_filter 14 = .ok (.sipush 2047, 3) := by decide +kernel
theorem d_M_filter_17 : decode b_M_filter 17 = .ok (.if_icmp .gt 14, 3) := by decide +kernel
theorem d_M_filter_20 : decode b_M_filter 20 = .ok (.iload_n 3, 1) := by decide +kernel
theorem d_M_filter_21 : decode b_M_filter 21 = .ok (.ifCond .lt 10, 3) := by decide +kernel
theorem d_M_filter_24 : decode b_M_filter 24 = .ok (.iload_n 3, 1) := by decide +kernel
theorem d_M_filter_25 : decode b_M_filter 25 = .ok (.sipush 2047, 3) := by decide +kernel
theorem d_M_filter_28 : decode b_M_filter 28 = .ok (.if_icmp .le 7, 3) := by decide +kernel
theorem d_M_filter_31 : decode b_M_filter 31 = .ok (.iconst 1, 1) := by decide +kernel
theorem d_M_filter_32 : decode b_M_filter 32 = .ok (.goto 4, 3) := by decide +kernel
theorem d_M_filter_35 : decode b_M_filter 35 = .ok (.iconst 0, 1) := by decide +kernel
theorem d_M_filter_36 : decode b_M_filter 36 = .ok (.putfield 105, 3) := by decide +kernel
theorem d_M_filter_39 : decode b_M_filter 39 = .ok (.aload_n 0, 1) := by decide +kernel
theorem d_M_filter_40 : decode b_M_filter 40 = .ok (.getfield 105, 3) := by decide +kernel
theorem d_M_filter_43 : decode b_M_filter 43 = .ok (.ifCond .ne 17, 3) := by decide +kernel
theorem d_M_filter_46 : decode b_M_filter 46 = .ok (.aload_n 0, 1) := by decide +kernel
theorem d_M_filter_47 : decode b_M_filter 47 = .ok (.getfield 29, 3) := by decide +kernel
theorem d_M_filter_50 : decode b_M_filter 50 = .ok (.iload_n 1, 1) := by decide +kernel
theorem d_M_filter_51 : decode b_M_filter 51 = .ok (.iload_n 2, 1) := by decide +kernel
theorem d_M_filter_52 : decode b_M_filter 52 = .ok (.iastore, 1) := by decide +kernel
theorem d_M_filter_53 : decode b_M_filter 53 = .ok (.aload_n 0, 1) := by decide +kernel
theorem d_M_filter_54 : decode b_M_filter 54 = .ok (.getfield 32, 3) := by decide +kernel
theorem d_M_filter_57 : decode b_M_filter 57 = .ok (.iload_n 1, 1) := by decide +kernel
theorem d_M_filter_58 : decode b_M_filter 58 = .ok (.iload_n 3, 1) := by decide +kernel
theorem d_M_filter_59 : decode b_M_filter 59 = .ok (.iastore, 1) := by decide +kernel
theorem d_M_filter_60 : decode b_M_filter 60 = .ok (.return_, 1) := by decide +kernel
theorem d_M_disturb_0 : decode b_M_disturb 0 = .ok (.aload_n 0, 1) := by decide +kernel
theorem d_M_disturb_1 : decode b_M_disturb 1 = .ok (.aload_n 0, 1) := by decide +kernel
theorem d_M_disturb_2 : decode b_M_disturb 2 = .ok (.iload_n 1, 1) := by decide +kernel
theorem d_M_disturb_3 : decode b_M_disturb 3 = .ok (.invokevirtual 108, 3) := by decide +kernel
theorem d_M_disturb_6 : decode b_M_disturb 6 = .ok (.ifCond .ne 15, 3) := by decide +kernel
theorem d_M_disturb_9 : decode b_M_disturb 9 = .ok (.iload_n 2, 1) := by decide +kernel
theorem d_M_disturb_10 : decode b_M_disturb 10 = .ok (.iconst 1, 1) := by decide +kernel
theorem d_M_disturb_11 : decode b_M_disturb 11 = .ok (.if_icmp .lt 10, 3) := by decide +kernel
theorem d_M_disturb_14 : decode b_M_disturb 14 = .ok (.iload_n 2, 1) := by decide +kernel
theorem d_M_disturb_15 : decode b_M_disturb 15 = .ok (.sipush 200, 3) := by decide +kernel
theorem d_M_disturb_18 : decode b_M_disturb 18 = .ok (.if_icmp .le 7, 3) := by decide +kernel
theorem d_M_disturb_21 : decode b_M_disturb 21 = .ok (.iconst 1, 1) := by decide +kernel
theorem d_M_disturb_22 : decode b_M_disturb 22 = .ok (.goto 4, 3) := by decide +kernel
theorem d_M_disturb_25 : decode b_M_disturb 25 = .ok (.iconst 0, 1) := by decide +kernel
theorem d_M_disturb_26 : decode b_M_disturb 26 = .ok (.putfield 105, 3) := by decide +kernel
theorem d_M_disturb_29 : decode b_M_disturb 29 = .ok (.aload_n 0, 1) := by decide +kernel
theorem d_M_disturb_30 : decode b_M_disturb 30 = .ok (.getfield 105, 3) := by decide +kernel
theorem d_M_disturb_33 : decode b_M_disturb 33 = .ok (.ifCond .ne 27, 3) := by decide +kernel
theorem d_M_disturb_36 : decode b_M_disturb 36 = .ok (.aload_n 0, 1) := by decide +kernel
theorem d_M_disturb_37 : decode b_M_disturb 37 = .ok (.getfield 16, 3) := by decide +kernel
theorem d_M_disturb_40 : decode b_M_disturb 40 = .ok (.sipush 256, 3) := by decide +kernel
theorem d_M_disturb_43 : decode b_M_disturb 43 = .ok (.iload_n 1, 1) := by decide +kernel
theorem d_M_disturb_44 : decode b_M_disturb 44 = .ok (.imul, 1) := by decide +kernel
theorem d_M_disturb_45 : decode b_M_disturb 45 = .ok (.aload_n 0, 1) := by decide +kernel
theorem d_M_disturb_46 : decode b_M_disturb 46 = .ok (.getfield 7, 3) := by decide +kernel
theorem d_M_disturb_49 : decode b_M_disturb 49 = .ok (.iconst 0, 1) := by decide +kernel
theorem d_M_disturb_50 : decode b_M_disturb 50 = .ok (.iaload, 1) := by decide +kernel
theorem d_M_disturb_51 : decode b_M_disturb 51 = .ok (.iload_n 2, 1) := by decide +kernel
theorem d_M_disturb_52 : decode b_M_disturb 52 = .ok (.iadd, 1) := by decide +kernel
theorem d_M_disturb_53 : decode b_M_disturb 53 = .ok (.sipush 256, 3) := by decide +kernel
theorem d_M_disturb_56 : decode b_M_disturb 56 = .ok (.irem, 1) := by decide +kernel
theorem d_M_disturb_57 : decode b_M_disturb 57 = .ok (.iadd, 1) := by decide +kernel
theorem d_M_disturb_58 : decode b_M_disturb 58 = .ok (.iconst 1, 1) := by decide +kernel
theorem d_M_disturb_59 : decode b_M_disturb 59 = .ok (.bastore, 1) := by decide +kernel
theorem d_M_disturb_60 : decode b_M_disturb 60 = .ok (.return_, 1) := by decide +kernel
theorem d_M_driven_0 : decode b_M_driven 0 = .ok (.aload_n 0, 1) := by decide +kernel
theorem d_M_driven_1 : decode b_M_driven 1 = .ok (.getfield 20, 3) := by decide +kernel
theorem d_M_driven_4 : decode b_M_driven 4 = .ok (.iload_n 1, 1) := by decide +kernel
theorem d_M_driven_5 : decode b_M_driven 5 = .ok (.iaload, 1) := by decide +kernel
theorem d_M_driven_6 : decode b_M_driven 6 = .ok (.tableswitch 106 1 3 #[26, 66, 91], 26) := by decide +kernel
theorem d_M_driven_32 : decode b_M_driven 32 = .ok (.aload_n 0, 1) := by decide +kernel
theorem d_M_driven_33 : decode b_M_driven 33 = .ok (.getfield 59, 3) := by decide +kernel
theorem d_M_driven_36 : decode b_M_driven 36 = .ok (.iload_n 1, 1) := by decide +kernel
theorem d_M_driven_37 : decode b_M_driven 37 = .ok (.iaload, 1) := by decide +kernel
theorem d_M_driven_38 : decode b_M_driven 38 = .ok (.ifCond .le 7, 3) := by decide +kernel
theorem d_M_driven_41 : decode b_M_driven 41 = .ok (.iconst 1, 1) := by decide +kernel
theorem d_M_driven_42 : decode b_M_driven 42 = .ok (.goto 29, 3) := by decide +kernel
theorem d_M_driven_45 : decode b_M_driven 45 = .ok (.aload_n 0, 1) := by decide +kernel
theorem d_M_driven_46 : decode b_M_driven 46 = .ok (.getfield 65, 3) := by decide +kernel
theorem d_M_driven_49 : decode b_M_driven 49 = .ok (.iload_n 1, 1) := by decide +kernel
theorem d_M_driven_50 : decode b_M_driven 50 = .ok (.iaload, 1) := by decide +kernel
theorem d_M_driven_51 : decode b_M_driven 51 = .ok (.iconst 5, 1) := by decide +kernel
theorem d_M_driven_52 : decode b_M_driven 52 = .ok (.if_icmp .ne 14, 3) := by decide +kernel
theorem d_M_driven_55 : decode b_M_driven 55 = .ok (.iconst 1, 1) := by decide +kernel
theorem d_M_driven_56 : decode b_M_driven 56 = .ok (.aload_n 0, 1) := by decide +kernel
theorem d_M_driven_57 : decode b_M_driven 57 = .ok (.getfield 68, 3) := by decide +kernel
theorem d_M_driven_60 : decode b_M_driven 60 = .ok (.iload_n 1, 1) := by decide +kernel
theorem d_M_driven_61 : decode b_M_driven 61 = .ok (.iaload, 1) := by decide +kernel
theorem d_M_driven_62 : decode b_M_driven 62 = .ok (.isub, 1) := by decide +kernel
theorem d_M_driven_63 : decode b_M_driven 63 = .ok (.goto 8, 3) := by decide +kernel
theorem d_M_driven_66 : decode b_M_driven 66 = .ok (.aload_n 0, 1) := by decide +kernel
theorem d_M_driven_67 : decode b_M_driven 67 = .ok (.iload_n 1, 1) := by decide +kernel
theorem d_M_driven_68 : decode b_M_driven 68 = .ok (.invokevirtual 116, 3) := by decide +kernel
theorem d_M_driven_71 : decode b_M_driven 71 = .ok (.ireturn, 1) := by decide +kernel
theorem d_M_driven_72 : decode b_M_driven 72 = .ok (.aload_n 0, 1) := by decide +kernel
theorem d_M_driven_73 : decode b_M_driven 73 = .ok (.getfield 59, 3) := by decide +kernel
theorem d_M_driven_76 : decode b_M_driven 76 = .ok (.iload_n 1, 1) := by decide +kernel
theorem d_M_driven_77 : decode b_M_driven 77 = .ok (.iaload, 1) := by decide +kernel
theorem d_M_driven_78 : decode b_M_driven 78 = .ok (.iconst 2, 1) := by decide +kernel
theorem d_M_driven_79 : decode b_M_driven 79 = .ok (.if_icmp .ne 16, 3) := by decide +kernel
theorem d_M_driven_82 : decode b_M_driven 82 = .ok (.aload_n 0, 1) := by decide +kernel
theorem d_M_driven_83 : decode b_M_driven 83 = .ok (.getfield 71, 3) := by decide +kernel
theorem d_M_driven_86 : decode b_M_driven 86 = .ok (.iload_n 1, 1) := by decide +kernel
theorem d_M_driven_87 : decode b_M_driven 87 = .ok (.iaload, 1) := by decide +kernel
theorem d_M_driven_88 : decode b_M_driven 88 = .ok (.ifCond .ne 7, 3) := by decide +kernel
theorem d_M_driven_91 : decode b_M_driven 91 = .ok (.iconst 0, 1) := by decide +kernel
theorem d_M_driven_92 : decode b_M_driven 92 = .ok (.goto 4, 3) := by decide +kernel
theorem d_M_driven_95 : decode b_M_driven 95 = .ok (.iconst 1, 1) := by decide +kernel
theorem d_M_driven_96 : decode b_M_driven 96 = .ok (.ireturn, 1) := by decide +kernel
theorem d_M_driven_97 : decode b_M_driven 97 = .ok (.aload_n 0, 1) := by decide +kernel
theorem d_M_driven_98 : decode b_M_driven 98 = .ok (.getfield 86, 3) := by decide +kernel
theorem d_M_driven_101 : decode b_M_driven 101 = .ok (.iload_n 1, 1) := by decide +kernel
theorem d_M_driven_102 : decode b_M_driven 102 = .ok (.baload, 1) := by decide +kernel
theorem d_M_driven_103 : decode b_M_driven 103 = .ok (.ifCond .eq 7, 3) := by decide +kernel
theorem d_M_driven_106 : decode b_M_driven 106 = .ok (.iconst 1, 1) := by decide +kernel
theorem d_M_driven_107 : decode b_M_driven 107 = .ok (.goto 4, 3) := by decide +kernel
theorem d_M_driven_110 : decode b_M_driven 110 = .ok (.iconst 0, 1) := by decide +kernel
theorem d_M_driven_111 : decode b_M_driven 111 = .ok (.ireturn, 1) := by decide +kernel
theorem d_M_driven_112 : decode b_M_driven 112 = .ok (.iconst 1, 1) := by decide +kernel
theorem d_M_driven_113 : decode b_M_driven 113 = .ok (.ireturn, 1) := by decide +kernel
theorem d_M_see_0 : decode b_M_see 0 = .ok (.aload_n 0, 1) := by decide +kernel
theorem d_M_see_1 : decode b_M_see 1 = .ok (.getfield 20, 3) := by decide +kernel
theorem d_M_see_4 : decode b_M_see 4 = .ok (.iload_n 1, 1) := by decide +kernel
theorem d_M_see_5 : decode b_M_see 5 = .ok (.iaload, 1) := by decide +kernel
theorem d_M_see_6 : decode b_M_see 6 = .ok (.tableswitch 96 1 7 #[42, 51, 60, 69, 78, 96, 87], 42) := by decide +kernel
theorem d_M_see_48 : decode b_M_see 48 = .ok (.aload_n 0, 1) := by decide +kernel
theorem d_M_see_49 : decode b_M_see 49 = .ok (.iload_n 1, 1) := by decide +kernel
theorem d_M_see_50 : decode b_M_see 50 = .ok (.iload_n 2, 1) := by decide +kernel
theorem d_M_see_51 : decode b_M_see 51 = .ok (.invokevirtual 163, 3) := by decide +kernel
theorem d_M_see_54 : decode b_M_see 54 = .ok (.goto 104, 3) := by decide +kernel
theorem d_M_see_57 : decode b_M_see 57 = .ok (.aload_n 0, 1) := by decide +kernel
theorem d_M_see_58 : decode b_M_see 58 = .ok (.iload_n 1, 1) := by decide +kernel
theorem d_M_see_59 : decode b_M_see 59 = .ok (.iload_n 2, 1) := by decide +kernel
theorem d_M_see_60 : decode b_M_see 60 = .ok (.invokevirtual 140, 3) := by decide +kernel
theorem d_M_see_63 : decode b_M_see 63 = .ok (.goto 95, 3) := by decide +kernel
theorem d_M_see_66 : decode b_M_see 66 = .ok (.aload_n 0, 1) := by decide +kernel
theorem d_M_see_67 : decode b_M_see 67 = .ok (.iload_n 1, 1) := by decide +kernel
theorem d_M_see_68 : decode b_M_see 68 = .ok (.iload_n 2, 1) := by decide +kernel
theorem d_M_see_69 : decode b_M_see 69 = .ok (.invokevirtual 166, 3) := by decide +kernel
theorem d_M_see_72 : decode b_M_see 72 = .ok (.goto 86, 3) := by decide +kernel
theorem d_M_see_75 : decode b_M_see 75 = .ok (.aload_n 0, 1) := by decide +kernel
theorem d_M_see_76 : decode b_M_see 76 = .ok (.iload_n 1, 1) := by decide +kernel
theorem d_M_see_77 : decode b_M_see 77 = .ok (.iload_n 2, 1) := by decide +kernel
theorem d_M_see_78 : decode b_M_see 78 = .ok (.invokevirtual 169, 3) := by decide +kernel
theorem d_M_see_81 : decode b_M_see 81 = .ok (.goto 77, 3) := by decide +kernel
theorem d_M_see_84 : decode b_M_see 84 = .ok (.aload_n 0, 1) := by decide +kernel
theorem d_M_see_85 : decode b_M_see 85 = .ok (.iload_n 1, 1) := by decide +kernel
theorem d_M_see_86 : decode b_M_see 86 = .ok (.iload_n 2, 1) := by decide +kernel
theorem d_M_see_87 : decode b_M_see 87 = .ok (.invokevirtual 172, 3) := by decide +kernel
theorem d_M_see_90 : decode b_M_see 90 = .ok (.goto 68, 3) := by decide +kernel
theorem d_M_see_93 : decode b_M_see 93 = .ok (.aload_n 0, 1) := by decide +kernel
theorem d_M_see_94 : decode b_M_see 94 = .ok (.iload_n 1, 1) := by decide +kernel
theorem d_M_see_95 : decode b_M_see 95 = .ok (.iload_n 2, 1) := by decide +kernel
theorem d_M_see_96 : decode b_M_see 96 = .ok (.invokevirtual 175, 3) := by decide +kernel
theorem d_M_see_99 : decode b_M_see 99 = .ok (.goto 59, 3) := by decide +kernel
theorem d_M_see_102 : decode b_M_see 102 = .ok (.iload_n 2, 1) := by decide +kernel
theorem d_M_see_103 : decode b_M_see 103 = .ok (.ifCond .ne 11, 3) := by decide +kernel
theorem d_M_see_106 : decode b_M_see 106 = .ok (.aload_n 0, 1) := by decide +kernel
theorem d_M_see_107 : decode b_M_see 107 = .ok (.iload_n 1, 1) := by decide +kernel
theorem d_M_see_108 : decode b_M_see 108 = .ok (.invokevirtual 160, 3) := by decide +kernel
theorem d_M_see_111 : decode b_M_see 111 = .ok (.goto 47, 3) := by decide +kernel
theorem d_M_see_114 : decode b_M_see 114 = .ok (.aload_n 0, 1) := by decide +kernel
theorem d_M_see_115 : decode b_M_see 115 = .ok (.getfield 20, 3) := by decide +kernel
theorem d_M_see_118 : decode b_M_see 118 = .ok (.iload_n 1, 1) := by decide +kernel
theorem d_M_see_119 : decode b_M_see 119 = .ok (.iaload, 1) := by decide +kernel
theorem d_M_see_120 : decode b_M_see 120 = .ok (.bipush 6, 2) := by decide +kernel
theorem d_M_see_122 : decode b_M_see 122 = .ok (.if_icmp .ne 36, 3) := by decide +kernel
theorem d_M_see_125 : decode b_M_see 125 = .ok (.aload_n 0, 1) := by decide +kernel
theorem d_M_see_126 : decode b_M_see 126 = .ok (.getfield 89, 3) := by decide +kernel
theorem d_M_see_129 : decode b_M_see 129 = .ok (.iload_n 1, 1) := by decide +kernel
theorem d_M_see_130 : decode b_M_see 130 = .ok (.dup2, 1) := by decide +kernel
theorem d_M_see_131 : decode b_M_see 131 = .ok (.iaload, 1) := by decide +kernel
theorem d_M_see_132 : decode b_M_see 132 = .ok (.iconst 1, 1) := by decide +kernel
theorem d_M_see_133 : decode b_M_see 133 = .ok (.iadd, 1) := by decide +kernel
theorem d_M_see_134 : decode b_M_see 134 = .ok (.iastore, 1) := by decide +kernel
theorem d_M_see_135 : decode b_M_see 135 = .ok (.aload_n 0, 1) := by decide +kernel
theorem d_M_see_136 : decode b_M_see 136 = .ok (.getfield 20, 3) := by decide +kernel
theorem d_M_see_139 : decode b_M_see 139 = .ok (.iload_n 1, 1) := by decide +kernel
theorem d_M_see_140 : decode b_M_see 140 = .ok (.aload_n 0, 1) := by decide +kernel
theorem d_M_see_141 : decode b_M_see 141 = .ok (.getfield 89, 3) := by decide +kernel
theorem d_M_see_144 : decode b_M_see 144 = .ok (.iload_n 1, 1) := by decide +kernel
theorem d_M_see_145 : decode b_M_see 145 = .ok (.iaload, 1) := by decide +kernel
theorem d_M_see_146 : decode b_M_see 146 = .ok (.bipush 8, 2) := by decide +kernel
theorem d_M_see_148 : decode b_M_see 148 = .ok (.if_icmp .ne 7, 3) := by decide +kernel
theorem d_M_see_151 : decode b_M_see 151 = .ok (.iconst 0, 1) := by decide +kernel
theorem d_M_see_152 : decode b_M_see 152 = .ok (.goto 5, 3) := by decide +kernel
theorem d_M_see_155 : decode b_M_see 155 = .ok (.bipush 6, 2) := by decide +kernel
theorem d_M_see_157 : decode b_M_see 157 = .ok (.iastore, 1) := by decide +kernel
theorem d_M_see_158 : decode b_M_see 158 = .ok (.return_, 1) := by decide +kernel
theorem d_M_bitTime_0 : decode b_M_bitTime 0 = .ok (.aload_n 0, 1) := by decide +kernel
theorem d_M_bitTime_1 : decode b_M_bitTime 1 = .ok (.getfield 7, 3) := by decide +kernel
theorem d_M_bitTime_4 : decode b_M_bitTime 4 = .ok (.iconst 0, 1) := by decide +kernel
theorem d_M_bitTime_5 : decode b_M_bitTime 5 = .ok (.iaload, 1) := by decide +kernel
theorem d_M_bitTime_6 : decode b_M_bitTime 6 = .ok (.iconst 1, 1) := by decide +kernel
theorem d_M_bitTime_7 : decode b_M_bitTime 7 = .ok (.iadd, 1) := by decide +kernel
theorem d_M_bitTime_8 : decode b_M_bitTime 8 = .ok (.istore_n 1, 1) := by decide +kernel
theorem d_M_bitTime_9 : decode b_M_bitTime 9 = .ok (.iconst 1, 1) := by decide +kernel
theorem d_M_bitTime_10 : decode b_M_bitTime 10 = .ok (.istore_n 2, 1) := by decide +kernel
theorem d_M_bitTime_11 : decode b_M_bitTime 11 = .ok (.iconst 0, 1) := by decide +kernel
theorem d_M_bitTime_12 : decode b_M_bitTime 12 = .ok (.istore_n 3, 1) := by decide +kernel
theorem d_M_bitTime_13 : decode b_M_bitTime 13 = .ok (.iload_n 3, 1) := by decide +kernel
theorem d_M_bitTime_14 : decode b_M_bitTime 14 = .ok (.aload_n 0, 1) := by decide +kernel
theorem d_M_bitTime_15 : decode b_M_bitTime 15 = .ok (.getfield 101, 3) := by decide +kernel
theorem d_M_bitTime_18 : decode b_M_bitTime 18 = .ok (.if_icmp .ge 52, 3) := by decide +kernel
theorem d_M_bitTime_21 : decode b_M_bitTime 21 = .ok (.aload_n 0, 1) := by decide +kernel
theorem d_M_bitTime_22 : decode b_M_bitTime 22 = .ok (.getfield 20, 3) := by decide +kernel
theorem d_M_bitTime_25 : decode b_M_bitTime 25 = .ok (.iload_n 3, 1) := by decide +kernel
theorem d_M_bitTime_26 : decode b_M_bitTime 26 = .ok (.iaload, 1) := by decide +kernel
theorem d_M_bitTime_27 : decode b_M_bitTime 27 = .ok (.ifCond .ne 17, 3) := by decide +kernel
theorem d_M_bitTime_30 : decode b_M_bitTime 30 = .ok (.aload_n 0, 1) := by decide +kernel
theorem d_M_bitTime_31 : decode b_M_bitTime 31 = .ok (.getfield 38, 3) := by decide +kernel
theorem d_M_bitTime_34 : decode b_M_bitTime 34 = .ok (.iload_n 3, 1) := by decide +kernel
theorem d_M_bitTime_35 : decode b_M_bitTime 35 = .ok (.iaload, 1) := by decide +kernel
theorem d_M_bitTime_36 : decode b_M_bitTime 36 = .ok (.ifCond .le 8, 3) := by decide +kernel
theorem d_M_bitTime_39 : decode b_M_bitTime 39 = .ok (.aload_n 0, 1) := by decide +kernel
theorem d_M_bitTime_40 : decode b_M_bitTime 40 = .ok (.iload_n 3, 1) := by decide +kernel
theorem d_M_bitTime_41 : decode b_M_bitTime 41 = .ok (.invokevirtual 178, 3) := by decide +kernel
theorem d_M_bitTime_44 : decode b_M_bitTime 44 = .ok (.aload_n 0, 1) := by decide +kernel
theorem d_M_bitTime_45 : decode b_M_bitTime 45 = .ok (.getfield 98, 3) := by decide +kernel
theorem d_M_bitTime_48 : decode b_M_bitTime 48 = .ok (.iload_n 3, 1) := by decide +kernel
theorem d_M_bitTime_49 : decode b_M_bitTime 49 = .ok (.aload_n 0, 1) := by decide +kernel
theorem d_M_bitTime_50 : decode b_M_bitTime 50 = .ok (.iload_n 3, 1) := by decide +kernel
theorem d_M_bitTime_51 : decode b_M_bitTime 51 = .ok (.invokevirtual 181, 3) := by decide +kernel
theorem d_M_bitTime_54 : decode b_M_bitTime 54 = .ok (.iastore, 1) := by decide +kernel
theorem d_M_bitTime_55 : decode b_M_bitTime 55 = .ok (.iload_n 2, 1) := by decide +kernel
theorem d_M_bitTime_56 : decode b_M_bitTime 56 = .ok (.aload_n 0, 1) := by decide +kernel
theorem d_M_bitTime_57 : decode b_M_bitTime 57 = .ok (.getfield 98, 3) := by decide +kernel
theorem d_M_bitTime_60 : decode b_M_bitTime 60 = .ok (.iload_n 3, 1) := by decide +kernel
theorem d_M_bitTime_61 : decode b_M_bitTime 61 = .ok (.iaload, 1) := by decide +kernel
theorem d_M_bitTime_62 : decode b_M_bitTime 62 = .ok (.iand, 1) := by decide +kernel
theorem d_M_bitTime_63 : decode b_M_bitTime 63 = .ok (.istore_n 2, 1) := by decide +kernel
theorem d_M_bitTime_64 : decode b_M_bitTime 64 = .ok (.iinc 3 1, 3) := by decide +kernel
theorem d_M_bitTime_67 : decode b_M_bitTime 67 = .ok (.goto (-54), 3) := by decide +kernel
theorem d_M_bitTime_70 : decode b_M_bitTime 70 = .ok (.iconst 0, 1) := by decide +kernel
theorem d_M_bitTime_71 : decode b_M_bitTime 71 = .ok (.istore_n 3, 1) := by decide +kernel
theorem d_M_bitTime_72 : decode b_M_bitTime 72 = .ok (.iload_n 3, 1) := by decide +kernel
theorem d_M_bitTime_73 : decode b_M_bitTime 73 = .ok (.aload_n 0, 1) := by decide +kernel
theorem d_M_bitTime_74 : decode b_M_bitTime 74 = .ok (.getfield 101, 3) := by decide +kernel
theorem d_M_bitTime_77 : decode b_M_bitTime 77 = .ok (.if_icmp .ge 56, 3) := by decide +kernel
theorem d_M_bitTime_80 : decode b_M_bitTime 80 = .ok (.sipush 256, 3) := by decide +kernel
theorem d_M_bitTime_83 : decode b_M_bitTime 83 = .ok (.iload_n 3, 1) := by decide +kernel
theorem d_M_bitTime_84 : decode b_M_bitTime 84 = .ok (.imul, 1) := by decide +kernel
theorem d_M_bitTime_85 : decode b_M_bitTime 85 = .ok (.iload_n 1, 1) := by decide +kernel
theorem d_M_bitTime_86 : decode b_M_bitTime 86 = .ok (.sipush 256, 3) := by decide +kernel
theorem d_M_bitTime_89 : decode b_M_bitTime 89 = .ok (.irem, 1) := by decide +kernel
theorem d_M_bitTime_90 : decode b_M_bitTime 90 = .ok (.iadd, 1) := by decide +kernel
theorem d_M_bitTime_91 : decode b_M_bitTime 91 = .ok (.istore 4, 2) := by decide +kernel
theorem d_M_bitTime_93 : decode b_M_bitTime 93 = .ok (.aload_n 0, 1) := by decide +kernel
theorem d_M_bitTime_94 : decode b_M_bitTime 94 = .ok (.getfield 16, 3) := by decide +kernel
theorem d_M_bitTime_97 : decode b_M_bitTime 97 = .ok (.iload 4, 2) := by decide +kernel
theorem d_M_bitTime_99 : decode b_M_bitTime 99 = .ok (.baload, 1) := by decide +kernel
theorem d_M_bitTime_100 : decode b_M_bitTime 100 = .ok (.ifCond .eq 9, 3) := by decide +kernel
theorem d_M_bitTime_103 : decode b_M_bitTime 103 = .ok (.iconst 1, 1) := by decide +kernel
theorem d_M_bitTime_104 : decode b_M_bitTime 104 = .ok (.iload_n 2, 1) := by decide +kernel
theorem d_M_bitTime_105 : decode b_M_bitTime 105 = .ok (.isub, 1) := by decide +kernel
theorem d_M_bitTime_106 : decode b_M_bitTime 106 = .ok (.goto 4, 3) := by decide +kernel
theorem d_M_bitTime_109 : decode b_M_bitTime 109 = .ok (.iload_n 2, 1) := by decide +kernel
theorem d_M_bitTime_110 : decode b_M_bitTime 110 = .ok (.istore 5, 2) := by decide +kernel
theorem d_M_bitTime_112 : decode b_M_bitTime 112 = .ok (.aload_n 0, 1) := by decide +kernel
theorem d_M_bitTime_113 : decode b_M_bitTime 113 = .ok (.getfield 16, 3) := by decide +kernel
theorem d_M_bitTime_116 : decode b_M_bitTime 116 = .ok (.iload 4, 2) := by decide +kernel
theorem d_M_bitTime_118 : decode b_M_bitTime 118 = .ok (.iconst 0, 1) := by decide +kernel
theorem d_M_bitTime_119 : decode b_M_bitTime 119 = .ok (.bastore, 1) := by decide +kernel
theorem d_M_bitTime_120 : decode b_M_bitTime 120 = .ok (.aload_n 0, 1) := by decide +kernel
theorem d_M_bitTime_121 : decode b_M_bitTime 121 = .ok (.iload_n 3, 1) := by decide +kernel
theorem d_M_bitTime_122 : decode b_M_bitTime 122 = .ok (.iload 5, 2) := by decide +kernel
theorem d_M_bitTime_124 : decode b_M_bitTime 124 = .ok (.invokevirtual 184, 3) := by decide +kernel
theorem d_M_bitTime_127 : decode b_M_bitTime 127 = .ok (.iinc 3 1, 3) := by decide +kernel
theorem d_M_bitTime_130 : decode b_M_bitTime 130 = .ok (.goto (-58), 3) := by decide +kernel
theorem d_M_bitTime_133 : decode b_M_bitTime 133 = .ok (.aload_n 0, 1) := by decide +kernel
theorem d_M_bitTime_134 : decode b_M_bitTime 134 = .ok (.getfield 13, 3) := by decide +kernel
theorem d_M_bitTime_137 : decode b_M_bitTime 137 = .ok (.iload_n 1, 1) := by decide +kernel
theorem d_M_bitTime_138 : decode b_M_bitTime 138 = .ok (.bipush 64, 2) := by decide +kernel
theorem d_M_bitTime_140 : decode b_M_bitTime 140 = .ok (.irem, 1) := by decide +kernel
theorem d_M_bitTime_141 : decode b_M_bitTime 141 = .ok (.iload_n 2, 1) := by decide +kernel
theorem d_M_bitTime_142 : decode b_M_bitTime 142 = .ok (.iastore, 1) := by decide +kernel
theorem d_M_bitTime_143 : decode b_M_bitTime 143 = .ok (.aload_n 0, 1) := by decide +kernel
theorem d_M_bitTime_144 : decode b_M_bitTime 144 = .ok (.getfield 7, 3) := by decide +kernel
theorem d_M_bitTime_147 : decode b_M_bitTime 147 = .ok (.iconst 0, 1) := by decide +kernel
theorem d_M_bitTime_148 : decode b_M_bitTime 148 = .ok (.iload_n 1, 1) := by decide +kernel
theorem d_M_bitTime_149 : decode b_M_bitTime 149 = .ok (.iastore, 1) := by decide +kernel
theorem d_M_bitTime_150 : decode b_M_bitTime 150 = .ok (.return_, 1) := by decide +kernel
theorem d_M_pass_0 : decode b_M_pass 0 = .ok (.aload_n 0, 1) := by decide +kernel
theorem d_M_pass_1 : decode b_M_pass 1 = .ok (.iload_n 1, 1) := by decide +kernel
theorem d_M_pass_2 : decode b_M_pass 2 = .ok (.iconst 1, 1) := by decide +kernel
theorem d_M_pass_3 : decode b_M_pass 3 = .ok (.if_icmp .lt 10, 3) := by decide +kernel
theorem d_M_pass_6 : decode b_M_pass 6 = .ok (.iload_n 1, 1) := by decide +kernel
theorem d_M_pass_7 : decode b_M_pass 7 = .ok (.sipush 200, 3) := by decide +kernel
theorem d_M_pass_10 : decode b_M_pass 10 = .ok (.if_icmp .le 7, 3) := by decide +kernel
theorem d_M_pass_13 : decode b_M_pass 13 = .ok (.iconst 1, 1) := by decide +kernel
theorem d_M_pass_14 : decode b_M_pass 14 = .ok (.goto 4, 3) := by decide +kernel
theorem d_M_pass_17 : decode b_M_pass 17 = .ok (.iconst 0, 1) := by decide +kernel
theorem d_M_pass_18 : decode b_M_pass 18 = .ok (.putfield 105, 3) := by decide +kernel
theorem d_M_pass_21 : decode b_M_pass 21 = .ok (.aload_n 0, 1) := by decide +kernel
theorem d_M_pass_22 : decode b_M_pass 22 = .ok (.getfield 7, 3) := by decide +kernel
theorem d_M_pass_25 : decode b_M_pass 25 = .ok (.iconst 1, 1) := by decide +kernel
theorem d_M_pass_26 : decode b_M_pass 26 = .ok (.iaload, 1) := by decide +kernel
theorem d_M_pass_27 : decode b_M_pass 27 = .ok (.istore_n 2, 1) := by decide +kernel
theorem d_M_pass_28 : decode b_M_pass 28 = .ok (.iconst 0, 1) := by decide +kernel
theorem d_M_pass_29 : decode b_M_pass 29 = .ok (.istore_n 3, 1) := by decide +kernel
theorem d_M_pass_30 : decode b_M_pass 30 = .ok (.iload_n 3, 1) := by decide +kernel
theorem d_M_pass_31 : decode b_M_pass 31 = .ok (.iload_n 1, 1) := by decide +kernel
theorem d_M_pass_32 : decode b_M_pass 32 = .ok (.if_icmp .ge 20, 3) := by decide +kernel
theorem d_M_pass_35 : decode b_M_pass 35 = .ok (.aload_n 0, 1) := by decide +kernel
theorem d_M_pass_36 : decode b_M_pass 36 = .ok (.getfield 105, 3) := by decide +kernel
theorem d_M_pass_39 : decode b_M_pass 39 = .ok (.ifCond .ne 13, 3) := by decide +kernel
theorem d_M_pass_42 : decode b_M_pass 42 = .ok (.aload_n 0, 1) := by decide +kernel
theorem d_M_pass_43 : decode b_M_pass 43 = .ok (.invokevirtual 187, 3) := by decide +kernel
theorem d_M_pass_46 : decode b_M_pass 46 = .ok (.iinc 3 1, 3) := by decide +kernel
theorem d_M_pass_49 : decode b_M_pass 49 = .ok (.goto (-19), 3) := by decide +kernel
theorem d_M_pass_52 : decode b_M_pass 52 = .ok (.aload_n 0, 1) := by decide +kernel
theorem d_M_pass_53 : decode b_M_pass 53 = .ok (.getfield 7, 3) := by decide +kernel
theorem d_M_pass_56 : decode b_M_pass 56 = .ok (.iconst 1, 1) := by decide +kernel
theorem d_M_pass_57 : decode b_M_pass 57 = .ok (.iaload, 1) := by decide +kernel
theorem d_M_pass_58 : decode b_M_pass 58 = .ok (.iload_n 2, 1) := by decide +kernel
theorem d_M_pass_59 : decode b_M_pass 59 = .ok (.isub, 1) := by decide +kernel
theorem d_M_pass_60 : decode b_M_pass 60 = .ok (.ireturn, 1) := by decide +kernel
theorem d_M_level_0 : decode b_M_level 0 = .ok (.aload_n 0, 1) := by decide +kernel
theorem d_M_level_1 : decode b_M_level 1 = .ok (.iconst 0, 1) := by decide +kernel
theorem d_M_level_2 : decode b_M_level 2 = .ok (.putfield 105, 3) := by decide +kernel
theorem d_M_level_5 : decode b_M_level 5 = .ok (.iload_n 1, 1) := by decide +kernel
theorem d_M_level_6 : decode b_M_level 6 = .ok (.ifCond .lt 19, 3) := by decide +kernel
theorem d_M_level_9 : decode b_M_level 9 = .ok (.iload_n 1, 1) := by decide +kernel
theorem d_M_level_10 : decode b_M_level 10 = .ok (.bipush 63, 2) := by decide +kernel
theorem d_M_level_12 : decode b_M_level 12 = .ok (.if_icmp .gt 13, 3) := by decide +kernel
theorem d_M_level_15 : decode b_M_level 15 = .ok (.iload_n 1, 1) := by decide +kernel
theorem d_M_level_16 : decode b_M_level 16 = .ok (.aload_n 0, 1) := by decide +kernel
theorem d_M_level_17 : decode b_M_level 17 = .ok (.getfield 7, 3) := by decide +kernel
theorem d_M_level_20 : decode b_M_level 20 = .ok (.iconst 0, 1) := by decide +kernel
theorem d_M_level_21 : decode b_M_level 21 = .ok (.iaload, 1) := by decide +kernel
theorem d_M_level_22 : decode b_M_level 22 = .ok (.if_icmp .lt 7, 3) := by decide +kernel
theorem d_M_level_25 : decode b_M_level 25 = .ok (.iconst (-1), 1) := by decide +kernel
theorem d_M_level_26 : decode b_M_level 26 = .ok (.goto 19, 3) := by decide +kernel
theorem d_M_level_29 : decode b_M_level 29 = .ok (.aload_n 0, 1) := by decide +kernel
theorem d_M_level_30 : decode b_M_level 30 = .ok (.getfield 13, 3) := by decide +kernel
theorem d_M_level_33 : decode b_M_level 33 = .ok (.aload_n 0, 1) := by decide +kernel
theorem d_M_level_34 : decode b_M_level 34 = .ok (.getfield 7, 3) := by decide +kernel
theorem d_M_level_37 : decode b_M_level 37 = .ok (.iconst 0, 1) := by decide +kernel
theorem d_M_level_38 : decode b_M_level 38 = .ok (.iaload, 1) := by decide +kernel
theorem d_M_level_39 : decode b_M_level 39 = .ok (.iload_n 1, 1) := by decide +kernel
theorem d_M_level_40 : decode b_M_level 40 = .ok (.isub, 1) := by decide +kernel
theorem d_M_level_41 : decode b_M_level 41 = .ok (.bipush 64, 2) := by decide +kernel
theorem d_M_level_43 : decode b_M_level 43 = .ok (.irem, 1) := by decide +kernel
theorem d_M_level_44 : decode b_M_level 44 = .ok (.iaload, 1) := by decide +kernel
theorem d_M_level_45 : decode b_M_level 45 = .ok (.ireturn, 1) := by decide +kernel
theorem d_M_state_0 : decode b_M_state 0 = .ok (.aload_n 0, 1) := by decide +kernel
theorem d_M_state_1 : decode b_M_state 1 = .ok (.aload_n 0, 1) := by decide +kernel
theorem d_M_state_2 : decode b_M_state 2 = .ok (.iload_n 1, 1) := by decide +kernel
theorem d_M_state_3 : decode b_M_state 3 = .ok (.invokevirtual 108, 3) := by decide +kernel
theorem d_M_state_6 : decode b_M_state 6 = .ok (.ifCond .eq 7, 3) := by decide +kernel
theorem d_M_state_9 : decode b_M_state 9 = .ok (.iconst 1, 1) := by decide +kernel
theorem d_M_state_10 : decode b_M_state 10 = .ok (.goto 4, 3) := by decide +kernel
theorem d_M_state_13 : decode b_M_state 13 = .ok (.iconst 0, 1) := by decide +kernel
theorem d_M_state_14 : decode b_M_state 14 = .ok (.putfield 105, 3) := by decide +kernel
theorem d_M_state_17 : decode b_M_state 17 = .ok (.aload_n 0, 1) := by decide +kernel
theorem d_M_state_18 : decode b_M_state 18 = .ok (.getfield 105, 3) := by decide +kernel
theorem d_M_state_21 : decode b_M_state 21 = .ok (.ifCond .ne 12, 3) := by decide +kernel
theorem d_M_state_24 : decode b_M_state 24 = .ok (.aload_n 0, 1) := by decide +kernel
theorem d_M_state_25 : decode b_M_state 25 = .ok (.getfield 20, 3) := by decide +kernel
theorem d_M_state_28 : decode b_M_state 28 = .ok (.iload_n 1, 1) := by decide +kernel
theorem d_M_state_29 : decode b_M_state 29 = .ok (.iaload, 1) := by decide +kernel
theorem d_M_state_30 : decode b_M_state 30 = .ok (.goto 4, 3) := by decide +kernel
theorem d_M_state_33 : decode b_M_state 33 = .ok (.iconst 0, 1) := by decide +kernel
theorem d_M_state_34 : decode b_M_state 34 = .ok (.ireturn, 1) := by decide +kernel
theorem d_M_count_0 : decode b_M_count 0 = .ok (.aload_n 0, 1) := by decide +kernel
theorem d_M_count_1 : decode b_M_count 1 = .ok (.aload_n 0, 1) := by decide +kernel
theorem d_M_count_2 : decode b_M_count 2 = .ok (.iload_n 1, 1) := by decide +kernel
theorem d_M_count_3 : decode b_M_count 3 = .ok (.invokevirtual 108, 3) := by decide +kernel
theorem d_M_count_6 : decode b_M_count 6 = .ok (.ifCond .ne 12, 3) := by decide +kernel
theorem d_M_count_9 : decode b_M_count 9 = .ok (.iload_n 2, 1) := by decide +kernel
theorem d_M_count_10 : decode b_M_count 10 = .ok (.ifCond .lt 8, 3) := by decide +kernel
theorem d_M_count_13 : decode b_M_count 13 = .ok (.iload_n 2, 1) := by decide +kernel
theorem d_M_count_14 : decode b_M_count 14 = .ok (.iconst 4, 1) := by decide +kernel
theorem d_M_count_15 : decode b_M_count 15 = .ok (.if_icmp .le 7, 3) := by decide +kernel
theorem d_M_count_18 : decode b_M_count 18 = .ok (.iconst 1, 1) := by decide +kernel
theorem d_M_count_19 : decode b_M_count 19 = .ok (.goto 4, 3) := by decide +kernel
theorem d_M_count_22 : decode b_M_count 22 = .ok (.iconst 0, 1) := by decide +kernel
theorem d_M_count_23 : decode b_M_count 23 = .ok (.putfield 105, 3) := by decide +kernel
theorem d_M_count_26 : decode b_M_count 26 = .ok (.aload_n 0, 1) := by decide +kernel
theorem d_M_count_27 : decode b_M_count 27 = .ok (.getfield 105, 3) := by decide +kernel
theorem d_M_count_30 : decode b_M_count 30 = .ok (.ifCond .eq 5, 3) := by decide +kernel
theorem d_M_count_33 : decode b_M_count 33 = .ok (.iconst 0, 1) := by decide +kernel
theorem d_M_count_34 : decode b_M_count 34 = .ok (.ireturn, 1) := by decide +kernel
theorem d_M_count_35 : decode b_M_count 35 = .ok (.iload_n 2, 1) := by decide +kernel
theorem d_M_count_36 : decode b_M_count 36 = .ok (.ifCond .ne 12, 3) := by decide +kernel
theorem d_M_count_39 : decode b_M_count 39 = .ok (.aload_n 0, 1) := by decide +kernel
theorem d_M_count_40 : decode b_M_count 40 = .ok (.getfield 23, 3) := by decide +kernel
theorem d_M_count_43 : decode b_M_count 43 = .ok (.iload_n 1, 1) := by decide +kernel
theorem d_M_count_44 : decode b_M_count 44 = .ok (.iaload, 1) := by decide +kernel
theorem d_M_count_45 : decode b_M_count 45 = .ok (.goto 51, 3) := by decide +kernel
theorem d_M_count_48 : decode b_M_count 48 = .ok (.iload_n 2, 1) := by decide +kernel
theorem d_M_count_49 : decode b_M_count 49 = .ok (.iconst 1, 1) := by decide +kernel
theorem d_M_count_50 : decode b_M_count 50 = .ok (.if_icmp .ne 12, 3) := by decide +kernel
theorem d_M_count_53 : decode b_M_count 53 = .ok (.aload_n 0, 1) := by decide +kernel
theorem d_M_count_54 : decode b_M_count 54 = .ok (.getfield 26, 3) := by decide +kernel
theorem d_M_count_57 : decode b_M_count 57 = .ok (.iload_n 1, 1) := by decide +kernel
theorem d_M_count_58 : decode b_M_count 58 = .ok (.iaload, 1) := by decide +kernel
theorem d_M_count_59 : decode b_M_count 59 = .ok (.goto 37, 3) := by decide +kernel
theorem d_M_count_62 : decode b_M_count 62 = .ok (.iload_n 2, 1) := by decide +kernel
theorem d_M_count_63 : decode b_M_count 63 = .ok (.iconst 2, 1) := by decide +kernel
theorem d_M_count_64 : decode b_M_count 64 = .ok (.if_icmp .ne 12, 3) := by decide +kernel
theorem d_M_count_67 : decode b_M_count 67 = .ok (.aload_n 0, 1) := by decide +kernel
theorem d_M_count_68 : decode b_M_count 68 = .ok (.getfield 38, 3) := by decide +kernel
theorem d_M_count_71 : decode b_M_count 71 = .ok (.iload_n 1, 1) := by decide +kernel
theorem d_M_count_72 : decode b_M_count 72 = .ok (.iaload, 1) := by decide +kernel
theorem d_M_count_73 : decode b_M_count 73 = .ok (.goto 23, 3) := by decide +kernel
theorem d_M_count_76 : decode b_M_count 76 = .ok (.iload_n 2, 1) := by decide +kernel
theorem d_M_count_77 : decode b_M_count 77 = .ok (.iconst 3, 1) := by decide +kernel
theorem d_M_count_78 : decode b_M_count 78 = .ok (.if_icmp .ne 12, 3) := by decide +kernel
theorem d_M_count_81 : decode b_M_count 81 = .ok (.aload_n 0, 1) := by decide +kernel
theorem d_M_count_82 : decode b_M_count 82 = .ok (.getfield 53, 3) := by decide +kernel
theorem d_M_count_85 : decode b_M_count 85 = .ok (.iload_n 1, 1) := by decide +kernel
theorem d_M_count_86 : decode b_M_count 86 = .ok (.iaload, 1) := by decide +kernel
theorem d_M_count_87 : decode b_M_count 87 = .ok (.goto 9, 3) := by decide +kernel
theorem d_M_count_90 : decode b_M_count 90 = .ok (.aload_n 0, 1) := by decide +kernel
theorem d_M_count_91 : decode b_M_count 91 = .ok (.getfield 35, 3) := by decide +kernel
theorem d_M_count_94 : decode b_M_count 94 = .ok (.iload_n 1, 1) := by decide +kernel
theorem d_M_count_95 : decode b_M_count 95 = .ok (.iaload, 1) := by decide +kernel
theorem d_M_count_96 : decode b_M_count 96 = .ok (.ireturn, 1) := by decide +kernel
theorem d_M_take_0 : decode b_M_take 0 = .ok (.aload_n 0, 1) := by decide +kernel
theorem d_M_take_1 : decode b_M_take 1 = .ok (.aload_n 0, 1) := by decide +kernel
theorem d_M_take_2 : decode b_M_take 2 = .ok (.iload_n 1, 1) := by decide +kernel
theorem d_M_take_3 : decode b_M_take 3 = .ok (.invokevirtual 108, 3) := by decide +kernel
theorem d_M_take_6 : decode b_M_take 6 = .ok (.ifCond .eq 7, 3) := by decide +kernel
theorem d_M_take_9 : decode b_M_take 9 = .ok (.iconst 1, 1) := by decide +kernel
theorem d_M_take_10 : decode b_M_take 10 = .ok (.goto 17, 3) := by decide +kernel
theorem d_M_take_13 : decode b_M_take 13 = .ok (.aload_n 0, 1) := by decide +kernel
theorem d_M_take_14 : decode b_M_take 14 = .ok (.getfield 53, 3) := by decide +kernel
theorem d_M_take_17 : decode b_M_take 17 = .ok (.iload_n 1, 1) := by decide +kernel
theorem d_M_take_18 : decode b_M_take 18 = .ok (.iaload, 1) := by decide +kernel
theorem d_M_take_19 : decode b_M_take 19 = .ok (.ifCond .ne 7, 3) := by decide +kernel
theorem d_M_take_22 : decode b_M_take 22 = .ok (.iconst 2, 1) := by decide +kernel
theorem d_M_take_23 : decode b_M_take 23 = .ok (.goto 4, 3) := by decide +kernel
theorem d_M_take_26 : decode b_M_take 26 = .ok (.iconst 0, 1) := by decide +kernel
theorem d_M_take_27 : decode b_M_take 27 = .ok (.putfield 105, 3) := by decide +kernel
theorem d_M_take_30 : decode b_M_take 30 = .ok (.aload_n 0, 1) := by decide +kernel
theorem d_M_take_31 : decode b_M_take 31 = .ok (.getfield 105, 3) := by decide +kernel
theorem d_M_take_34 : decode b_M_take 34 = .ok (.ifCond .eq 5, 3) := by decide +kernel
theorem d_M_take_37 : decode b_M_take 37 = .ok (.iconst 0, 1) := by decide +kernel
theorem d_M_take_38 : decode b_M_take 38 = .ok (.ireturn, 1) := by decide +kernel
theorem d_M_take_39 : decode b_M_take 39 = .ok (.aload_n 0, 1) := by decide +kernel
theorem d_M_take_40 : decode b_M_take 40 = .ok (.getfield 56, 3) := by decide +kernel
theorem d_M_take_43 : decode b_M_take 43 = .ok (.iconst 4, 1) := by decide +kernel
theorem d_M_take_44 : decode b_M_take 44 = .ok (.iload_n 1, 1) := by decide +kernel
theorem d_M_take_45 : decode b_M_take 45 = .ok (.imul, 1) := by decide +kernel
theorem d_M_take_46 : decode b_M_take 46 = .ok (.iaload, 1) := by decide +kernel
theorem d_M_take_47 : decode b_M_take 47 = .ok (.istore_n 2, 1) := by decide +kernel
theorem d_M_take_48 : decode b_M_take 48 = .ok (.aload_n 0, 1) := by decide +kernel
theorem d_M_take_49 : decode b_M_take 49 = .ok (.getfield 53, 3) := by decide +kernel
theorem d_M_take_52 : decode b_M_take 52 = .ok (.iload_n 1, 1) := by decide +kernel
theorem d_M_take_53 : decode b_M_take 53 = .ok (.dup2, 1) := by decide +kernel
theorem d_M_take_54 : decode b_M_take 54 = .ok (.iaload, 1) := by decide +kernel
theorem d_M_take_55 : decode b_M_take 55 = .ok (.iconst 1, 1) := by decide +kernel
theorem d_M_take_56 : decode b_M_take 56 = .ok (.isub, 1) := by decide +kernel
theorem d_M_take_57 : decode b_M_take 57 = .ok (.iastore, 1) := by decide +kernel
theorem d_M_take_58 : decode b_M_take 58 = .ok (.iconst 4, 1) := by decide +kernel
theorem d_M_take_59 : decode b_M_take 59 = .ok (.iload_n 1, 1) := by decide +kernel
theorem d_M_take_60 : decode b_M_take 60 = .ok (.imul, 1) := by decide +kernel
theorem d_M_take_61 : decode b_M_take 61 = .ok (.istore_n 3, 1) := by decide +kernel
theorem d_M_take_62 : decode b_M_take 62 = .ok (.iload_n 3, 1) := by decide +kernel
theorem d_M_take_63 : decode b_M_take 63 = .ok (.iconst 4, 1) := by decide +kernel
theorem d_M_take_64 : decode b_M_take 64 = .ok (.iload_n 1, 1) := by decide +kernel
theorem d_M_take_65 : decode b_M_take 65 = .ok (.imul, 1) := by decide +kernel
theorem d_M_take_66 : decode b_M_take 66 = .ok (.aload_n 0, 1) := by decide +kernel
theorem d_M_take_67 : decode b_M_take 67 = .ok (.getfield 53, 3) := by decide +kernel
theorem d_M_take_70 : decode b_M_take 70 = .ok (.iload_n 1, 1) := by decide +kernel
theorem d_M_take_71 : decode b_M_take 71 = .ok (.iaload, 1) := by decide +kernel
theorem d_M_take_72 : decode b_M_take 72 = .ok (.iadd, 1) := by decide +kernel
theorem d_M_take_73 : decode b_M_take 73 = .ok (.if_icmp .ge 23, 3) := by decide +kernel
theorem d_M_take_76 : decode b_M_take 76 = .ok (.aload_n 0, 1) := by decide +kernel
theorem d_M_take_77 : decode b_M_take 77 = .ok (.getfield 56, 3) := by decide +kernel
theorem d_M_take_80 : decode b_M_take 80 = .ok (.iload_n 3, 1) := by decide +kernel
theorem d_M_take_81 : decode b_M_take 81 = .ok (.aload_n 0, 1) := by decide +kernel
theorem d_M_take_82 : decode b_M_take 82 = .ok (.getfield 56, 3) := by decide +kernel
theorem d_M_take_85 : decode b_M_take 85 = .ok (.iload_n 3, 1) := by decide +kernel
theorem d_M_take_86 : decode b_M_take 86 = .ok (.iconst 1, 1) := by decide +kernel
theorem d_M_take_87 : decode b_M_take 87 = .ok (.iadd, 1) := by decide +kernel
theorem d_M_take_88 : decode b_M_take 88 = .ok (.iaload, 1) := by decide +kernel
theorem d_M_take_89 : decode b_M_take 89 = .ok (.iastore, 1) := by decide +kernel
theorem d_M_take_90 : decode b_M_take 90 = .ok (.iinc 3 1, 3) := by decide +kernel
theorem d_M_take_93 : decode b_M_take 93 = .ok (.goto (-31), 3) := by decide +kernel
theorem d_M_take_96 : decode b_M_take 96 = .ok (.iload_n 2, 1) := by decide +kernel
theorem d_M_take_97 : decode b_M_take 97 = .ok (.ireturn, 1) := by decide +kernel
theorem d_M_total_0 : decode b_M_total 0 = .ok (.aload_n 0, 1) := by decide +kernel
theorem d_M_total_1 : decode b_M_total 1 = .ok (.iload_n 1, 1) := by decide +kernel
theorem d_M_total_2 : decode b_M_total 2 = .ok (.ifCond .lt 9, 3) := by decide +kernel
theorem d_M_total_5 : decode b_M_total 5 = .ok (.iload_n 1, 1) := by decide +kernel
theorem d_M_total_6 : decode b_M_total 6 = .ok (.bipush 7, 2) := by decide +kernel
theorem d_M_total_8 : decode b_M_total 8 = .ok (.if_icmp .le 7, 3) := by decide +kernel
theorem d_M_total_11 : decode b_M_total 11 = .ok (.iconst 1, 1) := by decide +kernel
theorem d_M_total_12 : decode b_M_total 12 = .ok (.goto 4, 3) := by decide +kernel
theorem d_M_total_15 : decode b_M_total 15 = .ok (.iconst 0, 1) := by decide +kernel
theorem d_M_total_16 : decode b_M_total 16 = .ok (.putfield 105, 3) := by decide +kernel
theorem d_M_total_19 : decode b_M_total 19 = .ok (.aload_n 0, 1) := by decide +kernel
theorem d_M_total_20 : decode b_M_total 20 = .ok (.getfield 105, 3) := by decide +kernel
theorem d_M_total_23 : decode b_M_total 23 = .ok (.ifCond .ne 12, 3) := by decide +kernel
theorem d_M_total_26 : decode b_M_total 26 = .ok (.aload_n 0, 1) := by decide +kernel
theorem d_M_total_27 : decode b_M_total 27 = .ok (.getfield 7, 3) := by decide +kernel
theorem d_M_total_30 : decode b_M_total 30 = .ok (.iload_n 1, 1) := by decide +kernel
theorem d_M_total_31 : decode b_M_total 31 = .ok (.iaload, 1) := by decide +kernel
theorem d_M_total_32 : decode b_M_total 32 = .ok (.goto 4, 3) := by decide +kernel
theorem d_M_total_35 : decode b_M_total 35 = .ok (.iconst 0, 1) := by decide +kernel
theorem d_M_total_36 : decode b_M_total 36 = .ok (.ireturn, 1) := by decide +kernel
theorem d_L_cell_0 : decode b_L_cell 0 = .ok (.iload_n 1, 1) := by decide +kernel
theorem d_L_cell_1 : decode b_L_cell 1 = .ok (.aload_n 0, 1) := by decide +kernel
theorem d_L_cell_2 : decode b_L_cell 2 = .ok (.arraylength, 1) := by decide +kernel
theorem d_L_cell_3 : decode b_L_cell 3 = .ok (.if_icmp .ge 9, 3) := by decide +kernel
theorem d_L_cell_6 : decode b_L_cell 6 = .ok (.aload_n 0, 1) := by decide +kernel
theorem d_L_cell_7 : decode b_L_cell 7 = .ok (.iload_n 1, 1) := by decide +kernel
theorem d_L_cell_8 : decode b_L_cell 8 = .ok (.iaload, 1) := by decide +kernel
theorem d_L_cell_9 : decode b_L_cell 9 = .ok (.goto 4, 3) := by decide +kernel
theorem d_L_cell_12 : decode b_L_cell 12 = .ok (.iconst 0, 1) := by decide +kernel
theorem d_L_cell_13 : decode b_L_cell 13 = .ok (.ireturn, 1) := by decide +kernel
theorem d_L_request_0 : decode b_L_request 0 = .ok (.aload 5, 2) := by decide +kernel
theorem d_L_request_2 : decode b_L_request 2 = .ok (.iconst 0, 1) := by decide +kernel
theorem d_L_request_3 : decode b_L_request 3 = .ok (.aload_n 0, 1) := by decide +kernel
theorem d_L_request_4 : decode b_L_request 4 = .ok (.iload_n 1, 1) := by decide +kernel
theorem d_L_request_5 : decode b_L_request 5 = .ok (.iload_n 2, 1) := by decide +kernel
theorem d_L_request_6 : decode b_L_request 6 = .ok (.iload_n 3, 1) := by decide +kernel
theorem d_L_request_7 : decode b_L_request 7 = .ok (.iload 4, 2) := by decide +kernel
theorem d_L_request_9 : decode b_L_request 9 = .ok (.invokevirtual 7, 3) := by decide +kernel
theorem d_L_request_12 : decode b_L_request 12 = .ok (.i2l, 1) := by decide +kernel
theorem d_L_request_13 : decode b_L_request 13 = .ok (.lastore, 1) := by decide +kernel
theorem d_L_request_14 : decode b_L_request 14 = .ok (.goto 11, 3) := by decide +kernel
theorem d_L_request_17 : decode b_L_request 17 = .ok (.astore 6, 2) := by decide +kernel
theorem d_L_request_19 : decode b_L_request 19 = .ok (.iconst 1, 1) := by decide +kernel
theorem d_L_request_20 : decode b_L_request 20 = .ok (.ireturn, 1) := by decide +kernel
theorem d_L_request_21 : decode b_L_request 21 = .ok (.astore 6, 2) := by decide +kernel
theorem d_L_request_23 : decode b_L_request 23 = .ok (.iconst 2, 1) := by decide +kernel
theorem d_L_request_24 : decode b_L_request 24 = .ok (.ireturn, 1) := by decide +kernel
theorem d_L_request_25 : decode b_L_request 25 = .ok (.iconst 0, 1) := by decide +kernel
theorem d_L_request_26 : decode b_L_request 26 = .ok (.ireturn, 1) := by decide +kernel
theorem d_L_filter_0 : decode b_L_filter 0 = .ok (.aload_n 0, 1) := by decide +kernel
theorem d_L_filter_1 : decode b_L_filter 1 = .ok (.iload_n 1, 1) := by decide +kernel
theorem d_L_filter_2 : decode b_L_filter 2 = .ok (.iload_n 2, 1) := by decide +kernel
theorem d_L_filter_3 : decode b_L_filter 3 = .ok (.iload_n 3, 1) := by decide +kernel
theorem d_L_filter_4 : decode b_L_filter 4 = .ok (.invokevirtual 17, 3) := by decide +kernel
theorem d_L_filter_7 : decode b_L_filter 7 = .ok (.goto 7, 3) := by decide +kernel
theorem d_L_filter_10 : decode b_L_filter 10 = .ok (.astore 4, 2) := by decide +kernel
theorem d_L_filter_12 : decode b_L_filter 12 = .ok (.iconst 1, 1) := by decide +kernel
theorem d_L_filter_13 : decode b_L_filter 13 = .ok (.ireturn, 1) := by decide +kernel
theorem d_L_filter_14 : decode b_L_filter 14 = .ok (.iconst 0, 1) := by decide +kernel
theorem d_L_filter_15 : decode b_L_filter 15 = .ok (.ireturn, 1) := by decide +kernel
theorem d_L_disturb_0 : decode b_L_disturb 0 = .ok (.aload_n 0, 1) := by decide +kernel
theorem d_L_disturb_1 : decode b_L_disturb 1 = .ok (.iload_n 1, 1) := by decide +kernel
theorem d_L_disturb_2 : decode b_L_disturb 2 = .ok (.iload_n 2, 1) := by decide +kernel
theorem d_L_disturb_3 : decode b_L_disturb 3 = .ok (.invokevirtual 21, 3) := by decide +kernel
theorem d_L_disturb_6 : decode b_L_disturb 6 = .ok (.goto 6, 3) := by decide +kernel
theorem d_L_disturb_9 : decode b_L_disturb 9 = .ok (.astore_n 3, 1) := by decide +kernel
theorem d_L_disturb_10 : decode b_L_disturb 10 = .ok (.iconst 1, 1) := by decide +kernel
theorem d_L_disturb_11 : decode b_L_disturb 11 = .ok (.ireturn, 1) := by decide +kernel
theorem d_L_disturb_12 : decode b_L_disturb 12 = .ok (.iconst 0, 1) := by decide +kernel
theorem d_L_disturb_13 : decode b_L_disturb 13 = .ok (.ireturn, 1) := by decide +kernel
theorem d_L_pass_0 : decode b_L_pass 0 = .ok (.aload_n 2, 1) := by decide +kernel
theorem d_L_pass_1 : decode b_L_pass 1 = .ok (.iconst 0, 1) := by decide +kernel
theorem d_L_pass_2 : decode b_L_pass 2 = .ok (.aload_n 0, 1) := by decide +kernel
theorem d_L_pass_3 : decode b_L_pass 3 = .ok (.iload_n 1, 1) := by decide +kernel
theorem d_L_pass_4 : decode b_L_pass 4 = .ok (.invokevirtual 25, 3) := by decide +kernel
theorem d_L_pass_7 : decode b_L_pass 7 = .ok (.i2l, 1) := by decide +kernel
theorem d_L_pass_8 : decode b_L_pass 8 = .ok (.lastore, 1) := by decide +kernel
theorem d_L_pass_9 : decode b_L_pass 9 = .ok (.goto 6, 3) := by decide +kernel
theorem d_L_pass_12 : decode b_L_pass 12 = .ok (.astore_n 3, 1) := by decide +kernel
theorem d_L_pass_13 : decode b_L_pass 13 = .ok (.iconst 1, 1) := by decide +kernel
theorem d_L_pass_14 : decode b_L_pass 14 = .ok (.ireturn, 1) := by decide +kernel
theorem d_L_pass_15 : decode b_L_pass 15 = .ok (.iconst 0, 1) := by decide +kernel
theorem d_L_pass_16 : decode b_L_pass 16 = .ok (.ireturn, 1) := by decide +kernel
theorem d_L_state_0 : decode b_L_state 0 = .ok (.aload_n 2, 1) := by decide +kernel
theorem d_L_state_1 : decode b_L_state 1 = .ok (.iconst 0, 1) := by decide +kernel
theorem d_L_state_2 : decode b_L_state 2 = .ok (.aload_n 0, 1) := by decide +kernel
theorem d_L_state_3 : decode b_L_state 3 = .ok (.iload_n 1, 1) := by decide +kernel
theorem d_L_state_4 : decode b_L_state 4 = .ok (.invokevirtual 29, 3) := by decide +kernel
theorem d_L_state_7 : decode b_L_state 7 = .ok (.i2l, 1) := by decide +kernel
theorem d_L_state_8 : decode b_L_state 8 = .ok (.lastore, 1) := by decide +kernel
theorem d_L_state_9 : decode b_L_state 9 = .ok (.goto 6, 3) := by decide +kernel
theorem d_L_state_12 : decode b_L_state 12 = .ok (.astore_n 3, 1) := by decide +kernel
theorem d_L_state_13 : decode b_L_state 13 = .ok (.iconst 1, 1) := by decide +kernel
theorem d_L_state_14 : decode b_L_state 14 = .ok (.ireturn, 1) := by decide +kernel
theorem d_L_state_15 : decode b_L_state 15 = .ok (.iconst 0, 1) := by decide +kernel
theorem d_L_state_16 : decode b_L_state 16 = .ok (.ireturn, 1) := by decide +kernel
theorem d_L_count_0 : decode b_L_count 0 = .ok (.aload_n 3, 1) := by decide +kernel
theorem d_L_count_1 : decode b_L_count 1 = .ok (.iconst 0, 1) := by decide +kernel
theorem d_L_count_2 : decode b_L_count 2 = .ok (.aload_n 0, 1) := by decide +kernel
theorem d_L_count_3 : decode b_L_count 3 = .ok (.iload_n 1, 1) := by decide +kernel
theorem d_L_count_4 : decode b_L_count 4 = .ok (.iload_n 2, 1) := by decide +kernel
theorem d_L_count_5 : decode b_L_count 5 = .ok (.invokevirtual 32, 3) := by decide +kernel
theorem d_L_count_8 : decode b_L_count 8 = .ok (.i2l, 1) := by decide +kernel
theorem d_L_count_9 : decode b_L_count 9 = .ok (.lastore, 1) := by decide +kernel
theorem d_L_count_10 : decode b_L_count 10 = .ok (.goto 7, 3) := by decide +kernel
theorem d_L_count_13 : decode b_L_count 13 = .ok (.astore 4, 2) := by decide +kernel
theorem d_L_count_15 : decode b_L_count 15 = .ok (.iconst 1, 1) := by decide +kernel
theorem d_L_count_16 : decode b_L_count 16 = .ok (.ireturn, 1) := by decide +kernel
theorem d_L_count_17 : decode b_L_count 17 = .ok (.iconst 0, 1) := by decide +kernel
theorem d_L_count_18 : decode b_L_count 18 = .ok (.ireturn, 1) := by decide +kernel
theorem d_L_take_0 : decode b_L_take 0 = .ok (.aload_n 2, 1) := by decide +kernel
theorem d_L_take_1 : decode b_L_take 1 = .ok (.iconst 0, 1) := by decide +kernel
theorem d_L_take_2 : decode b_L_take 2 = .ok (.aload_n 0, 1) := by decide +kernel
theorem d_L_take_3 : decode b_L_take 3 = .ok (.iload_n 1, 1) := by decide +kernel
theorem d_L_take_4 : decode b_L_take 4 = .ok (.invokevirtual 36, 3) := by decide +kernel
theorem d_L_take_7 : decode b_L_take 7 = .ok (.i2l, 1) := by decide +kernel
theorem d_L_take_8 : decode b_L_take 8 = .ok (.lastore, 1) := by decide +kernel
theorem d_L_take_9 : decode b_L_take 9 = .ok (.goto 9, 3) := by decide +kernel
theorem d_L_take_12 : decode b_L_take 12 = .ok (.astore_n 3, 1) := by decide +kernel
theorem d_L_take_13 : decode b_L_take 13 = .ok (.iconst 1, 1) := by decide +kernel
theorem d_L_take_14 : decode b_L_take 14 = .ok (.ireturn, 1) := by decide +kernel
theorem d_L_take_15 : decode b_L_take 15 = .ok (.astore_n 3, 1) := by decide +kernel
theorem d_L_take_16 : decode b_L_take 16 = .ok (.iconst 2, 1) := by decide +kernel
theorem d_L_take_17 : decode b_L_take 17 = .ok (.ireturn, 1) := by decide +kernel
theorem d_L_take_18 : decode b_L_take 18 = .ok (.iconst 0, 1) := by decide +kernel
theorem d_L_take_19 : decode b_L_take 19 = .ok (.ireturn, 1) := by decide +kernel
theorem d_L_total_0 : decode b_L_total 0 = .ok (.aload_n 2, 1) := by decide +kernel
theorem d_L_total_1 : decode b_L_total 1 = .ok (.iconst 0, 1) := by decide +kernel
theorem d_L_total_2 : decode b_L_total 2 = .ok (.aload_n 0, 1) := by decide +kernel
theorem d_L_total_3 : decode b_L_total 3 = .ok (.iload_n 1, 1) := by decide +kernel
theorem d_L_total_4 : decode b_L_total 4 = .ok (.invokevirtual 39, 3) := by decide +kernel
theorem d_L_total_7 : decode b_L_total 7 = .ok (.i2l, 1) := by decide +kernel
theorem d_L_total_8 : decode b_L_total 8 = .ok (.lastore, 1) := by decide +kernel
theorem d_L_total_9 : decode b_L_total 9 = .ok (.goto 6, 3) := by decide +kernel
theorem d_L_total_12 : decode b_L_total 12 = .ok (.astore_n 3, 1) := by decide +kernel
theorem d_L_total_13 : decode b_L_total 13 = .ok (.iconst 1, 1) := by decide +kernel
theorem d_L_total_14 : decode b_L_total 14 = .ok (.ireturn, 1) := by decide +kernel
theorem d_L_total_15 : decode b_L_total 15 = .ok (.iconst 0, 1) := by decide +kernel
theorem d_L_total_16 : decode b_L_total 16 = .ok (.ireturn, 1) := by decide +kernel
theorem d_Ma_floorMod_0 : decode b_Ma_floorMod 0 = .ok (.iload_n 0, 1) := by decide +kernel
theorem d_Ma_floorMod_1 : decode b_Ma_floorMod 1 = .ok (.iload_n 1, 1) := by decide +kernel
theorem d_Ma_floorMod_2 : decode b_Ma_floorMod 2 = .ok (.irem, 1) := by decide +kernel
theorem d_Ma_floorMod_3 : decode b_Ma_floorMod 3 = .ok (.istore_n 2, 1) := by decide +kernel
theorem d_Ma_floorMod_4 : decode b_Ma_floorMod 4 = .ok (.iload_n 0, 1) := by decide +kernel
theorem d_Ma_floorMod_5 : decode b_Ma_floorMod 5 = .ok (.iload_n 1, 1) := by decide +kernel
theorem d_Ma_floorMod_6 : decode b_Ma_floorMod 6 = .ok (.ixor, 1) := by decide +kernel
theorem d_Ma_floorMod_7 : decode b_Ma_floorMod 7 = .ok (.ifCond .ge 11, 3) := by decide +kernel
theorem d_Ma_floorMod_10 : decode b_Ma_floorMod 10 = .ok (.iload_n 2, 1) := by decide +kernel
theorem d_Ma_floorMod_11 : decode b_Ma_floorMod 11 = .ok (.ifCond .eq 7, 3) := by decide +kernel
theorem d_Ma_floorMod_14 : decode b_Ma_floorMod 14 = .ok (.iload_n 2, 1) := by decide +kernel
theorem d_Ma_floorMod_15 : decode b_Ma_floorMod 15 = .ok (.iload_n 1, 1) := by decide +kernel
theorem d_Ma_floorMod_16 : decode b_Ma_floorMod 16 = .ok (.iadd, 1) := by decide +kernel
theorem d_Ma_floorMod_17 : decode b_Ma_floorMod 17 = .ok (.ireturn, 1) := by decide +kernel
theorem d_Ma_floorMod_18 : decode b_Ma_floorMod 18 = .ok (.iload_n 2, 1) := by decide +kernel
theorem d_Ma_floorMod_19 : decode b_Ma_floorMod 19 = .ok (.ireturn, 1) := by decide +kernel
