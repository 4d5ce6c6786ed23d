theorem d_X_init_0 : decode b_X_init 0 = .ok (.aload_n 0, 1) := by decide +kernel
theorem d_X_init_1 : decode b_X_init 1 = .ok (.invokespecial 1, 3) := by decide +kernel
theorem d_X_init_4 : decode b_X_init 4 = .ok (.aload_n 0, 1) := by decide +kernel
theorem d_X_init_5 : decode b_X_init 5 = .ok (.bipush 64, 2) := by decide +kernel
theorem d_X_init_7 : decode b_X_init 7 = .ok (.newarray .int, 2) := by decide +kernel
theorem d_X_init_9 : decode b_X_init 9 = .ok (.putfield 9, 3) := by decide +kernel
theorem d_X_init_12 : decode b_X_init 12 = .ok (.aload_n 0, 1) := by decide +kernel
theorem d_X_init_13 : decode b_X_init 13 = .ok (.bipush 8, 2) := by decide +kernel
theorem d_X_init_15 : decode b_X_init 15 = .ok (.newarray .int, 2) := by decide +kernel
theorem d_X_init_17 : decode b_X_init 17 = .ok (.putfield 13, 3) := by decide +kernel
theorem d_X_init_20 : decode b_X_init 20 = .ok (.aload_n 0, 1) := by decide +kernel
theorem d_X_init_21 : decode b_X_init 21 = .ok (.iconst 2, 1) := by decide +kernel
theorem d_X_init_22 : decode b_X_init 22 = .ok (.iconst 4, 1) := by decide +kernel
theorem d_X_init_23 : decode b_X_init 23 = .ok (.iload_n 1, 1) := by decide +kernel
theorem d_X_init_24 : decode b_X_init 24 = .ok (.invokestatic 16, 3) := by decide +kernel
theorem d_X_init_27 : decode b_X_init 27 = .ok (.invokestatic 22, 3) := by decide +kernel
theorem d_X_init_30 : decode b_X_init 30 = .ok (.anewarray 25, 3) := by decide +kernel
theorem d_X_init_33 : decode b_X_init 33 = .ok (.putfield 27, 3) := by decide +kernel
theorem d_X_init_36 : decode b_X_init 36 = .ok (.iconst 0, 1) := by decide +kernel
theorem d_X_init_37 : decode b_X_init 37 = .ok (.istore_n 2, 1) := by decide +kernel
theorem d_X_init_38 : decode b_X_init 38 = .ok (.iload_n 2, 1) := by decide +kernel
theorem d_X_init_39 : decode b_X_init 39 = .ok (.aload_n 0, 1) := by decide +kernel
theorem d_X_init_40 : decode b_X_init 40 = .ok (.getfield 27, 3) := by decide +kernel
theorem d_X_init_43 : decode b_X_init 43 = .ok (.arraylength, 1) := by decide +kernel
theorem d_X_init_44 : decode b_X_init 44 = .ok (.if_icmp .ge 22, 3) := by decide +kernel
theorem d_X_init_47 : decode b_X_init 47 = .ok (.aload_n 0, 1) := by decide +kernel
theorem d_X_init_48 : decode b_X_init 48 = .ok (.getfield 27, 3) := by decide +kernel
theorem d_X_init_51 : decode b_X_init 51 = .ok (.iload_n 2, 1) := by decide +kernel
theorem d_X_init_52 : decode b_X_init 52 = .ok (.new 25, 3) := by decide +kernel
theorem d_X_init_55 : decode b_X_init 55 = .ok (.dup, 1) := by decide +kernel
theorem d_X_init_56 : decode b_X_init 56 = .ok (.invokespecial 31, 3) := by decide +kernel
theorem d_X_init_59 : decode b_X_init 59 = .ok (.aastore, 1) := by decide +kernel
theorem d_X_init_60 : decode b_X_init 60 = .ok (.iinc 2 1, 3) := by decide +kernel
theorem d_X_init_63 : decode b_X_init 63 = .ok (.goto (-25), 3) := by decide +kernel
theorem d_X_init_66 : decode b_X_init 66 = .ok (.return_, 1) := by decide +kernel
theorem d_Ma_min_0 : decode b_Ma_min 0 = .ok (.iload_n 0, 1) := by decide +kernel
theorem d_Ma_min_1 : decode b_Ma_min 1 = .ok (.iload_n 1, 1) := by decide +kernel
theorem d_Ma_min_2 : decode b_Ma_min 2 = .ok (.if_icmp .gt 7, 3) := by decide +kernel
theorem d_Ma_min_5 : decode b_Ma_min 5 = .ok (.iload_n 0, 1) := by decide +kernel
theorem d_Ma_min_6 : decode b_Ma_min 6 = .ok (.goto 4, 3) := by decide +kernel
theorem d_Ma_min_9 : decode b_Ma_min 9 = .ok (.iload_n 1, 1) := by decide +kernel
theorem d_Ma_min_10 : decode b_Ma_min 10 = .ok (.ireturn, 1) := by decide +kernel
theorem d_Ma_max_0 : decode b_Ma_max 0 = .ok (.iload_n 0, 1) := by decide +kernel
theorem d_Ma_max_1 : decode b_Ma_max 1 = .ok (.iload_n 1, 1) := by decide +kernel
theorem d_Ma_max_2 : decode b_Ma_max 2 = .ok (.if_icmp .lt 7, 3) := by decide +kernel
theorem d_Ma_max_5 : decode b_Ma_max 5 = .ok (.iload_n 0, 1) := by decide +kernel
theorem d_Ma_max_6 : decode b_Ma_max 6 = .ok (.goto 4, 3) := by decide +kernel
theorem d_Ma_max_9 : decode b_Ma_max 9 = .ok (.iload_n 1, 1) := by decide +kernel
theorem d_Ma_max_10 : decode b_Ma_max 10 = .ok (.ireturn, 1) := by decide +kernel
theorem d_No_init_0 : decode b_No_init 0 = .ok (.aload_n 0, 1) := by decide +kernel
theorem d_No_init_1 : decode b_No_init 1 = .ok (.invokespecial 3, 3) := by decide +kernel
theorem d_No_init_4 : decode b_No_init 4 = .ok (.aload_n 0, 1) := by decide +kernel
theorem d_No_init_5 : decode b_No_init 5 = .ok (.new 9, 3) := by decide +kernel
theorem d_No_init_8 : decode b_No_init 8 = .ok (.dup, 1) := by decide +kernel
theorem d_No_init_9 : decode b_No_init 9 = .ok (.invokespecial 11, 3) := by decide +kernel
theorem d_No_init_12 : decode b_No_init 12 = .ok (.putfield 12, 3) := by decide +kernel
theorem d_No_init_15 : decode b_No_init 15 = .ok (.aload_n 0, 1) := by decide +kernel
theorem d_No_init_16 : decode b_No_init 16 = .ok (.new 9, 3) := by decide +kernel
theorem d_No_init_19 : decode b_No_init 19 = .ok (.dup, 1) := by decide +kernel
theorem d_No_init_20 : decode b_No_init 20 = .ok (.invokespecial 11, 3) := by decide +kernel
theorem d_No_init_23 : decode b_No_init 23 = .ok (.putfield 18, 3) := by decide +kernel
theorem d_No_init_26 : decode b_No_init 26 = .ok (.aload_n 0, 1) := by decide +kernel
theorem d_No_init_27 : decode b_No_init 27 = .ok (.new 21, 3) := by decide +kernel
theorem d_No_init_30 : decode b_No_init 30 = .ok (.dup, 1) := by decide +kernel
theorem d_No_init_31 : decode b_No_init 31 = .ok (.invokespecial 23, 3) := by decide +kernel
theorem d_No_init_34 : decode b_No_init 34 = .ok (.putfield 24, 3) := by decide +kernel
theorem d_No_init_37 : decode b_No_init 37 = .ok (.aload_n 0, 1) := by decide +kernel
theorem d_No_init_38 : decode b_No_init 38 = .ok (.new 28, 3) := by decide +kernel
theorem d_No_init_41 : decode b_No_init 41 = .ok (.dup, 1) := by decide +kernel
theorem d_No_init_42 : decode b_No_init 42 = .ok (.invokespecial 30, 3) := by decide +kernel
theorem d_No_init_45 : decode b_No_init 45 = .ok (.putfield 31, 3) := by decide +kernel
theorem d_No_init_48 : decode b_No_init 48 = .ok (.aload_n 0, 1) := by decide +kernel
theorem d_No_init_49 : decode b_No_init 49 = .ok (.new 35, 3) := by decide +kernel
theorem d_No_init_52 : decode b_No_init 52 = .ok (.dup, 1) := by decide +kernel
theorem d_No_init_53 : decode b_No_init 53 = .ok (.invokespecial 37, 3) := by decide +kernel
theorem d_No_init_56 : decode b_No_init 56 = .ok (.putfield 38, 3) := by decide +kernel
theorem d_No_init_59 : decode b_No_init 59 = .ok (.aload_n 0, 1) := by decide +kernel
theorem d_No_init_60 : decode b_No_init 60 = .ok (.iconst 0, 1) := by decide +kernel
theorem d_No_init_61 : decode b_No_init 61 = .ok (.putfield 42, 3) := by decide +kernel
theorem d_No_init_64 : decode b_No_init 64 = .ok (.aload_n 0, 1) := by decide +kernel
theorem d_No_init_65 : decode b_No_init 65 = .ok (.iconst 0, 1) := by decide +kernel
theorem d_No_init_66 : decode b_No_init 66 = .ok (.putfield 46, 3) := by decide +kernel
theorem d_No_init_69 : decode b_No_init 69 = .ok (.aload_n 0, 1) := by decide +kernel
theorem d_No_init_70 : decode b_No_init 70 = .ok (.iconst 0, 1) := by decide +kernel
theorem d_No_init_71 : decode b_No_init 71 = .ok (.putfield 49, 3) := by decide +kernel
theorem d_No_init_74 : decode b_No_init 74 = .ok (.aload_n 0, 1) := by decide +kernel
theorem d_No_init_75 : decode b_No_init 75 = .ok (.iconst 0, 1) := by decide +kernel
theorem d_No_init_76 : decode b_No_init 76 = .ok (.putfield 52, 3) := by decide +kernel
theorem d_No_init_79 : decode b_No_init 79 = .ok (.aload_n 0, 1) := by decide +kernel
theorem d_No_init_80 : decode b_No_init 80 = .ok (.iconst 0, 1) := by decide +kernel
theorem d_No_init_81 : decode b_No_init 81 = .ok (.putfield 55, 3) := by decide +kernel
theorem d_No_init_84 : decode b_No_init 84 = .ok (.aload_n 0, 1) := by decide +kernel
theorem d_No_init_85 : decode b_No_init 85 = .ok (.iconst 0, 1) := by decide +kernel
theorem d_No_init_86 : decode b_No_init 86 = .ok (.putfield 58, 3) := by decide +kernel
theorem d_No_init_89 : decode b_No_init 89 = .ok (.aload_n 0, 1) := by decide +kernel
theorem d_No_init_90 : decode b_No_init 90 = .ok (.iconst 0, 1) := by decide +kernel
theorem d_No_init_91 : decode b_No_init 91 = .ok (.putfield 61, 3) := by decide +kernel
theorem d_No_init_94 : decode b_No_init 94 = .ok (.aload_n 0, 1) := by decide +kernel
theorem d_No_init_95 : decode b_No_init 95 = .ok (.iconst 0, 1) := by decide +kernel
theorem d_No_init_96 : decode b_No_init 96 = .ok (.putfield 64, 3) := by decide +kernel
theorem d_No_init_99 : decode b_No_init 99 = .ok (.aload_n 0, 1) := by decide +kernel
theorem d_No_init_100 : decode b_No_init 100 = .ok (.iconst 1, 1) := by decide +kernel
theorem d_No_init_101 : decode b_No_init 101 = .ok (.putfield 67, 3) := by decide +kernel
theorem d_No_init_104 : decode b_No_init 104 = .ok (.aload_n 0, 1) := by decide +kernel
theorem d_No_init_105 : decode b_No_init 105 = .ok (.iconst 0, 1) := by decide +kernel
theorem d_No_init_106 : decode b_No_init 106 = .ok (.putfield 70, 3) := by decide +kernel
theorem d_No_init_109 : decode b_No_init 109 = .ok (.aload_n 0, 1) := by decide +kernel
theorem d_No_init_110 : decode b_No_init 110 = .ok (.iconst 0, 1) := by decide +kernel
theorem d_No_init_111 : decode b_No_init 111 = .ok (.putfield 74, 3) := by decide +kernel
theorem d_No_init_114 : decode b_No_init 114 = .ok (.aload_n 0, 1) := by decide +kernel
theorem d_No_init_115 : decode b_No_init 115 = .ok (.iconst 0, 1) := by decide +kernel
theorem d_No_init_116 : decode b_No_init 116 = .ok (.putfield 77, 3) := by decide +kernel
theorem d_No_init_119 : decode b_No_init 119 = .ok (.aload_n 0, 1) := by decide +kernel
theorem d_No_init_120 : decode b_No_init 120 = .ok (.iconst 0, 1) := by decide +kernel
theorem d_No_init_121 : decode b_No_init 121 = .ok (.putfield 80, 3) := by decide +kernel
theorem d_No_init_124 : decode b_No_init 124 = .ok (.return_, 1) := by decide +kernel
theorem d_Fr_init_0 : decode b_Fr_init 0 = .ok (.aload_n 0, 1) := by decide +kernel
theorem d_Fr_init_1 : decode b_Fr_init 1 = .ok (.invokespecial 3, 3) := by decide +kernel
theorem d_Fr_init_4 : decode b_Fr_init 4 = .ok (.aload_n 0, 1) := by decide +kernel
theorem d_Fr_init_5 : decode b_Fr_init 5 = .ok (.iconst 4, 1) := by decide +kernel
theorem d_Fr_init_6 : decode b_Fr_init 6 = .ok (.newarray .int, 2) := by decide +kernel
theorem d_Fr_init_8 : decode b_Fr_init 8 = .ok (.putfield 9, 3) := by decide +kernel
theorem d_Fr_init_11 : decode b_Fr_init 11 = .ok (.aload_n 0, 1) := by decide +kernel
theorem d_Fr_init_12 : decode b_Fr_init 12 = .ok (.iconst 0, 1) := by decide +kernel
theorem d_Fr_init_13 : decode b_Fr_init 13 = .ok (.putfield 15, 3) := by decide +kernel
theorem d_Fr_init_16 : decode b_Fr_init 16 = .ok (.return_, 1) := by decide +kernel
theorem d_Di_init_0 : decode b_Di_init 0 = .ok (.aload_n 0, 1) := by decide +kernel
theorem d_Di_init_1 : decode b_Di_init 1 = .ok (.invokespecial 3, 3) := by decide +kernel
theorem d_Di_init_4 : decode b_Di_init 4 = .ok (.aload_n 0, 1) := by decide +kernel
theorem d_Di_init_5 : decode b_Di_init 5 = .ok (.sipush 201, 3) := by decide +kernel
theorem d_Di_init_8 : decode b_Di_init 8 = .ok (.newarray .boolean, 2) := by decide +kernel
theorem d_Di_init_10 : decode b_Di_init 10 = .ok (.putfield 9, 3) := by decide +kernel
theorem d_Di_init_13 : decode b_Di_init 13 = .ok (.aload_n 0, 1) := by decide +kernel
theorem d_Di_init_14 : decode b_Di_init 14 = .ok (.iconst 0, 1) := by decide +kernel
theorem d_Di_init_15 : decode b_Di_init 15 = .ok (.putfield 15, 3) := by decide +kernel
theorem d_Di_init_18 : decode b_Di_init 18 = .ok (.return_, 1) := by decide +kernel
theorem d_Co_init_0 : decode b_Co_init 0 = .ok (.aload_n 0, 1) := by decide +kernel
theorem d_Co_init_1 : decode b_Co_init 1 = .ok (.invokespecial 5, 3) := by decide +kernel
theorem d_Co_init_4 : decode b_Co_init 4 = .ok (.aload_n 0, 1) := by decide +kernel
theorem d_Co_init_5 : decode b_Co_init 5 = .ok (.bipush 50, 2) := by decide +kernel
theorem d_Co_init_7 : decode b_Co_init 7 = .ok (.newarray .int, 2) := by decide +kernel
theorem d_Co_init_9 : decode b_Co_init 9 = .ok (.putfield 11, 3) := by decide +kernel
theorem d_Co_init_12 : decode b_Co_init 12 = .ok (.aload_n 0, 1) := by decide +kernel
theorem d_Co_init_13 : decode b_Co_init 13 = .ok (.iconst 0, 1) := by decide +kernel
theorem d_Co_init_14 : decode b_Co_init 14 = .ok (.putfield 15, 3) := by decide +kernel
theorem d_Co_init_17 : decode b_Co_init 17 = .ok (.aload_n 0, 1) := by decide +kernel
theorem d_Co_init_18 : decode b_Co_init 18 = .ok (.iconst 0, 1) := by decide +kernel
theorem d_Co_init_19 : decode b_Co_init 19 = .ok (.putfield 19, 3) := by decide +kernel
theorem d_Co_init_22 : decode b_Co_init 22 = .ok (.return_, 1) := by decide +kernel
theorem d_Re_init_0 : decode b_Re_init 0 = .ok (.aload_n 0, 1) := by decide +kernel
theorem d_Re_init_1 : decode b_Re_init 1 = .ok (.invokespecial 3, 3) := by decide +kernel
theorem d_Re_init_4 : decode b_Re_init 4 = .ok (.aload_n 0, 1) := by decide +kernel
theorem d_Re_init_5 : decode b_Re_init 5 = .ok (.iconst 0, 1) := by decide +kernel
theorem d_Re_init_6 : decode b_Re_init 6 = .ok (.putfield 9, 3) := by decide +kernel
theorem d_Re_init_9 : decode b_Re_init 9 = .ok (.aload_n 0, 1) := by decide +kernel
theorem d_Re_init_10 : decode b_Re_init 10 = .ok (.bipush 50, 2) := by decide +kernel
theorem d_Re_init_12 : decode b_Re_init 12 = .ok (.putfield 17, 3) := by decide +kernel
theorem d_Re_init_15 : decode b_Re_init 15 = .ok (.aload_n 0, 1) := by decide +kernel
theorem d_Re_init_16 : decode b_Re_init 16 = .ok (.iconst 1, 1) := by decide +kernel
theorem d_Re_init_17 : decode b_Re_init 17 = .ok (.putfield 20, 3) := by decide +kernel
theorem d_Re_init_20 : decode b_Re_init 20 = .ok (.aload_n 0, 1) := by decide +kernel
theorem d_Re_init_21 : decode b_Re_init 21 = .ok (.iconst 0, 1) := by decide +kernel
theorem d_Re_init_22 : decode b_Re_init 22 = .ok (.putfield 23, 3) := by decide +kernel
theorem d_Re_init_25 : decode b_Re_init 25 = .ok (.aload_n 0, 1) := by decide +kernel
theorem d_Re_init_26 : decode b_Re_init 26 = .ok (.iconst 0, 1) := by decide +kernel
theorem d_Re_init_27 : decode b_Re_init 27 = .ok (.putfield 26, 3) := by decide +kernel
theorem d_Re_init_30 : decode b_Re_init 30 = .ok (.aload_n 0, 1) := by decide +kernel
theorem d_Re_init_31 : decode b_Re_init 31 = .ok (.iconst 0, 1) := by decide +kernel
theorem d_Re_init_32 : decode b_Re_init 32 = .ok (.putfield 29, 3) := by decide +kernel
theorem d_Re_init_35 : decode b_Re_init 35 = .ok (.aload_n 0, 1) := by decide +kernel
theorem d_Re_init_36 : decode b_Re_init 36 = .ok (.iconst 0, 1) := by decide +kernel
theorem d_Re_init_37 : decode b_Re_init 37 = .ok (.putfield 32, 3) := by decide +kernel
theorem d_Re_init_40 : decode b_Re_init 40 = .ok (.aload_n 0, 1) := by decide +kernel
theorem d_Re_init_41 : decode b_Re_init 41 = .ok (.iconst 0, 1) := by decide +kernel
theorem d_Re_init_42 : decode b_Re_init 42 = .ok (.putfield 35, 3) := by decide +kernel
theorem d_Re_init_45 : decode b_Re_init 45 = .ok (.return_, 1) := by decide +kernel
theorem d_X_level_0 : decode b_X_level 0 = .ok (.iload_n 1, 1) := by decide +kernel
theorem d_X_level_1 : decode b_X_level 1 = .ok (.ifCond .lt 19, 3) := by decide +kernel
theorem d_X_level_4 : decode b_X_level 4 = .ok (.iload_n 1, 1) := by decide +kernel
theorem d_X_level_5 : decode b_X_level 5 = .ok (.bipush 64, 2) := by decide +kernel
theorem d_X_level_7 : decode b_X_level 7 = .ok (.if_icmp .ge 13, 3) := by decide +kernel
theorem d_X_level_10 : decode b_X_level 10 = .ok (.iload_n 1, 1) := by decide +kernel
theorem d_X_level_11 : decode b_X_level 11 = .ok (.aload_n 0, 1) := by decide +kernel
theorem d_X_level_12 : decode b_X_level 12 = .ok (.getfield 13, 3) := by decide +kernel
theorem d_X_level_15 : decode b_X_level 15 = .ok (.iconst 0, 1) := by decide +kernel
theorem d_X_level_16 : decode b_X_level 16 = .ok (.iaload, 1) := by decide +kernel
theorem d_X_level_17 : decode b_X_level 17 = .ok (.if_icmp .lt 5, 3) := by decide +kernel
theorem d_X_level_20 : decode b_X_level 20 = .ok (.iconst (-1), 1) := by decide +kernel
theorem d_X_level_21 : decode b_X_level 21 = .ok (.ireturn, 1) := by decide +kernel
theorem d_X_level_22 : decode b_X_level 22 = .ok (.aload_n 0, 1) := by decide +kernel
theorem d_X_level_23 : decode b_X_level 23 = .ok (.getfield 9, 3) := by decide +kernel
theorem d_X_level_26 : decode b_X_level 26 = .ok (.aload_n 0, 1) := by decide +kernel
theorem d_X_level_27 : decode b_X_level 27 = .ok (.getfield 13, 3) := by decide +kernel
theorem d_X_level_30 : decode b_X_level 30 = .ok (.iconst 0, 1) := by decide +kernel
theorem d_X_level_31 : decode b_X_level 31 = .ok (.iaload, 1) := by decide +kernel
theorem d_X_level_32 : decode b_X_level 32 = .ok (.iconst 1, 1) := by decide +kernel
theorem d_X_level_33 : decode b_X_level 33 = .ok (.isub, 1) := by decide +kernel
theorem d_X_level_34 : decode b_X_level 34 = .ok (.iload_n 1, 1) := by decide +kernel
theorem d_X_level_35 : decode b_X_level 35 = .ok (.isub, 1) := by decide +kernel
theorem d_X_level_36 : decode b_X_level 36 = .ok (.bipush 64, 2) := by decide +kernel
theorem d_X_level_38 : decode b_X_level 38 = .ok (.irem, 1) := by decide +kernel
theorem d_X_level_39 : decode b_X_level 39 = .ok (.iaload, 1) := by decide +kernel
theorem d_X_level_40 : decode b_X_level 40 = .ok (.ireturn, 1) := by decide +kernel
theorem d_L_cell_0 : decode b_L_cell 0 = .ok (.iload_n 1, 1) := by decide +kernel
theorem d_L_cell_1 : decode b_L_cell 1 = .ok (.aload_n 0, 1) := by decide +kernel
theorem d_L_cell_2 : decode b_L_cell 2 = .ok (.arraylength, 1) := by decide +kernel
theorem d_L_cell_3 : decode b_L_cell 3 = .ok (.if_icmp .ge 9, 3) := by decide +kernel
theorem d_L_cell_6 : decode b_L_cell 6 = .ok (.aload_n 0, 1) := by decide +kernel
theorem d_L_cell_7 : decode b_L_cell 7 = .ok (.iload_n 1, 1) := by decide +kernel
theorem d_L_cell_8 : decode b_L_cell 8 = .ok (.iaload, 1) := by decide +kernel
theorem d_L_cell_9 : decode b_L_cell 9 = .ok (.goto 4, 3) := by decide +kernel
theorem d_L_cell_12 : decode b_L_cell 12 = .ok (.iconst 0, 1) := by decide +kernel
theorem d_L_cell_13 : decode b_L_cell 13 = .ok (.ireturn, 1) := by decide +kernel
theorem d_L_request_0 : decode b_L_request 0 = .ok (.aload 5, 2) := by decide +kernel
theorem d_L_request_2 : decode b_L_request 2 = .ok (.iconst 0, 1) := by decide +kernel
theorem d_L_request_3 : decode b_L_request 3 = .ok (.aload_n 0, 1) := by decide +kernel
theorem d_L_request_4 : decode b_L_request 4 = .ok (.iload_n 1, 1) := by decide +kernel
theorem d_L_request_5 : decode b_L_request 5 = .ok (.iload_n 2, 1) := by decide +kernel
theorem d_L_request_6 : decode b_L_request 6 = .ok (.iload_n 3, 1) := by decide +kernel
theorem d_L_request_7 : decode b_L_request 7 = .ok (.iload 4, 2) := by decide +kernel
theorem d_L_request_9 : decode b_L_request 9 = .ok (.invokevirtual 7, 3) := by decide +kernel
theorem d_L_request_12 : decode b_L_request 12 = .ok (.i2l, 1) := by decide +kernel
theorem d_L_request_13 : decode b_L_request 13 = .ok (.lastore, 1) := by decide +kernel
theorem d_L_request_14 : decode b_L_request 14 = .ok (.goto 11, 3) := by decide +kernel
theorem d_L_request_17 : decode b_L_request 17 = .ok (.astore 6, 2) := by decide +kernel
theorem d_L_request_19 : decode b_L_request 19 = .ok (.iconst 1, 1) := by decide +kernel
theorem d_L_request_20 : decode b_L_request 20 = .ok (.ireturn, 1) := by decide +kernel
theorem d_L_request_21 : decode b_L_request 21 = .ok (.astore 6, 2) := by decide +kernel
theorem d_L_request_23 : decode b_L_request 23 = .ok (.iconst 2, 1) := by decide +kernel
theorem d_L_request_24 : decode b_L_request 24 = .ok (.ireturn, 1) := by decide +kernel
theorem d_L_request_25 : decode b_L_request 25 = .ok (.iconst 0, 1) := by decide +kernel
theorem d_L_request_26 : decode b_L_request 26 = .ok (.ireturn, 1) := by decide +kernel
theorem d_X_request_0 : decode b_X_request 0 = .ok (.aload_n 0, 1) := by decide +kernel
theorem d_X_request_1 : decode b_X_request 1 = .ok (.iload_n 1, 1) := by decide +kernel
theorem d_X_request_2 : decode b_X_request 2 = .ok (.invokevirtual 32, 3) := by decide +kernel
theorem d_X_request_5 : decode b_X_request 5 = .ok (.astore 5, 2) := by decide +kernel
theorem d_X_request_7 : decode b_X_request 7 = .ok (.iload_n 2, 1) := by decide +kernel
theorem d_X_request_8 : decode b_X_request 8 = .ok (.invokestatic 36, 3) := by decide +kernel
theorem d_X_request_11 : decode b_X_request 11 = .ok (.ifCond .eq 28, 3) := by decide +kernel
theorem d_X_request_14 : decode b_X_request 14 = .ok (.iload_n 3, 1) := by decide +kernel
theorem d_X_request_15 : decode b_X_request 15 = .ok (.ifCond .lt 24, 3) := by decide +kernel
theorem d_X_request_18 : decode b_X_request 18 = .ok (.iload_n 3, 1) := by decide +kernel
theorem d_X_request_19 : decode b_X_request 19 = .ok (.iconst 2, 1) := by decide +kernel
theorem d_X_request_20 : decode b_X_request 20 = .ok (.if_icmp .gt 19, 3) := by decide +kernel
theorem d_X_request_23 : decode b_X_request 23 = .ok (.iload 4, 2) := by decide +kernel
theorem d_X_request_25 : decode b_X_request 25 = .ok (.ifCond .lt 14, 3) := by decide +kernel
theorem d_X_request_28 : decode b_X_request 28 = .ok (.iload 4, 2) := by decide +kernel
theorem d_X_request_30 : decode b_X_request 30 = .ok (.iconst 1, 1) := by decide +kernel
theorem d_X_request_31 : decode b_X_request 31 = .ok (.bipush 8, 2) := by decide +kernel
theorem d_X_request_33 : decode b_X_request 33 = .ok (.iload_n 3, 1) := by decide +kernel
theorem d_X_request_34 : decode b_X_request 34 = .ok (.imul, 1) := by decide +kernel
theorem d_X_request_35 : decode b_X_request 35 = .ok (.ishl, 1) := by decide +kernel
theorem d_X_request_36 : decode b_X_request 36 = .ok (.if_icmp .lt 13, 3) := by decide +kernel
theorem d_X_request_39 : decode b_X_request 39 = .ok (.new 40, 3) := by decide +kernel
theorem d_X_request_42 : decode b_X_request 42 = .ok (.dup, 1) := by decide +kernel
theorem d_X_request_43 : decode b_X_request 43 = .ok (.ldc 42, 2) := by decide +kernel
theorem d_X_request_45 : decode b_X_request 45 = .ok (.invokespecial 44, 3) := by decide +kernel
theorem d_X_request_48 : decode b_X_request 48 = .ok (.athrow, 1) := by decide +kernel
theorem d_X_request_49 : decode b_X_request 49 = .ok (.aload 5, 2) := by decide +kernel
theorem d_X_request_51 : decode b_X_request 51 = .ok (.getfield 47, 3) := by decide +kernel
theorem d_X_request_54 : decode b_X_request 54 = .ok (.bipush 7, 2) := by decide +kernel
theorem d_X_request_56 : decode b_X_request 56 = .ok (.if_icmp .eq 14, 3) := by decide +kernel
theorem d_X_request_59 : decode b_X_request 59 = .ok (.aload 5, 2) := by decide +kernel
theorem d_X_request_61 : decode b_X_request 61 = .ok (.getfield 51, 3) := by decide +kernel
theorem d_X_request_64 : decode b_X_request 64 = .ok (.invokevirtual 55, 3) := by decide +kernel
theorem d_X_request_67 : decode b_X_request 67 = .ok (.ifCond .eq 13, 3) := by decide +kernel
theorem d_X_request_70 : decode b_X_request 70 = .ok (.new 61, 3) := by decide +kernel
theorem d_X_request_73 : decode b_X_request 73 = .ok (.dup, 1) := by decide +kernel
theorem d_X_request_74 : decode b_X_request 74 = .ok (.ldc 63, 2) := by decide +kernel
theorem d_X_request_76 : decode b_X_request 76 = .ok (.invokespecial 65, 3) := by decide +kernel
theorem d_X_request_79 : decode b_X_request 79 = .ok (.athrow, 1) := by decide +kernel
theorem d_X_request_80 : decode b_X_request 80 = .ok (.aload 5, 2) := by decide +kernel
theorem d_X_request_82 : decode b_X_request 82 = .ok (.getfield 51, 3) := by decide +kernel
theorem d_X_request_85 : decode b_X_request 85 = .ok (.iload_n 2, 1) := by decide +kernel
theorem d_X_request_86 : decode b_X_request 86 = .ok (.iload_n 3, 1) := by decide +kernel
theorem d_X_request_87 : decode b_X_request 87 = .ok (.iload 4, 2) := by decide +kernel
theorem d_X_request_89 : decode b_X_request 89 = .ok (.invokestatic 66, 3) := by decide +kernel
theorem d_X_request_92 : decode b_X_request 92 = .ok (.invokevirtual 70, 3) := by decide +kernel
theorem d_X_request_95 : decode b_X_request 95 = .ok (.aload 5, 2) := by decide +kernel
theorem d_X_request_97 : decode b_X_request 97 = .ok (.getfield 51, 3) := by decide +kernel
theorem d_X_request_100 : decode b_X_request 100 = .ok (.getfield 74, 3) := by decide +kernel
theorem d_X_request_103 : decode b_X_request 103 = .ok (.ireturn, 1) := by decide +kernel
theorem d_X_nodeOf_0 : decode b_X_nodeOf 0 = .ok (.iload_n 1, 1) := by decide +kernel
theorem d_X_nodeOf_1 : decode b_X_nodeOf 1 = .ok (.ifCond .lt 12, 3) := by decide +kernel
theorem d_X_nodeOf_4 : decode b_X_nodeOf 4 = .ok (.iload_n 1, 1) := by decide +kernel
theorem d_X_nodeOf_5 : decode b_X_nodeOf 5 = .ok (.aload_n 0, 1) := by decide +kernel
theorem d_X_nodeOf_6 : decode b_X_nodeOf 6 = .ok (.getfield 27, 3) := by decide +kernel
theorem d_X_nodeOf_9 : decode b_X_nodeOf 9 = .ok (.arraylength, 1) := by decide +kernel
theorem d_X_nodeOf_10 : decode b_X_nodeOf 10 = .ok (.if_icmp .lt 13, 3) := by decide +kernel
theorem d_X_nodeOf_13 : decode b_X_nodeOf 13 = .ok (.new 40, 3) := by decide +kernel
theorem d_X_nodeOf_16 : decode b_X_nodeOf 16 = .ok (.dup, 1) := by decide +kernel
theorem d_X_nodeOf_17 : decode b_X_nodeOf 17 = .ok (.ldc 122, 2) := by decide +kernel
theorem d_X_nodeOf_19 : decode b_X_nodeOf 19 = .ok (.invokespecial 44, 3) := by decide +kernel
theorem d_X_nodeOf_22 : decode b_X_nodeOf 22 = .ok (.athrow, 1) := by decide +kernel
theorem d_X_nodeOf_23 : decode b_X_nodeOf 23 = .ok (.aload_n 0, 1) := by decide +kernel
theorem d_X_nodeOf_24 : decode b_X_nodeOf 24 = .ok (.getfield 27, 3) := by decide +kernel
theorem d_X_nodeOf_27 : decode b_X_nodeOf 27 = .ok (.iload_n 1, 1) := by decide +kernel
theorem d_X_nodeOf_28 : decode b_X_nodeOf 28 = .ok (.aaload, 1) := by decide +kernel
theorem d_X_nodeOf_29 : decode b_X_nodeOf 29 = .ok (.areturn, 1) := by decide +kernel
theorem d_X_isEleven_0 : decode b_X_isEleven 0 = .ok (.iload_n 0, 1) := by decide +kernel
theorem d_X_isEleven_1 : decode b_X_isEleven 1 = .ok (.ifCond .lt 14, 3) := by decide +kernel
theorem d_X_isEleven_4 : decode b_X_isEleven 4 = .ok (.iload_n 0, 1) := by decide +kernel
theorem d_X_isEleven_5 : decode b_X_isEleven 5 = .ok (.sipush 2047, 3) := by decide +kernel
theorem d_X_isEleven_8 : decode b_X_isEleven 8 = .ok (.if_icmp .gt 7, 3) := by decide +kernel
theorem d_X_isEleven_11 : decode b_X_isEleven 11 = .ok (.iconst 1, 1) := by decide +kernel
theorem d_X_isEleven_12 : decode b_X_isEleven 12 = .ok (.goto 4, 3) := by decide +kernel
theorem d_X_isEleven_15 : decode b_X_isEleven 15 = .ok (.iconst 0, 1) := by decide +kernel
theorem d_X_isEleven_16 : decode b_X_isEleven 16 = .ok (.ireturn, 1) := by decide +kernel
theorem d_Fr_isFull_0 : decode b_Fr_isFull 0 = .ok (.aload_n 0, 1) := by decide +kernel
theorem d_Fr_isFull_1 : decode b_Fr_isFull 1 = .ok (.getfield 15, 3) := by decide +kernel
theorem d_Fr_isFull_4 : decode b_Fr_isFull 4 = .ok (.iconst 4, 1) := by decide +kernel
theorem d_Fr_isFull_5 : decode b_Fr_isFull 5 = .ok (.if_icmp .lt 7, 3) := by decide +kernel
theorem d_Fr_isFull_8 : decode b_Fr_isFull 8 = .ok (.iconst 1, 1) := by decide +kernel
theorem d_Fr_isFull_9 : decode b_Fr_isFull 9 = .ok (.goto 4, 3) := by decide +kernel
theorem d_Fr_isFull_12 : decode b_Fr_isFull 12 = .ok (.iconst 0, 1) := by decide +kernel
theorem d_Fr_isFull_13 : decode b_Fr_isFull 13 = .ok (.ireturn, 1) := by decide +kernel
theorem d_Fr_packed_0 : decode b_Fr_packed 0 = .ok (.iload_n 0, 1) := by decide +kernel
theorem d_Fr_packed_1 : decode b_Fr_packed 1 = .ok (.sipush 2048, 3) := by decide +kernel
theorem d_Fr_packed_4 : decode b_Fr_packed 4 = .ok (.iload_n 1, 1) := by decide +kernel
theorem d_Fr_packed_5 : decode b_Fr_packed 5 = .ok (.imul, 1) := by decide +kernel
theorem d_Fr_packed_6 : decode b_Fr_packed 6 = .ok (.iadd, 1) := by decide +kernel
theorem d_Fr_packed_7 : decode b_Fr_packed 7 = .ok (.sipush 8192, 3) := by decide +kernel
theorem d_Fr_packed_10 : decode b_Fr_packed 10 = .ok (.iload_n 2, 1) := by decide +kernel
theorem d_Fr_packed_11 : decode b_Fr_packed 11 = .ok (.imul, 1) := by decide +kernel
theorem d_Fr_packed_12 : decode b_Fr_packed 12 = .ok (.iadd, 1) := by decide +kernel
theorem d_Fr_packed_13 : decode b_Fr_packed 13 = .ok (.ireturn, 1) := by decide +kernel
theorem d_Fr_add_0 : decode b_Fr_add 0 = .ok (.aload_n 0, 1) := by decide +kernel
theorem d_Fr_add_1 : decode b_Fr_add 1 = .ok (.invokevirtual 19, 3) := by decide +kernel
theorem d_Fr_add_4 : decode b_Fr_add 4 = .ok (.ifCond .ne 23, 3) := by decide +kernel
theorem d_Fr_add_7 : decode b_Fr_add 7 = .ok (.aload_n 0, 1) := by decide +kernel
theorem d_Fr_add_8 : decode b_Fr_add 8 = .ok (.getfield 9, 3) := by decide +kernel
theorem d_Fr_add_11 : decode b_Fr_add 11 = .ok (.aload_n 0, 1) := by decide +kernel
theorem d_Fr_add_12 : decode b_Fr_add 12 = .ok (.getfield 15, 3) := by decide +kernel
theorem d_Fr_add_15 : decode b_Fr_add 15 = .ok (.iload_n 1, 1) := by decide +kernel
theorem d_Fr_add_16 : decode b_Fr_add 16 = .ok (.iastore, 1) := by decide +kernel
theorem d_Fr_add_17 : decode b_Fr_add 17 = .ok (.aload_n 0, 1) := by decide +kernel
theorem d_Fr_add_18 : decode b_Fr_add 18 = .ok (.dup, 1) := by decide +kernel
theorem d_Fr_add_19 : decode b_Fr_add 19 = .ok (.getfield 15, 3) := by decide +kernel
theorem d_Fr_add_22 : decode b_Fr_add 22 = .ok (.iconst 1, 1) := by decide +kernel
theorem d_Fr_add_23 : decode b_Fr_add 23 = .ok (.iadd, 1) := by decide +kernel
theorem d_Fr_add_24 : decode b_Fr_add 24 = .ok (.putfield 15, 3) := by decide +kernel
theorem d_Fr_add_27 : decode b_Fr_add 27 = .ok (.return_, 1) := by decide +kernel
theorem d_L_filter_0 : decode b_L_filter 0 = .ok (.aload_n 0, 1) := by decide +kernel
theorem d_L_filter_1 : decode b_L_filter 1 = .ok (.iload_n 1, 1) := by decide +kernel
theorem d_L_filter_2 : decode b_L_filter 2 = .ok (.iload_n 2, 1) := by decide +kernel
theorem d_L_filter_3 : decode b_L_filter 3 = .ok (.iload_n 3, 1) := by decide +kernel
theorem d_L_filter_4 : decode b_L_filter 4 = .ok (.invokevirtual 17, 3) := by decide +kernel
theorem d_L_filter_7 : decode b_L_filter 7 = .ok (.goto 7, 3) := by decide +kernel
theorem d_L_filter_10 : decode b_L_filter 10 = .ok (.astore 4, 2) := by decide +kernel
theorem d_L_filter_12 : decode b_L_filter 12 = .ok (.iconst 1, 1) := by decide +kernel
theorem d_L_filter_13 : decode b_L_filter 13 = .ok (.ireturn, 1) := by decide +kernel
theorem d_L_filter_14 : decode b_L_filter 14 = .ok (.iconst 0, 1) := by decide +kernel
theorem d_L_filter_15 : decode b_L_filter 15 = .ok (.ireturn, 1) := by decide +kernel
theorem d_X_filter_0 : decode b_X_filter 0 = .ok (.aload_n 0, 1) := by decide +kernel
theorem d_X_filter_1 : decode b_X_filter 1 = .ok (.iload_n 1, 1) := by decide +kernel
theorem d_X_filter_2 : decode b_X_filter 2 = .ok (.invokevirtual 32, 3) := by decide +kernel
theorem d_X_filter_5 : decode b_X_filter 5 = .ok (.astore 4, 2) := by decide +kernel
theorem d_X_filter_7 : decode b_X_filter 7 = .ok (.iload_n 2, 1) := by decide +kernel
theorem d_X_filter_8 : decode b_X_filter 8 = .ok (.invokestatic 36, 3) := by decide +kernel
theorem d_X_filter_11 : decode b_X_filter 11 = .ok (.ifCond .eq 10, 3) := by decide +kernel
theorem d_X_filter_14 : decode b_X_filter 14 = .ok (.iload_n 3, 1) := by decide +kernel
theorem d_X_filter_15 : decode b_X_filter 15 = .ok (.invokestatic 36, 3) := by decide +kernel
theorem d_X_filter_18 : decode b_X_filter 18 = .ok (.ifCond .ne 13, 3) := by decide +kernel
theorem d_X_filter_21 : decode b_X_filter 21 = .ok (.new 40, 3) := by decide +kernel
theorem d_X_filter_24 : decode b_X_filter 24 = .ok (.dup, 1) := by decide +kernel
theorem d_X_filter_25 : decode b_X_filter 25 = .ok (.ldc 77, 2) := by decide +kernel
theorem d_X_filter_27 : decode b_X_filter 27 = .ok (.invokespecial 44, 3) := by decide +kernel
theorem d_X_filter_30 : decode b_X_filter 30 = .ok (.athrow, 1) := by decide +kernel
theorem d_X_filter_31 : decode b_X_filter 31 = .ok (.aload 4, 2) := by decide +kernel
theorem d_X_filter_33 : decode b_X_filter 33 = .ok (.iload_n 2, 1) := by decide +kernel
theorem d_X_filter_34 : decode b_X_filter 34 = .ok (.putfield 79, 3) := by decide +kernel
theorem d_X_filter_37 : decode b_X_filter 37 = .ok (.aload 4, 2) := by decide +kernel
theorem d_X_filter_39 : decode b_X_filter 39 = .ok (.iload_n 3, 1) := by decide +kernel
theorem d_X_filter_40 : decode b_X_filter 40 = .ok (.putfield 82, 3) := by decide +kernel
theorem d_X_filter_43 : decode b_X_filter 43 = .ok (.return_, 1) := by decide +kernel
theorem d_L_disturb_0 : decode b_L_disturb 0 = .ok (.aload_n 0, 1) := by decide +kernel
theorem d_L_disturb_1 : decode b_L_disturb 1 = .ok (.iload_n 1, 1) := by decide +kernel
theorem d_L_disturb_2 : decode b_L_disturb 2 = .ok (.iload_n 2, 1) := by decide +kernel
theorem d_L_disturb_3 : decode b_L_disturb 3 = .ok (.invokevirtual 21, 3) := by decide +kernel
theorem d_L_disturb_6 : decode b_L_disturb 6 = .ok (.goto 6, 3) := by decide +kernel
theorem d_L_disturb_9 : decode b_L_disturb 9 = .ok (.astore_n 3, 1) := by decide +kernel
theorem d_L_disturb_10 : decode b_L_disturb 10 = .ok (.iconst 1, 1) := by decide +kernel
theorem d_L_disturb_11 : decode b_L_disturb 11 = .ok (.ireturn, 1) := by decide +kernel
theorem d_L_disturb_12 : decode b_L_disturb 12 = .ok (.iconst 0, 1) := by decide +kernel
theorem d_L_disturb_13 : decode b_L_disturb 13 = .ok (.ireturn, 1) := by decide +kernel
theorem d_X_disturb_0 : decode b_X_disturb 0 = .ok (.aload_n 0, 1) := by decide +kernel
theorem d_X_disturb_1 : decode b_X_disturb 1 = .ok (.iload_n 1, 1) := by decide +kernel
theorem d_X_disturb_2 : decode b_X_disturb 2 = .ok (.invokevirtual 32, 3) := by decide +kernel
theorem d_X_disturb_5 : decode b_X_disturb 5 = .ok (.astore_n 3, 1) := by decide +kernel
theorem d_X_disturb_6 : decode b_X_disturb 6 = .ok (.iload_n 2, 1) := by decide +kernel
theorem d_X_disturb_7 : decode b_X_disturb 7 = .ok (.invokestatic 85, 3) := by decide +kernel
theorem d_X_disturb_10 : decode b_X_disturb 10 = .ok (.aload_n 3, 1) := by decide +kernel
theorem d_X_disturb_11 : decode b_X_disturb 11 = .ok (.getfield 88, 3) := by decide +kernel
theorem d_X_disturb_14 : decode b_X_disturb 14 = .ok (.iload_n 2, 1) := by decide +kernel
theorem d_X_disturb_15 : decode b_X_disturb 15 = .ok (.invokevirtual 92, 3) := by decide +kernel
theorem d_X_disturb_18 : decode b_X_disturb 18 = .ok (.return_, 1) := by decide +kernel
theorem d_X_checkBitTimes_0 : decode b_X_checkBitTimes 0 = .ok (.iload_n 0, 1) := by decide +kernel
theorem d_X_checkBitTimes_1 : decode b_X_checkBitTimes 1 = .ok (.iconst 1, 1) := by decide +kernel
theorem d_X_checkBitTimes_2 : decode b_X_checkBitTimes 2 = .ok (.if_icmp .lt 10, 3) := by decide +kernel
theorem d_X_checkBitTimes_5 : decode b_X_checkBitTimes 5 = .ok (.iload_n 0, 1) := by decide +kernel
theorem d_X_checkBitTimes_6 : decode b_X_checkBitTimes 6 = .ok (.sipush 200, 3) := by decide +kernel
theorem d_X_checkBitTimes_9 : decode b_X_checkBitTimes 9 = .ok (.if_icmp .le 13, 3) := by decide +kernel
theorem d_X_checkBitTimes_12 : decode b_X_checkBitTimes 12 = .ok (.new 40, 3) := by decide +kernel
theorem d_X_checkBitTimes_15 : decode b_X_checkBitTimes 15 = .ok (.dup, 1) := by decide +kernel
theorem d_X_checkBitTimes_16 : decode b_X_checkBitTimes 16 = .ok (.ldc 124, 2) := by decide +kernel
theorem d_X_checkBitTimes_18 : decode b_X_checkBitTimes 18 = .ok (.invokespecial 44, 3) := by decide +kernel
theorem d_X_checkBitTimes_21 : decode b_X_checkBitTimes 21 = .ok (.athrow, 1) := by decide +kernel
theorem d_X_checkBitTimes_22 : decode b_X_checkBitTimes 22 = .ok (.return_, 1) := by decide +kernel
theorem d_Di_mark_0 : decode b_Di_mark 0 = .ok (.aload_n 0, 1) := by decide +kernel
theorem d_Di_mark_1 : decode b_Di_mark 1 = .ok (.getfield 9, 3) := by decide +kernel
theorem d_Di_mark_4 : decode b_Di_mark 4 = .ok (.aload_n 0, 1) := by decide +kernel
theorem d_Di_mark_5 : decode b_Di_mark 5 = .ok (.getfield 15, 3) := by decide +kernel
theorem d_Di_mark_8 : decode b_Di_mark 8 = .ok (.iload_n 1, 1) := by decide +kernel
theorem d_Di_mark_9 : decode b_Di_mark 9 = .ok (.iadd, 1) := by decide +kernel
theorem d_Di_mark_10 : decode b_Di_mark 10 = .ok (.aload_n 0, 1) := by decide +kernel
theorem d_Di_mark_11 : decode b_Di_mark 11 = .ok (.getfield 9, 3) := by decide +kernel
theorem d_Di_mark_14 : decode b_Di_mark 14 = .ok (.arraylength, 1) := by decide +kernel
theorem d_Di_mark_15 : decode b_Di_mark 15 = .ok (.invokestatic 19, 3) := by decide +kernel
theorem d_Di_mark_18 : decode b_Di_mark 18 = .ok (.iconst 1, 1) := by decide +kernel
theorem d_Di_mark_19 : decode b_Di_mark 19 = .ok (.bastore, 1) := by decide +kernel
theorem d_Di_mark_20 : decode b_Di_mark 20 = .ok (.return_, 1) := by decide +kernel
theorem d_Ma_floorMod_0 : decode b_Ma_floorMod 0 = .ok (.iload_n 0, 1) := by decide +kernel
theorem d_Ma_floorMod_1 : decode b_Ma_floorMod 1 = .ok (.iload_n 1, 1) := by decide +kernel
theorem d_Ma_floorMod_2 : decode b_Ma_floorMod 2 = .ok (.irem, 1) := by decide +kernel
theorem d_Ma_floorMod_3 : decode b_Ma_floorMod 3 = .ok (.istore_n 2, 1) := by decide +kernel
theorem d_Ma_floorMod_4 : decode b_Ma_floorMod 4 = .ok (.iload_n 0, 1) := by decide +kernel
theorem d_Ma_floorMod_5 : decode b_Ma_floorMod 5 = .ok (.iload_n 1, 1) := by decide +kernel
theorem d_Ma_floorMod_6 : decode b_Ma_floorMod 6 = .ok (.ixor, 1) := by decide +kernel
theorem d_Ma_floorMod_7 : decode b_Ma_floorMod 7 = .ok (.ifCond .ge 11, 3) := by decide +kernel
theorem d_Ma_floorMod_10 : decode b_Ma_floorMod 10 = .ok (.iload_n 2, 1) := by decide +kernel
theorem d_Ma_floorMod_11 : decode b_Ma_floorMod 11 = .ok (.ifCond .eq 7, 3) := by decide +kernel
theorem d_Ma_floorMod_14 : decode b_Ma_floorMod 14 = .ok (.iload_n 2, 1) := by decide +kernel
theorem d_Ma_floorMod_15 : decode b_Ma_floorMod 15 = .ok (.iload_n 1, 1) := by decide +kernel
theorem d_Ma_floorMod_16 : decode b_Ma_floorMod 16 = .ok (.iadd, 1) := by decide +kernel
theorem d_Ma_floorMod_17 : decode b_Ma_floorMod 17 = .ok (.ireturn, 1) := by decide +kernel
theorem d_Ma_floorMod_18 : decode b_Ma_floorMod 18 = .ok (.iload_n 2, 1) := by decide +kernel
theorem d_Ma_floorMod_19 : decode b_Ma_floorMod 19 = .ok (.ireturn, 1) := by decide +kernel
theorem d_L_pass_0 : decode b_L_pass 0 = .ok (.aload_n 2, 1) := by decide +kernel
theorem d_L_pass_1 : decode b_L_pass 1 = .ok (.iconst 0, 1) := by decide +kernel
theorem d_L_pass_2 : decode b_L_pass 2 = .ok (.aload_n 0, 1) := by decide +kernel
theorem d_L_pass_3 : decode b_L_pass 3 = .ok (.iload_n 1, 1) := by decide +kernel
theorem d_L_pass_4 : decode b_L_pass 4 = .ok (.invokevirtual 25, 3) := by decide +kernel
theorem d_L_pass_7 : decode b_L_pass 7 = .ok (.i2l, 1) := by decide +kernel
theorem d_L_pass_8 : decode b_L_pass 8 = .ok (.lastore, 1) := by decide +kernel
theorem d_L_pass_9 : decode b_L_pass 9 = .ok (.goto 6, 3) := by decide +kernel
theorem d_L_pass_12 : decode b_L_pass 12 = .ok (.astore_n 3, 1) := by decide +kernel
theorem d_L_pass_13 : decode b_L_pass 13 = .ok (.iconst 1, 1) := by decide +kernel
theorem d_L_pass_14 : decode b_L_pass 14 = .ok (.ireturn, 1) := by decide +kernel
theorem d_L_pass_15 : decode b_L_pass 15 = .ok (.iconst 0, 1) := by decide +kernel
theorem d_L_pass_16 : decode b_L_pass 16 = .ok (.ireturn, 1) := by decide +kernel
theorem d_X_pass_0 : decode b_X_pass 0 = .ok (.iload_n 1, 1) := by decide +kernel
theorem d_X_pass_1 : decode b_X_pass 1 = .ok (.invokestatic 85, 3) := by decide +kernel
theorem d_X_pass_4 : decode b_X_pass 4 = .ok (.aload_n 0, 1) := by decide +kernel
theorem d_X_pass_5 : decode b_X_pass 5 = .ok (.getfield 13, 3) := by decide +kernel
theorem d_X_pass_8 : decode b_X_pass 8 = .ok (.iconst 1, 1) := by decide +kernel
theorem d_X_pass_9 : decode b_X_pass 9 = .ok (.iaload, 1) := by decide +kernel
theorem d_X_pass_10 : decode b_X_pass 10 = .ok (.istore_n 2, 1) := by decide +kernel
theorem d_X_pass_11 : decode b_X_pass 11 = .ok (.iconst 0, 1) := by decide +kernel
theorem d_X_pass_12 : decode b_X_pass 12 = .ok (.istore_n 3, 1) := by decide +kernel
theorem d_X_pass_13 : decode b_X_pass 13 = .ok (.iload_n 3, 1) := by decide +kernel
theorem d_X_pass_14 : decode b_X_pass 14 = .ok (.iload_n 1, 1) := by decide +kernel
theorem d_X_pass_15 : decode b_X_pass 15 = .ok (.if_icmp .ge 13, 3) := by decide +kernel
theorem d_X_pass_18 : decode b_X_pass 18 = .ok (.aload_n 0, 1) := by decide +kernel
theorem d_X_pass_19 : decode b_X_pass 19 = .ok (.invokevirtual 97, 3) := by decide +kernel
theorem d_X_pass_22 : decode b_X_pass 22 = .ok (.iinc 3 1, 3) := by decide +kernel
theorem d_X_pass_25 : decode b_X_pass 25 = .ok (.goto (-12), 3) := by decide +kernel
theorem d_X_pass_28 : decode b_X_pass 28 = .ok (.aload_n 0, 1) := by decide +kernel
theorem d_X_pass_29 : decode b_X_pass 29 = .ok (.getfield 13, 3) := by decide +kernel
theorem d_X_pass_32 : decode b_X_pass 32 = .ok (.iconst 1, 1) := by decide +kernel
theorem d_X_pass_33 : decode b_X_pass 33 = .ok (.iaload, 1) := by decide +kernel
theorem d_X_pass_34 : decode b_X_pass 34 = .ok (.iload_n 2, 1) := by decide +kernel
theorem d_X_pass_35 : decode b_X_pass 35 = .ok (.isub, 1) := by decide +kernel
theorem d_X_pass_36 : decode b_X_pass 36 = .ok (.ireturn, 1) := by decide +kernel
theorem d_X_passOne_0 : decode b_X_passOne 0 = .ok (.iconst 1, 1) := by decide +kernel
theorem d_X_passOne_1 : decode b_X_passOne 1 = .ok (.istore_n 1, 1) := by decide +kernel
theorem d_X_passOne_2 : decode b_X_passOne 2 = .ok (.iconst 0, 1) := by decide +kernel
theorem d_X_passOne_3 : decode b_X_passOne 3 = .ok (.istore_n 2, 1) := by decide +kernel
theorem d_X_passOne_4 : decode b_X_passOne 4 = .ok (.iload_n 2, 1) := by decide +kernel
theorem d_X_passOne_5 : decode b_X_passOne 5 = .ok (.aload_n 0, 1) := by decide +kernel
theorem d_X_passOne_6 : decode b_X_passOne 6 = .ok (.getfield 27, 3) := by decide +kernel
theorem d_X_passOne_9 : decode b_X_passOne 9 = .ok (.arraylength, 1) := by decide +kernel
theorem d_X_passOne_10 : decode b_X_passOne 10 = .ok (.if_icmp .ge 21, 3) := by decide +kernel
theorem d_X_passOne_13 : decode b_X_passOne 13 = .ok (.iload_n 1, 1) := by decide +kernel
theorem d_X_passOne_14 : decode b_X_passOne 14 = .ok (.aload_n 0, 1) := by decide +kernel
theorem d_X_passOne_15 : decode b_X_passOne 15 = .ok (.getfield 27, 3) := by decide +kernel
theorem d_X_passOne_18 : decode b_X_passOne 18 = .ok (.iload_n 2, 1) := by decide +kernel
theorem d_X_passOne_19 : decode b_X_passOne 19 = .ok (.aaload, 1) := by decide +kernel
theorem d_X_passOne_20 : decode b_X_passOne 20 = .ok (.invokevirtual 126, 3) := by decide +kernel
theorem d_X_passOne_23 : decode b_X_passOne 23 = .ok (.iand, 1) := by decide +kernel
theorem d_X_passOne_24 : decode b_X_passOne 24 = .ok (.istore_n 1, 1) := by decide +kernel
theorem d_X_passOne_25 : decode b_X_passOne 25 = .ok (.iinc 2 1, 3) := by decide +kernel
theorem d_X_passOne_28 : decode b_X_passOne 28 = .ok (.goto (-24), 3) := by decide +kernel
theorem d_X_passOne_31 : decode b_X_passOne 31 = .ok (.iconst 0, 1) := by decide +kernel
theorem d_X_passOne_32 : decode b_X_passOne 32 = .ok (.istore_n 2, 1) := by decide +kernel
theorem d_X_passOne_33 : decode b_X_passOne 33 = .ok (.iload_n 2, 1) := by decide +kernel
theorem d_X_passOne_34 : decode b_X_passOne 34 = .ok (.aload_n 0, 1) := by decide +kernel
theorem d_X_passOne_35 : decode b_X_passOne 35 = .ok (.getfield 27, 3) := by decide +kernel
theorem d_X_passOne_38 : decode b_X_passOne 38 = .ok (.arraylength, 1) := by decide +kernel
theorem d_X_passOne_39 : decode b_X_passOne 39 = .ok (.if_icmp .ge 34, 3) := by decide +kernel
theorem d_X_passOne_42 : decode b_X_passOne 42 = .ok (.aload_n 0, 1) := by decide +kernel
theorem d_X_passOne_43 : decode b_X_passOne 43 = .ok (.getfield 27, 3) := by decide +kernel
theorem d_X_passOne_46 : decode b_X_passOne 46 = .ok (.iload_n 2, 1) := by decide +kernel
theorem d_X_passOne_47 : decode b_X_passOne 47 = .ok (.aaload, 1) := by decide +kernel
theorem d_X_passOne_48 : decode b_X_passOne 48 = .ok (.iload_n 1, 1) := by decide +kernel
theorem d_X_passOne_49 : decode b_X_passOne 49 = .ok (.invokevirtual 130, 3) := by decide +kernel
theorem d_X_passOne_52 : decode b_X_passOne 52 = .ok (.istore_n 3, 1) := by decide +kernel
theorem d_X_passOne_53 : decode b_X_passOne 53 = .ok (.iload_n 3, 1) := by decide +kernel
theorem d_X_passOne_54 : decode b_X_passOne 54 = .ok (.ifCond .eq 13, 3) := by decide +kernel
theorem d_X_passOne_57 : decode b_X_passOne 57 = .ok (.aload_n 0, 1) := by decide +kernel
theorem d_X_passOne_58 : decode b_X_passOne 58 = .ok (.getfield 13, 3) := by decide +kernel
theorem d_X_passOne_61 : decode b_X_passOne 61 = .ok (.iload_n 3, 1) := by decide +kernel
theorem d_X_passOne_62 : decode b_X_passOne 62 = .ok (.dup2, 1) := by decide +kernel
theorem d_X_passOne_63 : decode b_X_passOne 63 = .ok (.iaload, 1) := by decide +kernel
theorem d_X_passOne_64 : decode b_X_passOne 64 = .ok (.iconst 1, 1) := by decide +kernel
theorem d_X_passOne_65 : decode b_X_passOne 65 = .ok (.iadd, 1) := by decide +kernel
theorem d_X_passOne_66 : decode b_X_passOne 66 = .ok (.iastore, 1) := by decide +kernel
theorem d_X_passOne_67 : decode b_X_passOne 67 = .ok (.iinc 2 1, 3) := by decide +kernel
theorem d_X_passOne_70 : decode b_X_passOne 70 = .ok (.goto (-37), 3) := by decide +kernel
theorem d_X_passOne_73 : decode b_X_passOne 73 = .ok (.aload_n 0, 1) := by decide +kernel
theorem d_X_passOne_74 : decode b_X_passOne 74 = .ok (.getfield 9, 3) := by decide +kernel
theorem d_X_passOne_77 : decode b_X_passOne 77 = .ok (.aload_n 0, 1) := by decide +kernel
theorem d_X_passOne_78 : decode b_X_passOne 78 = .ok (.getfield 13, 3) := by decide +kernel
theorem d_X_passOne_81 : decode b_X_passOne 81 = .ok (.iconst 0, 1) := by decide +kernel
theorem d_X_passOne_82 : decode b_X_passOne 82 = .ok (.iaload, 1) := by decide +kernel
theorem d_X_passOne_83 : decode b_X_passOne 83 = .ok (.bipush 64, 2) := by decide +kernel
theorem d_X_passOne_85 : decode b_X_passOne 85 = .ok (.invokestatic 133, 3) := by decide +kernel
theorem d_X_passOne_88 : decode b_X_passOne 88 = .ok (.iload_n 1, 1) := by decide +kernel
theorem d_X_passOne_89 : decode b_X_passOne 89 = .ok (.iastore, 1) := by decide +kernel
theorem d_X_passOne_90 : decode b_X_passOne 90 = .ok (.aload_n 0, 1) := by decide +kernel
theorem d_X_passOne_91 : decode b_X_passOne 91 = .ok (.getfield 13, 3) := by decide +kernel
theorem d_X_passOne_94 : decode b_X_passOne 94 = .ok (.iconst 0, 1) := by decide +kernel
theorem d_X_passOne_95 : decode b_X_passOne 95 = .ok (.dup2, 1) := by decide +kernel
theorem d_X_passOne_96 : decode b_X_passOne 96 = .ok (.iaload, 1) := by decide +kernel
theorem d_X_passOne_97 : decode b_X_passOne 97 = .ok (.iconst 1, 1) := by decide +kernel
theorem d_X_passOne_98 : decode b_X_passOne 98 = .ok (.iadd, 1) := by decide +kernel
theorem d_X_passOne_99 : decode b_X_passOne 99 = .ok (.iastore, 1) := by decide +kernel
theorem d_X_passOne_100 : decode b_X_passOne 100 = .ok (.return_, 1) := by decide +kernel
theorem d_No_drive_0 : decode b_No_drive 0 = .ok (.aload_n 0, 1) := by decide +kernel
theorem d_No_drive_1 : decode b_No_drive 1 = .ok (.getfield 42, 3) := by decide +kernel
theorem d_No_drive_4 : decode b_No_drive 4 = .ok (.ifCond .ne 17, 3) := by decide +kernel
theorem d_No_drive_7 : decode b_No_drive 7 = .ok (.aload_n 0, 1) := by decide +kernel
theorem d_No_drive_8 : decode b_No_drive 8 = .ok (.getfield 12, 3) := by decide +kernel
theorem d_No_drive_11 : decode b_No_drive 11 = .ok (.getfield 83, 3) := by decide +kernel
theorem d_No_drive_14 : decode b_No_drive 14 = .ok (.ifCond .le 7, 3) := by decide +kernel
theorem d_No_drive_17 : decode b_No_drive 17 = .ok (.aload_n 0, 1) := by decide +kernel
theorem d_No_drive_18 : decode b_No_drive 18 = .ok (.invokevirtual 86, 3) := by decide +kernel
theorem d_No_drive_21 : decode b_No_drive 21 = .ok (.aload_n 0, 1) := by decide +kernel
theorem d_No_drive_22 : decode b_No_drive 22 = .ok (.aload_n 0, 1) := by decide +kernel
theorem d_No_drive_23 : decode b_No_drive 23 = .ok (.invokevirtual 89, 3) := by decide +kernel
theorem d_No_drive_26 : decode b_No_drive 26 = .ok (.putfield 67, 3) := by decide +kernel
theorem d_No_drive_29 : decode b_No_drive 29 = .ok (.aload_n 0, 1) := by decide +kernel
theorem d_No_drive_30 : decode b_No_drive 30 = .ok (.getfield 67, 3) := by decide +kernel
theorem d_No_drive_33 : decode b_No_drive 33 = .ok (.ireturn, 1) := by decide +kernel
theorem d_No_beginToSend_0 : decode b_No_beginToSend 0 = .ok (.aload_n 0, 1) := by decide +kernel
theorem d_No_beginToSend_1 : decode b_No_beginToSend 1 = .ok (.aload_n 0, 1) := by decide +kernel
theorem d_No_beginToSend_2 : decode b_No_beginToSend 2 = .ok (.getfield 12, 3) := by decide +kernel
theorem d_No_beginToSend_5 : decode b_No_beginToSend 5 = .ok (.invokevirtual 143, 3) := by decide +kernel
theorem d_No_beginToSend_8 : decode b_No_beginToSend 8 = .ok (.putfield 64, 3) := by decide +kernel
theorem d_No_beginToSend_11 : decode b_No_beginToSend 11 = .ok (.aload_n 0, 1) := by decide +kernel
theorem d_No_beginToSend_12 : decode b_No_beginToSend 12 = .ok (.getfield 31, 3) := by decide +kernel
theorem d_No_beginToSend_15 : decode b_No_beginToSend 15 = .ok (.aload_n 0, 1) := by decide +kernel
theorem d_No_beginToSend_16 : decode b_No_beginToSend 16 = .ok (.getfield 12, 3) := by decide +kernel
theorem d_No_beginToSend_19 : decode b_No_beginToSend 19 = .ok (.aload_n 0, 1) := by decide +kernel
theorem d_No_beginToSend_20 : decode b_No_beginToSend 20 = .ok (.getfield 64, 3) := by decide +kernel
theorem d_No_beginToSend_23 : decode b_No_beginToSend 23 = .ok (.invokevirtual 146, 3) := by decide +kernel
theorem d_No_beginToSend_26 : decode b_No_beginToSend 26 = .ok (.invokevirtual 149, 3) := by decide +kernel
theorem d_No_beginToSend_29 : decode b_No_beginToSend 29 = .ok (.aload_n 0, 1) := by decide +kernel
theorem d_No_beginToSend_30 : decode b_No_beginToSend 30 = .ok (.getfield 38, 3) := by decide +kernel
theorem d_No_beginToSend_33 : decode b_No_beginToSend 33 = .ok (.invokevirtual 153, 3) := by decide +kernel
theorem d_No_beginToSend_36 : decode b_No_beginToSend 36 = .ok (.aload_n 0, 1) := by decide +kernel
theorem d_No_beginToSend_37 : decode b_No_beginToSend 37 = .ok (.iconst 1, 1) := by decide +kernel
theorem d_No_beginToSend_38 : decode b_No_beginToSend 38 = .ok (.putfield 42, 3) := by decide +kernel
theorem d_No_beginToSend_41 : decode b_No_beginToSend 41 = .ok (.aload_n 0, 1) := by decide +kernel
theorem d_No_beginToSend_42 : decode b_No_beginToSend 42 = .ok (.iconst 1, 1) := by decide +kernel
theorem d_No_beginToSend_43 : decode b_No_beginToSend 43 = .ok (.putfield 46, 3) := by decide +kernel
theorem d_No_beginToSend_46 : decode b_No_beginToSend 46 = .ok (.return_, 1) := by decide +kernel
theorem d_Fr_placeOfLeastId_0 : decode b_Fr_placeOfLeastId 0 = .ok (.iconst 0, 1) := by decide +kernel
theorem d_Fr_placeOfLeastId_1 : decode b_Fr_placeOfLeastId 1 = .ok (.istore_n 1, 1) := by decide +kernel
theorem d_Fr_placeOfLeastId_2 : decode b_Fr_placeOfLeastId 2 = .ok (.iconst 1, 1) := by decide +kernel
theorem d_Fr_placeOfLeastId_3 : decode b_Fr_placeOfLeastId 3 = .ok (.istore_n 2, 1) := by decide +kernel
theorem d_Fr_placeOfLeastId_4 : decode b_Fr_placeOfLeastId 4 = .ok (.iload_n 2, 1) := by decide +kernel
theorem d_Fr_placeOfLeastId_5 : decode b_Fr_placeOfLeastId 5 = .ok (.aload_n 0, 1) := by decide +kernel
theorem d_Fr_placeOfLeastId_6 : decode b_Fr_placeOfLeastId 6 = .ok (.getfield 15, 3) := by decide +kernel
theorem d_Fr_placeOfLeastId_9 : decode b_Fr_placeOfLeastId 9 = .ok (.if_icmp .ge 32, 3) := by decide +kernel
theorem d_Fr_placeOfLeastId_12 : decode b_Fr_placeOfLeastId 12 = .ok (.aload_n 0, 1) := by decide +kernel
theorem d_Fr_placeOfLeastId_13 : decode b_Fr_placeOfLeastId 13 = .ok (.getfield 9, 3) := by decide +kernel
theorem d_Fr_placeOfLeastId_16 : decode b_Fr_placeOfLeastId 16 = .ok (.iload_n 2, 1) := by decide +kernel
theorem d_Fr_placeOfLeastId_17 : decode b_Fr_placeOfLeastId 17 = .ok (.iaload, 1) := by decide +kernel
theorem d_Fr_placeOfLeastId_18 : decode b_Fr_placeOfLeastId 18 = .ok (.invokestatic 23, 3) := by decide +kernel
theorem d_Fr_placeOfLeastId_21 : decode b_Fr_placeOfLeastId 21 = .ok (.aload_n 0, 1) := by decide +kernel
theorem d_Fr_placeOfLeastId_22 : decode b_Fr_placeOfLeastId 22 = .ok (.getfield 9, 3) := by decide +kernel
theorem d_Fr_placeOfLeastId_25 : decode b_Fr_placeOfLeastId 25 = .ok (.iload_n 1, 1) := by decide +kernel
theorem d_Fr_placeOfLeastId_26 : decode b_Fr_placeOfLeastId 26 = .ok (.iaload, 1) := by decide +kernel
theorem d_Fr_placeOfLeastId_27 : decode b_Fr_placeOfLeastId 27 = .ok (.invokestatic 23, 3) := by decide +kernel
theorem d_Fr_placeOfLeastId_30 : decode b_Fr_placeOfLeastId 30 = .ok (.if_icmp .ge 5, 3) := by decide +kernel
theorem d_Fr_placeOfLeastId_33 : decode b_Fr_placeOfLeastId 33 = .ok (.iload_n 2, 1) := by decide +kernel
theorem d_Fr_placeOfLeastId_34 : decode b_Fr_placeOfLeastId 34 = .ok (.istore_n 1, 1) := by decide +kernel
theorem d_Fr_placeOfLeastId_35 : decode b_Fr_placeOfLeastId 35 = .ok (.iinc 2 1, 3) := by decide +kernel
theorem d_Fr_placeOfLeastId_38 : decode b_Fr_placeOfLeastId 38 = .ok (.goto (-34), 3) := by decide +kernel
theorem d_Fr_placeOfLeastId_41 : decode b_Fr_placeOfLeastId 41 = .ok (.iload_n 1, 1) := by decide +kernel
theorem d_Fr_placeOfLeastId_42 : decode b_Fr_placeOfLeastId 42 = .ok (.ireturn, 1) := by decide +kernel
theorem d_Fr_idOf_0 : decode b_Fr_idOf 0 = .ok (.iload_n 0, 1) := by decide +kernel
theorem d_Fr_idOf_1 : decode b_Fr_idOf 1 = .ok (.sipush 2047, 3) := by decide +kernel
theorem d_Fr_idOf_4 : decode b_Fr_idOf 4 = .ok (.iand, 1) := by decide +kernel
theorem d_Fr_idOf_5 : decode b_Fr_idOf 5 = .ok (.ireturn, 1) := by decide +kernel
theorem d_Fr_at_0 : decode b_Fr_at 0 = .ok (.iload_n 1, 1) := by decide +kernel
theorem d_Fr_at_1 : decode b_Fr_at 1 = .ok (.ifCond .lt 20, 3) := by decide +kernel
theorem d_Fr_at_4 : decode b_Fr_at 4 = .ok (.iload_n 1, 1) := by decide +kernel
theorem d_Fr_at_5 : decode b_Fr_at 5 = .ok (.aload_n 0, 1) := by decide +kernel
theorem d_Fr_at_6 : decode b_Fr_at 6 = .ok (.getfield 15, 3) := by decide +kernel
theorem d_Fr_at_9 : decode b_Fr_at 9 = .ok (.if_icmp .ge 12, 3) := by decide +kernel
theorem d_Fr_at_12 : decode b_Fr_at 12 = .ok (.aload_n 0, 1) := by decide +kernel
theorem d_Fr_at_13 : decode b_Fr_at 13 = .ok (.getfield 9, 3) := by decide +kernel
theorem d_Fr_at_16 : decode b_Fr_at 16 = .ok (.iload_n 1, 1) := by decide +kernel
theorem d_Fr_at_17 : decode b_Fr_at 17 = .ok (.iaload, 1) := by decide +kernel
theorem d_Fr_at_18 : decode b_Fr_at 18 = .ok (.goto 4, 3) := by decide +kernel
theorem d_Fr_at_21 : decode b_Fr_at 21 = .ok (.iconst 0, 1) := by decide +kernel
theorem d_Fr_at_22 : decode b_Fr_at 22 = .ok (.ireturn, 1) := by decide +kernel
theorem d_Co_write_0 : decode b_Co_write 0 = .ok (.iload_n 1, 1) := by decide +kernel
theorem d_Co_write_1 : decode b_Co_write 1 = .ok (.invokestatic 22, 3) := by decide +kernel
theorem d_Co_write_4 : decode b_Co_write 4 = .ok (.istore_n 2, 1) := by decide +kernel
theorem d_Co_write_5 : decode b_Co_write 5 = .ok (.iload_n 1, 1) := by decide +kernel
theorem d_Co_write_6 : decode b_Co_write 6 = .ok (.invokestatic 28, 3) := by decide +kernel
theorem d_Co_write_9 : decode b_Co_write 9 = .ok (.istore_n 3, 1) := by decide +kernel
theorem d_Co_write_10 : decode b_Co_write 10 = .ok (.aload_n 0, 1) := by decide +kernel
theorem d_Co_write_11 : decode b_Co_write 11 = .ok (.iconst 0, 1) := by decide +kernel
theorem d_Co_write_12 : decode b_Co_write 12 = .ok (.putfield 15, 3) := by decide +kernel
theorem d_Co_write_15 : decode b_Co_write 15 = .ok (.aload_n 0, 1) := by decide +kernel
theorem d_Co_write_16 : decode b_Co_write 16 = .ok (.iconst 0, 1) := by decide +kernel
theorem d_Co_write_17 : decode b_Co_write 17 = .ok (.putfield 19, 3) := by decide +kernel
theorem d_Co_write_20 : decode b_Co_write 20 = .ok (.aload_n 0, 1) := by decide +kernel
theorem d_Co_write_21 : decode b_Co_write 21 = .ok (.iconst 0, 1) := by decide +kernel
theorem d_Co_write_22 : decode b_Co_write 22 = .ok (.iconst 1, 1) := by decide +kernel
theorem d_Co_write_23 : decode b_Co_write 23 = .ok (.invokevirtual 31, 3) := by decide +kernel
theorem d_Co_write_26 : decode b_Co_write 26 = .ok (.aload_n 0, 1) := by decide +kernel
theorem d_Co_write_27 : decode b_Co_write 27 = .ok (.iload_n 1, 1) := by decide +kernel
theorem d_Co_write_28 : decode b_Co_write 28 = .ok (.invokestatic 35, 3) := by decide +kernel
theorem d_Co_write_31 : decode b_Co_write 31 = .ok (.bipush 11, 2) := by decide +kernel
theorem d_Co_write_33 : decode b_Co_write 33 = .ok (.invokevirtual 31, 3) := by decide +kernel
theorem d_Co_write_36 : decode b_Co_write 36 = .ok (.aload_n 0, 1) := by decide +kernel
theorem d_Co_write_37 : decode b_Co_write 37 = .ok (.iconst 0, 1) := by decide +kernel
theorem d_Co_write_38 : decode b_Co_write 38 = .ok (.iconst 3, 1) := by decide +kernel
theorem d_Co_write_39 : decode b_Co_write 39 = .ok (.invokevirtual 31, 3) := by decide +kernel
theorem d_Co_write_42 : decode b_Co_write 42 = .ok (.aload_n 0, 1) := by decide +kernel
theorem d_Co_write_43 : decode b_Co_write 43 = .ok (.iload_n 3, 1) := by decide +kernel
theorem d_Co_write_44 : decode b_Co_write 44 = .ok (.iconst 4, 1) := by decide +kernel
theorem d_Co_write_45 : decode b_Co_write 45 = .ok (.invokevirtual 31, 3) := by decide +kernel
theorem d_Co_write_48 : decode b_Co_write 48 = .ok (.iconst 0, 1) := by decide +kernel
theorem d_Co_write_49 : decode b_Co_write 49 = .ok (.istore 4, 2) := by decide +kernel
theorem d_Co_write_51 : decode b_Co_write 51 = .ok (.iload 4, 2) := by decide +kernel
theorem d_Co_write_53 : decode b_Co_write 53 = .ok (.iload_n 3, 1) := by decide +kernel
theorem d_Co_write_54 : decode b_Co_write 54 = .ok (.if_icmp .ge 28, 3) := by decide +kernel
theorem d_Co_write_57 : decode b_Co_write 57 = .ok (.iload 4, 2) := by decide +kernel
theorem d_Co_write_59 : decode b_Co_write 59 = .ok (.iconst 2, 1) := by decide +kernel
theorem d_Co_write_60 : decode b_Co_write 60 = .ok (.if_icmp .ge 22, 3) := by decide +kernel
theorem d_Co_write_63 : decode b_Co_write 63 = .ok (.aload_n 0, 1) := by decide +kernel
theorem d_Co_write_64 : decode b_Co_write 64 = .ok (.iload_n 2, 1) := by decide +kernel
theorem d_Co_write_65 : decode b_Co_write 65 = .ok (.bipush 8, 2) := by decide +kernel
theorem d_Co_write_67 : decode b_Co_write 67 = .ok (.iload 4, 2) := by decide +kernel
theorem d_Co_write_69 : decode b_Co_write 69 = .ok (.imul, 1) := by decide +kernel
theorem d_Co_write_70 : decode b_Co_write 70 = .ok (.ishr, 1) := by decide +kernel
theorem d_Co_write_71 : decode b_Co_write 71 = .ok (.bipush 8, 2) := by decide +kernel
theorem d_Co_write_73 : decode b_Co_write 73 = .ok (.invokevirtual 31, 3) := by decide +kernel
theorem d_Co_write_76 : decode b_Co_write 76 = .ok (.iinc 4 1, 3) := by decide +kernel
theorem d_Co_write_79 : decode b_Co_write 79 = .ok (.goto (-28), 3) := by decide +kernel
theorem d_Co_write_82 : decode b_Co_write 82 = .ok (.aload_n 0, 1) := by decide +kernel
theorem d_Co_write_83 : decode b_Co_write 83 = .ok (.aload_n 0, 1) := by decide +kernel
theorem d_Co_write_84 : decode b_Co_write 84 = .ok (.getfield 19, 3) := by decide +kernel
theorem d_Co_write_87 : decode b_Co_write 87 = .ok (.bipush 15, 2) := by decide +kernel
theorem d_Co_write_89 : decode b_Co_write 89 = .ok (.invokevirtual 31, 3) := by decide +kernel
theorem d_Co_write_92 : decode b_Co_write 92 = .ok (.return_, 1) := by decide +kernel
theorem d_Fr_dataOf_0 : decode b_Fr_dataOf 0 = .ok (.iload_n 0, 1) := by decide +kernel
theorem d_Fr_dataOf_1 : decode b_Fr_dataOf 1 = .ok (.bipush 13, 2) := by decide +kernel
theorem d_Fr_dataOf_3 : decode b_Fr_dataOf 3 = .ok (.ishr, 1) := by decide +kernel
theorem d_Fr_dataOf_4 : decode b_Fr_dataOf 4 = .ok (.ireturn, 1) := by decide +kernel
theorem d_Fr_bytesOf_0 : decode b_Fr_bytesOf 0 = .ok (.iload_n 0, 1) := by decide +kernel
theorem d_Fr_bytesOf_1 : decode b_Fr_bytesOf 1 = .ok (.bipush 11, 2) := by decide +kernel
theorem d_Fr_bytesOf_3 : decode b_Fr_bytesOf 3 = .ok (.ishr, 1) := by decide +kernel
theorem d_Fr_bytesOf_4 : decode b_Fr_bytesOf 4 = .ok (.iconst 3, 1) := by decide +kernel
theorem d_Fr_bytesOf_5 : decode b_Fr_bytesOf 5 = .ok (.iand, 1) := by decide +kernel
theorem d_Fr_bytesOf_6 : decode b_Fr_bytesOf 6 = .ok (.ireturn, 1) := by decide +kernel
theorem d_Co_append_0 : decode b_Co_append 0 = .ok (.iload_n 2, 1) := by decide +kernel
theorem d_Co_append_1 : decode b_Co_append 1 = .ok (.iconst 1, 1) := by decide +kernel
theorem d_Co_append_2 : decode b_Co_append 2 = .ok (.isub, 1) := by decide +kernel
theorem d_Co_append_3 : decode b_Co_append 3 = .ok (.istore_n 3, 1) := by decide +kernel
theorem d_Co_append_4 : decode b_Co_append 4 = .ok (.iload_n 3, 1) := by decide +kernel
theorem d_Co_append_5 : decode b_Co_append 5 = .ok (.ifCond .lt 59, 3) := by decide +kernel
theorem d_Co_append_8 : decode b_Co_append 8 = .ok (.iload_n 1, 1) := by decide +kernel
theorem d_Co_append_9 : decode b_Co_append 9 = .ok (.iload_n 3, 1) := by decide +kernel
theorem d_Co_append_10 : decode b_Co_append 10 = .ok (.ishr, 1) := by decide +kernel
theorem d_Co_append_11 : decode b_Co_append 11 = .ok (.iconst 1, 1) := by decide +kernel
theorem d_Co_append_12 : decode b_Co_append 12 = .ok (.iand, 1) := by decide +kernel
theorem d_Co_append_13 : decode b_Co_append 13 = .ok (.istore 4, 2) := by decide +kernel
theorem d_Co_append_15 : decode b_Co_append 15 = .ok (.aload_n 0, 1) := by decide +kernel
theorem d_Co_append_16 : decode b_Co_append 16 = .ok (.getfield 15, 3) := by decide +kernel
theorem d_Co_append_19 : decode b_Co_append 19 = .ok (.bipush 50, 2) := by decide +kernel
theorem d_Co_append_21 : decode b_Co_append 21 = .ok (.if_icmp .ge 24, 3) := by decide +kernel
theorem d_Co_append_24 : decode b_Co_append 24 = .ok (.aload_n 0, 1) := by decide +kernel
theorem d_Co_append_25 : decode b_Co_append 25 = .ok (.getfield 11, 3) := by decide +kernel
theorem d_Co_append_28 : decode b_Co_append 28 = .ok (.aload_n 0, 1) := by decide +kernel
theorem d_Co_append_29 : decode b_Co_append 29 = .ok (.getfield 15, 3) := by decide +kernel
theorem d_Co_append_32 : decode b_Co_append 32 = .ok (.iload 4, 2) := by decide +kernel
theorem d_Co_append_34 : decode b_Co_append 34 = .ok (.iastore, 1) := by decide +kernel
theorem d_Co_append_35 : decode b_Co_append 35 = .ok (.aload_n 0, 1) := by decide +kernel
theorem d_Co_append_36 : decode b_Co_append 36 = .ok (.dup, 1) := by decide +kernel
theorem d_Co_append_37 : decode b_Co_append 37 = .ok (.getfield 15, 3) := by decide +kernel
theorem d_Co_append_40 : decode b_Co_append 40 = .ok (.iconst 1, 1) := by decide +kernel
theorem d_Co_append_41 : decode b_Co_append 41 = .ok (.iadd, 1) := by decide +kernel
theorem d_Co_append_42 : decode b_Co_append 42 = .ok (.putfield 15, 3) := by decide +kernel
theorem d_Co_append_45 : decode b_Co_append 45 = .ok (.aload_n 0, 1) := by decide +kernel
theorem d_Co_append_46 : decode b_Co_append 46 = .ok (.aload_n 0, 1) := by decide +kernel
theorem d_Co_append_47 : decode b_Co_append 47 = .ok (.getfield 19, 3) := by decide +kernel
theorem d_Co_append_50 : decode b_Co_append 50 = .ok (.iload 4, 2) := by decide +kernel
theorem d_Co_append_52 : decode b_Co_append 52 = .ok (.invokestatic 38, 3) := by decide +kernel
theorem d_Co_append_55 : decode b_Co_append 55 = .ok (.putfield 19, 3) := by decide +kernel
theorem d_Co_append_58 : decode b_Co_append 58 = .ok (.iinc 3 (-1), 3) := by decide +kernel
theorem d_Co_append_61 : decode b_Co_append 61 = .ok (.goto (-57), 3) := by decide +kernel
theorem d_Co_append_64 : decode b_Co_append 64 = .ok (.return_, 1) := by decide +kernel
theorem d_Co_registerBehind_0 : decode b_Co_registerBehind 0 = .ok (.iload_n 0, 1) := by decide +kernel
theorem d_Co_registerBehind_1 : decode b_Co_registerBehind 1 = .ok (.iconst 1, 1) := by decide +kernel
theorem d_Co_registerBehind_2 : decode b_Co_registerBehind 2 = .ok (.ishl, 1) := by decide +kernel
theorem d_Co_registerBehind_3 : decode b_Co_registerBehind 3 = .ok (.sipush 32767, 3) := by decide +kernel
theorem d_Co_registerBehind_6 : decode b_Co_registerBehind 6 = .ok (.iand, 1) := by decide +kernel
theorem d_Co_registerBehind_7 : decode b_Co_registerBehind 7 = .ok (.istore_n 2, 1) := by decide +kernel
theorem d_Co_registerBehind_8 : decode b_Co_registerBehind 8 = .ok (.iload_n 1, 1) := by decide +kernel
theorem d_Co_registerBehind_9 : decode b_Co_registerBehind 9 = .ok (.iload_n 0, 1) := by decide +kernel
theorem d_Co_registerBehind_10 : decode b_Co_registerBehind 10 = .ok (.bipush 14, 2) := by decide +kernel
theorem d_Co_registerBehind_12 : decode b_Co_registerBehind 12 = .ok (.ishr, 1) := by decide +kernel
theorem d_Co_registerBehind_13 : decode b_Co_registerBehind 13 = .ok (.iconst 1, 1) := by decide +kernel
theorem d_Co_registerBehind_14 : decode b_Co_registerBehind 14 = .ok (.iand, 1) := by decide +kernel
theorem d_Co_registerBehind_15 : decode b_Co_registerBehind 15 = .ok (.if_icmp .eq 11, 3) := by decide +kernel
theorem d_Co_registerBehind_18 : decode b_Co_registerBehind 18 = .ok (.iload_n 2, 1) := by decide +kernel
theorem d_Co_registerBehind_19 : decode b_Co_registerBehind 19 = .ok (.sipush 17817, 3) := by decide +kernel
theorem d_Co_registerBehind_22 : decode b_Co_registerBehind 22 = .ok (.ixor, 1) := by decide +kernel
theorem d_Co_registerBehind_23 : decode b_Co_registerBehind 23 = .ok (.goto 4, 3) := by decide +kernel
theorem d_Co_registerBehind_26 : decode b_Co_registerBehind 26 = .ok (.iload_n 2, 1) := by decide +kernel
theorem d_Co_registerBehind_27 : decode b_Co_registerBehind 27 = .ok (.ireturn, 1) := by decide +kernel
theorem d_Re_begin_0 : decode b_Re_begin 0 = .ok (.aload_n 0, 1) := by decide +kernel
theorem d_Re_begin_1 : decode b_Re_begin 1 = .ok (.iconst 0, 1) := by decide +kernel
theorem d_Re_begin_2 : decode b_Re_begin 2 = .ok (.putfield 9, 3) := by decide +kernel
theorem d_Re_begin_5 : decode b_Re_begin 5 = .ok (.aload_n 0, 1) := by decide +kernel
theorem d_Re_begin_6 : decode b_Re_begin 6 = .ok (.bipush 50, 2) := by decide +kernel
theorem d_Re_begin_8 : decode b_Re_begin 8 = .ok (.putfield 17, 3) := by decide +kernel
theorem d_Re_begin_11 : decode b_Re_begin 11 = .ok (.aload_n 0, 1) := by decide +kernel
theorem d_Re_begin_12 : decode b_Re_begin 12 = .ok (.iconst 1, 1) := by decide +kernel
theorem d_Re_begin_13 : decode b_Re_begin 13 = .ok (.putfield 20, 3) := by decide +kernel
theorem d_Re_begin_16 : decode b_Re_begin 16 = .ok (.aload_n 0, 1) := by decide +kernel
theorem d_Re_begin_17 : decode b_Re_begin 17 = .ok (.iconst 0, 1) := by decide +kernel
theorem d_Re_begin_18 : decode b_Re_begin 18 = .ok (.putfield 23, 3) := by decide +kernel
theorem d_Re_begin_21 : decode b_Re_begin 21 = .ok (.aload_n 0, 1) := by decide +kernel
theorem d_Re_begin_22 : decode b_Re_begin 22 = .ok (.iconst 0, 1) := by decide +kernel
theorem d_Re_begin_23 : decode b_Re_begin 23 = .ok (.putfield 26, 3) := by decide +kernel
theorem d_Re_begin_26 : decode b_Re_begin 26 = .ok (.aload_n 0, 1) := by decide +kernel
theorem d_Re_begin_27 : decode b_Re_begin 27 = .ok (.iconst 0, 1) := by decide +kernel
theorem d_Re_begin_28 : decode b_Re_begin 28 = .ok (.putfield 29, 3) := by decide +kernel
theorem d_Re_begin_31 : decode b_Re_begin 31 = .ok (.aload_n 0, 1) := by decide +kernel
theorem d_Re_begin_32 : decode b_Re_begin 32 = .ok (.iconst 0, 1) := by decide +kernel
theorem d_Re_begin_33 : decode b_Re_begin 33 = .ok (.putfield 32, 3) := by decide +kernel
theorem d_Re_begin_36 : decode b_Re_begin 36 = .ok (.aload_n 0, 1) := by decide +kernel
theorem d_Re_begin_37 : decode b_Re_begin 37 = .ok (.iconst 0, 1) := by decide +kernel
theorem d_Re_begin_38 : decode b_Re_begin 38 = .ok (.putfield 35, 3) := by decide +kernel
theorem d_Re_begin_41 : decode b_Re_begin 41 = .ok (.return_, 1) := by decide +kernel
theorem d_No_levelToDrive_0 : decode b_No_levelToDrive 0 = .ok (.aload_n 0, 1) := by decide +kernel
theorem d_No_levelToDrive_1 : decode b_No_levelToDrive 1 = .ok (.getfield 42, 3) := by decide +kernel
theorem d_No_levelToDrive_4 : decode b_No_levelToDrive 4 = .ok (.tableswitch 72 1 3 #[28, 33, 59], 28) := by decide +kernel
theorem d_No_levelToDrive_32 : decode b_No_levelToDrive 32 = .ok (.aload_n 0, 1) := by decide +kernel
theorem d_No_levelToDrive_33 : decode b_No_levelToDrive 33 = .ok (.invokevirtual 93, 3) := by decide +kernel
theorem d_No_levelToDrive_36 : decode b_No_levelToDrive 36 = .ok (.ireturn, 1) := by decide +kernel
theorem d_No_levelToDrive_37 : decode b_No_levelToDrive 37 = .ok (.aload_n 0, 1) := by decide +kernel
theorem d_No_levelToDrive_38 : decode b_No_levelToDrive 38 = .ok (.getfield 38, 3) := by decide +kernel
theorem d_No_levelToDrive_41 : decode b_No_levelToDrive 41 = .ok (.invokevirtual 96, 3) := by decide +kernel
theorem d_No_levelToDrive_44 : decode b_No_levelToDrive 44 = .ok (.ifCond .eq 17, 3) := by decide +kernel
theorem d_No_levelToDrive_47 : decode b_No_levelToDrive 47 = .ok (.aload_n 0, 1) := by decide +kernel
theorem d_No_levelToDrive_48 : decode b_No_levelToDrive 48 = .ok (.getfield 38, 3) := by decide +kernel
theorem d_No_levelToDrive_51 : decode b_No_levelToDrive 51 = .ok (.invokevirtual 100, 3) := by decide +kernel
theorem d_No_levelToDrive_54 : decode b_No_levelToDrive 54 = .ok (.ifCond .eq 7, 3) := by decide +kernel
theorem d_No_levelToDrive_57 : decode b_No_levelToDrive 57 = .ok (.iconst 0, 1) := by decide +kernel
theorem d_No_levelToDrive_58 : decode b_No_levelToDrive 58 = .ok (.goto 4, 3) := by decide +kernel
theorem d_No_levelToDrive_61 : decode b_No_levelToDrive 61 = .ok (.iconst 1, 1) := by decide +kernel
theorem d_No_levelToDrive_62 : decode b_No_levelToDrive 62 = .ok (.ireturn, 1) := by decide +kernel
theorem d_No_levelToDrive_63 : decode b_No_levelToDrive 63 = .ok (.aload_n 0, 1) := by decide +kernel
theorem d_No_levelToDrive_64 : decode b_No_levelToDrive 64 = .ok (.getfield 70, 3) := by decide +kernel
theorem d_No_levelToDrive_67 : decode b_No_levelToDrive 67 = .ok (.ifCond .eq 7, 3) := by decide +kernel
theorem d_No_levelToDrive_70 : decode b_No_levelToDrive 70 = .ok (.iconst 1, 1) := by decide +kernel
theorem d_No_levelToDrive_71 : decode b_No_levelToDrive 71 = .ok (.goto 4, 3) := by decide +kernel
theorem d_No_levelToDrive_74 : decode b_No_levelToDrive 74 = .ok (.iconst 0, 1) := by decide +kernel
theorem d_No_levelToDrive_75 : decode b_No_levelToDrive 75 = .ok (.ireturn, 1) := by decide +kernel
theorem d_No_levelToDrive_76 : decode b_No_levelToDrive 76 = .ok (.iconst 1, 1) := by decide +kernel
theorem d_No_levelToDrive_77 : decode b_No_levelToDrive 77 = .ok (.ireturn, 1) := by decide +kernel
theorem d_No_nextBit_0 : decode b_No_nextBit 0 = .ok (.aload_n 0, 1) := by decide +kernel
theorem d_No_nextBit_1 : decode b_No_nextBit 1 = .ok (.getfield 38, 3) := by decide +kernel
theorem d_No_nextBit_4 : decode b_No_nextBit 4 = .ok (.invokevirtual 103, 3) := by decide +kernel
theorem d_No_nextBit_7 : decode b_No_nextBit 7 = .ok (.ifCond .eq 15, 3) := by decide +kernel
theorem d_No_nextBit_10 : decode b_No_nextBit 10 = .ok (.iconst 1, 1) := by decide +kernel
theorem d_No_nextBit_11 : decode b_No_nextBit 11 = .ok (.aload_n 0, 1) := by decide +kernel
theorem d_No_nextBit_12 : decode b_No_nextBit 12 = .ok (.getfield 38, 3) := by decide +kernel
theorem d_No_nextBit_15 : decode b_No_nextBit 15 = .ok (.getfield 106, 3) := by decide +kernel
theorem d_No_nextBit_18 : decode b_No_nextBit 18 = .ok (.isub, 1) := by decide +kernel
theorem d_No_nextBit_19 : decode b_No_nextBit 19 = .ok (.goto 17, 3) := by decide +kernel
theorem d_No_nextBit_22 : decode b_No_nextBit 22 = .ok (.aload_n 0, 1) := by decide +kernel
theorem d_No_nextBit_23 : decode b_No_nextBit 23 = .ok (.getfield 31, 3) := by decide +kernel
theorem d_No_nextBit_26 : decode b_No_nextBit 26 = .ok (.aload_n 0, 1) := by decide +kernel
theorem d_No_nextBit_27 : decode b_No_nextBit 27 = .ok (.getfield 38, 3) := by decide +kernel
theorem d_No_nextBit_30 : decode b_No_nextBit 30 = .ok (.getfield 109, 3) := by decide +kernel
theorem d_No_nextBit_33 : decode b_No_nextBit 33 = .ok (.invokevirtual 112, 3) := by decide +kernel
theorem d_No_nextBit_36 : decode b_No_nextBit 36 = .ok (.ireturn, 1) := by decide +kernel
theorem d_Re_padIsDue_0 : decode b_Re_padIsDue 0 = .ok (.aload_n 0, 1) := by decide +kernel
theorem d_Re_padIsDue_1 : decode b_Re_padIsDue 1 = .ok (.getfield 23, 3) := by decide +kernel
theorem d_Re_padIsDue_4 : decode b_Re_padIsDue 4 = .ok (.iconst 5, 1) := by decide +kernel
theorem d_Re_padIsDue_5 : decode b_Re_padIsDue 5 = .ok (.if_icmp .ne 7, 3) := by decide +kernel
theorem d_Re_padIsDue_8 : decode b_Re_padIsDue 8 = .ok (.iconst 1, 1) := by decide +kernel
theorem d_Re_padIsDue_9 : decode b_Re_padIsDue 9 = .ok (.goto 4, 3) := by decide +kernel
theorem d_Re_padIsDue_12 : decode b_Re_padIsDue 12 = .ok (.iconst 0, 1) := by decide +kernel
theorem d_Re_padIsDue_13 : decode b_Re_padIsDue 13 = .ok (.ireturn, 1) := by decide +kernel
theorem d_Co_bitAt_0 : decode b_Co_bitAt 0 = .ok (.iload_n 1, 1) := by decide +kernel
theorem d_Co_bitAt_1 : decode b_Co_bitAt 1 = .ok (.ifCond .lt 20, 3) := by decide +kernel
theorem d_Co_bitAt_4 : decode b_Co_bitAt 4 = .ok (.iload_n 1, 1) := by decide +kernel
theorem d_Co_bitAt_5 : decode b_Co_bitAt 5 = .ok (.aload_n 0, 1) := by decide +kernel
theorem d_Co_bitAt_6 : decode b_Co_bitAt 6 = .ok (.getfield 15, 3) := by decide +kernel
theorem d_Co_bitAt_9 : decode b_Co_bitAt 9 = .ok (.if_icmp .ge 12, 3) := by decide +kernel
theorem d_Co_bitAt_12 : decode b_Co_bitAt 12 = .ok (.aload_n 0, 1) := by decide +kernel
theorem d_Co_bitAt_13 : decode b_Co_bitAt 13 = .ok (.getfield 11, 3) := by decide +kernel
theorem d_Co_bitAt_16 : decode b_Co_bitAt 16 = .ok (.iload_n 1, 1) := by decide +kernel
theorem d_Co_bitAt_17 : decode b_Co_bitAt 17 = .ok (.iaload, 1) := by decide +kernel
theorem d_Co_bitAt_18 : decode b_Co_bitAt 18 = .ok (.goto 4, 3) := by decide +kernel
theorem d_Co_bitAt_21 : decode b_Co_bitAt 21 = .ok (.iconst 1, 1) := by decide +kernel
theorem d_Co_bitAt_22 : decode b_Co_bitAt 22 = .ok (.ireturn, 1) := by decide +kernel
theorem d_Re_isAtAnswer_0 : decode b_Re_isAtAnswer 0 = .ok (.aload_n 0, 1) := by decide +kernel
theorem d_Re_isAtAnswer_1 : decode b_Re_isAtAnswer 1 = .ok (.invokevirtual 42, 3) := by decide +kernel
theorem d_Re_isAtAnswer_4 : decode b_Re_isAtAnswer 4 = .ok (.ifCond .eq 20, 3) := by decide +kernel
theorem d_Re_isAtAnswer_7 : decode b_Re_isAtAnswer 7 = .ok (.aload_n 0, 1) := by decide +kernel
theorem d_Re_isAtAnswer_8 : decode b_Re_isAtAnswer 8 = .ok (.getfield 9, 3) := by decide +kernel
theorem d_Re_isAtAnswer_11 : decode b_Re_isAtAnswer 11 = .ok (.aload_n 0, 1) := by decide +kernel
theorem d_Re_isAtAnswer_12 : decode b_Re_isAtAnswer 12 = .ok (.getfield 17, 3) := by decide +kernel
theorem d_Re_isAtAnswer_15 : decode b_Re_isAtAnswer 15 = .ok (.isub, 1) := by decide +kernel
theorem d_Re_isAtAnswer_16 : decode b_Re_isAtAnswer 16 = .ok (.iconst 1, 1) := by decide +kernel
theorem d_Re_isAtAnswer_17 : decode b_Re_isAtAnswer 17 = .ok (.if_icmp .ne 7, 3) := by decide +kernel
theorem d_Re_isAtAnswer_20 : decode b_Re_isAtAnswer 20 = .ok (.iconst 1, 1) := by decide +kernel
theorem d_Re_isAtAnswer_21 : decode b_Re_isAtAnswer 21 = .ok (.goto 4, 3) := by decide +kernel
theorem d_Re_isAtAnswer_24 : decode b_Re_isAtAnswer 24 = .ok (.iconst 0, 1) := by decide +kernel
theorem d_Re_isAtAnswer_25 : decode b_Re_isAtAnswer 25 = .ok (.ireturn, 1) := by decide +kernel
theorem d_Re_isBehindCore_0 : decode b_Re_isBehindCore 0 = .ok (.aload_n 0, 1) := by decide +kernel
theorem d_Re_isBehindCore_1 : decode b_Re_isBehindCore 1 = .ok (.getfield 9, 3) := by decide +kernel
theorem d_Re_isBehindCore_4 : decode b_Re_isBehindCore 4 = .ok (.aload_n 0, 1) := by decide +kernel
theorem d_Re_isBehindCore_5 : decode b_Re_isBehindCore 5 = .ok (.getfield 17, 3) := by decide +kernel
theorem d_Re_isBehindCore_8 : decode b_Re_isBehindCore 8 = .ok (.if_icmp .lt 14, 3) := by decide +kernel
theorem d_Re_isBehindCore_11 : decode b_Re_isBehindCore 11 = .ok (.aload_n 0, 1) := by decide +kernel
theorem d_Re_isBehindCore_12 : decode b_Re_isBehindCore 12 = .ok (.invokevirtual 38, 3) := by decide +kernel
theorem d_Re_isBehindCore_15 : decode b_Re_isBehindCore 15 = .ok (.ifCond .ne 7, 3) := by decide +kernel
theorem d_Re_isBehindCore_18 : decode b_Re_isBehindCore 18 = .ok (.iconst 1, 1) := by decide +kernel
theorem d_Re_isBehindCore_19 : decode b_Re_isBehindCore 19 = .ok (.goto 4, 3) := by decide +kernel
theorem d_Re_isBehindCore_22 : decode b_Re_isBehindCore 22 = .ok (.iconst 0, 1) := by decide +kernel
theorem d_Re_isBehindCore_23 : decode b_Re_isBehindCore 23 = .ok (.ireturn, 1) := by decide +kernel
theorem d_Re_isRight_0 : decode b_Re_isRight 0 = .ok (.aload_n 0, 1) := by decide +kernel
theorem d_Re_isRight_1 : decode b_Re_isRight 1 = .ok (.getfield 26, 3) := by decide +kernel
theorem d_Re_isRight_4 : decode b_Re_isRight 4 = .ok (.ifCond .ne 7, 3) := by decide +kernel
theorem d_Re_isRight_7 : decode b_Re_isRight 7 = .ok (.iconst 1, 1) := by decide +kernel
theorem d_Re_isRight_8 : decode b_Re_isRight 8 = .ok (.goto 4, 3) := by decide +kernel
theorem d_Re_isRight_11 : decode b_Re_isRight 11 = .ok (.iconst 0, 1) := by decide +kernel
theorem d_Re_isRight_12 : decode b_Re_isRight 12 = .ok (.ireturn, 1) := by decide +kernel
theorem d_No_see_0 : decode b_No_see 0 = .ok (.aload_n 0, 1) := by decide +kernel
theorem d_No_see_1 : decode b_No_see 1 = .ok (.getfield 24, 3) := by decide +kernel
theorem d_No_see_4 : decode b_No_see 4 = .ok (.invokevirtual 116, 3) := by decide +kernel
theorem d_No_see_7 : decode b_No_see 7 = .ok (.ifCond .eq 9, 3) := by decide +kernel
theorem d_No_see_10 : decode b_No_see 10 = .ok (.iconst 1, 1) := by decide +kernel
theorem d_No_see_11 : decode b_No_see 11 = .ok (.iload_n 1, 1) := by decide +kernel
theorem d_No_see_12 : decode b_No_see 12 = .ok (.isub, 1) := by decide +kernel
theorem d_No_see_13 : decode b_No_see 13 = .ok (.goto 4, 3) := by decide +kernel
theorem d_No_see_16 : decode b_No_see 16 = .ok (.iload_n 1, 1) := by decide +kernel
theorem d_No_see_17 : decode b_No_see 17 = .ok (.istore_n 2, 1) := by decide +kernel
theorem d_No_see_18 : decode b_No_see 18 = .ok (.aload_n 0, 1) := by decide +kernel
theorem d_No_see_19 : decode b_No_see 19 = .ok (.getfield 42, 3) := by decide +kernel
theorem d_No_see_22 : decode b_No_see 22 = .ok (.tableswitch 84 1 7 #[42, 48, 54, 60, 66, 72, 78], 42) := by decide +kernel
theorem d_No_see_64 : decode b_No_see 64 = .ok (.aload_n 0, 1) := by decide +kernel
theorem d_No_see_65 : decode b_No_see 65 = .ok (.iload_n 2, 1) := by decide +kernel
theorem d_No_see_66 : decode b_No_see 66 = .ok (.invokevirtual 119, 3) := by decide +kernel
theorem d_No_see_69 : decode b_No_see 69 = .ok (.ireturn, 1) := by decide +kernel
theorem d_No_see_70 : decode b_No_see 70 = .ok (.aload_n 0, 1) := by decide +kernel
theorem d_No_see_71 : decode b_No_see 71 = .ok (.iload_n 2, 1) := by decide +kernel
theorem d_No_see_72 : decode b_No_see 72 = .ok (.invokevirtual 122, 3) := by decide +kernel
theorem d_No_see_75 : decode b_No_see 75 = .ok (.ireturn, 1) := by decide +kernel
theorem d_No_see_76 : decode b_No_see 76 = .ok (.aload_n 0, 1) := by decide +kernel
theorem d_No_see_77 : decode b_No_see 77 = .ok (.iload_n 2, 1) := by decide +kernel
theorem d_No_see_78 : decode b_No_see 78 = .ok (.invokevirtual 125, 3) := by decide +kernel
theorem d_No_see_81 : decode b_No_see 81 = .ok (.ireturn, 1) := by decide +kernel
theorem d_No_see_82 : decode b_No_see 82 = .ok (.aload_n 0, 1) := by decide +kernel
theorem d_No_see_83 : decode b_No_see 83 = .ok (.iload_n 2, 1) := by decide +kernel
theorem d_No_see_84 : decode b_No_see 84 = .ok (.invokevirtual 128, 3) := by decide +kernel
theorem d_No_see_87 : decode b_No_see 87 = .ok (.ireturn, 1) := by decide +kernel
theorem d_No_see_88 : decode b_No_see 88 = .ok (.aload_n 0, 1) := by decide +kernel
theorem d_No_see_89 : decode b_No_see 89 = .ok (.iload_n 2, 1) := by decide +kernel
theorem d_No_see_90 : decode b_No_see 90 = .ok (.invokevirtual 131, 3) := by decide +kernel
theorem d_No_see_93 : decode b_No_see 93 = .ok (.ireturn, 1) := by decide +kernel
theorem d_No_see_94 : decode b_No_see 94 = .ok (.aload_n 0, 1) := by decide +kernel
theorem d_No_see_95 : decode b_No_see 95 = .ok (.iload_n 2, 1) := by decide +kernel
theorem d_No_see_96 : decode b_No_see 96 = .ok (.invokevirtual 134, 3) := by decide +kernel
theorem d_No_see_99 : decode b_No_see 99 = .ok (.ireturn, 1) := by decide +kernel
theorem d_No_see_100 : decode b_No_see 100 = .ok (.aload_n 0, 1) := by decide +kernel
theorem d_No_see_101 : decode b_No_see 101 = .ok (.iload_n 2, 1) := by decide +kernel
theorem d_No_see_102 : decode b_No_see 102 = .ok (.invokevirtual 137, 3) := by decide +kernel
theorem d_No_see_105 : decode b_No_see 105 = .ok (.ireturn, 1) := by decide +kernel
theorem d_No_see_106 : decode b_No_see 106 = .ok (.iload_n 2, 1) := by decide +kernel
theorem d_No_see_107 : decode b_No_see 107 = .ok (.ifCond .ne 10, 3) := by decide +kernel
theorem d_No_see_110 : decode b_No_see 110 = .ok (.aload_n 0, 1) := by decide +kernel
theorem d_No_see_111 : decode b_No_see 111 = .ok (.invokevirtual 140, 3) := by decide +kernel
theorem d_No_see_114 : decode b_No_see 114 = .ok (.goto 4, 3) := by decide +kernel
theorem d_No_see_117 : decode b_No_see 117 = .ok (.iconst 0, 1) := by decide +kernel
theorem d_No_see_118 : decode b_No_see 118 = .ok (.ireturn, 1) := by decide +kernel
theorem d_Di_next_0 : decode b_Di_next 0 = .ok (.aload_n 0, 1) := by decide +kernel
theorem d_Di_next_1 : decode b_Di_next 1 = .ok (.aload_n 0, 1) := by decide +kernel
theorem d_Di_next_2 : decode b_Di_next 2 = .ok (.getfield 15, 3) := by decide +kernel
theorem d_Di_next_5 : decode b_Di_next 5 = .ok (.iconst 1, 1) := by decide +kernel
theorem d_Di_next_6 : decode b_Di_next 6 = .ok (.iadd, 1) := by decide +kernel
theorem d_Di_next_7 : decode b_Di_next 7 = .ok (.aload_n 0, 1) := by decide +kernel
theorem d_Di_next_8 : decode b_Di_next 8 = .ok (.getfield 9, 3) := by decide +kernel
theorem d_Di_next_11 : decode b_Di_next 11 = .ok (.arraylength, 1) := by decide +kernel
theorem d_Di_next_12 : decode b_Di_next 12 = .ok (.irem, 1) := by decide +kernel
theorem d_Di_next_13 : decode b_Di_next 13 = .ok (.putfield 15, 3) := by decide +kernel
theorem d_Di_next_16 : decode b_Di_next 16 = .ok (.aload_n 0, 1) := by decide +kernel
theorem d_Di_next_17 : decode b_Di_next 17 = .ok (.getfield 9, 3) := by decide +kernel
theorem d_Di_next_20 : decode b_Di_next 20 = .ok (.aload_n 0, 1) := by decide +kernel
theorem d_Di_next_21 : decode b_Di_next 21 = .ok (.getfield 15, 3) := by decide +kernel
theorem d_Di_next_24 : decode b_Di_next 24 = .ok (.baload, 1) := by decide +kernel
theorem d_Di_next_25 : decode b_Di_next 25 = .ok (.istore_n 1, 1) := by decide +kernel
theorem d_Di_next_26 : decode b_Di_next 26 = .ok (.aload_n 0, 1) := by decide +kernel
theorem d_Di_next_27 : decode b_Di_next 27 = .ok (.getfield 9, 3) := by decide +kernel
theorem d_Di_next_30 : decode b_Di_next 30 = .ok (.aload_n 0, 1) := by decide +kernel
theorem d_Di_next_31 : decode b_Di_next 31 = .ok (.getfield 15, 3) := by decide +kernel
theorem d_Di_next_34 : decode b_Di_next 34 = .ok (.iconst 0, 1) := by decide +kernel
theorem d_Di_next_35 : decode b_Di_next 35 = .ok (.bastore, 1) := by decide +kernel
theorem d_Di_next_36 : decode b_Di_next 36 = .ok (.iload_n 1, 1) := by decide +kernel
theorem d_Di_next_37 : decode b_Di_next 37 = .ok (.ireturn, 1) := by decide +kernel
theorem d_No_seeSending_0 : decode b_No_seeSending 0 = .ok (.aload_n 0, 1) := by decide +kernel
theorem d_No_seeSending_1 : decode b_No_seeSending 1 = .ok (.getfield 38, 3) := by decide +kernel
theorem d_No_seeSending_4 : decode b_No_seeSending 4 = .ok (.invokevirtual 96, 3) := by decide +kernel
theorem d_No_seeSending_7 : decode b_No_seeSending 7 = .ok (.ifCond .eq 15, 3) := by decide +kernel
theorem d_No_seeSending_10 : decode b_No_seeSending 10 = .ok (.iload_n 1, 1) := by decide +kernel
theorem d_No_seeSending_11 : decode b_No_seeSending 11 = .ok (.iconst 1, 1) := by decide +kernel
theorem d_No_seeSending_12 : decode b_No_seeSending 12 = .ok (.if_icmp .ne 51, 3) := by decide +kernel
theorem d_No_seeSending_15 : decode b_No_seeSending 15 = .ok (.aload_n 0, 1) := by decide +kernel
theorem d_No_seeSending_16 : decode b_No_seeSending 16 = .ok (.bipush 6, 2) := by decide +kernel
theorem d_No_seeSending_18 : decode b_No_seeSending 18 = .ok (.invokevirtual 159, 3) := by decide +kernel
theorem d_No_seeSending_21 : decode b_No_seeSending 21 = .ok (.ireturn, 1) := by decide +kernel
theorem d_No_seeSending_22 : decode b_No_seeSending 22 = .ok (.iload_n 1, 1) := by decide +kernel
theorem d_No_seeSending_23 : decode b_No_seeSending 23 = .ok (.aload_n 0, 1) := by decide +kernel
theorem d_No_seeSending_24 : decode b_No_seeSending 24 = .ok (.getfield 67, 3) := by decide +kernel
theorem d_No_seeSending_27 : decode b_No_seeSending 27 = .ok (.if_icmp .eq 36, 3) := by decide +kernel
theorem d_No_seeSending_30 : decode b_No_seeSending 30 = .ok (.aload_n 0, 1) := by decide +kernel
theorem d_No_seeSending_31 : decode b_No_seeSending 31 = .ok (.getfield 67, 3) := by decide +kernel
theorem d_No_seeSending_34 : decode b_No_seeSending 34 = .ok (.ifCond .eq 13, 3) := by decide +kernel
theorem d_No_seeSending_37 : decode b_No_seeSending 37 = .ok (.aload_n 0, 1) := by decide +kernel
theorem d_No_seeSending_38 : decode b_No_seeSending 38 = .ok (.getfield 38, 3) := by decide +kernel
theorem d_No_seeSending_41 : decode b_No_seeSending 41 = .ok (.invokevirtual 162, 3) := by decide +kernel
theorem d_No_seeSending_44 : decode b_No_seeSending 44 = .ok (.ifCond .ne 9, 3) := by decide +kernel
theorem d_No_seeSending_47 : decode b_No_seeSending 47 = .ok (.aload_n 0, 1) := by decide +kernel
theorem d_No_seeSending_48 : decode b_No_seeSending 48 = .ok (.iconst 2, 1) := by decide +kernel
theorem d_No_seeSending_49 : decode b_No_seeSending 49 = .ok (.invokevirtual 159, 3) := by decide +kernel
theorem d_No_seeSending_52 : decode b_No_seeSending 52 = .ok (.ireturn, 1) := by decide +kernel
theorem d_No_seeSending_53 : decode b_No_seeSending 53 = .ok (.aload_n 0, 1) := by decide +kernel
theorem d_No_seeSending_54 : decode b_No_seeSending 54 = .ok (.iconst 2, 1) := by decide +kernel
theorem d_No_seeSending_55 : decode b_No_seeSending 55 = .ok (.putfield 42, 3) := by decide +kernel
theorem d_No_seeSending_58 : decode b_No_seeSending 58 = .ok (.aload_n 0, 1) := by decide +kernel
theorem d_No_seeSending_59 : decode b_No_seeSending 59 = .ok (.iconst 2, 1) := by decide +kernel
theorem d_No_seeSending_60 : decode b_No_seeSending 60 = .ok (.putfield 46, 3) := by decide +kernel
theorem d_No_seeSending_63 : decode b_No_seeSending 63 = .ok (.aload_n 0, 1) := by decide +kernel
theorem d_No_seeSending_64 : decode b_No_seeSending 64 = .ok (.getfield 38, 3) := by decide +kernel
theorem d_No_seeSending_67 : decode b_No_seeSending 67 = .ok (.iload_n 1, 1) := by decide +kernel
theorem d_No_seeSending_68 : decode b_No_seeSending 68 = .ok (.invokevirtual 156, 3) := by decide +kernel
theorem d_No_seeSending_71 : decode b_No_seeSending 71 = .ok (.aload_n 0, 1) := by decide +kernel
theorem d_No_seeSending_72 : decode b_No_seeSending 72 = .ok (.getfield 38, 3) := by decide +kernel
theorem d_No_seeSending_75 : decode b_No_seeSending 75 = .ok (.invokevirtual 165, 3) := by decide +kernel
theorem d_No_seeSending_78 : decode b_No_seeSending 78 = .ok (.ifCond .eq 10, 3) := by decide +kernel
theorem d_No_seeSending_81 : decode b_No_seeSending 81 = .ok (.aload_n 0, 1) := by decide +kernel
theorem d_No_seeSending_82 : decode b_No_seeSending 82 = .ok (.invokevirtual 168, 3) := by decide +kernel
theorem d_No_seeSending_85 : decode b_No_seeSending 85 = .ok (.goto 4, 3) := by decide +kernel
theorem d_No_seeSending_88 : decode b_No_seeSending 88 = .ok (.iconst 0, 1) := by decide +kernel
theorem d_No_seeSending_89 : decode b_No_seeSending 89 = .ok (.ireturn, 1) := by decide +kernel
theorem d_No_err_0 : decode b_No_err 0 = .ok (.iload_n 1, 1) := by decide +kernel
theorem d_No_err_1 : decode b_No_err 1 = .ok (.bipush 6, 2) := by decide +kernel
theorem d_No_err_3 : decode b_No_err 3 = .ok (.if_icmp .ne 10, 3) := by decide +kernel
theorem d_No_err_6 : decode b_No_err 6 = .ok (.aload_n 0, 1) := by decide +kernel
theorem d_No_err_7 : decode b_No_err 7 = .ok (.invokevirtual 207, 3) := by decide +kernel
theorem d_No_err_10 : decode b_No_err 10 = .ok (.ifCond .ne 7, 3) := by decide +kernel
theorem d_No_err_13 : decode b_No_err 13 = .ok (.iconst 1, 1) := by decide +kernel
theorem d_No_err_14 : decode b_No_err 14 = .ok (.goto 4, 3) := by decide +kernel
theorem d_No_err_17 : decode b_No_err 17 = .ok (.iconst 0, 1) := by decide +kernel
theorem d_No_err_18 : decode b_No_err 18 = .ok (.istore_n 2, 1) := by decide +kernel
theorem d_No_err_19 : decode b_No_err 19 = .ok (.aload_n 0, 1) := by decide +kernel
theorem d_No_err_20 : decode b_No_err 20 = .ok (.getfield 46, 3) := by decide +kernel
theorem d_No_err_23 : decode b_No_err 23 = .ok (.iconst 2, 1) := by decide +kernel
theorem d_No_err_24 : decode b_No_err 24 = .ok (.if_icmp .ne 16, 3) := by decide +kernel
theorem d_No_err_27 : decode b_No_err 27 = .ok (.aload_n 0, 1) := by decide +kernel
theorem d_No_err_28 : decode b_No_err 28 = .ok (.dup, 1) := by decide +kernel
theorem d_No_err_29 : decode b_No_err 29 = .ok (.getfield 52, 3) := by decide +kernel
theorem d_No_err_32 : decode b_No_err 32 = .ok (.iconst 1, 1) := by decide +kernel
theorem d_No_err_33 : decode b_No_err 33 = .ok (.iadd, 1) := by decide +kernel
theorem d_No_err_34 : decode b_No_err 34 = .ok (.putfield 52, 3) := by decide +kernel
theorem d_No_err_37 : decode b_No_err 37 = .ok (.goto 18, 3) := by decide +kernel
theorem d_No_err_40 : decode b_No_err 40 = .ok (.iload_n 2, 1) := by decide +kernel
theorem d_No_err_41 : decode b_No_err 41 = .ok (.ifCond .eq 14, 3) := by decide +kernel
theorem d_No_err_44 : decode b_No_err 44 = .ok (.aload_n 0, 1) := by decide +kernel
theorem d_No_err_45 : decode b_No_err 45 = .ok (.dup, 1) := by decide +kernel
theorem d_No_err_46 : decode b_No_err 46 = .ok (.getfield 49, 3) := by decide +kernel
theorem d_No_err_49 : decode b_No_err 49 = .ok (.bipush 8, 2) := by decide +kernel
theorem d_No_err_51 : decode b_No_err 51 = .ok (.iadd, 1) := by decide +kernel
theorem d_No_err_52 : decode b_No_err 52 = .ok (.putfield 49, 3) := by decide +kernel
theorem d_No_err_55 : decode b_No_err 55 = .ok (.aload_n 0, 1) := by decide +kernel
theorem d_No_err_56 : decode b_No_err 56 = .ok (.aload_n 0, 1) := by decide +kernel
theorem d_No_err_57 : decode b_No_err 57 = .ok (.invokevirtual 207, 3) := by decide +kernel
theorem d_No_err_60 : decode b_No_err 60 = .ok (.invokevirtual 210, 3) := by decide +kernel
theorem d_No_err_63 : decode b_No_err 63 = .ok (.aload_n 0, 1) := by decide +kernel
theorem d_No_err_64 : decode b_No_err 64 = .ok (.invokevirtual 214, 3) := by decide +kernel
theorem d_No_err_67 : decode b_No_err 67 = .ok (.iload_n 2, 1) := by decide +kernel
theorem d_No_err_68 : decode b_No_err 68 = .ok (.ifCond .eq 7, 3) := by decide +kernel
theorem d_No_err_71 : decode b_No_err 71 = .ok (.iload_n 1, 1) := by decide +kernel
theorem d_No_err_72 : decode b_No_err 72 = .ok (.goto 4, 3) := by decide +kernel
theorem d_No_err_75 : decode b_No_err 75 = .ok (.iconst 0, 1) := by decide +kernel
theorem d_No_err_76 : decode b_No_err 76 = .ok (.ireturn, 1) := by decide +kernel
theorem d_No_isPassive_0 : decode b_No_isPassive 0 = .ok (.aload_n 0, 1) := by decide +kernel
theorem d_No_isPassive_1 : decode b_No_isPassive 1 = .ok (.getfield 49, 3) := by decide +kernel
theorem d_No_isPassive_4 : decode b_No_isPassive 4 = .ok (.bipush 127, 2) := by decide +kernel
theorem d_No_isPassive_6 : decode b_No_isPassive 6 = .ok (.if_icmp .gt 12, 3) := by decide +kernel
theorem d_No_isPassive_9 : decode b_No_isPassive 9 = .ok (.aload_n 0, 1) := by decide +kernel
theorem d_No_isPassive_10 : decode b_No_isPassive 10 = .ok (.getfield 52, 3) := by decide +kernel
theorem d_No_isPassive_13 : decode b_No_isPassive 13 = .ok (.bipush 127, 2) := by decide +kernel
theorem d_No_isPassive_15 : decode b_No_isPassive 15 = .ok (.if_icmp .le 7, 3) := by decide +kernel
theorem d_No_isPassive_18 : decode b_No_isPassive 18 = .ok (.iconst 1, 1) := by decide +kernel
theorem d_No_isPassive_19 : decode b_No_isPassive 19 = .ok (.goto 4, 3) := by decide +kernel
theorem d_No_isPassive_22 : decode b_No_isPassive 22 = .ok (.iconst 0, 1) := by decide +kernel
theorem d_No_isPassive_23 : decode b_No_isPassive 23 = .ok (.ireturn, 1) := by decide +kernel
theorem d_No_beginFlag_0 : decode b_No_beginFlag 0 = .ok (.aload_n 0, 1) := by decide +kernel
theorem d_No_beginFlag_1 : decode b_No_beginFlag 1 = .ok (.iload_n 1, 1) := by decide +kernel
theorem d_No_beginFlag_2 : decode b_No_beginFlag 2 = .ok (.putfield 70, 3) := by decide +kernel
theorem d_No_beginFlag_5 : decode b_No_beginFlag 5 = .ok (.aload_n 0, 1) := by decide +kernel
theorem d_No_beginFlag_6 : decode b_No_beginFlag 6 = .ok (.iconst 3, 1) := by decide +kernel
theorem d_No_beginFlag_7 : decode b_No_beginFlag 7 = .ok (.putfield 42, 3) := by decide +kernel
theorem d_No_beginFlag_10 : decode b_No_beginFlag 10 = .ok (.aload_n 0, 1) := by decide +kernel
theorem d_No_beginFlag_11 : decode b_No_beginFlag 11 = .ok (.iconst 0, 1) := by decide +kernel
theorem d_No_beginFlag_12 : decode b_No_beginFlag 12 = .ok (.putfield 74, 3) := by decide +kernel
theorem d_No_beginFlag_15 : decode b_No_beginFlag 15 = .ok (.return_, 1) := by decide +kernel
theorem d_No_goOffIfTooMany_0 : decode b_No_goOffIfTooMany 0 = .ok (.aload_n 0, 1) := by decide +kernel
theorem d_No_goOffIfTooMany_1 : decode b_No_goOffIfTooMany 1 = .ok (.getfield 49, 3) := by decide +kernel
theorem d_No_goOffIfTooMany_4 : decode b_No_goOffIfTooMany 4 = .ok (.sipush 255, 3) := by decide +kernel
theorem d_No_goOffIfTooMany_7 : decode b_No_goOffIfTooMany 7 = .ok (.if_icmp .le 27, 3) := by decide +kernel
theorem d_No_goOffIfTooMany_10 : decode b_No_goOffIfTooMany 10 = .ok (.aload_n 0, 1) := by decide +kernel
theorem d_No_goOffIfTooMany_11 : decode b_No_goOffIfTooMany 11 = .ok (.bipush 7, 2) := by decide +kernel
theorem d_No_goOffIfTooMany_13 : decode b_No_goOffIfTooMany 13 = .ok (.putfield 42, 3) := by decide +kernel
theorem d_No_goOffIfTooMany_16 : decode b_No_goOffIfTooMany 16 = .ok (.aload_n 0, 1) := by decide +kernel
theorem d_No_goOffIfTooMany_17 : decode b_No_goOffIfTooMany 17 = .ok (.getfield 12, 3) := by decide +kernel
theorem d_No_goOffIfTooMany_20 : decode b_No_goOffIfTooMany 20 = .ok (.iconst 0, 1) := by decide +kernel
theorem d_No_goOffIfTooMany_21 : decode b_No_goOffIfTooMany 21 = .ok (.putfield 83, 3) := by decide +kernel
theorem d_No_goOffIfTooMany_24 : decode b_No_goOffIfTooMany 24 = .ok (.aload_n 0, 1) := by decide +kernel
theorem d_No_goOffIfTooMany_25 : decode b_No_goOffIfTooMany 25 = .ok (.iconst 0, 1) := by decide +kernel
theorem d_No_goOffIfTooMany_26 : decode b_No_goOffIfTooMany 26 = .ok (.putfield 77, 3) := by decide +kernel
theorem d_No_goOffIfTooMany_29 : decode b_No_goOffIfTooMany 29 = .ok (.aload_n 0, 1) := by decide +kernel
theorem d_No_goOffIfTooMany_30 : decode b_No_goOffIfTooMany 30 = .ok (.iconst 0, 1) := by decide +kernel
theorem d_No_goOffIfTooMany_31 : decode b_No_goOffIfTooMany 31 = .ok (.putfield 80, 3) := by decide +kernel
theorem d_No_goOffIfTooMany_34 : decode b_No_goOffIfTooMany 34 = .ok (.return_, 1) := by decide +kernel
theorem d_Re_isInId_0 : decode b_Re_isInId 0 = .ok (.aload_n 0, 1) := by decide +kernel
theorem d_Re_isInId_1 : decode b_Re_isInId 1 = .ok (.getfield 9, 3) := by decide +kernel
theorem d_Re_isInId_4 : decode b_Re_isInId 4 = .ok (.iconst 1, 1) := by decide +kernel
theorem d_Re_isInId_5 : decode b_Re_isInId 5 = .ok (.if_icmp .lt 23, 3) := by decide +kernel
theorem d_Re_isInId_8 : decode b_Re_isInId 8 = .ok (.aload_n 0, 1) := by decide +kernel
theorem d_Re_isInId_9 : decode b_Re_isInId 9 = .ok (.getfield 9, 3) := by decide +kernel
theorem d_Re_isInId_12 : decode b_Re_isInId 12 = .ok (.bipush 12, 2) := by decide +kernel
theorem d_Re_isInId_14 : decode b_Re_isInId 14 = .ok (.if_icmp .ge 14, 3) := by decide +kernel
theorem d_Re_isInId_17 : decode b_Re_isInId 17 = .ok (.aload_n 0, 1) := by decide +kernel
theorem d_Re_isInId_18 : decode b_Re_isInId 18 = .ok (.invokevirtual 38, 3) := by decide +kernel
theorem d_Re_isInId_21 : decode b_Re_isInId 21 = .ok (.ifCond .ne 7, 3) := by decide +kernel
theorem d_Re_isInId_24 : decode b_Re_isInId 24 = .ok (.iconst 1, 1) := by decide +kernel
theorem d_Re_isInId_25 : decode b_Re_isInId 25 = .ok (.goto 4, 3) := by decide +kernel
theorem d_Re_isInId_28 : decode b_Re_isInId 28 = .ok (.iconst 0, 1) := by decide +kernel
theorem d_Re_isInId_29 : decode b_Re_isInId 29 = .ok (.ireturn, 1) := by decide +kernel
theorem d_Re_read_0 : decode b_Re_read 0 = .ok (.aload_n 0, 1) := by decide +kernel
theorem d_Re_read_1 : decode b_Re_read 1 = .ok (.invokevirtual 38, 3) := by decide +kernel
theorem d_Re_read_4 : decode b_Re_read 4 = .ok (.ifCond .eq 16, 3) := by decide +kernel
theorem d_Re_read_7 : decode b_Re_read 7 = .ok (.aload_n 0, 1) := by decide +kernel
theorem d_Re_read_8 : decode b_Re_read 8 = .ok (.iload_n 1, 1) := by decide +kernel
theorem d_Re_read_9 : decode b_Re_read 9 = .ok (.putfield 20, 3) := by decide +kernel
theorem d_Re_read_12 : decode b_Re_read 12 = .ok (.aload_n 0, 1) := by decide +kernel
theorem d_Re_read_13 : decode b_Re_read 13 = .ok (.iconst 1, 1) := by decide +kernel
theorem d_Re_read_14 : decode b_Re_read 14 = .ok (.putfield 23, 3) := by decide +kernel
theorem d_Re_read_17 : decode b_Re_read 17 = .ok (.goto 28, 3) := by decide +kernel
theorem d_Re_read_20 : decode b_Re_read 20 = .ok (.aload_n 0, 1) := by decide +kernel
theorem d_Re_read_21 : decode b_Re_read 21 = .ok (.invokevirtual 42, 3) := by decide +kernel
theorem d_Re_read_24 : decode b_Re_read 24 = .ok (.ifCond .eq 16, 3) := by decide +kernel
theorem d_Re_read_27 : decode b_Re_read 27 = .ok (.aload_n 0, 1) := by decide +kernel
theorem d_Re_read_28 : decode b_Re_read 28 = .ok (.dup, 1) := by decide +kernel
theorem d_Re_read_29 : decode b_Re_read 29 = .ok (.getfield 9, 3) := by decide +kernel
theorem d_Re_read_32 : decode b_Re_read 32 = .ok (.iconst 1, 1) := by decide +kernel
theorem d_Re_read_33 : decode b_Re_read 33 = .ok (.iadd, 1) := by decide +kernel
theorem d_Re_read_34 : decode b_Re_read 34 = .ok (.putfield 9, 3) := by decide +kernel
theorem d_Re_read_37 : decode b_Re_read 37 = .ok (.goto 8, 3) := by decide +kernel
theorem d_Re_read_40 : decode b_Re_read 40 = .ok (.aload_n 0, 1) := by decide +kernel
theorem d_Re_read_41 : decode b_Re_read 41 = .ok (.iload_n 1, 1) := by decide +kernel
theorem d_Re_read_42 : decode b_Re_read 42 = .ok (.invokevirtual 51, 3) := by decide +kernel
theorem d_Re_read_45 : decode b_Re_read 45 = .ok (.return_, 1) := by decide +kernel
theorem d_Re_readCore_0 : decode b_Re_readCore 0 = .ok (.aload_n 0, 1) := by decide +kernel
theorem d_Re_readCore_1 : decode b_Re_readCore 1 = .ok (.iload_n 1, 1) := by decide +kernel
theorem d_Re_readCore_2 : decode b_Re_readCore 2 = .ok (.aload_n 0, 1) := by decide +kernel
theorem d_Re_readCore_3 : decode b_Re_readCore 3 = .ok (.getfield 20, 3) := by decide +kernel
theorem d_Re_readCore_6 : decode b_Re_readCore 6 = .ok (.if_icmp .ne 19, 3) := by decide +kernel
theorem d_Re_readCore_9 : decode b_Re_readCore 9 = .ok (.aload_n 0, 1) := by decide +kernel
theorem d_Re_readCore_10 : decode b_Re_readCore 10 = .ok (.getfield 9, 3) := by decide +kernel
theorem d_Re_readCore_13 : decode b_Re_readCore 13 = .ok (.ifCond .le 12, 3) := by decide +kernel
theorem d_Re_readCore_16 : decode b_Re_readCore 16 = .ok (.aload_n 0, 1) := by decide +kernel
theorem d_Re_readCore_17 : decode b_Re_readCore 17 = .ok (.getfield 23, 3) := by decide +kernel
theorem d_Re_readCore_20 : decode b_Re_readCore 20 = .ok (.iconst 1, 1) := by decide +kernel
theorem d_Re_readCore_21 : decode b_Re_readCore 21 = .ok (.iadd, 1) := by decide +kernel
theorem d_Re_readCore_22 : decode b_Re_readCore 22 = .ok (.goto 4, 3) := by decide +kernel
theorem d_Re_readCore_25 : decode b_Re_readCore 25 = .ok (.iconst 1, 1) := by decide +kernel
theorem d_Re_readCore_26 : decode b_Re_readCore 26 = .ok (.putfield 23, 3) := by decide +kernel
theorem d_Re_readCore_29 : decode b_Re_readCore 29 = .ok (.aload_n 0, 1) := by decide +kernel
theorem d_Re_readCore_30 : decode b_Re_readCore 30 = .ok (.iload_n 1, 1) := by decide +kernel
theorem d_Re_readCore_31 : decode b_Re_readCore 31 = .ok (.putfield 20, 3) := by decide +kernel
theorem d_Re_readCore_34 : decode b_Re_readCore 34 = .ok (.aload_n 0, 1) := by decide +kernel
theorem d_Re_readCore_35 : decode b_Re_readCore 35 = .ok (.aload_n 0, 1) := by decide +kernel
theorem d_Re_readCore_36 : decode b_Re_readCore 36 = .ok (.getfield 26, 3) := by decide +kernel
theorem d_Re_readCore_39 : decode b_Re_readCore 39 = .ok (.iload_n 1, 1) := by decide +kernel
theorem d_Re_readCore_40 : decode b_Re_readCore 40 = .ok (.invokestatic 55, 3) := by decide +kernel
theorem d_Re_readCore_43 : decode b_Re_readCore 43 = .ok (.putfield 26, 3) := by decide +kernel
theorem d_Re_readCore_46 : decode b_Re_readCore 46 = .ok (.aload_n 0, 1) := by decide +kernel
theorem d_Re_readCore_47 : decode b_Re_readCore 47 = .ok (.getfield 9, 3) := by decide +kernel
theorem d_Re_readCore_50 : decode b_Re_readCore 50 = .ok (.iconst 1, 1) := by decide +kernel
theorem d_Re_readCore_51 : decode b_Re_readCore 51 = .ok (.if_icmp .lt 27, 3) := by decide +kernel
theorem d_Re_readCore_54 : decode b_Re_readCore 54 = .ok (.aload_n 0, 1) := by decide +kernel
theorem d_Re_readCore_55 : decode b_Re_readCore 55 = .ok (.getfield 9, 3) := by decide +kernel
theorem d_Re_readCore_58 : decode b_Re_readCore 58 = .ok (.bipush 12, 2) := by decide +kernel
theorem d_Re_readCore_60 : decode b_Re_readCore 60 = .ok (.if_icmp .ge 18, 3) := by decide +kernel
theorem d_Re_readCore_63 : decode b_Re_readCore 63 = .ok (.aload_n 0, 1) := by decide +kernel
theorem d_Re_readCore_64 : decode b_Re_readCore 64 = .ok (.aload_n 0, 1) := by decide +kernel
theorem d_Re_readCore_65 : decode b_Re_readCore 65 = .ok (.getfield 29, 3) := by decide +kernel
theorem d_Re_readCore_68 : decode b_Re_readCore 68 = .ok (.iconst 1, 1) := by decide +kernel
theorem d_Re_readCore_69 : decode b_Re_readCore 69 = .ok (.ishl, 1) := by decide +kernel
theorem d_Re_readCore_70 : decode b_Re_readCore 70 = .ok (.iload_n 1, 1) := by decide +kernel
theorem d_Re_readCore_71 : decode b_Re_readCore 71 = .ok (.ior, 1) := by decide +kernel
theorem d_Re_readCore_72 : decode b_Re_readCore 72 = .ok (.putfield 29, 3) := by decide +kernel
theorem d_Re_readCore_75 : decode b_Re_readCore 75 = .ok (.goto 67, 3) := by decide +kernel
theorem d_Re_readCore_78 : decode b_Re_readCore 78 = .ok (.aload_n 0, 1) := by decide +kernel
theorem d_Re_readCore_79 : decode b_Re_readCore 79 = .ok (.getfield 9, 3) := by decide +kernel
theorem d_Re_readCore_82 : decode b_Re_readCore 82 = .ok (.bipush 15, 2) := by decide +kernel
theorem d_Re_readCore_84 : decode b_Re_readCore 84 = .ok (.if_icmp .lt 27, 3) := by decide +kernel
theorem d_Re_readCore_87 : decode b_Re_readCore 87 = .ok (.aload_n 0, 1) := by decide +kernel
theorem d_Re_readCore_88 : decode b_Re_readCore 88 = .ok (.getfield 9, 3) := by decide +kernel
theorem d_Re_readCore_91 : decode b_Re_readCore 91 = .ok (.bipush 19, 2) := by decide +kernel
theorem d_Re_readCore_93 : decode b_Re_readCore 93 = .ok (.if_icmp .ge 18, 3) := by decide +kernel
theorem d_Re_readCore_96 : decode b_Re_readCore 96 = .ok (.aload_n 0, 1) := by decide +kernel
theorem d_Re_readCore_97 : decode b_Re_readCore 97 = .ok (.aload_n 0, 1) := by decide +kernel
theorem d_Re_readCore_98 : decode b_Re_readCore 98 = .ok (.getfield 32, 3) := by decide +kernel
theorem d_Re_readCore_101 : decode b_Re_readCore 101 = .ok (.iconst 1, 1) := by decide +kernel
theorem d_Re_readCore_102 : decode b_Re_readCore 102 = .ok (.ishl, 1) := by decide +kernel
theorem d_Re_readCore_103 : decode b_Re_readCore 103 = .ok (.iload_n 1, 1) := by decide +kernel
theorem d_Re_readCore_104 : decode b_Re_readCore 104 = .ok (.ior, 1) := by decide +kernel
theorem d_Re_readCore_105 : decode b_Re_readCore 105 = .ok (.putfield 32, 3) := by decide +kernel
theorem d_Re_readCore_108 : decode b_Re_readCore 108 = .ok (.goto 34, 3) := by decide +kernel
theorem d_Re_readCore_111 : decode b_Re_readCore 111 = .ok (.aload_n 0, 1) := by decide +kernel
theorem d_Re_readCore_112 : decode b_Re_readCore 112 = .ok (.getfield 9, 3) := by decide +kernel
theorem d_Re_readCore_115 : decode b_Re_readCore 115 = .ok (.bipush 19, 2) := by decide +kernel
theorem d_Re_readCore_117 : decode b_Re_readCore 117 = .ok (.if_icmp .lt 25, 3) := by decide +kernel
theorem d_Re_readCore_120 : decode b_Re_readCore 120 = .ok (.aload_n 0, 1) := by decide +kernel
theorem d_Re_readCore_121 : decode b_Re_readCore 121 = .ok (.getfield 9, 3) := by decide +kernel
theorem d_Re_readCore_124 : decode b_Re_readCore 124 = .ok (.bipush 19, 2) := by decide +kernel
theorem d_Re_readCore_126 : decode b_Re_readCore 126 = .ok (.bipush 8, 2) := by decide +kernel
theorem d_Re_readCore_128 : decode b_Re_readCore 128 = .ok (.aload_n 0, 1) := by decide +kernel
theorem d_Re_readCore_129 : decode b_Re_readCore 129 = .ok (.getfield 32, 3) := by decide +kernel
theorem d_Re_readCore_132 : decode b_Re_readCore 132 = .ok (.imul, 1) := by decide +kernel
theorem d_Re_readCore_133 : decode b_Re_readCore 133 = .ok (.iadd, 1) := by decide +kernel
theorem d_Re_readCore_134 : decode b_Re_readCore 134 = .ok (.if_icmp .ge 8, 3) := by decide +kernel
theorem d_Re_readCore_137 : decode b_Re_readCore 137 = .ok (.aload_n 0, 1) := by decide +kernel
theorem d_Re_readCore_138 : decode b_Re_readCore 138 = .ok (.iload_n 1, 1) := by decide +kernel
theorem d_Re_readCore_139 : decode b_Re_readCore 139 = .ok (.invokevirtual 59, 3) := by decide +kernel
theorem d_Re_readCore_142 : decode b_Re_readCore 142 = .ok (.aload_n 0, 1) := by decide +kernel
theorem d_Re_readCore_143 : decode b_Re_readCore 143 = .ok (.dup, 1) := by decide +kernel
theorem d_Re_readCore_144 : decode b_Re_readCore 144 = .ok (.getfield 9, 3) := by decide +kernel
theorem d_Re_readCore_147 : decode b_Re_readCore 147 = .ok (.iconst 1, 1) := by decide +kernel
theorem d_Re_readCore_148 : decode b_Re_readCore 148 = .ok (.iadd, 1) := by decide +kernel
theorem d_Re_readCore_149 : decode b_Re_readCore 149 = .ok (.putfield 9, 3) := by decide +kernel
theorem d_Re_readCore_152 : decode b_Re_readCore 152 = .ok (.aload_n 0, 1) := by decide +kernel
theorem d_Re_readCore_153 : decode b_Re_readCore 153 = .ok (.getfield 9, 3) := by decide +kernel
theorem d_Re_readCore_156 : decode b_Re_readCore 156 = .ok (.bipush 19, 2) := by decide +kernel
theorem d_Re_readCore_158 : decode b_Re_readCore 158 = .ok (.if_icmp .ne 14, 3) := by decide +kernel
theorem d_Re_readCore_161 : decode b_Re_readCore 161 = .ok (.aload_n 0, 1) := by decide +kernel
theorem d_Re_readCore_162 : decode b_Re_readCore 162 = .ok (.aload_n 0, 1) := by decide +kernel
theorem d_Re_readCore_163 : decode b_Re_readCore 163 = .ok (.getfield 32, 3) := by decide +kernel
theorem d_Re_readCore_166 : decode b_Re_readCore 166 = .ok (.invokestatic 62, 3) := by decide +kernel
theorem d_Re_readCore_169 : decode b_Re_readCore 169 = .ok (.putfield 17, 3) := by decide +kernel
theorem d_Re_readCore_172 : decode b_Re_readCore 172 = .ok (.return_, 1) := by decide +kernel
theorem d_Re_readData_0 : decode b_Re_readData 0 = .ok (.aload_n 0, 1) := by decide +kernel
theorem d_Re_readData_1 : decode b_Re_readData 1 = .ok (.getfield 9, 3) := by decide +kernel
theorem d_Re_readData_4 : decode b_Re_readData 4 = .ok (.bipush 19, 2) := by decide +kernel
theorem d_Re_readData_6 : decode b_Re_readData 6 = .ok (.isub, 1) := by decide +kernel
theorem d_Re_readData_7 : decode b_Re_readData 7 = .ok (.istore_n 2, 1) := by decide +kernel
theorem d_Re_readData_8 : decode b_Re_readData 8 = .ok (.bipush 8, 2) := by decide +kernel
theorem d_Re_readData_10 : decode b_Re_readData 10 = .ok (.iload_n 2, 1) := by decide +kernel
theorem d_Re_readData_11 : decode b_Re_readData 11 = .ok (.bipush 8, 2) := by decide +kernel
theorem d_Re_readData_13 : decode b_Re_readData 13 = .ok (.idiv, 1) := by decide +kernel
theorem d_Re_readData_14 : decode b_Re_readData 14 = .ok (.imul, 1) := by decide +kernel
theorem d_Re_readData_15 : decode b_Re_readData 15 = .ok (.bipush 7, 2) := by decide +kernel
theorem d_Re_readData_17 : decode b_Re_readData 17 = .ok (.iadd, 1) := by decide +kernel
theorem d_Re_readData_18 : decode b_Re_readData 18 = .ok (.iload_n 2, 1) := by decide +kernel
theorem d_Re_readData_19 : decode b_Re_readData 19 = .ok (.bipush 8, 2) := by decide +kernel
theorem d_Re_readData_21 : decode b_Re_readData 21 = .ok (.irem, 1) := by decide +kernel
theorem d_Re_readData_22 : decode b_Re_readData 22 = .ok (.isub, 1) := by decide +kernel
theorem d_Re_readData_23 : decode b_Re_readData 23 = .ok (.istore_n 3, 1) := by decide +kernel
theorem d_Re_readData_24 : decode b_Re_readData 24 = .ok (.aload_n 0, 1) := by decide +kernel
theorem d_Re_readData_25 : decode b_Re_readData 25 = .ok (.dup, 1) := by decide +kernel
theorem d_Re_readData_26 : decode b_Re_readData 26 = .ok (.getfield 35, 3) := by decide +kernel
theorem d_Re_readData_29 : decode b_Re_readData 29 = .ok (.iload_n 1, 1) := by decide +kernel
theorem d_Re_readData_30 : decode b_Re_readData 30 = .ok (.iload_n 3, 1) := by decide +kernel
theorem d_Re_readData_31 : decode b_Re_readData 31 = .ok (.ishl, 1) := by decide +kernel
theorem d_Re_readData_32 : decode b_Re_readData 32 = .ok (.ior, 1) := by decide +kernel
theorem d_Re_readData_33 : decode b_Re_readData 33 = .ok (.putfield 35, 3) := by decide +kernel
theorem d_Re_readData_36 : decode b_Re_readData 36 = .ok (.return_, 1) := by decide +kernel
theorem d_Co_lengthFor_0 : decode b_Co_lengthFor 0 = .ok (.bipush 19, 2) := by decide +kernel
theorem d_Co_lengthFor_2 : decode b_Co_lengthFor 2 = .ok (.bipush 8, 2) := by decide +kernel
theorem d_Co_lengthFor_4 : decode b_Co_lengthFor 4 = .ok (.iload_n 0, 1) := by decide +kernel
theorem d_Co_lengthFor_5 : decode b_Co_lengthFor 5 = .ok (.imul, 1) := by decide +kernel
theorem d_Co_lengthFor_6 : decode b_Co_lengthFor 6 = .ok (.iadd, 1) := by decide +kernel
theorem d_Co_lengthFor_7 : decode b_Co_lengthFor 7 = .ok (.bipush 15, 2) := by decide +kernel
theorem d_Co_lengthFor_9 : decode b_Co_lengthFor 9 = .ok (.iadd, 1) := by decide +kernel
theorem d_Co_lengthFor_10 : decode b_Co_lengthFor 10 = .ok (.ireturn, 1) := by decide +kernel
theorem d_Re_isAtEnd_0 : decode b_Re_isAtEnd 0 = .ok (.aload_n 0, 1) := by decide +kernel
theorem d_Re_isAtEnd_1 : decode b_Re_isAtEnd 1 = .ok (.getfield 9, 3) := by decide +kernel
theorem d_Re_isAtEnd_4 : decode b_Re_isAtEnd 4 = .ok (.aload_n 0, 1) := by decide +kernel
theorem d_Re_isAtEnd_5 : decode b_Re_isAtEnd 5 = .ok (.getfield 17, 3) := by decide +kernel
theorem d_Re_isAtEnd_8 : decode b_Re_isAtEnd 8 = .ok (.isub, 1) := by decide +kernel
theorem d_Re_isAtEnd_9 : decode b_Re_isAtEnd 9 = .ok (.bipush 9, 2) := by decide +kernel
theorem d_Re_isAtEnd_11 : decode b_Re_isAtEnd 11 = .ok (.if_icmp .le 7, 3) := by decide +kernel
theorem d_Re_isAtEnd_14 : decode b_Re_isAtEnd 14 = .ok (.iconst 1, 1) := by decide +kernel
theorem d_Re_isAtEnd_15 : decode b_Re_isAtEnd 15 = .ok (.goto 4, 3) := by decide +kernel
theorem d_Re_isAtEnd_18 : decode b_Re_isAtEnd 18 = .ok (.iconst 0, 1) := by decide +kernel
theorem d_Re_isAtEnd_19 : decode b_Re_isAtEnd 19 = .ok (.ireturn, 1) := by decide +kernel
theorem d_No_endSending_0 : decode b_No_endSending 0 = .ok (.aload_n 0, 1) := by decide +kernel
theorem d_No_endSending_1 : decode b_No_endSending 1 = .ok (.getfield 12, 3) := by decide +kernel
theorem d_No_endSending_4 : decode b_No_endSending 4 = .ok (.aload_n 0, 1) := by decide +kernel
theorem d_No_endSending_5 : decode b_No_endSending 5 = .ok (.getfield 64, 3) := by decide +kernel
theorem d_No_endSending_8 : decode b_No_endSending 8 = .ok (.invokevirtual 171, 3) := by decide +kernel
theorem d_No_endSending_11 : decode b_No_endSending 11 = .ok (.pop, 1) := by decide +kernel
theorem d_No_endSending_12 : decode b_No_endSending 12 = .ok (.aload_n 0, 1) := by decide +kernel
theorem d_No_endSending_13 : decode b_No_endSending 13 = .ok (.getfield 49, 3) := by decide +kernel
theorem d_No_endSending_16 : decode b_No_endSending 16 = .ok (.ifCond .le 13, 3) := by decide +kernel
theorem d_No_endSending_19 : decode b_No_endSending 19 = .ok (.aload_n 0, 1) := by decide +kernel
theorem d_No_endSending_20 : decode b_No_endSending 20 = .ok (.dup, 1) := by decide +kernel
theorem d_No_endSending_21 : decode b_No_endSending 21 = .ok (.getfield 49, 3) := by decide +kernel
theorem d_No_endSending_24 : decode b_No_endSending 24 = .ok (.iconst 1, 1) := by decide +kernel
theorem d_No_endSending_25 : decode b_No_endSending 25 = .ok (.isub, 1) := by decide +kernel
theorem d_No_endSending_26 : decode b_No_endSending 26 = .ok (.putfield 49, 3) := by decide +kernel
theorem d_No_endSending_29 : decode b_No_endSending 29 = .ok (.aload_n 0, 1) := by decide +kernel
theorem d_No_endSending_30 : decode b_No_endSending 30 = .ok (.invokevirtual 174, 3) := by decide +kernel
theorem d_No_endSending_33 : decode b_No_endSending 33 = .ok (.iconst 1, 1) := by decide +kernel
theorem d_No_endSending_34 : decode b_No_endSending 34 = .ok (.ireturn, 1) := by decide +kernel
theorem d_Fr_remove_0 : decode b_Fr_remove 0 = .ok (.aload_n 0, 1) := by decide +kernel
theorem d_Fr_remove_1 : decode b_Fr_remove 1 = .ok (.iload_n 1, 1) := by decide +kernel
theorem d_Fr_remove_2 : decode b_Fr_remove 2 = .ok (.invokevirtual 27, 3) := by decide +kernel
theorem d_Fr_remove_5 : decode b_Fr_remove 5 = .ok (.istore_n 2, 1) := by decide +kernel
theorem d_Fr_remove_6 : decode b_Fr_remove 6 = .ok (.iload_n 1, 1) := by decide +kernel
theorem d_Fr_remove_7 : decode b_Fr_remove 7 = .ok (.ifCond .lt 51, 3) := by decide +kernel
theorem d_Fr_remove_10 : decode b_Fr_remove 10 = .ok (.iload_n 1, 1) := by decide +kernel
theorem d_Fr_remove_11 : decode b_Fr_remove 11 = .ok (.aload_n 0, 1) := by decide +kernel
theorem d_Fr_remove_12 : decode b_Fr_remove 12 = .ok (.getfield 15, 3) := by decide +kernel
theorem d_Fr_remove_15 : decode b_Fr_remove 15 = .ok (.if_icmp .ge 43, 3) := by decide +kernel
theorem d_Fr_remove_18 : decode b_Fr_remove 18 = .ok (.aload_n 0, 1) := by decide +kernel
theorem d_Fr_remove_19 : decode b_Fr_remove 19 = .ok (.dup, 1) := by decide +kernel
theorem d_Fr_remove_20 : decode b_Fr_remove 20 = .ok (.getfield 15, 3) := by decide +kernel
theorem d_Fr_remove_23 : decode b_Fr_remove 23 = .ok (.iconst 1, 1) := by decide +kernel
theorem d_Fr_remove_24 : decode b_Fr_remove 24 = .ok (.isub, 1) := by decide +kernel
theorem d_Fr_remove_25 : decode b_Fr_remove 25 = .ok (.putfield 15, 3) := by decide +kernel
theorem d_Fr_remove_28 : decode b_Fr_remove 28 = .ok (.iload_n 1, 1) := by decide +kernel
theorem d_Fr_remove_29 : decode b_Fr_remove 29 = .ok (.istore_n 3, 1) := by decide +kernel
theorem d_Fr_remove_30 : decode b_Fr_remove 30 = .ok (.iload_n 3, 1) := by decide +kernel
theorem d_Fr_remove_31 : decode b_Fr_remove 31 = .ok (.aload_n 0, 1) := by decide +kernel
theorem d_Fr_remove_32 : decode b_Fr_remove 32 = .ok (.getfield 15, 3) := by decide +kernel
theorem d_Fr_remove_35 : decode b_Fr_remove 35 = .ok (.if_icmp .ge 23, 3) := by decide +kernel
theorem d_Fr_remove_38 : decode b_Fr_remove 38 = .ok (.aload_n 0, 1) := by decide +kernel
theorem d_Fr_remove_39 : decode b_Fr_remove 39 = .ok (.getfield 9, 3) := by decide +kernel
theorem d_Fr_remove_42 : decode b_Fr_remove 42 = .ok (.iload_n 3, 1) := by decide +kernel
theorem d_Fr_remove_43 : decode b_Fr_remove 43 = .ok (.aload_n 0, 1) := by decide +kernel
theorem d_Fr_remove_44 : decode b_Fr_remove 44 = .ok (.getfield 9, 3) := by decide +kernel
theorem d_Fr_remove_47 : decode b_Fr_remove 47 = .ok (.iload_n 3, 1) := by decide +kernel
theorem d_Fr_remove_48 : decode b_Fr_remove 48 = .ok (.iconst 1, 1) := by decide +kernel
theorem d_Fr_remove_49 : decode b_Fr_remove 49 = .ok (.iadd, 1) := by decide +kernel
theorem d_Fr_remove_50 : decode b_Fr_remove 50 = .ok (.iaload, 1) := by decide +kernel
theorem d_Fr_remove_51 : decode b_Fr_remove 51 = .ok (.iastore, 1) := by decide +kernel
theorem d_Fr_remove_52 : decode b_Fr_remove 52 = .ok (.iinc 3 1, 3) := by decide +kernel
theorem d_Fr_remove_55 : decode b_Fr_remove 55 = .ok (.goto (-25), 3) := by decide +kernel
theorem d_Fr_remove_58 : decode b_Fr_remove 58 = .ok (.iload_n 2, 1) := by decide +kernel
theorem d_Fr_remove_59 : decode b_Fr_remove 59 = .ok (.ireturn, 1) := by decide +kernel
theorem d_No_beginPause_0 : decode b_No_beginPause 0 = .ok (.aload_n 0, 1) := by decide +kernel
theorem d_No_beginPause_1 : decode b_No_beginPause 1 = .ok (.iconst 5, 1) := by decide +kernel
theorem d_No_beginPause_2 : decode b_No_beginPause 2 = .ok (.putfield 42, 3) := by decide +kernel
theorem d_No_beginPause_5 : decode b_No_beginPause 5 = .ok (.aload_n 0, 1) := by decide +kernel
theorem d_No_beginPause_6 : decode b_No_beginPause 6 = .ok (.iconst 0, 1) := by decide +kernel
theorem d_No_beginPause_7 : decode b_No_beginPause 7 = .ok (.putfield 74, 3) := by decide +kernel
theorem d_No_beginPause_10 : decode b_No_beginPause 10 = .ok (.return_, 1) := by decide +kernel
theorem d_No_seeHearing_0 : decode b_No_seeHearing 0 = .ok (.aload_n 0, 1) := by decide +kernel
theorem d_No_seeHearing_1 : decode b_No_seeHearing 1 = .ok (.getfield 38, 3) := by decide +kernel
theorem d_No_seeHearing_4 : decode b_No_seeHearing 4 = .ok (.iload_n 1, 1) := by decide +kernel
theorem d_No_seeHearing_5 : decode b_No_seeHearing 5 = .ok (.invokevirtual 177, 3) := by decide +kernel
theorem d_No_seeHearing_8 : decode b_No_seeHearing 8 = .ok (.istore_n 2, 1) := by decide +kernel
theorem d_No_seeHearing_9 : decode b_No_seeHearing 9 = .ok (.iload_n 2, 1) := by decide +kernel
theorem d_No_seeHearing_10 : decode b_No_seeHearing 10 = .ok (.ifCond .eq 9, 3) := by decide +kernel
theorem d_No_seeHearing_13 : decode b_No_seeHearing 13 = .ok (.aload_n 0, 1) := by decide +kernel
theorem d_No_seeHearing_14 : decode b_No_seeHearing 14 = .ok (.iload_n 2, 1) := by decide +kernel
theorem d_No_seeHearing_15 : decode b_No_seeHearing 15 = .ok (.invokevirtual 159, 3) := by decide +kernel
theorem d_No_seeHearing_18 : decode b_No_seeHearing 18 = .ok (.ireturn, 1) := by decide +kernel
theorem d_No_seeHearing_19 : decode b_No_seeHearing 19 = .ok (.aload_n 0, 1) := by decide +kernel
theorem d_No_seeHearing_20 : decode b_No_seeHearing 20 = .ok (.getfield 38, 3) := by decide +kernel
theorem d_No_seeHearing_23 : decode b_No_seeHearing 23 = .ok (.iload_n 1, 1) := by decide +kernel
theorem d_No_seeHearing_24 : decode b_No_seeHearing 24 = .ok (.invokevirtual 156, 3) := by decide +kernel
theorem d_No_seeHearing_27 : decode b_No_seeHearing 27 = .ok (.aload_n 0, 1) := by decide +kernel
theorem d_No_seeHearing_28 : decode b_No_seeHearing 28 = .ok (.getfield 38, 3) := by decide +kernel
theorem d_No_seeHearing_31 : decode b_No_seeHearing 31 = .ok (.invokevirtual 165, 3) := by decide +kernel
theorem d_No_seeHearing_34 : decode b_No_seeHearing 34 = .ok (.ifCond .eq 11, 3) := by decide +kernel
theorem d_No_seeHearing_37 : decode b_No_seeHearing 37 = .ok (.aload_n 0, 1) := by decide +kernel
theorem d_No_seeHearing_38 : decode b_No_seeHearing 38 = .ok (.iload_n 1, 1) := by decide +kernel
theorem d_No_seeHearing_39 : decode b_No_seeHearing 39 = .ok (.invokevirtual 180, 3) := by decide +kernel
theorem d_No_seeHearing_42 : decode b_No_seeHearing 42 = .ok (.goto 4, 3) := by decide +kernel
theorem d_No_seeHearing_45 : decode b_No_seeHearing 45 = .ok (.iconst 0, 1) := by decide +kernel
theorem d_No_seeHearing_46 : decode b_No_seeHearing 46 = .ok (.ireturn, 1) := by decide +kernel
theorem d_Re_errorOf_0 : decode b_Re_errorOf 0 = .ok (.aload_n 0, 1) := by decide +kernel
theorem d_Re_errorOf_1 : decode b_Re_errorOf 1 = .ok (.invokevirtual 38, 3) := by decide +kernel
theorem d_Re_errorOf_4 : decode b_Re_errorOf 4 = .ok (.ifCond .eq 17, 3) := by decide +kernel
theorem d_Re_errorOf_7 : decode b_Re_errorOf 7 = .ok (.iload_n 1, 1) := by decide +kernel
theorem d_Re_errorOf_8 : decode b_Re_errorOf 8 = .ok (.aload_n 0, 1) := by decide +kernel
theorem d_Re_errorOf_9 : decode b_Re_errorOf 9 = .ok (.getfield 20, 3) := by decide +kernel
theorem d_Re_errorOf_12 : decode b_Re_errorOf 12 = .ok (.if_icmp .ne 7, 3) := by decide +kernel
theorem d_Re_errorOf_15 : decode b_Re_errorOf 15 = .ok (.iconst 3, 1) := by decide +kernel
theorem d_Re_errorOf_16 : decode b_Re_errorOf 16 = .ok (.goto 4, 3) := by decide +kernel
theorem d_Re_errorOf_19 : decode b_Re_errorOf 19 = .ok (.iconst 0, 1) := by decide +kernel
theorem d_Re_errorOf_20 : decode b_Re_errorOf 20 = .ok (.ireturn, 1) := by decide +kernel
theorem d_Re_errorOf_21 : decode b_Re_errorOf 21 = .ok (.aload_n 0, 1) := by decide +kernel
theorem d_Re_errorOf_22 : decode b_Re_errorOf 22 = .ok (.invokevirtual 42, 3) := by decide +kernel
theorem d_Re_errorOf_25 : decode b_Re_errorOf 25 = .ok (.ifCond .eq 18, 3) := by decide +kernel
theorem d_Re_errorOf_28 : decode b_Re_errorOf 28 = .ok (.aload_n 0, 1) := by decide +kernel
theorem d_Re_errorOf_29 : decode b_Re_errorOf 29 = .ok (.aload_n 0, 1) := by decide +kernel
theorem d_Re_errorOf_30 : decode b_Re_errorOf 30 = .ok (.getfield 9, 3) := by decide +kernel
theorem d_Re_errorOf_33 : decode b_Re_errorOf 33 = .ok (.aload_n 0, 1) := by decide +kernel
theorem d_Re_errorOf_34 : decode b_Re_errorOf 34 = .ok (.getfield 17, 3) := by decide +kernel
theorem d_Re_errorOf_37 : decode b_Re_errorOf 37 = .ok (.isub, 1) := by decide +kernel
theorem d_Re_errorOf_38 : decode b_Re_errorOf 38 = .ok (.iload_n 1, 1) := by decide +kernel
theorem d_Re_errorOf_39 : decode b_Re_errorOf 39 = .ok (.invokevirtual 66, 3) := by decide +kernel
theorem d_Re_errorOf_42 : decode b_Re_errorOf 42 = .ok (.ireturn, 1) := by decide +kernel
theorem d_Re_errorOf_43 : decode b_Re_errorOf 43 = .ok (.aload_n 0, 1) := by decide +kernel
theorem d_Re_errorOf_44 : decode b_Re_errorOf 44 = .ok (.getfield 9, 3) := by decide +kernel
theorem d_Re_errorOf_47 : decode b_Re_errorOf 47 = .ok (.bipush 12, 2) := by decide +kernel
theorem d_Re_errorOf_49 : decode b_Re_errorOf 49 = .ok (.if_icmp .lt 20, 3) := by decide +kernel
theorem d_Re_errorOf_52 : decode b_Re_errorOf 52 = .ok (.aload_n 0, 1) := by decide +kernel
theorem d_Re_errorOf_53 : decode b_Re_errorOf 53 = .ok (.getfield 9, 3) := by decide +kernel
theorem d_Re_errorOf_56 : decode b_Re_errorOf 56 = .ok (.bipush 15, 2) := by decide +kernel
theorem d_Re_errorOf_58 : decode b_Re_errorOf 58 = .ok (.if_icmp .ge 11, 3) := by decide +kernel
theorem d_Re_errorOf_61 : decode b_Re_errorOf 61 = .ok (.iload_n 1, 1) := by decide +kernel
theorem d_Re_errorOf_62 : decode b_Re_errorOf 62 = .ok (.ifCond .eq 7, 3) := by decide +kernel
theorem d_Re_errorOf_65 : decode b_Re_errorOf 65 = .ok (.iconst 1, 1) := by decide +kernel
theorem d_Re_errorOf_66 : decode b_Re_errorOf 66 = .ok (.goto 4, 3) := by decide +kernel
theorem d_Re_errorOf_69 : decode b_Re_errorOf 69 = .ok (.iconst 0, 1) := by decide +kernel
theorem d_Re_errorOf_70 : decode b_Re_errorOf 70 = .ok (.istore_n 2, 1) := by decide +kernel
theorem d_Re_errorOf_71 : decode b_Re_errorOf 71 = .ok (.aload_n 0, 1) := by decide +kernel
theorem d_Re_errorOf_72 : decode b_Re_errorOf 72 = .ok (.getfield 9, 3) := by decide +kernel
theorem d_Re_errorOf_75 : decode b_Re_errorOf 75 = .ok (.bipush 18, 2) := by decide +kernel
theorem d_Re_errorOf_77 : decode b_Re_errorOf 77 = .ok (.if_icmp .ne 19, 3) := by decide +kernel
theorem d_Re_errorOf_80 : decode b_Re_errorOf 80 = .ok (.aload_n 0, 1) := by decide +kernel
theorem d_Re_errorOf_81 : decode b_Re_errorOf 81 = .ok (.getfield 32, 3) := by decide +kernel
theorem d_Re_errorOf_84 : decode b_Re_errorOf 84 = .ok (.iconst 1, 1) := by decide +kernel
theorem d_Re_errorOf_85 : decode b_Re_errorOf 85 = .ok (.ishl, 1) := by decide +kernel
theorem d_Re_errorOf_86 : decode b_Re_errorOf 86 = .ok (.iload_n 1, 1) := by decide +kernel
theorem d_Re_errorOf_87 : decode b_Re_errorOf 87 = .ok (.ior, 1) := by decide +kernel
theorem d_Re_errorOf_88 : decode b_Re_errorOf 88 = .ok (.iconst 2, 1) := by decide +kernel
theorem d_Re_errorOf_89 : decode b_Re_errorOf 89 = .ok (.if_icmp .le 7, 3) := by decide +kernel
theorem d_Re_errorOf_92 : decode b_Re_errorOf 92 = .ok (.iconst 1, 1) := by decide +kernel
theorem d_Re_errorOf_93 : decode b_Re_errorOf 93 = .ok (.goto 4, 3) := by decide +kernel
theorem d_Re_errorOf_96 : decode b_Re_errorOf 96 = .ok (.iconst 0, 1) := by decide +kernel
theorem d_Re_errorOf_97 : decode b_Re_errorOf 97 = .ok (.istore_n 3, 1) := by decide +kernel
theorem d_Re_errorOf_98 : decode b_Re_errorOf 98 = .ok (.iload_n 2, 1) := by decide +kernel
theorem d_Re_errorOf_99 : decode b_Re_errorOf 99 = .ok (.ifCond .ne 7, 3) := by decide +kernel
theorem d_Re_errorOf_102 : decode b_Re_errorOf 102 = .ok (.iload_n 3, 1) := by decide +kernel
theorem d_Re_errorOf_103 : decode b_Re_errorOf 103 = .ok (.ifCond .eq 7, 3) := by decide +kernel
theorem d_Re_errorOf_106 : decode b_Re_errorOf 106 = .ok (.iconst 4, 1) := by decide +kernel
theorem d_Re_errorOf_107 : decode b_Re_errorOf 107 = .ok (.goto 4, 3) := by decide +kernel
theorem d_Re_errorOf_110 : decode b_Re_errorOf 110 = .ok (.iconst 0, 1) := by decide +kernel
theorem d_Re_errorOf_111 : decode b_Re_errorOf 111 = .ok (.ireturn, 1) := by decide +kernel
theorem d_Re_errorBehindCore_0 : decode b_Re_errorBehindCore 0 = .ok (.iload_n 1, 1) := by decide +kernel
theorem d_Re_errorBehindCore_1 : decode b_Re_errorBehindCore 1 = .ok (.iconst 2, 1) := by decide +kernel
theorem d_Re_errorBehindCore_2 : decode b_Re_errorBehindCore 2 = .ok (.if_icmp .ne 12, 3) := by decide +kernel
theorem d_Re_errorBehindCore_5 : decode b_Re_errorBehindCore 5 = .ok (.aload_n 0, 1) := by decide +kernel
theorem d_Re_errorBehindCore_6 : decode b_Re_errorBehindCore 6 = .ok (.invokevirtual 69, 3) := by decide +kernel
theorem d_Re_errorBehindCore_9 : decode b_Re_errorBehindCore 9 = .ok (.ifCond .ne 5, 3) := by decide +kernel
theorem d_Re_errorBehindCore_12 : decode b_Re_errorBehindCore 12 = .ok (.iconst 5, 1) := by decide +kernel
theorem d_Re_errorBehindCore_13 : decode b_Re_errorBehindCore 13 = .ok (.ireturn, 1) := by decide +kernel
theorem d_Re_errorBehindCore_14 : decode b_Re_errorBehindCore 14 = .ok (.iload_n 1, 1) := by decide +kernel
theorem d_Re_errorBehindCore_15 : decode b_Re_errorBehindCore 15 = .ok (.iconst 1, 1) := by decide +kernel
theorem d_Re_errorBehindCore_16 : decode b_Re_errorBehindCore 16 = .ok (.if_icmp .eq 9, 3) := by decide +kernel
theorem d_Re_errorBehindCore_19 : decode b_Re_errorBehindCore 19 = .ok (.iload_n 1, 1) := by decide +kernel
theorem d_Re_errorBehindCore_20 : decode b_Re_errorBehindCore 20 = .ok (.bipush 9, 2) := by decide +kernel
theorem d_Re_errorBehindCore_22 : decode b_Re_errorBehindCore 22 = .ok (.if_icmp .lt 7, 3) := by decide +kernel
theorem d_Re_errorBehindCore_25 : decode b_Re_errorBehindCore 25 = .ok (.iconst 1, 1) := by decide +kernel
theorem d_Re_errorBehindCore_26 : decode b_Re_errorBehindCore 26 = .ok (.goto 4, 3) := by decide +kernel
theorem d_Re_errorBehindCore_29 : decode b_Re_errorBehindCore 29 = .ok (.iconst 0, 1) := by decide +kernel
theorem d_Re_errorBehindCore_30 : decode b_Re_errorBehindCore 30 = .ok (.istore_n 3, 1) := by decide +kernel
theorem d_Re_errorBehindCore_31 : decode b_Re_errorBehindCore 31 = .ok (.iload_n 2, 1) := by decide +kernel
theorem d_Re_errorBehindCore_32 : decode b_Re_errorBehindCore 32 = .ok (.ifCond .ne 11, 3) := by decide +kernel
theorem d_Re_errorBehindCore_35 : decode b_Re_errorBehindCore 35 = .ok (.iload_n 3, 1) := by decide +kernel
theorem d_Re_errorBehindCore_36 : decode b_Re_errorBehindCore 36 = .ok (.ifCond .ne 7, 3) := by decide +kernel
theorem d_Re_errorBehindCore_39 : decode b_Re_errorBehindCore 39 = .ok (.iconst 4, 1) := by decide +kernel
theorem d_Re_errorBehindCore_40 : decode b_Re_errorBehindCore 40 = .ok (.goto 4, 3) := by decide +kernel
theorem d_Re_errorBehindCore_43 : decode b_Re_errorBehindCore 43 = .ok (.iconst 0, 1) := by decide +kernel
theorem d_Re_errorBehindCore_44 : decode b_Re_errorBehindCore 44 = .ok (.ireturn, 1) := by decide +kernel
theorem d_No_endHearing_0 : decode b_No_endHearing 0 = .ok (.aload_n 0, 1) := by decide +kernel
theorem d_No_endHearing_1 : decode b_No_endHearing 1 = .ok (.getfield 52, 3) := by decide +kernel
theorem d_No_endHearing_4 : decode b_No_endHearing 4 = .ok (.ifCond .le 18, 3) := by decide +kernel
theorem d_No_endHearing_7 : decode b_No_endHearing 7 = .ok (.aload_n 0, 1) := by decide +kernel
theorem d_No_endHearing_8 : decode b_No_endHearing 8 = .ok (.aload_n 0, 1) := by decide +kernel
theorem d_No_endHearing_9 : decode b_No_endHearing 9 = .ok (.getfield 52, 3) := by decide +kernel
theorem d_No_endHearing_12 : decode b_No_endHearing 12 = .ok (.iconst 1, 1) := by decide +kernel
theorem d_No_endHearing_13 : decode b_No_endHearing 13 = .ok (.isub, 1) := by decide +kernel
theorem d_No_endHearing_14 : decode b_No_endHearing 14 = .ok (.bipush 127, 2) := by decide +kernel
theorem d_No_endHearing_16 : decode b_No_endHearing 16 = .ok (.invokestatic 183, 3) := by decide +kernel
theorem d_No_endHearing_19 : decode b_No_endHearing 19 = .ok (.putfield 52, 3) := by decide +kernel
theorem d_No_endHearing_22 : decode b_No_endHearing 22 = .ok (.aload_n 0, 1) := by decide +kernel
theorem d_No_endHearing_23 : decode b_No_endHearing 23 = .ok (.getfield 38, 3) := by decide +kernel
theorem d_No_endHearing_26 : decode b_No_endHearing 26 = .ok (.getfield 189, 3) := by decide +kernel
theorem d_No_endHearing_29 : decode b_No_endHearing 29 = .ok (.aload_n 0, 1) := by decide +kernel
theorem d_No_endHearing_30 : decode b_No_endHearing 30 = .ok (.getfield 58, 3) := by decide +kernel
theorem d_No_endHearing_33 : decode b_No_endHearing 33 = .ok (.iand, 1) := by decide +kernel
theorem d_No_endHearing_34 : decode b_No_endHearing 34 = .ok (.aload_n 0, 1) := by decide +kernel
theorem d_No_endHearing_35 : decode b_No_endHearing 35 = .ok (.getfield 61, 3) := by decide +kernel
theorem d_No_endHearing_38 : decode b_No_endHearing 38 = .ok (.if_icmp .ne 14, 3) := by decide +kernel
theorem d_No_endHearing_41 : decode b_No_endHearing 41 = .ok (.aload_n 0, 1) := by decide +kernel
theorem d_No_endHearing_42 : decode b_No_endHearing 42 = .ok (.aload_n 0, 1) := by decide +kernel
theorem d_No_endHearing_43 : decode b_No_endHearing 43 = .ok (.getfield 38, 3) := by decide +kernel
theorem d_No_endHearing_46 : decode b_No_endHearing 46 = .ok (.invokevirtual 192, 3) := by decide +kernel
theorem d_No_endHearing_49 : decode b_No_endHearing 49 = .ok (.invokevirtual 195, 3) := by decide +kernel
theorem d_No_endHearing_52 : decode b_No_endHearing 52 = .ok (.iload_n 1, 1) := by decide +kernel
theorem d_No_endHearing_53 : decode b_No_endHearing 53 = .ok (.ifCond .ne 8, 3) := by decide +kernel
theorem d_No_endHearing_56 : decode b_No_endHearing 56 = .ok (.aload_n 0, 1) := by decide +kernel
theorem d_No_endHearing_57 : decode b_No_endHearing 57 = .ok (.invokevirtual 198, 3) := by decide +kernel
theorem d_No_endHearing_60 : decode b_No_endHearing 60 = .ok (.ireturn, 1) := by decide +kernel
theorem d_No_endHearing_61 : decode b_No_endHearing 61 = .ok (.aload_n 0, 1) := by decide +kernel
theorem d_No_endHearing_62 : decode b_No_endHearing 62 = .ok (.invokevirtual 174, 3) := by decide +kernel
theorem d_No_endHearing_65 : decode b_No_endHearing 65 = .ok (.iconst 0, 1) := by decide +kernel
theorem d_No_endHearing_66 : decode b_No_endHearing 66 = .ok (.ireturn, 1) := by decide +kernel
theorem d_Re_frame_0 : decode b_Re_frame 0 = .ok (.aload_n 0, 1) := by decide +kernel
theorem d_Re_frame_1 : decode b_Re_frame 1 = .ok (.getfield 29, 3) := by decide +kernel
theorem d_Re_frame_4 : decode b_Re_frame 4 = .ok (.aload_n 0, 1) := by decide +kernel
theorem d_Re_frame_5 : decode b_Re_frame 5 = .ok (.getfield 32, 3) := by decide +kernel
theorem d_Re_frame_8 : decode b_Re_frame 8 = .ok (.aload_n 0, 1) := by decide +kernel
theorem d_Re_frame_9 : decode b_Re_frame 9 = .ok (.getfield 35, 3) := by decide +kernel
theorem d_Re_frame_12 : decode b_Re_frame 12 = .ok (.invokestatic 45, 3) := by decide +kernel
theorem d_Re_frame_15 : decode b_Re_frame 15 = .ok (.ireturn, 1) := by decide +kernel
theorem d_No_keep_0 : decode b_No_keep 0 = .ok (.aload_n 0, 1) := by decide +kernel
theorem d_No_keep_1 : decode b_No_keep 1 = .ok (.getfield 18, 3) := by decide +kernel
theorem d_No_keep_4 : decode b_No_keep 4 = .ok (.invokevirtual 201, 3) := by decide +kernel
theorem d_No_keep_7 : decode b_No_keep 7 = .ok (.ifCond .eq 16, 3) := by decide +kernel
theorem d_No_keep_10 : decode b_No_keep 10 = .ok (.aload_n 0, 1) := by decide +kernel
theorem d_No_keep_11 : decode b_No_keep 11 = .ok (.dup, 1) := by decide +kernel
theorem d_No_keep_12 : decode b_No_keep 12 = .ok (.getfield 55, 3) := by decide +kernel
theorem d_No_keep_15 : decode b_No_keep 15 = .ok (.iconst 1, 1) := by decide +kernel
theorem d_No_keep_16 : decode b_No_keep 16 = .ok (.iadd, 1) := by decide +kernel
theorem d_No_keep_17 : decode b_No_keep 17 = .ok (.putfield 55, 3) := by decide +kernel
theorem d_No_keep_20 : decode b_No_keep 20 = .ok (.goto 11, 3) := by decide +kernel
theorem d_No_keep_23 : decode b_No_keep 23 = .ok (.aload_n 0, 1) := by decide +kernel
theorem d_No_keep_24 : decode b_No_keep 24 = .ok (.getfield 18, 3) := by decide +kernel
theorem d_No_keep_27 : decode b_No_keep 27 = .ok (.iload_n 1, 1) := by decide +kernel
theorem d_No_keep_28 : decode b_No_keep 28 = .ok (.invokevirtual 204, 3) := by decide +kernel
theorem d_No_keep_31 : decode b_No_keep 31 = .ok (.return_, 1) := by decide +kernel
theorem d_No_overload_0 : decode b_No_overload 0 = .ok (.aload_n 0, 1) := by decide +kernel
theorem d_No_overload_1 : decode b_No_overload 1 = .ok (.iconst 0, 1) := by decide +kernel
theorem d_No_overload_2 : decode b_No_overload 2 = .ok (.putfield 46, 3) := by decide +kernel
theorem d_No_overload_5 : decode b_No_overload 5 = .ok (.aload_n 0, 1) := by decide +kernel
theorem d_No_overload_6 : decode b_No_overload 6 = .ok (.iconst 0, 1) := by decide +kernel
theorem d_No_overload_7 : decode b_No_overload 7 = .ok (.invokevirtual 210, 3) := by decide +kernel
theorem d_No_overload_10 : decode b_No_overload 10 = .ok (.bipush 7, 2) := by decide +kernel
theorem d_No_overload_12 : decode b_No_overload 12 = .ok (.ireturn, 1) := by decide +kernel
theorem d_No_seeInFlag_0 : decode b_No_seeInFlag 0 = .ok (.aload_n 0, 1) := by decide +kernel
theorem d_No_seeInFlag_1 : decode b_No_seeInFlag 1 = .ok (.dup, 1) := by decide +kernel
theorem d_No_seeInFlag_2 : decode b_No_seeInFlag 2 = .ok (.getfield 74, 3) := by decide +kernel
theorem d_No_seeInFlag_5 : decode b_No_seeInFlag 5 = .ok (.iconst 1, 1) := by decide +kernel
theorem d_No_seeInFlag_6 : decode b_No_seeInFlag 6 = .ok (.iadd, 1) := by decide +kernel
theorem d_No_seeInFlag_7 : decode b_No_seeInFlag 7 = .ok (.putfield 74, 3) := by decide +kernel
theorem d_No_seeInFlag_10 : decode b_No_seeInFlag 10 = .ok (.aload_n 0, 1) := by decide +kernel
theorem d_No_seeInFlag_11 : decode b_No_seeInFlag 11 = .ok (.getfield 74, 3) := by decide +kernel
theorem d_No_seeInFlag_14 : decode b_No_seeInFlag 14 = .ok (.bipush 6, 2) := by decide +kernel
theorem d_No_seeInFlag_16 : decode b_No_seeInFlag 16 = .ok (.if_icmp .lt 18, 3) := by decide +kernel
theorem d_No_seeInFlag_19 : decode b_No_seeInFlag 19 = .ok (.aload_n 0, 1) := by decide +kernel
theorem d_No_seeInFlag_20 : decode b_No_seeInFlag 20 = .ok (.iconst 4, 1) := by decide +kernel
theorem d_No_seeInFlag_21 : decode b_No_seeInFlag 21 = .ok (.putfield 42, 3) := by decide +kernel
theorem d_No_seeInFlag_24 : decode b_No_seeInFlag 24 = .ok (.aload_n 0, 1) := by decide +kernel
theorem d_No_seeInFlag_25 : decode b_No_seeInFlag 25 = .ok (.iconst 0, 1) := by decide +kernel
theorem d_No_seeInFlag_26 : decode b_No_seeInFlag 26 = .ok (.putfield 74, 3) := by decide +kernel
theorem d_No_seeInFlag_29 : decode b_No_seeInFlag 29 = .ok (.aload_n 0, 1) := by decide +kernel
theorem d_No_seeInFlag_30 : decode b_No_seeInFlag 30 = .ok (.iconst 0, 1) := by decide +kernel
theorem d_No_seeInFlag_31 : decode b_No_seeInFlag 31 = .ok (.putfield 77, 3) := by decide +kernel
theorem d_No_seeInFlag_34 : decode b_No_seeInFlag 34 = .ok (.aload_n 0, 1) := by decide +kernel
theorem d_No_seeInFlag_35 : decode b_No_seeInFlag 35 = .ok (.getfield 67, 3) := by decide +kernel
theorem d_No_seeInFlag_38 : decode b_No_seeInFlag 38 = .ok (.ifCond .ne 12, 3) := by decide +kernel
theorem d_No_seeInFlag_41 : decode b_No_seeInFlag 41 = .ok (.iload_n 1, 1) := by decide +kernel
theorem d_No_seeInFlag_42 : decode b_No_seeInFlag 42 = .ok (.iconst 1, 1) := by decide +kernel
theorem d_No_seeInFlag_43 : decode b_No_seeInFlag 43 = .ok (.if_icmp .ne 7, 3) := by decide +kernel
theorem d_No_seeInFlag_46 : decode b_No_seeInFlag 46 = .ok (.aload_n 0, 1) := by decide +kernel
theorem d_No_seeInFlag_47 : decode b_No_seeInFlag 47 = .ok (.invokevirtual 217, 3) := by decide +kernel
theorem d_No_seeInFlag_50 : decode b_No_seeInFlag 50 = .ok (.iconst 0, 1) := by decide +kernel
theorem d_No_seeInFlag_51 : decode b_No_seeInFlag 51 = .ok (.ireturn, 1) := by decide +kernel
theorem d_No_countHeavily_0 : decode b_No_countHeavily 0 = .ok (.aload_n 0, 1) := by decide +kernel
theorem d_No_countHeavily_1 : decode b_No_countHeavily 1 = .ok (.getfield 46, 3) := by decide +kernel
theorem d_No_countHeavily_4 : decode b_No_countHeavily 4 = .ok (.iconst 1, 1) := by decide +kernel
theorem d_No_countHeavily_5 : decode b_No_countHeavily 5 = .ok (.if_icmp .ne 17, 3) := by decide +kernel
theorem d_No_countHeavily_8 : decode b_No_countHeavily 8 = .ok (.aload_n 0, 1) := by decide +kernel
theorem d_No_countHeavily_9 : decode b_No_countHeavily 9 = .ok (.dup, 1) := by decide +kernel
theorem d_No_countHeavily_10 : decode b_No_countHeavily 10 = .ok (.getfield 49, 3) := by decide +kernel
theorem d_No_countHeavily_13 : decode b_No_countHeavily 13 = .ok (.bipush 8, 2) := by decide +kernel
theorem d_No_countHeavily_15 : decode b_No_countHeavily 15 = .ok (.iadd, 1) := by decide +kernel
theorem d_No_countHeavily_16 : decode b_No_countHeavily 16 = .ok (.putfield 49, 3) := by decide +kernel
theorem d_No_countHeavily_19 : decode b_No_countHeavily 19 = .ok (.goto 22, 3) := by decide +kernel
theorem d_No_countHeavily_22 : decode b_No_countHeavily 22 = .ok (.aload_n 0, 1) := by decide +kernel
theorem d_No_countHeavily_23 : decode b_No_countHeavily 23 = .ok (.getfield 46, 3) := by decide +kernel
theorem d_No_countHeavily_26 : decode b_No_countHeavily 26 = .ok (.iconst 2, 1) := by decide +kernel
theorem d_No_countHeavily_27 : decode b_No_countHeavily 27 = .ok (.if_icmp .ne 14, 3) := by decide +kernel
theorem d_No_countHeavily_30 : decode b_No_countHeavily 30 = .ok (.aload_n 0, 1) := by decide +kernel
theorem d_No_countHeavily_31 : decode b_No_countHeavily 31 = .ok (.dup, 1) := by decide +kernel
theorem d_No_countHeavily_32 : decode b_No_countHeavily 32 = .ok (.getfield 52, 3) := by decide +kernel
theorem d_No_countHeavily_35 : decode b_No_countHeavily 35 = .ok (.bipush 8, 2) := by decide +kernel
theorem d_No_countHeavily_37 : decode b_No_countHeavily 37 = .ok (.iadd, 1) := by decide +kernel
theorem d_No_countHeavily_38 : decode b_No_countHeavily 38 = .ok (.putfield 52, 3) := by decide +kernel
theorem d_No_countHeavily_41 : decode b_No_countHeavily 41 = .ok (.aload_n 0, 1) := by decide +kernel
theorem d_No_countHeavily_42 : decode b_No_countHeavily 42 = .ok (.invokevirtual 214, 3) := by decide +kernel
theorem d_No_countHeavily_45 : decode b_No_countHeavily 45 = .ok (.return_, 1) := by decide +kernel
theorem d_No_seeAfter_0 : decode b_No_seeAfter 0 = .ok (.iload_n 1, 1) := by decide +kernel
theorem d_No_seeAfter_1 : decode b_No_seeAfter 1 = .ok (.iconst 1, 1) := by decide +kernel
theorem d_No_seeAfter_2 : decode b_No_seeAfter 2 = .ok (.if_icmp .ne 28, 3) := by decide +kernel
theorem d_No_seeAfter_5 : decode b_No_seeAfter 5 = .ok (.aload_n 0, 1) := by decide +kernel
theorem d_No_seeAfter_6 : decode b_No_seeAfter 6 = .ok (.dup, 1) := by decide +kernel
theorem d_No_seeAfter_7 : decode b_No_seeAfter 7 = .ok (.getfield 77, 3) := by decide +kernel
theorem d_No_seeAfter_10 : decode b_No_seeAfter 10 = .ok (.iconst 1, 1) := by decide +kernel
theorem d_No_seeAfter_11 : decode b_No_seeAfter 11 = .ok (.iadd, 1) := by decide +kernel
theorem d_No_seeAfter_12 : decode b_No_seeAfter 12 = .ok (.putfield 77, 3) := by decide +kernel
theorem d_No_seeAfter_15 : decode b_No_seeAfter 15 = .ok (.aload_n 0, 1) := by decide +kernel
theorem d_No_seeAfter_16 : decode b_No_seeAfter 16 = .ok (.getfield 77, 3) := by decide +kernel
theorem d_No_seeAfter_19 : decode b_No_seeAfter 19 = .ok (.bipush 8, 2) := by decide +kernel
theorem d_No_seeAfter_21 : decode b_No_seeAfter 21 = .ok (.if_icmp .lt 7, 3) := by decide +kernel
theorem d_No_seeAfter_24 : decode b_No_seeAfter 24 = .ok (.aload_n 0, 1) := by decide +kernel
theorem d_No_seeAfter_25 : decode b_No_seeAfter 25 = .ok (.invokevirtual 174, 3) := by decide +kernel
theorem d_No_seeAfter_28 : decode b_No_seeAfter 28 = .ok (.iconst 0, 1) := by decide +kernel
theorem d_No_seeAfter_29 : decode b_No_seeAfter 29 = .ok (.ireturn, 1) := by decide +kernel
theorem d_No_seeAfter_30 : decode b_No_seeAfter 30 = .ok (.aload_n 0, 1) := by decide +kernel
theorem d_No_seeAfter_31 : decode b_No_seeAfter 31 = .ok (.getfield 77, 3) := by decide +kernel
theorem d_No_seeAfter_34 : decode b_No_seeAfter 34 = .ok (.ifCond .le 23, 3) := by decide +kernel
theorem d_No_seeAfter_37 : decode b_No_seeAfter 37 = .ok (.aload_n 0, 1) := by decide +kernel
theorem d_No_seeAfter_38 : decode b_No_seeAfter 38 = .ok (.getfield 46, 3) := by decide +kernel
theorem d_No_seeAfter_41 : decode b_No_seeAfter 41 = .ok (.ifCond .ne 10, 3) := by decide +kernel
theorem d_No_seeAfter_44 : decode b_No_seeAfter 44 = .ok (.aload_n 0, 1) := by decide +kernel
theorem d_No_seeAfter_45 : decode b_No_seeAfter 45 = .ok (.invokevirtual 198, 3) := by decide +kernel
theorem d_No_seeAfter_48 : decode b_No_seeAfter 48 = .ok (.goto 8, 3) := by decide +kernel
theorem d_No_seeAfter_51 : decode b_No_seeAfter 51 = .ok (.aload_n 0, 1) := by decide +kernel
theorem d_No_seeAfter_52 : decode b_No_seeAfter 52 = .ok (.iconst 4, 1) := by decide +kernel
theorem d_No_seeAfter_53 : decode b_No_seeAfter 53 = .ok (.invokevirtual 159, 3) := by decide +kernel
theorem d_No_seeAfter_56 : decode b_No_seeAfter 56 = .ok (.ireturn, 1) := by decide +kernel
theorem d_No_seeAfter_57 : decode b_No_seeAfter 57 = .ok (.aload_n 0, 1) := by decide +kernel
theorem d_No_seeAfter_58 : decode b_No_seeAfter 58 = .ok (.dup, 1) := by decide +kernel
theorem d_No_seeAfter_59 : decode b_No_seeAfter 59 = .ok (.getfield 74, 3) := by decide +kernel
theorem d_No_seeAfter_62 : decode b_No_seeAfter 62 = .ok (.iconst 1, 1) := by decide +kernel
theorem d_No_seeAfter_63 : decode b_No_seeAfter 63 = .ok (.iadd, 1) := by decide +kernel
theorem d_No_seeAfter_64 : decode b_No_seeAfter 64 = .ok (.putfield 74, 3) := by decide +kernel
theorem d_No_seeAfter_67 : decode b_No_seeAfter 67 = .ok (.aload_n 0, 1) := by decide +kernel
theorem d_No_seeAfter_68 : decode b_No_seeAfter 68 = .ok (.getfield 74, 3) := by decide +kernel
theorem d_No_seeAfter_71 : decode b_No_seeAfter 71 = .ok (.iconst 1, 1) := by decide +kernel
theorem d_No_seeAfter_72 : decode b_No_seeAfter 72 = .ok (.if_icmp .ne 22, 3) := by decide +kernel
theorem d_No_seeAfter_75 : decode b_No_seeAfter 75 = .ok (.aload_n 0, 1) := by decide +kernel
theorem d_No_seeAfter_76 : decode b_No_seeAfter 76 = .ok (.getfield 46, 3) := by decide +kernel
theorem d_No_seeAfter_79 : decode b_No_seeAfter 79 = .ok (.iconst 2, 1) := by decide +kernel
theorem d_No_seeAfter_80 : decode b_No_seeAfter 80 = .ok (.if_icmp .ne 14, 3) := by decide +kernel
theorem d_No_seeAfter_83 : decode b_No_seeAfter 83 = .ok (.aload_n 0, 1) := by decide +kernel
theorem d_No_seeAfter_84 : decode b_No_seeAfter 84 = .ok (.dup, 1) := by decide +kernel
theorem d_No_seeAfter_85 : decode b_No_seeAfter 85 = .ok (.getfield 52, 3) := by decide +kernel
theorem d_No_seeAfter_88 : decode b_No_seeAfter 88 = .ok (.bipush 8, 2) := by decide +kernel
theorem d_No_seeAfter_90 : decode b_No_seeAfter 90 = .ok (.iadd, 1) := by decide +kernel
theorem d_No_seeAfter_91 : decode b_No_seeAfter 91 = .ok (.putfield 52, 3) := by decide +kernel
theorem d_No_seeAfter_94 : decode b_No_seeAfter 94 = .ok (.aload_n 0, 1) := by decide +kernel
theorem d_No_seeAfter_95 : decode b_No_seeAfter 95 = .ok (.getfield 74, 3) := by decide +kernel
theorem d_No_seeAfter_98 : decode b_No_seeAfter 98 = .ok (.bipush 8, 2) := by decide +kernel
theorem d_No_seeAfter_100 : decode b_No_seeAfter 100 = .ok (.irem, 1) := by decide +kernel
theorem d_No_seeAfter_101 : decode b_No_seeAfter 101 = .ok (.ifCond .ne 7, 3) := by decide +kernel
theorem d_No_seeAfter_104 : decode b_No_seeAfter 104 = .ok (.aload_n 0, 1) := by decide +kernel
theorem d_No_seeAfter_105 : decode b_No_seeAfter 105 = .ok (.invokevirtual 217, 3) := by decide +kernel
theorem d_No_seeAfter_108 : decode b_No_seeAfter 108 = .ok (.iconst 0, 1) := by decide +kernel
theorem d_No_seeAfter_109 : decode b_No_seeAfter 109 = .ok (.ireturn, 1) := by decide +kernel
theorem d_No_seeInPause_0 : decode b_No_seeInPause 0 = .ok (.aload_n 0, 1) := by decide +kernel
theorem d_No_seeInPause_1 : decode b_No_seeInPause 1 = .ok (.dup, 1) := by decide +kernel
theorem d_No_seeInPause_2 : decode b_No_seeInPause 2 = .ok (.getfield 74, 3) := by decide +kernel
theorem d_No_seeInPause_5 : decode b_No_seeInPause 5 = .ok (.iconst 1, 1) := by decide +kernel
theorem d_No_seeInPause_6 : decode b_No_seeInPause 6 = .ok (.iadd, 1) := by decide +kernel
theorem d_No_seeInPause_7 : decode b_No_seeInPause 7 = .ok (.putfield 74, 3) := by decide +kernel
theorem d_No_seeInPause_10 : decode b_No_seeInPause 10 = .ok (.iload_n 1, 1) := by decide +kernel
theorem d_No_seeInPause_11 : decode b_No_seeInPause 11 = .ok (.ifCond .ne 23, 3) := by decide +kernel
theorem d_No_seeInPause_14 : decode b_No_seeInPause 14 = .ok (.aload_n 0, 1) := by decide +kernel
theorem d_No_seeInPause_15 : decode b_No_seeInPause 15 = .ok (.getfield 74, 3) := by decide +kernel
theorem d_No_seeInPause_18 : decode b_No_seeInPause 18 = .ok (.iconst 3, 1) := by decide +kernel
theorem d_No_seeInPause_19 : decode b_No_seeInPause 19 = .ok (.if_icmp .ge 10, 3) := by decide +kernel
theorem d_No_seeInPause_22 : decode b_No_seeInPause 22 = .ok (.aload_n 0, 1) := by decide +kernel
theorem d_No_seeInPause_23 : decode b_No_seeInPause 23 = .ok (.invokevirtual 198, 3) := by decide +kernel
theorem d_No_seeInPause_26 : decode b_No_seeInPause 26 = .ok (.goto 7, 3) := by decide +kernel
theorem d_No_seeInPause_29 : decode b_No_seeInPause 29 = .ok (.aload_n 0, 1) := by decide +kernel
theorem d_No_seeInPause_30 : decode b_No_seeInPause 30 = .ok (.invokevirtual 140, 3) := by decide +kernel
theorem d_No_seeInPause_33 : decode b_No_seeInPause 33 = .ok (.ireturn, 1) := by decide +kernel
theorem d_No_seeInPause_34 : decode b_No_seeInPause 34 = .ok (.aload_n 0, 1) := by decide +kernel
theorem d_No_seeInPause_35 : decode b_No_seeInPause 35 = .ok (.getfield 74, 3) := by decide +kernel
theorem d_No_seeInPause_38 : decode b_No_seeInPause 38 = .ok (.iconst 3, 1) := by decide +kernel
theorem d_No_seeInPause_39 : decode b_No_seeInPause 39 = .ok (.if_icmp .lt 33, 3) := by decide +kernel
theorem d_No_seeInPause_42 : decode b_No_seeInPause 42 = .ok (.aload_n 0, 1) := by decide +kernel
theorem d_No_seeInPause_43 : decode b_No_seeInPause 43 = .ok (.aload_n 0, 1) := by decide +kernel
theorem d_No_seeInPause_44 : decode b_No_seeInPause 44 = .ok (.invokevirtual 207, 3) := by decide +kernel
theorem d_No_seeInPause_47 : decode b_No_seeInPause 47 = .ok (.ifCond .eq 16, 3) := by decide +kernel
theorem d_No_seeInPause_50 : decode b_No_seeInPause 50 = .ok (.aload_n 0, 1) := by decide +kernel
theorem d_No_seeInPause_51 : decode b_No_seeInPause 51 = .ok (.getfield 46, 3) := by decide +kernel
theorem d_No_seeInPause_54 : decode b_No_seeInPause 54 = .ok (.iconst 1, 1) := by decide +kernel
theorem d_No_seeInPause_55 : decode b_No_seeInPause 55 = .ok (.if_icmp .ne 8, 3) := by decide +kernel
theorem d_No_seeInPause_58 : decode b_No_seeInPause 58 = .ok (.bipush 6, 2) := by decide +kernel
theorem d_No_seeInPause_60 : decode b_No_seeInPause 60 = .ok (.goto 4, 3) := by decide +kernel
theorem d_No_seeInPause_63 : decode b_No_seeInPause 63 = .ok (.iconst 0, 1) := by decide +kernel
theorem d_No_seeInPause_64 : decode b_No_seeInPause 64 = .ok (.putfield 42, 3) := by decide +kernel
theorem d_No_seeInPause_67 : decode b_No_seeInPause 67 = .ok (.aload_n 0, 1) := by decide +kernel
theorem d_No_seeInPause_68 : decode b_No_seeInPause 68 = .ok (.iconst 0, 1) := by decide +kernel
theorem d_No_seeInPause_69 : decode b_No_seeInPause 69 = .ok (.putfield 77, 3) := by decide +kernel
theorem d_No_seeInPause_72 : decode b_No_seeInPause 72 = .ok (.iconst 0, 1) := by decide +kernel
theorem d_No_seeInPause_73 : decode b_No_seeInPause 73 = .ok (.ireturn, 1) := by decide +kernel
theorem d_No_beginToHear_0 : decode b_No_beginToHear 0 = .ok (.aload_n 0, 1) := by decide +kernel
theorem d_No_beginToHear_1 : decode b_No_beginToHear 1 = .ok (.getfield 38, 3) := by decide +kernel
theorem d_No_beginToHear_4 : decode b_No_beginToHear 4 = .ok (.invokevirtual 153, 3) := by decide +kernel
theorem d_No_beginToHear_7 : decode b_No_beginToHear 7 = .ok (.aload_n 0, 1) := by decide +kernel
theorem d_No_beginToHear_8 : decode b_No_beginToHear 8 = .ok (.getfield 38, 3) := by decide +kernel
theorem d_No_beginToHear_11 : decode b_No_beginToHear 11 = .ok (.iconst 0, 1) := by decide +kernel
theorem d_No_beginToHear_12 : decode b_No_beginToHear 12 = .ok (.invokevirtual 156, 3) := by decide +kernel
theorem d_No_beginToHear_15 : decode b_No_beginToHear 15 = .ok (.aload_n 0, 1) := by decide +kernel
theorem d_No_beginToHear_16 : decode b_No_beginToHear 16 = .ok (.iconst 2, 1) := by decide +kernel
theorem d_No_beginToHear_17 : decode b_No_beginToHear 17 = .ok (.putfield 42, 3) := by decide +kernel
theorem d_No_beginToHear_20 : decode b_No_beginToHear 20 = .ok (.aload_n 0, 1) := by decide +kernel
theorem d_No_beginToHear_21 : decode b_No_beginToHear 21 = .ok (.iconst 2, 1) := by decide +kernel
theorem d_No_beginToHear_22 : decode b_No_beginToHear 22 = .ok (.putfield 46, 3) := by decide +kernel
theorem d_No_beginToHear_25 : decode b_No_beginToHear 25 = .ok (.iconst 0, 1) := by decide +kernel
theorem d_No_beginToHear_26 : decode b_No_beginToHear 26 = .ok (.ireturn, 1) := by decide +kernel
theorem d_No_seeSuspended_0 : decode b_No_seeSuspended 0 = .ok (.iload_n 1, 1) := by decide +kernel
theorem d_No_seeSuspended_1 : decode b_No_seeSuspended 1 = .ok (.ifCond .ne 8, 3) := by decide +kernel
theorem d_No_seeSuspended_4 : decode b_No_seeSuspended 4 = .ok (.aload_n 0, 1) := by decide +kernel
theorem d_No_seeSuspended_5 : decode b_No_seeSuspended 5 = .ok (.invokevirtual 140, 3) := by decide +kernel
theorem d_No_seeSuspended_8 : decode b_No_seeSuspended 8 = .ok (.ireturn, 1) := by decide +kernel
theorem d_No_seeSuspended_9 : decode b_No_seeSuspended 9 = .ok (.aload_n 0, 1) := by decide +kernel
theorem d_No_seeSuspended_10 : decode b_No_seeSuspended 10 = .ok (.dup, 1) := by decide +kernel
theorem d_No_seeSuspended_11 : decode b_No_seeSuspended 11 = .ok (.getfield 77, 3) := by decide +kernel
theorem d_No_seeSuspended_14 : decode b_No_seeSuspended 14 = .ok (.iconst 1, 1) := by decide +kernel
theorem d_No_seeSuspended_15 : decode b_No_seeSuspended 15 = .ok (.iadd, 1) := by decide +kernel
theorem d_No_seeSuspended_16 : decode b_No_seeSuspended 16 = .ok (.putfield 77, 3) := by decide +kernel
theorem d_No_seeSuspended_19 : decode b_No_seeSuspended 19 = .ok (.aload_n 0, 1) := by decide +kernel
theorem d_No_seeSuspended_20 : decode b_No_seeSuspended 20 = .ok (.getfield 77, 3) := by decide +kernel
theorem d_No_seeSuspended_23 : decode b_No_seeSuspended 23 = .ok (.bipush 8, 2) := by decide +kernel
theorem d_No_seeSuspended_25 : decode b_No_seeSuspended 25 = .ok (.if_icmp .lt 8, 3) := by decide +kernel
theorem d_No_seeSuspended_28 : decode b_No_seeSuspended 28 = .ok (.aload_n 0, 1) := by decide +kernel
theorem d_No_seeSuspended_29 : decode b_No_seeSuspended 29 = .ok (.iconst 0, 1) := by decide +kernel
theorem d_No_seeSuspended_30 : decode b_No_seeSuspended 30 = .ok (.putfield 42, 3) := by decide +kernel
theorem d_No_seeSuspended_33 : decode b_No_seeSuspended 33 = .ok (.iconst 0, 1) := by decide +kernel
theorem d_No_seeSuspended_34 : decode b_No_seeSuspended 34 = .ok (.ireturn, 1) := by decide +kernel
theorem d_No_seeOff_0 : decode b_No_seeOff 0 = .ok (.aload_n 0, 1) := by decide +kernel
theorem d_No_seeOff_1 : decode b_No_seeOff 1 = .ok (.iload_n 1, 1) := by decide +kernel
theorem d_No_seeOff_2 : decode b_No_seeOff 2 = .ok (.iconst 1, 1) := by decide +kernel
theorem d_No_seeOff_3 : decode b_No_seeOff 3 = .ok (.if_icmp .ne 12, 3) := by decide +kernel
theorem d_No_seeOff_6 : decode b_No_seeOff 6 = .ok (.aload_n 0, 1) := by decide +kernel
theorem d_No_seeOff_7 : decode b_No_seeOff 7 = .ok (.getfield 77, 3) := by decide +kernel
theorem d_No_seeOff_10 : decode b_No_seeOff 10 = .ok (.iconst 1, 1) := by decide +kernel
theorem d_No_seeOff_11 : decode b_No_seeOff 11 = .ok (.iadd, 1) := by decide +kernel
theorem d_No_seeOff_12 : decode b_No_seeOff 12 = .ok (.goto 4, 3) := by decide +kernel
theorem d_No_seeOff_15 : decode b_No_seeOff 15 = .ok (.iconst 0, 1) := by decide +kernel
theorem d_No_seeOff_16 : decode b_No_seeOff 16 = .ok (.putfield 77, 3) := by decide +kernel
theorem d_No_seeOff_19 : decode b_No_seeOff 19 = .ok (.aload_n 0, 1) := by decide +kernel
theorem d_No_seeOff_20 : decode b_No_seeOff 20 = .ok (.getfield 77, 3) := by decide +kernel
theorem d_No_seeOff_23 : decode b_No_seeOff 23 = .ok (.bipush 11, 2) := by decide +kernel
theorem d_No_seeOff_25 : decode b_No_seeOff 25 = .ok (.if_icmp .lt 18, 3) := by decide +kernel
theorem d_No_seeOff_28 : decode b_No_seeOff 28 = .ok (.aload_n 0, 1) := by decide +kernel
theorem d_No_seeOff_29 : decode b_No_seeOff 29 = .ok (.iconst 0, 1) := by decide +kernel
theorem d_No_seeOff_30 : decode b_No_seeOff 30 = .ok (.putfield 77, 3) := by decide +kernel
theorem d_No_seeOff_33 : decode b_No_seeOff 33 = .ok (.aload_n 0, 1) := by decide +kernel
theorem d_No_seeOff_34 : decode b_No_seeOff 34 = .ok (.dup, 1) := by decide +kernel
theorem d_No_seeOff_35 : decode b_No_seeOff 35 = .ok (.getfield 80, 3) := by decide +kernel
theorem d_No_seeOff_38 : decode b_No_seeOff 38 = .ok (.iconst 1, 1) := by decide +kernel
theorem d_No_seeOff_39 : decode b_No_seeOff 39 = .ok (.iadd, 1) := by decide +kernel
theorem d_No_seeOff_40 : decode b_No_seeOff 40 = .ok (.putfield 80, 3) := by decide +kernel
theorem d_No_seeOff_43 : decode b_No_seeOff 43 = .ok (.aload_n 0, 1) := by decide +kernel
theorem d_No_seeOff_44 : decode b_No_seeOff 44 = .ok (.getfield 80, 3) := by decide +kernel
theorem d_No_seeOff_47 : decode b_No_seeOff 47 = .ok (.bipush 8, 2) := by decide +kernel
theorem d_No_seeOff_49 : decode b_No_seeOff 49 = .ok (.if_icmp .lt 18, 3) := by decide +kernel
theorem d_No_seeOff_52 : decode b_No_seeOff 52 = .ok (.aload_n 0, 1) := by decide +kernel
theorem d_No_seeOff_53 : decode b_No_seeOff 53 = .ok (.iconst 0, 1) := by decide +kernel
theorem d_No_seeOff_54 : decode b_No_seeOff 54 = .ok (.putfield 49, 3) := by decide +kernel
theorem d_No_seeOff_57 : decode b_No_seeOff 57 = .ok (.aload_n 0, 1) := by decide +kernel
theorem d_No_seeOff_58 : decode b_No_seeOff 58 = .ok (.iconst 0, 1) := by decide +kernel
theorem d_No_seeOff_59 : decode b_No_seeOff 59 = .ok (.putfield 52, 3) := by decide +kernel
theorem d_No_seeOff_62 : decode b_No_seeOff 62 = .ok (.aload_n 0, 1) := by decide +kernel
theorem d_No_seeOff_63 : decode b_No_seeOff 63 = .ok (.iconst 0, 1) := by decide +kernel
theorem d_No_seeOff_64 : decode b_No_seeOff 64 = .ok (.putfield 42, 3) := by decide +kernel
theorem d_No_seeOff_67 : decode b_No_seeOff 67 = .ok (.iconst 0, 1) := by decide +kernel
theorem d_No_seeOff_68 : decode b_No_seeOff 68 = .ok (.ireturn, 1) := by decide +kernel
theorem d_L_state_0 : decode b_L_state 0 = .ok (.aload_n 2, 1) := by decide +kernel
theorem d_L_state_1 : decode b_L_state 1 = .ok (.iconst 0, 1) := by decide +kernel
theorem d_L_state_2 : decode b_L_state 2 = .ok (.aload_n 0, 1) := by decide +kernel
theorem d_L_state_3 : decode b_L_state 3 = .ok (.iload_n 1, 1) := by decide +kernel
theorem d_L_state_4 : decode b_L_state 4 = .ok (.invokevirtual 29, 3) := by decide +kernel
theorem d_L_state_7 : decode b_L_state 7 = .ok (.i2l, 1) := by decide +kernel
theorem d_L_state_8 : decode b_L_state 8 = .ok (.lastore, 1) := by decide +kernel
theorem d_L_state_9 : decode b_L_state 9 = .ok (.goto 6, 3) := by decide +kernel
theorem d_L_state_12 : decode b_L_state 12 = .ok (.astore_n 3, 1) := by decide +kernel
theorem d_L_state_13 : decode b_L_state 13 = .ok (.iconst 1, 1) := by decide +kernel
theorem d_L_state_14 : decode b_L_state 14 = .ok (.ireturn, 1) := by decide +kernel
theorem d_L_state_15 : decode b_L_state 15 = .ok (.iconst 0, 1) := by decide +kernel
theorem d_L_state_16 : decode b_L_state 16 = .ok (.ireturn, 1) := by decide +kernel
theorem d_X_state_0 : decode b_X_state 0 = .ok (.aload_n 0, 1) := by decide +kernel
theorem d_X_state_1 : decode b_X_state 1 = .ok (.iload_n 1, 1) := by decide +kernel
theorem d_X_state_2 : decode b_X_state 2 = .ok (.invokevirtual 32, 3) := by decide +kernel
theorem d_X_state_5 : decode b_X_state 5 = .ok (.getfield 47, 3) := by decide +kernel
theorem d_X_state_8 : decode b_X_state 8 = .ok (.ireturn, 1) := by decide +kernel
theorem d_L_count_0 : decode b_L_count 0 = .ok (.aload_n 3, 1) := by decide +kernel
theorem d_L_count_1 : decode b_L_count 1 = .ok (.iconst 0, 1) := by decide +kernel
theorem d_L_count_2 : decode b_L_count 2 = .ok (.aload_n 0, 1) := by decide +kernel
theorem d_L_count_3 : decode b_L_count 3 = .ok (.iload_n 1, 1) := by decide +kernel
theorem d_L_count_4 : decode b_L_count 4 = .ok (.iload_n 2, 1) := by decide +kernel
theorem d_L_count_5 : decode b_L_count 5 = .ok (.invokevirtual 32, 3) := by decide +kernel
theorem d_L_count_8 : decode b_L_count 8 = .ok (.i2l, 1) := by decide +kernel
theorem d_L_count_9 : decode b_L_count 9 = .ok (.lastore, 1) := by decide +kernel
theorem d_L_count_10 : decode b_L_count 10 = .ok (.goto 7, 3) := by decide +kernel
theorem d_L_count_13 : decode b_L_count 13 = .ok (.astore 4, 2) := by decide +kernel
theorem d_L_count_15 : decode b_L_count 15 = .ok (.iconst 1, 1) := by decide +kernel
theorem d_L_count_16 : decode b_L_count 16 = .ok (.ireturn, 1) := by decide +kernel
theorem d_L_count_17 : decode b_L_count 17 = .ok (.iconst 0, 1) := by decide +kernel
theorem d_L_count_18 : decode b_L_count 18 = .ok (.ireturn, 1) := by decide +kernel
theorem d_X_count_0 : decode b_X_count 0 = .ok (.aload_n 0, 1) := by decide +kernel
theorem d_X_count_1 : decode b_X_count 1 = .ok (.iload_n 1, 1) := by decide +kernel
theorem d_X_count_2 : decode b_X_count 2 = .ok (.invokevirtual 32, 3) := by decide +kernel
theorem d_X_count_5 : decode b_X_count 5 = .ok (.astore_n 3, 1) := by decide +kernel
theorem d_X_count_6 : decode b_X_count 6 = .ok (.iload_n 2, 1) := by decide +kernel
theorem d_X_count_7 : decode b_X_count 7 = .ok (.tableswitch 64 0 4 #[33, 38, 43, 51, 59], 33) := by decide +kernel
theorem d_X_count_40 : decode b_X_count 40 = .ok (.aload_n 3, 1) := by decide +kernel
theorem d_X_count_41 : decode b_X_count 41 = .ok (.getfield 100, 3) := by decide +kernel
theorem d_X_count_44 : decode b_X_count 44 = .ok (.ireturn, 1) := by decide +kernel
theorem d_X_count_45 : decode b_X_count 45 = .ok (.aload_n 3, 1) := by decide +kernel
theorem d_X_count_46 : decode b_X_count 46 = .ok (.getfield 103, 3) := by decide +kernel
theorem d_X_count_49 : decode b_X_count 49 = .ok (.ireturn, 1) := by decide +kernel
theorem d_X_count_50 : decode b_X_count 50 = .ok (.aload_n 3, 1) := by decide +kernel
theorem d_X_count_51 : decode b_X_count 51 = .ok (.getfield 51, 3) := by decide +kernel
theorem d_X_count_54 : decode b_X_count 54 = .ok (.getfield 74, 3) := by decide +kernel
theorem d_X_count_57 : decode b_X_count 57 = .ok (.ireturn, 1) := by decide +kernel
theorem d_X_count_58 : decode b_X_count 58 = .ok (.aload_n 3, 1) := by decide +kernel
theorem d_X_count_59 : decode b_X_count 59 = .ok (.getfield 106, 3) := by decide +kernel
theorem d_X_count_62 : decode b_X_count 62 = .ok (.getfield 74, 3) := by decide +kernel
theorem d_X_count_65 : decode b_X_count 65 = .ok (.ireturn, 1) := by decide +kernel
theorem d_X_count_66 : decode b_X_count 66 = .ok (.aload_n 3, 1) := by decide +kernel
theorem d_X_count_67 : decode b_X_count 67 = .ok (.getfield 109, 3) := by decide +kernel
theorem d_X_count_70 : decode b_X_count 70 = .ok (.ireturn, 1) := by decide +kernel
theorem d_X_count_71 : decode b_X_count 71 = .ok (.new 40, 3) := by decide +kernel
theorem d_X_count_74 : decode b_X_count 74 = .ok (.dup, 1) := by decide +kernel
theorem d_X_count_75 : decode b_X_count 75 = .ok (.ldc 112, 2) := by decide +kernel
theorem d_X_count_77 : decode b_X_count 77 = .ok (.invokespecial 44, 3) := by decide +kernel
theorem d_X_count_80 : decode b_X_count 80 = .ok (.athrow, 1) := by decide +kernel
theorem d_L_take_0 : decode b_L_take 0 = .ok (.aload_n 2, 1) := by decide +kernel
theorem d_L_take_1 : decode b_L_take 1 = .ok (.iconst 0, 1) := by decide +kernel
theorem d_L_take_2 : decode b_L_take 2 = .ok (.aload_n 0, 1) := by decide +kernel
theorem d_L_take_3 : decode b_L_take 3 = .ok (.iload_n 1, 1) := by decide +kernel
theorem d_L_take_4 : decode b_L_take 4 = .ok (.invokevirtual 36, 3) := by decide +kernel
theorem d_L_take_7 : decode b_L_take 7 = .ok (.i2l, 1) := by decide +kernel
theorem d_L_take_8 : decode b_L_take 8 = .ok (.lastore, 1) := by decide +kernel
theorem d_L_take_9 : decode b_L_take 9 = .ok (.goto 9, 3) := by decide +kernel
theorem d_L_take_12 : decode b_L_take 12 = .ok (.astore_n 3, 1) := by decide +kernel
theorem d_L_take_13 : decode b_L_take 13 = .ok (.iconst 1, 1) := by decide +kernel
theorem d_L_take_14 : decode b_L_take 14 = .ok (.ireturn, 1) := by decide +kernel
theorem d_L_take_15 : decode b_L_take 15 = .ok (.astore_n 3, 1) := by decide +kernel
theorem d_L_take_16 : decode b_L_take 16 = .ok (.iconst 2, 1) := by decide +kernel
theorem d_L_take_17 : decode b_L_take 17 = .ok (.ireturn, 1) := by decide +kernel
theorem d_L_take_18 : decode b_L_take 18 = .ok (.iconst 0, 1) := by decide +kernel
theorem d_L_take_19 : decode b_L_take 19 = .ok (.ireturn, 1) := by decide +kernel
theorem d_X_take_0 : decode b_X_take 0 = .ok (.aload_n 0, 1) := by decide +kernel
theorem d_X_take_1 : decode b_X_take 1 = .ok (.iload_n 1, 1) := by decide +kernel
theorem d_X_take_2 : decode b_X_take 2 = .ok (.invokevirtual 32, 3) := by decide +kernel
theorem d_X_take_5 : decode b_X_take 5 = .ok (.astore_n 2, 1) := by decide +kernel
theorem d_X_take_6 : decode b_X_take 6 = .ok (.aload_n 2, 1) := by decide +kernel
theorem d_X_take_7 : decode b_X_take 7 = .ok (.getfield 106, 3) := by decide +kernel
theorem d_X_take_10 : decode b_X_take 10 = .ok (.getfield 74, 3) := by decide +kernel
theorem d_X_take_13 : decode b_X_take 13 = .ok (.ifCond .ne 13, 3) := by decide +kernel
theorem d_X_take_16 : decode b_X_take 16 = .ok (.new 61, 3) := by decide +kernel
theorem d_X_take_19 : decode b_X_take 19 = .ok (.dup, 1) := by decide +kernel
theorem d_X_take_20 : decode b_X_take 20 = .ok (.ldc 114, 2) := by decide +kernel
theorem d_X_take_22 : decode b_X_take 22 = .ok (.invokespecial 65, 3) := by decide +kernel
theorem d_X_take_25 : decode b_X_take 25 = .ok (.athrow, 1) := by decide +kernel
theorem d_X_take_26 : decode b_X_take 26 = .ok (.aload_n 2, 1) := by decide +kernel
theorem d_X_take_27 : decode b_X_take 27 = .ok (.getfield 106, 3) := by decide +kernel
theorem d_X_take_30 : decode b_X_take 30 = .ok (.iconst 0, 1) := by decide +kernel
theorem d_X_take_31 : decode b_X_take 31 = .ok (.invokevirtual 116, 3) := by decide +kernel
theorem d_X_take_34 : decode b_X_take 34 = .ok (.ireturn, 1) := by decide +kernel
theorem d_L_total_0 : decode b_L_total 0 = .ok (.aload_n 2, 1) := by decide +kernel
theorem d_L_total_1 : decode b_L_total 1 = .ok (.iconst 0, 1) := by decide +kernel
theorem d_L_total_2 : decode b_L_total 2 = .ok (.aload_n 0, 1) := by decide +kernel
theorem d_L_total_3 : decode b_L_total 3 = .ok (.iload_n 1, 1) := by decide +kernel
theorem d_L_total_4 : decode b_L_total 4 = .ok (.invokevirtual 39, 3) := by decide +kernel
theorem d_L_total_7 : decode b_L_total 7 = .ok (.i2l, 1) := by decide +kernel
theorem d_L_total_8 : decode b_L_total 8 = .ok (.lastore, 1) := by decide +kernel
theorem d_L_total_9 : decode b_L_total 9 = .ok (.goto 6, 3) := by decide +kernel
theorem d_L_total_12 : decode b_L_total 12 = .ok (.astore_n 3, 1) := by decide +kernel
theorem d_L_total_13 : decode b_L_total 13 = .ok (.iconst 1, 1) := by decide +kernel
theorem d_L_total_14 : decode b_L_total 14 = .ok (.ireturn, 1) := by decide +kernel
theorem d_L_total_15 : decode b_L_total 15 = .ok (.iconst 0, 1) := by decide +kernel
theorem d_L_total_16 : decode b_L_total 16 = .ok (.ireturn, 1) := by decide +kernel
theorem d_X_total_0 : decode b_X_total 0 = .ok (.iload_n 1, 1) := by decide +kernel
theorem d_X_total_1 : decode b_X_total 1 = .ok (.ifCond .lt 9, 3) := by decide +kernel
theorem d_X_total_4 : decode b_X_total 4 = .ok (.iload_n 1, 1) := by decide +kernel
theorem d_X_total_5 : decode b_X_total 5 = .ok (.bipush 8, 2) := by decide +kernel
theorem d_X_total_7 : decode b_X_total 7 = .ok (.if_icmp .lt 13, 3) := by decide +kernel
theorem d_X_total_10 : decode b_X_total 10 = .ok (.new 40, 3) := by decide +kernel
theorem d_X_total_13 : decode b_X_total 13 = .ok (.dup, 1) := by decide +kernel
theorem d_X_total_14 : decode b_X_total 14 = .ok (.ldc 120, 2) := by decide +kernel
theorem d_X_total_16 : decode b_X_total 16 = .ok (.invokespecial 44, 3) := by decide +kernel
theorem d_X_total_19 : decode b_X_total 19 = .ok (.athrow, 1) := by decide +kernel
theorem d_X_total_20 : decode b_X_total 20 = .ok (.aload_n 0, 1) := by decide +kernel
theorem d_X_total_21 : decode b_X_total 21 = .ok (.getfield 13, 3) := by decide +kernel
theorem d_X_total_24 : decode b_X_total 24 = .ok (.iload_n 1, 1) := by decide +kernel
theorem d_X_total_25 : decode b_X_total 25 = .ok (.iaload, 1) := by decide +kernel
theorem d_X_total_26 : decode b_X_total 26 = .ok (.ireturn, 1) := by decide +kernel
theorem d_M_init_0 : decode b_M_init 0 = .ok (.aload_n 0, 1) := by decide +kernel
theorem d_M_init_1 : decode b_M_init 1 = .ok (.invokespecial 1, 3) := by decide +kernel
theorem d_M_init_4 : decode b_M_init 4 = .ok (.aload_n 0, 1) := by decide +kernel
theorem d_M_init_5 : decode b_M_init 5 = .ok (.bipush 8, 2) := by decide +kernel
theorem d_M_init_7 : decode b_M_init 7 = .ok (.newarray .int, 2) := by decide +kernel
theorem d_M_init_9 : decode b_M_init 9 = .ok (.putfield 7, 3) := by decide +kernel
theorem d_M_init_12 : decode b_M_init 12 = .ok (.aload_n 0, 1) := by decide +kernel
theorem d_M_init_13 : decode b_M_init 13 = .ok (.bipush 64, 2) := by decide +kernel
theorem d_M_init_15 : decode b_M_init 15 = .ok (.newarray .int, 2) := by decide +kernel
theorem d_M_init_17 : decode b_M_init 17 = .ok (.putfield 13, 3) := by decide +kernel
theorem d_M_init_20 : decode b_M_init 20 = .ok (.aload_n 0, 1) := by decide +kernel
theorem d_M_init_21 : decode b_M_init 21 = .ok (.sipush 1024, 3) := by decide +kernel
theorem d_M_init_24 : decode b_M_init 24 = .ok (.newarray .boolean, 2) := by decide +kernel
theorem d_M_init_26 : decode b_M_init 26 = .ok (.putfield 16, 3) := by decide +kernel
theorem d_M_init_29 : decode b_M_init 29 = .ok (.aload_n 0, 1) := by decide +kernel
theorem d_M_init_30 : decode b_M_init 30 = .ok (.iconst 4, 1) := by decide +kernel
theorem d_M_init_31 : decode b_M_init 31 = .ok (.newarray .int, 2) := by decide +kernel
theorem d_M_init_33 : decode b_M_init 33 = .ok (.putfield 20, 3) := by decide +kernel
theorem d_M_init_36 : decode b_M_init 36 = .ok (.aload_n 0, 1) := by decide +kernel
theorem d_M_init_37 : decode b_M_init 37 = .ok (.iconst 4, 1) := by decide +kernel
theorem d_M_init_38 : decode b_M_init 38 = .ok (.newarray .int, 2) := by decide +kernel
theorem d_M_init_40 : decode b_M_init 40 = .ok (.putfield 23, 3) := by decide +kernel
theorem d_M_init_43 : decode b_M_init 43 = .ok (.aload_n 0, 1) := by decide +kernel
theorem d_M_init_44 : decode b_M_init 44 = .ok (.iconst 4, 1) := by decide +kernel
theorem d_M_init_45 : decode b_M_init 45 = .ok (.newarray .int, 2) := by decide +kernel
theorem d_M_init_47 : decode b_M_init 47 = .ok (.putfield 26, 3) := by decide +kernel
theorem d_M_init_50 : decode b_M_init 50 = .ok (.aload_n 0, 1) := by decide +kernel
theorem d_M_init_51 : decode b_M_init 51 = .ok (.iconst 4, 1) := by decide +kernel
theorem d_M_init_52 : decode b_M_init 52 = .ok (.newarray .int, 2) := by decide +kernel
theorem d_M_init_54 : decode b_M_init 54 = .ok (.putfield 29, 3) := by decide +kernel
theorem d_M_init_57 : decode b_M_init 57 = .ok (.aload_n 0, 1) := by decide +kernel
theorem d_M_init_58 : decode b_M_init 58 = .ok (.iconst 4, 1) := by decide +kernel
theorem d_M_init_59 : decode b_M_init 59 = .ok (.newarray .int, 2) := by decide +kernel
theorem d_M_init_61 : decode b_M_init 61 = .ok (.putfield 32, 3) := by decide +kernel
theorem d_M_init_64 : decode b_M_init 64 = .ok (.aload_n 0, 1) := by decide +kernel
theorem d_M_init_65 : decode b_M_init 65 = .ok (.iconst 4, 1) := by decide +kernel
theorem d_M_init_66 : decode b_M_init 66 = .ok (.newarray .int, 2) := by decide +kernel
theorem d_M_init_68 : decode b_M_init 68 = .ok (.putfield 35, 3) := by decide +kernel
theorem d_M_init_71 : decode b_M_init 71 = .ok (.aload_n 0, 1) := by decide +kernel
theorem d_M_init_72 : decode b_M_init 72 = .ok (.iconst 4, 1) := by decide +kernel
theorem d_M_init_73 : decode b_M_init 73 = .ok (.newarray .int, 2) := by decide +kernel
theorem d_M_init_75 : decode b_M_init 75 = .ok (.putfield 38, 3) := by decide +kernel
theorem d_M_init_78 : decode b_M_init 78 = .ok (.aload_n 0, 1) := by decide +kernel
theorem d_M_init_79 : decode b_M_init 79 = .ok (.bipush 16, 2) := by decide +kernel
theorem d_M_init_81 : decode b_M_init 81 = .ok (.newarray .int, 2) := by decide +kernel
theorem d_M_init_83 : decode b_M_init 83 = .ok (.putfield 41, 3) := by decide +kernel
theorem d_M_init_86 : decode b_M_init 86 = .ok (.aload_n 0, 1) := by decide +kernel
theorem d_M_init_87 : decode b_M_init 87 = .ok (.bipush 16, 2) := by decide +kernel
theorem d_M_init_89 : decode b_M_init 89 = .ok (.newarray .int, 2) := by decide +kernel
theorem d_M_init_91 : decode b_M_init 91 = .ok (.putfield 44, 3) := by decide +kernel
theorem d_M_init_94 : decode b_M_init 94 = .ok (.aload_n 0, 1) := by decide +kernel
theorem d_M_init_95 : decode b_M_init 95 = .ok (.bipush 16, 2) := by decide +kernel
theorem d_M_init_97 : decode b_M_init 97 = .ok (.newarray .int, 2) := by decide +kernel
theorem d_M_init_99 : decode b_M_init 99 = .ok (.putfield 47, 3) := by decide +kernel
theorem d_M_init_102 : decode b_M_init 102 = .ok (.aload_n 0, 1) := by decide +kernel
theorem d_M_init_103 : decode b_M_init 103 = .ok (.iconst 4, 1) := by decide +kernel
theorem d_M_init_104 : decode b_M_init 104 = .ok (.newarray .int, 2) := by decide +kernel
theorem d_M_init_106 : decode b_M_init 106 = .ok (.putfield 50, 3) := by decide +kernel
theorem d_M_init_109 : decode b_M_init 109 = .ok (.aload_n 0, 1) := by decide +kernel
theorem d_M_init_110 : decode b_M_init 110 = .ok (.iconst 4, 1) := by decide +kernel
theorem d_M_init_111 : decode b_M_init 111 = .ok (.newarray .int, 2) := by decide +kernel
theorem d_M_init_113 : decode b_M_init 113 = .ok (.putfield 53, 3) := by decide +kernel
theorem d_M_init_116 : decode b_M_init 116 = .ok (.aload_n 0, 1) := by decide +kernel
theorem d_M_init_117 : decode b_M_init 117 = .ok (.bipush 16, 2) := by decide +kernel
theorem d_M_init_119 : decode b_M_init 119 = .ok (.newarray .int, 2) := by decide +kernel
theorem d_M_init_121 : decode b_M_init 121 = .ok (.putfield 56, 3) := by decide +kernel
theorem d_M_init_124 : decode b_M_init 124 = .ok (.aload_n 0, 1) := by decide +kernel
theorem d_M_init_125 : decode b_M_init 125 = .ok (.iconst 4, 1) := by decide +kernel
theorem d_M_init_126 : decode b_M_init 126 = .ok (.newarray .int, 2) := by decide +kernel
theorem d_M_init_128 : decode b_M_init 128 = .ok (.putfield 59, 3) := by decide +kernel
theorem d_M_init_131 : decode b_M_init 131 = .ok (.aload_n 0, 1) := by decide +kernel
theorem d_M_init_132 : decode b_M_init 132 = .ok (.iconst 4, 1) := by decide +kernel
theorem d_M_init_133 : decode b_M_init 133 = .ok (.newarray .int, 2) := by decide +kernel
theorem d_M_init_135 : decode b_M_init 135 = .ok (.putfield 62, 3) := by decide +kernel
theorem d_M_init_138 : decode b_M_init 138 = .ok (.aload_n 0, 1) := by decide +kernel
theorem d_M_init_139 : decode b_M_init 139 = .ok (.iconst 4, 1) := by decide +kernel
theorem d_M_init_140 : decode b_M_init 140 = .ok (.newarray .int, 2) := by decide +kernel
theorem d_M_init_142 : decode b_M_init 142 = .ok (.putfield 65, 3) := by decide +kernel
theorem d_M_init_145 : decode b_M_init 145 = .ok (.aload_n 0, 1) := by decide +kernel
theorem d_M_init_146 : decode b_M_init 146 = .ok (.iconst 4, 1) := by decide +kernel
theorem d_M_init_147 : decode b_M_init 147 = .ok (.newarray .int, 2) := by decide +kernel
theorem d_M_init_149 : decode b_M_init 149 = .ok (.putfield 68, 3) := by decide +kernel
theorem d_M_init_152 : decode b_M_init 152 = .ok (.aload_n 0, 1) := by decide +kernel
theorem d_M_init_153 : decode b_M_init 153 = .ok (.iconst 4, 1) := by decide +kernel
theorem d_M_init_154 : decode b_M_init 154 = .ok (.newarray .int, 2) := by decide +kernel
theorem d_M_init_156 : decode b_M_init 156 = .ok (.putfield 71, 3) := by decide +kernel
theorem d_M_init_159 : decode b_M_init 159 = .ok (.aload_n 0, 1) := by decide +kernel
theorem d_M_init_160 : decode b_M_init 160 = .ok (.iconst 4, 1) := by decide +kernel
theorem d_M_init_161 : decode b_M_init 161 = .ok (.newarray .int, 2) := by decide +kernel
theorem d_M_init_163 : decode b_M_init 163 = .ok (.putfield 74, 3) := by decide +kernel
theorem d_M_init_166 : decode b_M_init 166 = .ok (.aload_n 0, 1) := by decide +kernel
theorem d_M_init_167 : decode b_M_init 167 = .ok (.iconst 4, 1) := by decide +kernel
theorem d_M_init_168 : decode b_M_init 168 = .ok (.newarray .int, 2) := by decide +kernel
theorem d_M_init_170 : decode b_M_init 170 = .ok (.putfield 77, 3) := by decide +kernel
theorem d_M_init_173 : decode b_M_init 173 = .ok (.aload_n 0, 1) := by decide +kernel
theorem d_M_init_174 : decode b_M_init 174 = .ok (.iconst 4, 1) := by decide +kernel
theorem d_M_init_175 : decode b_M_init 175 = .ok (.newarray .int, 2) := by decide +kernel
theorem d_M_init_177 : decode b_M_init 177 = .ok (.putfield 80, 3) := by decide +kernel
theorem d_M_init_180 : decode b_M_init 180 = .ok (.aload_n 0, 1) := by decide +kernel
theorem d_M_init_181 : decode b_M_init 181 = .ok (.iconst 4, 1) := by decide +kernel
theorem d_M_init_182 : decode b_M_init 182 = .ok (.newarray .int, 2) := by decide +kernel
theorem d_M_init_184 : decode b_M_init 184 = .ok (.putfield 83, 3) := by decide +kernel
theorem d_M_init_187 : decode b_M_init 187 = .ok (.aload_n 0, 1) := by decide +kernel
theorem d_M_init_188 : decode b_M_init 188 = .ok (.iconst 4, 1) := by decide +kernel
theorem d_M_init_189 : decode b_M_init 189 = .ok (.newarray .boolean, 2) := by decide +kernel
theorem d_M_init_191 : decode b_M_init 191 = .ok (.putfield 86, 3) := by decide +kernel
theorem d_M_init_194 : decode b_M_init 194 = .ok (.aload_n 0, 1) := by decide +kernel
theorem d_M_init_195 : decode b_M_init 195 = .ok (.iconst 4, 1) := by decide +kernel
theorem d_M_init_196 : decode b_M_init 196 = .ok (.newarray .int, 2) := by decide +kernel
theorem d_M_init_198 : decode b_M_init 198 = .ok (.putfield 89, 3) := by decide +kernel
theorem d_M_init_201 : decode b_M_init 201 = .ok (.aload_n 0, 1) := by decide +kernel
theorem d_M_init_202 : decode b_M_init 202 = .ok (.iconst 4, 1) := by decide +kernel
theorem d_M_init_203 : decode b_M_init 203 = .ok (.newarray .int, 2) := by decide +kernel
theorem d_M_init_205 : decode b_M_init 205 = .ok (.putfield 92, 3) := by decide +kernel
theorem d_M_init_208 : decode b_M_init 208 = .ok (.aload_n 0, 1) := by decide +kernel
theorem d_M_init_209 : decode b_M_init 209 = .ok (.iconst 4, 1) := by decide +kernel
theorem d_M_init_210 : decode b_M_init 210 = .ok (.newarray .int, 2) := by decide +kernel
theorem d_M_init_212 : decode b_M_init 212 = .ok (.putfield 95, 3) := by decide +kernel
theorem d_M_init_215 : decode b_M_init 215 = .ok (.aload_n 0, 1) := by decide +kernel
theorem d_M_init_216 : decode b_M_init 216 = .ok (.iconst 4, 1) := by decide +kernel
theorem d_M_init_217 : decode b_M_init 217 = .ok (.newarray .int, 2) := by decide +kernel
theorem d_M_init_219 : decode b_M_init 219 = .ok (.putfield 98, 3) := by decide +kernel
theorem d_M_init_222 : decode b_M_init 222 = .ok (.aload_n 0, 1) := by decide +kernel
theorem d_M_init_223 : decode b_M_init 223 = .ok (.iload_n 1, 1) := by decide +kernel
theorem d_M_init_224 : decode b_M_init 224 = .ok (.iconst 2, 1) := by decide +kernel
theorem d_M_init_225 : decode b_M_init 225 = .ok (.if_icmp .ge 7, 3) := by decide +kernel
theorem d_M_init_228 : decode b_M_init 228 = .ok (.iconst 2, 1) := by decide +kernel
theorem d_M_init_229 : decode b_M_init 229 = .ok (.goto 13, 3) := by decide +kernel
theorem d_M_init_232 : decode b_M_init 232 = .ok (.iload_n 1, 1) := by decide +kernel
theorem d_M_init_233 : decode b_M_init 233 = .ok (.iconst 4, 1) := by decide +kernel
theorem d_M_init_234 : decode b_M_init 234 = .ok (.if_icmp .le 7, 3) := by decide +kernel
theorem d_M_init_237 : decode b_M_init 237 = .ok (.iconst 4, 1) := by decide +kernel
theorem d_M_init_238 : decode b_M_init 238 = .ok (.goto 4, 3) := by decide +kernel
theorem d_M_init_241 : decode b_M_init 241 = .ok (.iload_n 1, 1) := by decide +kernel
theorem d_M_init_242 : decode b_M_init 242 = .ok (.putfield 101, 3) := by decide +kernel
theorem d_M_init_245 : decode b_M_init 245 = .ok (.return_, 1) := by decide +kernel
theorem d_M_thrown_0 : decode b_M_thrown 0 = .ok (.aload_n 0, 1) := by decide +kernel
theorem d_M_thrown_1 : decode b_M_thrown 1 = .ok (.getfield 105, 3) := by decide +kernel
theorem d_M_thrown_4 : decode b_M_thrown 4 = .ok (.ireturn, 1) := by decide +kernel
theorem d_M_request_0 : decode b_M_request 0 = .ok (.aload_n 0, 1) := by decide +kernel
theorem d_M_request_1 : decode b_M_request 1 = .ok (.iload_n 1, 1) := by decide +kernel
theorem d_M_request_2 : decode b_M_request 2 = .ok (.invokevirtual 108, 3) := by decide +kernel
theorem d_M_request_5 : decode b_M_request 5 = .ok (.ifCond .ne 39, 3) := by decide +kernel
theorem d_M_request_8 : decode b_M_request 8 = .ok (.iload_n 2, 1) := by decide +kernel
theorem d_M_request_9 : decode b_M_request 9 = .ok (.ifCond .lt 35, 3) := by decide +kernel
theorem d_M_request_12 : decode b_M_request 12 = .ok (.iload_n 2, 1) := by decide +kernel
theorem d_M_request_13 : decode b_M_request 13 = .ok (.sipush 2047, 3) := by decide +kernel
theorem d_M_request_16 : decode b_M_request 16 = .ok (.if_icmp .gt 28, 3) := by decide +kernel
theorem d_M_request_19 : decode b_M_request 19 = .ok (.iload_n 3, 1) := by decide +kernel
theorem d_M_request_20 : decode b_M_request 20 = .ok (.ifCond .lt 24, 3) := by decide +kernel
theorem d_M_request_23 : decode b_M_request 23 = .ok (.iload_n 3, 1) := by decide +kernel
theorem d_M_request_24 : decode b_M_request 24 = .ok (.iconst 2, 1) := by decide +kernel
theorem d_M_request_25 : decode b_M_request 25 = .ok (.if_icmp .gt 19, 3) := by decide +kernel
theorem d_M_request_28 : decode b_M_request 28 = .ok (.iload 4, 2) := by decide +kernel
theorem d_M_request_30 : decode b_M_request 30 = .ok (.ifCond .lt 14, 3) := by decide +kernel
theorem d_M_request_33 : decode b_M_request 33 = .ok (.iload 4, 2) := by decide +kernel
theorem d_M_request_35 : decode b_M_request 35 = .ok (.iconst 1, 1) := by decide +kernel
theorem d_M_request_36 : decode b_M_request 36 = .ok (.bipush 8, 2) := by decide +kernel
theorem d_M_request_38 : decode b_M_request 38 = .ok (.iload_n 3, 1) := by decide +kernel
theorem d_M_request_39 : decode b_M_request 39 = .ok (.imul, 1) := by decide +kernel
theorem d_M_request_40 : decode b_M_request 40 = .ok (.ishl, 1) := by decide +kernel
theorem d_M_request_41 : decode b_M_request 41 = .ok (.if_icmp .lt 7, 3) := by decide +kernel
theorem d_M_request_44 : decode b_M_request 44 = .ok (.iconst 1, 1) := by decide +kernel
theorem d_M_request_45 : decode b_M_request 45 = .ok (.goto 4, 3) := by decide +kernel
theorem d_M_request_48 : decode b_M_request 48 = .ok (.iconst 0, 1) := by decide +kernel
theorem d_M_request_49 : decode b_M_request 49 = .ok (.istore 5, 2) := by decide +kernel
theorem d_M_request_51 : decode b_M_request 51 = .ok (.aload_n 0, 1) := by decide +kernel
theorem d_M_request_52 : decode b_M_request 52 = .ok (.iload 5, 2) := by decide +kernel
theorem d_M_request_54 : decode b_M_request 54 = .ok (.ifCond .eq 7, 3) := by decide +kernel
theorem d_M_request_57 : decode b_M_request 57 = .ok (.iconst 1, 1) := by decide +kernel
theorem d_M_request_58 : decode b_M_request 58 = .ok (.goto 29, 3) := by decide +kernel
theorem d_M_request_61 : decode b_M_request 61 = .ok (.aload_n 0, 1) := by decide +kernel
theorem d_M_request_62 : decode b_M_request 62 = .ok (.getfield 38, 3) := by decide +kernel
theorem d_M_request_65 : decode b_M_request 65 = .ok (.iload_n 1, 1) := by decide +kernel
theorem d_M_request_66 : decode b_M_request 66 = .ok (.iaload, 1) := by decide +kernel
theorem d_M_request_67 : decode b_M_request 67 = .ok (.iconst 4, 1) := by decide +kernel
theorem d_M_request_68 : decode b_M_request 68 = .ok (.if_icmp .eq 14, 3) := by decide +kernel
theorem d_M_request_71 : decode b_M_request 71 = .ok (.aload_n 0, 1) := by decide +kernel
theorem d_M_request_72 : decode b_M_request 72 = .ok (.getfield 20, 3) := by decide +kernel
theorem d_M_request_75 : decode b_M_request 75 = .ok (.iload_n 1, 1) := by decide +kernel
theorem d_M_request_76 : decode b_M_request 76 = .ok (.iaload, 1) := by decide +kernel
theorem d_M_request_77 : decode b_M_request 77 = .ok (.bipush 7, 2) := by decide +kernel
theorem d_M_request_79 : decode b_M_request 79 = .ok (.if_icmp .ne 7, 3) := by decide +kernel
theorem d_M_request_82 : decode b_M_request 82 = .ok (.iconst 2, 1) := by decide +kernel
theorem d_M_request_83 : decode b_M_request 83 = .ok (.goto 4, 3) := by decide +kernel
theorem d_M_request_86 : decode b_M_request 86 = .ok (.iconst 0, 1) := by decide +kernel
theorem d_M_request_87 : decode b_M_request 87 = .ok (.putfield 105, 3) := by decide +kernel
theorem d_M_request_90 : decode b_M_request 90 = .ok (.aload_n 0, 1) := by decide +kernel
theorem d_M_request_91 : decode b_M_request 91 = .ok (.getfield 105, 3) := by decide +kernel
theorem d_M_request_94 : decode b_M_request 94 = .ok (.ifCond .eq 5, 3) := by decide +kernel
theorem d_M_request_97 : decode b_M_request 97 = .ok (.iconst 0, 1) := by decide +kernel
theorem d_M_request_98 : decode b_M_request 98 = .ok (.ireturn, 1) := by decide +kernel
theorem d_M_request_99 : decode b_M_request 99 = .ok (.iconst 4, 1) := by decide +kernel
theorem d_M_request_100 : decode b_M_request 100 = .ok (.iload_n 1, 1) := by decide +kernel
theorem d_M_request_101 : decode b_M_request 101 = .ok (.imul, 1) := by decide +kernel
theorem d_M_request_102 : decode b_M_request 102 = .ok (.aload_n 0, 1) := by decide +kernel
theorem d_M_request_103 : decode b_M_request 103 = .ok (.getfield 38, 3) := by decide +kernel
theorem d_M_request_106 : decode b_M_request 106 = .ok (.iload_n 1, 1) := by decide +kernel
theorem d_M_request_107 : decode b_M_request 107 = .ok (.iaload, 1) := by decide +kernel
theorem d_M_request_108 : decode b_M_request 108 = .ok (.iadd, 1) := by decide +kernel
theorem d_M_request_109 : decode b_M_request 109 = .ok (.istore 6, 2) := by decide +kernel
theorem d_M_request_111 : decode b_M_request 111 = .ok (.aload_n 0, 1) := by decide +kernel
theorem d_M_request_112 : decode b_M_request 112 = .ok (.getfield 41, 3) := by decide +kernel
theorem d_M_request_115 : decode b_M_request 115 = .ok (.iload 6, 2) := by decide +kernel
theorem d_M_request_117 : decode b_M_request 117 = .ok (.iload_n 2, 1) := by decide +kernel
theorem d_M_request_118 : decode b_M_request 118 = .ok (.iastore, 1) := by decide +kernel
theorem d_M_request_119 : decode b_M_request 119 = .ok (.aload_n 0, 1) := by decide +kernel
theorem d_M_request_120 : decode b_M_request 120 = .ok (.getfield 44, 3) := by decide +kernel
theorem d_M_request_123 : decode b_M_request 123 = .ok (.iload 6, 2) := by decide +kernel
theorem d_M_request_125 : decode b_M_request 125 = .ok (.iload_n 3, 1) := by decide +kernel
theorem d_M_request_126 : decode b_M_request 126 = .ok (.iastore, 1) := by decide +kernel
theorem d_M_request_127 : decode b_M_request 127 = .ok (.aload_n 0, 1) := by decide +kernel
theorem d_M_request_128 : decode b_M_request 128 = .ok (.getfield 47, 3) := by decide +kernel
theorem d_M_request_131 : decode b_M_request 131 = .ok (.iload 6, 2) := by decide +kernel
theorem d_M_request_133 : decode b_M_request 133 = .ok (.iload 4, 2) := by decide +kernel
theorem d_M_request_135 : decode b_M_request 135 = .ok (.iastore, 1) := by decide +kernel
theorem d_M_request_136 : decode b_M_request 136 = .ok (.aload_n 0, 1) := by decide +kernel
theorem d_M_request_137 : decode b_M_request 137 = .ok (.getfield 38, 3) := by decide +kernel
theorem d_M_request_140 : decode b_M_request 140 = .ok (.iload_n 1, 1) := by decide +kernel
theorem d_M_request_141 : decode b_M_request 141 = .ok (.dup2, 1) := by decide +kernel
theorem d_M_request_142 : decode b_M_request 142 = .ok (.iaload, 1) := by decide +kernel
theorem d_M_request_143 : decode b_M_request 143 = .ok (.iconst 1, 1) := by decide +kernel
theorem d_M_request_144 : decode b_M_request 144 = .ok (.iadd, 1) := by decide +kernel
theorem d_M_request_145 : decode b_M_request 145 = .ok (.iastore, 1) := by decide +kernel
theorem d_M_request_146 : decode b_M_request 146 = .ok (.aload_n 0, 1) := by decide +kernel
theorem d_M_request_147 : decode b_M_request 147 = .ok (.getfield 38, 3) := by decide +kernel
theorem d_M_request_150 : decode b_M_request 150 = .ok (.iload_n 1, 1) := by decide +kernel
theorem d_M_request_151 : decode b_M_request 151 = .ok (.iaload, 1) := by decide +kernel
theorem d_M_request_152 : decode b_M_request 152 = .ok (.ireturn, 1) := by decide +kernel
theorem d_M_noNode_0 : decode b_M_noNode 0 = .ok (.iload_n 1, 1) := by decide +kernel
theorem d_M_noNode_1 : decode b_M_noNode 1 = .ok (.ifCond .lt 11, 3) := by decide +kernel
theorem d_M_noNode_4 : decode b_M_noNode 4 = .ok (.iload_n 1, 1) := by decide +kernel
theorem d_M_noNode_5 : decode b_M_noNode 5 = .ok (.aload_n 0, 1) := by decide +kernel
theorem d_M_noNode_6 : decode b_M_noNode 6 = .ok (.getfield 101, 3) := by decide +kernel
theorem d_M_noNode_9 : decode b_M_noNode 9 = .ok (.if_icmp .lt 7, 3) := by decide +kernel
theorem d_M_noNode_12 : decode b_M_noNode 12 = .ok (.iconst 1, 1) := by decide +kernel
theorem d_M_noNode_13 : decode b_M_noNode 13 = .ok (.goto 4, 3) := by decide +kernel
theorem d_M_noNode_16 : decode b_M_noNode 16 = .ok (.iconst 0, 1) := by decide +kernel
theorem d_M_noNode_17 : decode b_M_noNode 17 = .ok (.ireturn, 1) := by decide +kernel
theorem d_M_filter_0 : decode b_M_filter 0 = .ok (.aload_n 0, 1) := by decide +kernel
theorem d_M_filter_1 : decode b_M_filter 1 = .ok (.aload_n 0, 1) := by decide +kernel
theorem d_M_filter_2 : decode b_M_filter 2 = .ok (.iload_n 1, 1) := by decide +kernel
theorem d_M_filter_3 : decode b_M_filter 3 = .ok (.invokevirtual 108, 3) := by decide +kernel
theorem d_M_filter_6 : decode b_M_filter 6 = .ok (.ifCond .ne 25, 3) := by decide +kernel
theorem d_M_filter_9 : decode b_M_filter 9 = .ok (.iload_n 2, 1) := by decide +kernel
theorem d_M_filter_10 : decode b_M_filter 10 = .ok (.ifCond .lt 21, 3) := by decide +kernel
theorem d_M_filter_13 : decode b_M_filter 13 = .ok (.iload_n 2, 1) := by decide +kernel
theorem d_M_filter_14 : decode b_M_filter 14 = .ok (.sipush 2047, 3) := by decide +kernel
theorem d_M_filter_17 : decode b_M_filter 17 = .ok (.if_icmp .gt 14, 3) := by decide +kernel
theorem d_M_filter_20 : decode b_M_filter 20 = .ok (.iload_n 3, 1) := by decide +kernel
theorem d_M_filter_21 : decode b_M_filter 21 = .ok (.ifCond .lt 10, 3) := by decide +kernel
theorem d_M_filter_24 : decode b_M_filter 24 = .ok (.iload_n 3, 1) := by decide +kernel
theorem d_M_filter_25 : decode b_M_filter 25 = .ok (.sipush 2047, 3) := by decide +kernel
theorem d_M_filter_28 : decode b_M_filter 28 = .ok (.if_icmp .le 7, 3) := by decide +kernel
theorem d_M_filter_31 : decode b_M_filter 31 = .ok (.iconst 1, 1) := by decide +kernel
theorem d_M_filter_32 : decode b_M_filter 32 = .ok (.goto 4, 3) := by decide +kernel
theorem d_M_filter_35 : decode b_M_filter 35 = .ok (.iconst 0, 1) := by decide +kernel
theorem d_M_filter_36 : decode b_M_filter 36 = .ok (.putfield 105, 3) := by decide +kernel
theorem d_M_filter_39 : decode b_M_filter 39 = .ok (.aload_n 0, 1) := by decide +kernel
theorem d_M_filter_40 : decode b_M_filter 40 = .ok (.getfield 105, 3) := by decide +kernel
theorem d_M_filter_43 : decode b_M_filter 43 = .ok (.ifCond .ne 17, 3) := by decide +kernel
theorem d_M_filter_46 : decode b_M_filter 46 = .ok (.aload_n 0, 1) := by decide +kernel
theorem d_M_filter_47 : decode b_M_filter 47 = .ok (.getfield 29, 3) := by decide +kernel
theorem d_M_filter_50 : decode b_M_filter 50 = .ok (.iload_n 1, 1) := by decide +kernel
theorem d_M_filter_51 : decode b_M_filter 51 = .ok (.iload_n 2, 1) := by decide +kernel
theorem d_M_filter_52 : decode b_M_filter 52 = .ok (.iastore, 1) := by decide +kernel
theorem d_M_filter_53 : decode b_M_filter 53 = .ok (.aload_n 0, 1) := by decide +kernel
theorem d_M_filter_54 : decode b_M_filter 54 = .ok (.getfield 32, 3) := by decide +kernel
theorem d_M_filter_57 : decode b_M_filter 57 = .ok (.iload_n 1, 1) := by decide +kernel
theorem d_M_filter_58 : decode b_M_filter 58 = .ok (.iload_n 3, 1) := by decide +kernel
theorem d_M_filter_59 : decode b_M_filter 59 = .ok (.iastore, 1) := by decide +kernel
theorem d_M_filter_60 : decode b_M_filter 60 = .ok (.return_, 1) := by decide +kernel
theorem d_M_disturb_0 : decode b_M_disturb 0 = .ok (.aload_n 0, 1) := by decide +kernel
theorem d_M_disturb_1 : decode b_M_disturb 1 = .ok (.aload_n 0, 1) := by decide +kernel
theorem d_M_disturb_2 : decode b_M_disturb 2 = .ok (.iload_n 1, 1) := by decide +kernel
theorem d_M_disturb_3 : decode b_M_disturb 3 = .ok (.invokevirtual 108, 3) := by decide +kernel
theorem d_M_disturb_6 : decode b_M_disturb 6 = .ok (.ifCond .ne 15, 3) := by decide +kernel
theorem d_M_disturb_9 : decode b_M_disturb 9 = .ok (.iload_n 2, 1) := by decide +kernel
theorem d_M_disturb_10 : decode b_M_disturb 10 = .ok (.iconst 1, 1) := by decide +kernel
theorem d_M_disturb_11 : decode b_M_disturb 11 = .ok (.if_icmp .lt 10, 3) := by decide +kernel
theorem d_M_disturb_14 : decode b_M_disturb 14 = .ok (.iload_n 2, 1) := by decide +kernel
theorem d_M_disturb_15 : decode b_M_disturb 15 = .ok (.sipush 200, 3) := by decide +kernel
theorem d_M_disturb_18 : decode b_M_disturb 18 = .ok (.if_icmp .le 7, 3) := by decide +kernel
theorem d_M_disturb_21 : decode b_M_disturb 21 = .ok (.iconst 1, 1) := by decide +kernel
theorem d_M_disturb_22 : decode b_M_disturb 22 = .ok (.goto 4, 3) := by decide +kernel
theorem d_M_disturb_25 : decode b_M_disturb 25 = .ok (.iconst 0, 1) := by decide +kernel
theorem d_M_disturb_26 : decode b_M_disturb 26 = .ok (.putfield 105, 3) := by decide +kernel
theorem d_M_disturb_29 : decode b_M_disturb 29 = .ok (.aload_n 0, 1) := by decide +kernel
theorem d_M_disturb_30 : decode b_M_disturb 30 = .ok (.getfield 105, 3) := by decide +kernel
theorem d_M_disturb_33 : decode b_M_disturb 33 = .ok (.ifCond .ne 27, 3) := by decide +kernel
theorem d_M_disturb_36 : decode b_M_disturb 36 = .ok (.aload_n 0, 1) := by decide +kernel
theorem d_M_disturb_37 : decode b_M_disturb 37 = .ok (.getfield 16, 3) := by decide +kernel
theorem d_M_disturb_40 : decode b_M_disturb 40 = .ok (.sipush 256, 3) := by decide +kernel
theorem d_M_disturb_43 : decode b_M_disturb 43 = .ok (.iload_n 1, 1) := by decide +kernel
theorem d_M_disturb_44 : decode b_M_disturb 44 = .ok (.imul, 1) := by decide +kernel
theorem d_M_disturb_45 : decode b_M_disturb 45 = .ok (.aload_n 0, 1) := by decide +kernel
theorem d_M_disturb_46 : decode b_M_disturb 46 = .ok (.getfield 7, 3) := by decide +kernel
theorem d_M_disturb_49 : decode b_M_disturb 49 = .ok (.iconst 0, 1) := by decide +kernel
theorem d_M_disturb_50 : decode b_M_disturb 50 = .ok (.iaload, 1) := by decide +kernel
theorem d_M_disturb_51 : decode b_M_disturb 51 = .ok (.iload_n 2, 1) := by decide +kernel
theorem d_M_disturb_52 : decode b_M_disturb 52 = .ok (.iadd, 1) := by decide +kernel
theorem d_M_disturb_53 : decode b_M_disturb 53 = .ok (.sipush 256, 3) := by decide +kernel
theorem d_M_disturb_56 : decode b_M_disturb 56 = .ok (.irem, 1) := by decide +kernel
theorem d_M_disturb_57 : decode b_M_disturb 57 = .ok (.iadd, 1) := by decide +kernel
theorem d_M_disturb_58 : decode b_M_disturb 58 = .ok (.iconst 1, 1) := by decide +kernel
theorem d_M_disturb_59 : decode b_M_disturb 59 = .ok (.bastore, 1) := by decide +kernel
theorem d_M_disturb_60 : decode b_M_disturb 60 = .ok (.return_, 1) := by decide +kernel
theorem d_M_pass_0 : decode b_M_pass 0 = .ok (.aload_n 0, 1) := by decide +kernel
theorem d_M_pass_1 : decode b_M_pass 1 = .ok (.iload_n 1, 1) := by decide +kernel
theorem d_M_pass_2 : decode b_M_pass 2 = .ok (.iconst 1, 1) := by decide +kernel
theorem d_M_pass_3 : decode b_M_pass 3 = .ok (.if_icmp .lt 10, 3) := by decide +kernel
theorem d_M_pass_6 : decode b_M_pass 6 = .ok (.iload_n 1, 1) := by decide +kernel
theorem d_M_pass_7 : decode b_M_pass 7 = .ok (.sipush 200, 3) := by decide +kernel
theorem d_M_pass_10 : decode b_M_pass 10 = .ok (.if_icmp .le 7, 3) := by decide +kernel
theorem d_M_pass_13 : decode b_M_pass 13 = .ok (.iconst 1, 1) := by decide +kernel
theorem d_M_pass_14 : decode b_M_pass 14 = .ok (.goto 4, 3) := by decide +kernel
theorem d_M_pass_17 : decode b_M_pass 17 = .ok (.iconst 0, 1) := by decide +kernel
theorem d_M_pass_18 : decode b_M_pass 18 = .ok (.putfield 105, 3) := by decide +kernel
theorem d_M_pass_21 : decode b_M_pass 21 = .ok (.aload_n 0, 1) := by decide +kernel
theorem d_M_pass_22 : decode b_M_pass 22 = .ok (.getfield 7, 3) := by decide +kernel
theorem d_M_pass_25 : decode b_M_pass 25 = .ok (.iconst 1, 1) := by decide +kernel
theorem d_M_pass_26 : decode b_M_pass 26 = .ok (.iaload, 1) := by decide +kernel
theorem d_M_pass_27 : decode b_M_pass 27 = .ok (.istore_n 2, 1) := by decide +kernel
theorem d_M_pass_28 : decode b_M_pass 28 = .ok (.iconst 0, 1) := by decide +kernel
theorem d_M_pass_29 : decode b_M_pass 29 = .ok (.istore_n 3, 1) := by decide +kernel
theorem d_M_pass_30 : decode b_M_pass 30 = .ok (.iload_n 3, 1) := by decide +kernel
theorem d_M_pass_31 : decode b_M_pass 31 = .ok (.iload_n 1, 1) := by decide +kernel
theorem d_M_pass_32 : decode b_M_pass 32 = .ok (.if_icmp .ge 20, 3) := by decide +kernel
theorem d_M_pass_35 : decode b_M_pass 35 = .ok (.aload_n 0, 1) := by decide +kernel
theorem d_M_pass_36 : decode b_M_pass 36 = .ok (.getfield 105, 3) := by decide +kernel
theorem d_M_pass_39 : decode b_M_pass 39 = .ok (.ifCond .ne 13, 3) := by decide +kernel
theorem d_M_pass_42 : decode b_M_pass 42 = .ok (.aload_n 0, 1) := by decide +kernel
theorem d_M_pass_43 : decode b_M_pass 43 = .ok (.invokevirtual 187, 3) := by decide +kernel
theorem d_M_pass_46 : decode b_M_pass 46 = .ok (.iinc 3 1, 3) := by decide +kernel
theorem d_M_pass_49 : decode b_M_pass 49 = .ok (.goto (-19), 3) := by decide +kernel
theorem d_M_pass_52 : decode b_M_pass 52 = .ok (.aload_n 0, 1) := by decide +kernel
theorem d_M_pass_53 : decode b_M_pass 53 = .ok (.getfield 7, 3) := by decide +kernel
theorem d_M_pass_56 : decode b_M_pass 56 = .ok (.iconst 1, 1) := by decide +kernel
theorem d_M_pass_57 : decode b_M_pass 57 = .ok (.iaload, 1) := by decide +kernel
theorem d_M_pass_58 : decode b_M_pass 58 = .ok (.iload_n 2, 1) := by decide +kernel
theorem d_M_pass_59 : decode b_M_pass 59 = .ok (.isub, 1) := by decide +kernel
theorem d_M_pass_60 : decode b_M_pass 60 = .ok (.ireturn, 1) := by decide +kernel
theorem d_M_bitTime_0 : decode b_M_bitTime 0 = .ok (.aload_n 0, 1) := by decide +kernel
theorem d_M_bitTime_1 : decode b_M_bitTime 1 = .ok (.getfield 7, 3) := by decide +kernel
theorem d_M_bitTime_4 : decode b_M_bitTime 4 = .ok (.iconst 0, 1) := by decide +kernel
theorem d_M_bitTime_5 : decode b_M_bitTime 5 = .ok (.iaload, 1) := by decide +kernel
theorem d_M_bitTime_6 : decode b_M_bitTime 6 = .ok (.iconst 1, 1) := by decide +kernel
theorem d_M_bitTime_7 : decode b_M_bitTime 7 = .ok (.iadd, 1) := by decide +kernel
theorem d_M_bitTime_8 : decode b_M_bitTime 8 = .ok (.istore_n 1, 1) := by decide +kernel
theorem d_M_bitTime_9 : decode b_M_bitTime 9 = .ok (.iconst 1, 1) := by decide +kernel
theorem d_M_bitTime_10 : decode b_M_bitTime 10 = .ok (.istore_n 2, 1) := by decide +kernel
theorem d_M_bitTime_11 : decode b_M_bitTime 11 = .ok (.iconst 0, 1) := by decide +kernel
theorem d_M_bitTime_12 : decode b_M_bitTime 12 = .ok (.istore_n 3, 1) := by decide +kernel
theorem d_M_bitTime_13 : decode b_M_bitTime 13 = .ok (.iload_n 3, 1) := by decide +kernel
theorem d_M_bitTime_14 : decode b_M_bitTime 14 = .ok (.aload_n 0, 1) := by decide +kernel
theorem d_M_bitTime_15 : decode b_M_bitTime 15 = .ok (.getfield 101, 3) := by decide +kernel
theorem d_M_bitTime_18 : decode b_M_bitTime 18 = .ok (.if_icmp .ge 52, 3) := by decide +kernel
theorem d_M_bitTime_21 : decode b_M_bitTime 21 = .ok (.aload_n 0, 1) := by decide +kernel
theorem d_M_bitTime_22 : decode b_M_bitTime 22 = .ok (.getfield 20, 3) := by decide +kernel
theorem d_M_bitTime_25 : decode b_M_bitTime 25 = .ok (.iload_n 3, 1) := by decide +kernel
theorem d_M_bitTime_26 : decode b_M_bitTime 26 = .ok (.iaload, 1) := by decide +kernel
theorem d_M_bitTime_27 : decode b_M_bitTime 27 = .ok (.ifCond .ne 17, 3) := by decide +kernel
theorem d_M_bitTime_30 : decode b_M_bitTime 30 = .ok (.aload_n 0, 1) := by decide +kernel
theorem d_M_bitTime_31 : decode b_M_bitTime 31 = .ok (.getfield 38, 3) := by decide +kernel
theorem d_M_bitTime_34 : decode b_M_bitTime 34 = .ok (.iload_n 3, 1) := by decide +kernel
theorem d_M_bitTime_35 : decode b_M_bitTime 35 = .ok (.iaload, 1) := by decide +kernel
theorem d_M_bitTime_36 : decode b_M_bitTime 36 = .ok (.ifCond .le 8, 3) := by decide +kernel
theorem d_M_bitTime_39 : decode b_M_bitTime 39 = .ok (.aload_n 0, 1) := by decide +kernel
theorem d_M_bitTime_40 : decode b_M_bitTime 40 = .ok (.iload_n 3, 1) := by decide +kernel
theorem d_M_bitTime_41 : decode b_M_bitTime 41 = .ok (.invokevirtual 178, 3) := by decide +kernel
theorem d_M_bitTime_44 : decode b_M_bitTime 44 = .ok (.aload_n 0, 1) := by decide +kernel
theorem d_M_bitTime_45 : decode b_M_bitTime 45 = .ok (.getfield 98, 3) := by decide +kernel
theorem d_M_bitTime_48 : decode b_M_bitTime 48 = .ok (.iload_n 3, 1) := by decide +kernel
theorem d_M_bitTime_49 : decode b_M_bitTime 49 = .ok (.aload_n 0, 1) := by decide +kernel
theorem d_M_bitTime_50 : decode b_M_bitTime 50 = .ok (.iload_n 3, 1) := by decide +kernel
theorem d_M_bitTime_51 : decode b_M_bitTime 51 = .ok (.invokevirtual 181, 3) := by decide +kernel
theorem d_M_bitTime_54 : decode b_M_bitTime 54 = .ok (.iastore, 1) := by decide +kernel
theorem d_M_bitTime_55 : decode b_M_bitTime 55 = .ok (.iload_n 2, 1) := by decide +kernel
theorem d_M_bitTime_56 : decode b_M_bitTime 56 = .ok (.aload_n 0, 1) := by decide +kernel
theorem d_M_bitTime_57 : decode b_M_bitTime 57 = .ok (.getfield 98, 3) := by decide +kernel
theorem d_M_bitTime_60 : decode b_M_bitTime 60 = .ok (.iload_n 3, 1) := by decide +kernel
theorem d_M_bitTime_61 : decode b_M_bitTime 61 = .ok (.iaload, 1) := by decide +kernel
theorem d_M_bitTime_62 : decode b_M_bitTime 62 = .ok (.iand, 1) := by decide +kernel
theorem d_M_bitTime_63 : decode b_M_bitTime 63 = .ok (.istore_n 2, 1) := by decide +kernel
theorem d_M_bitTime_64 : decode b_M_bitTime 64 = .ok (.iinc 3 1, 3) := by decide +kernel
theorem d_M_bitTime_67 : decode b_M_bitTime 67 = .ok (.goto (-54), 3) := by decide +kernel
theorem d_M_bitTime_70 : decode b_M_bitTime 70 = .ok (.iconst 0, 1) := by decide +kernel
theorem d_M_bitTime_71 : decode b_M_bitTime 71 = .ok (.istore_n 3, 1) := by decide +kernel
theorem d_M_bitTime_72 : decode b_M_bitTime 72 = .ok (.iload_n 3, 1) := by decide +kernel
theorem d_M_bitTime_73 : decode b_M_bitTime 73 = .ok (.aload_n 0, 1) := by decide +kernel
theorem d_M_bitTime_74 : decode b_M_bitTime 74 = .ok (.getfield 101, 3) := by decide +kernel
theorem d_M_bitTime_77 : decode b_M_bitTime 77 = .ok (.if_icmp .ge 56, 3) := by decide +kernel
theorem d_M_bitTime_80 : decode b_M_bitTime 80 = .ok (.sipush 256, 3) := by decide +kernel
theorem d_M_bitTime_83 : decode b_M_bitTime 83 = .ok (.iload_n 3, 1) := by decide +kernel
theorem d_M_bitTime_84 : decode b_M_bitTime 84 = .ok (.imul, 1) := by decide +kernel
theorem d_M_bitTime_85 : decode b_M_bitTime 85 = .ok (.iload_n 1, 1) := by decide +kernel
theorem d_M_bitTime_86 : decode b_M_bitTime 86 = .ok (.sipush 256, 3) := by decide +kernel
theorem d_M_bitTime_89 : decode b_M_bitTime 89 = .ok (.irem, 1) := by decide +kernel
theorem d_M_bitTime_90 : decode b_M_bitTime 90 = .ok (.iadd, 1) := by decide +kernel
theorem d_M_bitTime_91 : decode b_M_bitTime 91 = .ok (.istore 4, 2) := by decide +kernel
theorem d_M_bitTime_93 : decode b_M_bitTime 93 = .ok (.aload_n 0, 1) := by decide +kernel
theorem d_M_bitTime_94 : decode b_M_bitTime 94 = .ok (.getfield 16, 3) := by decide +kernel
theorem d_M_bitTime_97 : decode b_M_bitTime 97 = .ok (.iload 4, 2) := by decide +kernel
theorem d_M_bitTime_99 : decode b_M_bitTime 99 = .ok (.baload, 1) := by decide +kernel
theorem d_M_bitTime_100 : decode b_M_bitTime 100 = .ok (.ifCond .eq 9, 3) := by decide +kernel
theorem d_M_bitTime_103 : decode b_M_bitTime 103 = .ok (.iconst 1, 1) := by decide +kernel
theorem d_M_bitTime_104 : decode b_M_bitTime 104 = .ok (.iload_n 2, 1) := by decide +kernel
theorem d_M_bitTime_105 : decode b_M_bitTime 105 = .ok (.isub, 1) := by decide +kernel
theorem d_M_bitTime_106 : decode b_M_bitTime 106 = .ok (.goto 4, 3) := by decide +kernel
theorem d_M_bitTime_109 : decode b_M_bitTime 109 = .ok (.iload_n 2, 1) := by decide +kernel
theorem d_M_bitTime_110 : decode b_M_bitTime 110 = .ok (.istore 5, 2) := by decide +kernel
theorem d_M_bitTime_112 : decode b_M_bitTime 112 = .ok (.aload_n 0, 1) := by decide +kernel
theorem d_M_bitTime_113 : decode b_M_bitTime 113 = .ok (.getfield 16, 3) := by decide +kernel
theorem d_M_bitTime_116 : decode b_M_bitTime 116 = .ok (.iload 4, 2) := by decide +kernel
theorem d_M_bitTime_118 : decode b_M_bitTime 118 = .ok (.iconst 0, 1) := by decide +kernel
theorem d_M_bitTime_119 : decode b_M_bitTime 119 = .ok (.bastore, 1) := by decide +kernel
theorem d_M_bitTime_120 : decode b_M_bitTime 120 = .ok (.aload_n 0, 1) := by decide +kernel
theorem d_M_bitTime_121 : decode b_M_bitTime 121 = .ok (.iload_n 3, 1) := by decide +kernel
theorem d_M_bitTime_122 : decode b_M_bitTime 122 = .ok (.iload 5, 2) := by decide +kernel
theorem d_M_bitTime_124 : decode b_M_bitTime 124 = .ok (.invokevirtual 184, 3) := by decide +kernel
theorem d_M_bitTime_127 : decode b_M_bitTime 127 = .ok (.iinc 3 1, 3) := by decide +kernel
theorem d_M_bitTime_130 : decode b_M_bitTime 130 = .ok (.goto (-58), 3) := by decide +kernel
theorem d_M_bitTime_133 : decode b_M_bitTime 133 = .ok (.aload_n 0, 1) := by decide +kernel
theorem d_M_bitTime_134 : decode b_M_bitTime 134 = .ok (.getfield 13, 3) := by decide +kernel
theorem d_M_bitTime_137 : decode b_M_bitTime 137 = .ok (.iload_n 1, 1) := by decide +kernel
theorem d_M_bitTime_138 : decode b_M_bitTime 138 = .ok (.bipush 64, 2) := by decide +kernel
theorem d_M_bitTime_140 : decode b_M_bitTime 140 = .ok (.irem, 1) := by decide +kernel
theorem d_M_bitTime_141 : decode b_M_bitTime 141 = .ok (.iload_n 2, 1) := by decide +kernel
theorem d_M_bitTime_142 : decode b_M_bitTime 142 = .ok (.iastore, 1) := by decide +kernel
theorem d_M_bitTime_143 : decode b_M_bitTime 143 = .ok (.aload_n 0, 1) := by decide +kernel
theorem d_M_bitTime_144 : decode b_M_bitTime 144 = .ok (.getfield 7, 3) := by decide +kernel
theorem d_M_bitTime_147 : decode b_M_bitTime 147 = .ok (.iconst 0, 1) := by decide +kernel
theorem d_M_bitTime_148 : decode b_M_bitTime 148 = .ok (.iload_n 1, 1) := by decide +kernel
theorem d_M_bitTime_149 : decode b_M_bitTime 149 = .ok (.iastore, 1) := by decide +kernel
theorem d_M_bitTime_150 : decode b_M_bitTime 150 = .ok (.return_, 1) := by decide +kernel
theorem d_M_begin_0 : decode b_M_begin 0 = .ok (.iconst 0, 1) := by decide +kernel
theorem d_M_begin_1 : decode b_M_begin 1 = .ok (.istore_n 2, 1) := by decide +kernel
theorem d_M_begin_2 : decode b_M_begin 2 = .ok (.iconst 1, 1) := by decide +kernel
theorem d_M_begin_3 : decode b_M_begin 3 = .ok (.istore_n 3, 1) := by decide +kernel
theorem d_M_begin_4 : decode b_M_begin 4 = .ok (.iload_n 3, 1) := by decide +kernel
theorem d_M_begin_5 : decode b_M_begin 5 = .ok (.aload_n 0, 1) := by decide +kernel
theorem d_M_begin_6 : decode b_M_begin 6 = .ok (.getfield 38, 3) := by decide +kernel
theorem d_M_begin_9 : decode b_M_begin 9 = .ok (.iload_n 1, 1) := by decide +kernel
theorem d_M_begin_10 : decode b_M_begin 10 = .ok (.iaload, 1) := by decide +kernel
theorem d_M_begin_11 : decode b_M_begin 11 = .ok (.if_icmp .ge 38, 3) := by decide +kernel
theorem d_M_begin_14 : decode b_M_begin 14 = .ok (.aload_n 0, 1) := by decide +kernel
theorem d_M_begin_15 : decode b_M_begin 15 = .ok (.getfield 41, 3) := by decide +kernel
theorem d_M_begin_18 : decode b_M_begin 18 = .ok (.iconst 4, 1) := by decide +kernel
theorem d_M_begin_19 : decode b_M_begin 19 = .ok (.iload_n 1, 1) := by decide +kernel
theorem d_M_begin_20 : decode b_M_begin 20 = .ok (.imul, 1) := by decide +kernel
theorem d_M_begin_21 : decode b_M_begin 21 = .ok (.iload_n 3, 1) := by decide +kernel
theorem d_M_begin_22 : decode b_M_begin 22 = .ok (.iadd, 1) := by decide +kernel
theorem d_M_begin_23 : decode b_M_begin 23 = .ok (.iaload, 1) := by decide +kernel
theorem d_M_begin_24 : decode b_M_begin 24 = .ok (.aload_n 0, 1) := by decide +kernel
theorem d_M_begin_25 : decode b_M_begin 25 = .ok (.getfield 41, 3) := by decide +kernel
theorem d_M_begin_28 : decode b_M_begin 28 = .ok (.iconst 4, 1) := by decide +kernel
theorem d_M_begin_29 : decode b_M_begin 29 = .ok (.iload_n 1, 1) := by decide +kernel
theorem d_M_begin_30 : decode b_M_begin 30 = .ok (.imul, 1) := by decide +kernel
theorem d_M_begin_31 : decode b_M_begin 31 = .ok (.iload_n 2, 1) := by decide +kernel
theorem d_M_begin_32 : decode b_M_begin 32 = .ok (.iadd, 1) := by decide +kernel
theorem d_M_begin_33 : decode b_M_begin 33 = .ok (.iaload, 1) := by decide +kernel
theorem d_M_begin_34 : decode b_M_begin 34 = .ok (.if_icmp .ge 7, 3) := by decide +kernel
theorem d_M_begin_37 : decode b_M_begin 37 = .ok (.iload_n 3, 1) := by decide +kernel
theorem d_M_begin_38 : decode b_M_begin 38 = .ok (.goto 4, 3) := by decide +kernel
theorem d_M_begin_41 : decode b_M_begin 41 = .ok (.iload_n 2, 1) := by decide +kernel
theorem d_M_begin_42 : decode b_M_begin 42 = .ok (.istore_n 2, 1) := by decide +kernel
theorem d_M_begin_43 : decode b_M_begin 43 = .ok (.iinc 3 1, 3) := by decide +kernel
theorem d_M_begin_46 : decode b_M_begin 46 = .ok (.goto (-42), 3) := by decide +kernel
theorem d_M_begin_49 : decode b_M_begin 49 = .ok (.aload_n 0, 1) := by decide +kernel
theorem d_M_begin_50 : decode b_M_begin 50 = .ok (.getfield 50, 3) := by decide +kernel
theorem d_M_begin_53 : decode b_M_begin 53 = .ok (.iload_n 1, 1) := by decide +kernel
theorem d_M_begin_54 : decode b_M_begin 54 = .ok (.iload_n 2, 1) := by decide +kernel
theorem d_M_begin_55 : decode b_M_begin 55 = .ok (.iastore, 1) := by decide +kernel
theorem d_M_begin_56 : decode b_M_begin 56 = .ok (.aload_n 0, 1) := by decide +kernel
theorem d_M_begin_57 : decode b_M_begin 57 = .ok (.iload_n 1, 1) := by decide +kernel
theorem d_M_begin_58 : decode b_M_begin 58 = .ok (.iconst 1, 1) := by decide +kernel
theorem d_M_begin_59 : decode b_M_begin 59 = .ok (.invokevirtual 112, 3) := by decide +kernel
theorem d_M_begin_62 : decode b_M_begin 62 = .ok (.return_, 1) := by decide +kernel
theorem d_M_open_0 : decode b_M_open 0 = .ok (.aload_n 0, 1) := by decide +kernel
theorem d_M_open_1 : decode b_M_open 1 = .ok (.getfield 20, 3) := by decide +kernel
theorem d_M_open_4 : decode b_M_open 4 = .ok (.iload_n 1, 1) := by decide +kernel
theorem d_M_open_5 : decode b_M_open 5 = .ok (.iload_n 2, 1) := by decide +kernel
theorem d_M_open_6 : decode b_M_open 6 = .ok (.iastore, 1) := by decide +kernel
theorem d_M_open_7 : decode b_M_open 7 = .ok (.aload_n 0, 1) := by decide +kernel
theorem d_M_open_8 : decode b_M_open 8 = .ok (.getfield 95, 3) := by decide +kernel
theorem d_M_open_11 : decode b_M_open 11 = .ok (.iload_n 1, 1) := by decide +kernel
theorem d_M_open_12 : decode b_M_open 12 = .ok (.iload_n 2, 1) := by decide +kernel
theorem d_M_open_13 : decode b_M_open 13 = .ok (.iastore, 1) := by decide +kernel
theorem d_M_open_14 : decode b_M_open 14 = .ok (.aload_n 0, 1) := by decide +kernel
theorem d_M_open_15 : decode b_M_open 15 = .ok (.getfield 59, 3) := by decide +kernel
theorem d_M_open_18 : decode b_M_open 18 = .ok (.iload_n 1, 1) := by decide +kernel
theorem d_M_open_19 : decode b_M_open 19 = .ok (.iconst 0, 1) := by decide +kernel
theorem d_M_open_20 : decode b_M_open 20 = .ok (.iastore, 1) := by decide +kernel
theorem d_M_open_21 : decode b_M_open 21 = .ok (.aload_n 0, 1) := by decide +kernel
theorem d_M_open_22 : decode b_M_open 22 = .ok (.getfield 62, 3) := by decide +kernel
theorem d_M_open_25 : decode b_M_open 25 = .ok (.iload_n 1, 1) := by decide +kernel
theorem d_M_open_26 : decode b_M_open 26 = .ok (.iconst 0, 1) := by decide +kernel
theorem d_M_open_27 : decode b_M_open 27 = .ok (.iastore, 1) := by decide +kernel
theorem d_M_open_28 : decode b_M_open 28 = .ok (.aload_n 0, 1) := by decide +kernel
theorem d_M_open_29 : decode b_M_open 29 = .ok (.getfield 65, 3) := by decide +kernel
theorem d_M_open_32 : decode b_M_open 32 = .ok (.iload_n 1, 1) := by decide +kernel
theorem d_M_open_33 : decode b_M_open 33 = .ok (.iconst 0, 1) := by decide +kernel
theorem d_M_open_34 : decode b_M_open 34 = .ok (.iastore, 1) := by decide +kernel
theorem d_M_open_35 : decode b_M_open 35 = .ok (.aload_n 0, 1) := by decide +kernel
theorem d_M_open_36 : decode b_M_open 36 = .ok (.getfield 68, 3) := by decide +kernel
theorem d_M_open_39 : decode b_M_open 39 = .ok (.iload_n 1, 1) := by decide +kernel
theorem d_M_open_40 : decode b_M_open 40 = .ok (.iconst 0, 1) := by decide +kernel
theorem d_M_open_41 : decode b_M_open 41 = .ok (.iastore, 1) := by decide +kernel
theorem d_M_open_42 : decode b_M_open 42 = .ok (.aload_n 0, 1) := by decide +kernel
theorem d_M_open_43 : decode b_M_open 43 = .ok (.getfield 71, 3) := by decide +kernel
theorem d_M_open_46 : decode b_M_open 46 = .ok (.iload_n 1, 1) := by decide +kernel
theorem d_M_open_47 : decode b_M_open 47 = .ok (.iconst 0, 1) := by decide +kernel
theorem d_M_open_48 : decode b_M_open 48 = .ok (.iastore, 1) := by decide +kernel
theorem d_M_open_49 : decode b_M_open 49 = .ok (.aload_n 0, 1) := by decide +kernel
theorem d_M_open_50 : decode b_M_open 50 = .ok (.getfield 74, 3) := by decide +kernel
theorem d_M_open_53 : decode b_M_open 53 = .ok (.iload_n 1, 1) := by decide +kernel
theorem d_M_open_54 : decode b_M_open 54 = .ok (.iconst 0, 1) := by decide +kernel
theorem d_M_open_55 : decode b_M_open 55 = .ok (.iastore, 1) := by decide +kernel
theorem d_M_open_56 : decode b_M_open 56 = .ok (.aload_n 0, 1) := by decide +kernel
theorem d_M_open_57 : decode b_M_open 57 = .ok (.getfield 77, 3) := by decide +kernel
theorem d_M_open_60 : decode b_M_open 60 = .ok (.iload_n 1, 1) := by decide +kernel
theorem d_M_open_61 : decode b_M_open 61 = .ok (.iconst 0, 1) := by decide +kernel
theorem d_M_open_62 : decode b_M_open 62 = .ok (.iastore, 1) := by decide +kernel
theorem d_M_open_63 : decode b_M_open 63 = .ok (.aload_n 0, 1) := by decide +kernel
theorem d_M_open_64 : decode b_M_open 64 = .ok (.getfield 80, 3) := by decide +kernel
theorem d_M_open_67 : decode b_M_open 67 = .ok (.iload_n 1, 1) := by decide +kernel
theorem d_M_open_68 : decode b_M_open 68 = .ok (.iconst 0, 1) := by decide +kernel
theorem d_M_open_69 : decode b_M_open 69 = .ok (.iastore, 1) := by decide +kernel
theorem d_M_open_70 : decode b_M_open 70 = .ok (.return_, 1) := by decide +kernel
theorem d_M_driven_0 : decode b_M_driven 0 = .ok (.aload_n 0, 1) := by decide +kernel
theorem d_M_driven_1 : decode b_M_driven 1 = .ok (.getfield 20, 3) := by decide +kernel
theorem d_M_driven_4 : decode b_M_driven 4 = .ok (.iload_n 1, 1) := by decide +kernel
theorem d_M_driven_5 : decode b_M_driven 5 = .ok (.iaload, 1) := by decide +kernel
theorem d_M_driven_6 : decode b_M_driven 6 = .ok (.tableswitch 106 1 3 #[26, 66, 91], 26) := by decide +kernel
theorem d_M_driven_32 : decode b_M_driven 32 = .ok (.aload_n 0, 1) := by decide +kernel
theorem d_M_driven_33 : decode b_M_driven 33 = .ok (.getfield 59, 3) := by decide +kernel
theorem d_M_driven_36 : decode b_M_driven 36 = .ok (.iload_n 1, 1) := by decide +kernel
theorem d_M_driven_37 : decode b_M_driven 37 = .ok (.iaload, 1) := by decide +kernel
theorem d_M_driven_38 : decode b_M_driven 38 = .ok (.ifCond .le 7, 3) := by decide +kernel
theorem d_M_driven_41 : decode b_M_driven 41 = .ok (.iconst 1, 1) := by decide +kernel
theorem d_M_driven_42 : decode b_M_driven 42 = .ok (.goto 29, 3) := by decide +kernel
theorem d_M_driven_45 : decode b_M_driven 45 = .ok (.aload_n 0, 1) := by decide +kernel
theorem d_M_driven_46 : decode b_M_driven 46 = .ok (.getfield 65, 3) := by decide +kernel
theorem d_M_driven_49 : decode b_M_driven 49 = .ok (.iload_n 1, 1) := by decide +kernel
theorem d_M_driven_50 : decode b_M_driven 50 = .ok (.iaload, 1) := by decide +kernel
theorem d_M_driven_51 : decode b_M_driven 51 = .ok (.iconst 5, 1) := by decide +kernel
theorem d_M_driven_52 : decode b_M_driven 52 = .ok (.if_icmp .ne 14, 3) := by decide +kernel
theorem d_M_driven_55 : decode b_M_driven 55 = .ok (.iconst 1, 1) := by decide +kernel
theorem d_M_driven_56 : decode b_M_driven 56 = .ok (.aload_n 0, 1) := by decide +kernel
theorem d_M_driven_57 : decode b_M_driven 57 = .ok (.getfield 68, 3) := by decide +kernel
theorem d_M_driven_60 : decode b_M_driven 60 = .ok (.iload_n 1, 1) := by decide +kernel
theorem d_M_driven_61 : decode b_M_driven 61 = .ok (.iaload, 1) := by decide +kernel
theorem d_M_driven_62 : decode b_M_driven 62 = .ok (.isub, 1) := by decide +kernel
theorem d_M_driven_63 : decode b_M_driven 63 = .ok (.goto 8, 3) := by decide +kernel
theorem d_M_driven_66 : decode b_M_driven 66 = .ok (.aload_n 0, 1) := by decide +kernel
theorem d_M_driven_67 : decode b_M_driven 67 = .ok (.iload_n 1, 1) := by decide +kernel
theorem d_M_driven_68 : decode b_M_driven 68 = .ok (.invokevirtual 116, 3) := by decide +kernel
theorem d_M_driven_71 : decode b_M_driven 71 = .ok (.ireturn, 1) := by decide +kernel
theorem d_M_driven_72 : decode b_M_driven 72 = .ok (.aload_n 0, 1) := by decide +kernel
theorem d_M_driven_73 : decode b_M_driven 73 = .ok (.getfield 59, 3) := by decide +kernel
theorem d_M_driven_76 : decode b_M_driven 76 = .ok (.iload_n 1, 1) := by decide +kernel
theorem d_M_driven_77 : decode b_M_driven 77 = .ok (.iaload, 1) := by decide +kernel
theorem d_M_driven_78 : decode b_M_driven 78 = .ok (.iconst 2, 1) := by decide +kernel
theorem d_M_driven_79 : decode b_M_driven 79 = .ok (.if_icmp .ne 16, 3) := by decide +kernel
theorem d_M_driven_82 : decode b_M_driven 82 = .ok (.aload_n 0, 1) := by decide +kernel
theorem d_M_driven_83 : decode b_M_driven 83 = .ok (.getfield 71, 3) := by decide +kernel
theorem d_M_driven_86 : decode b_M_driven 86 = .ok (.iload_n 1, 1) := by decide +kernel
theorem d_M_driven_87 : decode b_M_driven 87 = .ok (.iaload, 1) := by decide +kernel
theorem d_M_driven_88 : decode b_M_driven 88 = .ok (.ifCond .ne 7, 3) := by decide +kernel
theorem d_M_driven_91 : decode b_M_driven 91 = .ok (.iconst 0, 1) := by decide +kernel
theorem d_M_driven_92 : decode b_M_driven 92 = .ok (.goto 4, 3) := by decide +kernel
theorem d_M_driven_95 : decode b_M_driven 95 = .ok (.iconst 1, 1) := by decide +kernel
theorem d_M_driven_96 : decode b_M_driven 96 = .ok (.ireturn, 1) := by decide +kernel
theorem d_M_driven_97 : decode b_M_driven 97 = .ok (.aload_n 0, 1) := by decide +kernel
theorem d_M_driven_98 : decode b_M_driven 98 = .ok (.getfield 86, 3) := by decide +kernel
theorem d_M_driven_101 : decode b_M_driven 101 = .ok (.iload_n 1, 1) := by decide +kernel
theorem d_M_driven_102 : decode b_M_driven 102 = .ok (.baload, 1) := by decide +kernel
theorem d_M_driven_103 : decode b_M_driven 103 = .ok (.ifCond .eq 7, 3) := by decide +kernel
theorem d_M_driven_106 : decode b_M_driven 106 = .ok (.iconst 1, 1) := by decide +kernel
theorem d_M_driven_107 : decode b_M_driven 107 = .ok (.goto 4, 3) := by decide +kernel
theorem d_M_driven_110 : decode b_M_driven 110 = .ok (.iconst 0, 1) := by decide +kernel
theorem d_M_driven_111 : decode b_M_driven 111 = .ok (.ireturn, 1) := by decide +kernel
theorem d_M_driven_112 : decode b_M_driven 112 = .ok (.iconst 1, 1) := by decide +kernel
theorem d_M_driven_113 : decode b_M_driven 113 = .ok (.ireturn, 1) := by decide +kernel
theorem d_M_coreBit_0 : decode b_M_coreBit 0 = .ok (.aload_n 0, 1) := by decide +kernel
theorem d_M_coreBit_1 : decode b_M_coreBit 1 = .ok (.getfield 62, 3) := by decide +kernel
theorem d_M_coreBit_4 : decode b_M_coreBit 4 = .ok (.iload_n 1, 1) := by decide +kernel
theorem d_M_coreBit_5 : decode b_M_coreBit 5 = .ok (.iaload, 1) := by decide +kernel
theorem d_M_coreBit_6 : decode b_M_coreBit 6 = .ok (.istore_n 2, 1) := by decide +kernel
theorem d_M_coreBit_7 : decode b_M_coreBit 7 = .ok (.iconst 4, 1) := by decide +kernel
theorem d_M_coreBit_8 : decode b_M_coreBit 8 = .ok (.iload_n 1, 1) := by decide +kernel
theorem d_M_coreBit_9 : decode b_M_coreBit 9 = .ok (.imul, 1) := by decide +kernel
theorem d_M_coreBit_10 : decode b_M_coreBit 10 = .ok (.aload_n 0, 1) := by decide +kernel
theorem d_M_coreBit_11 : decode b_M_coreBit 11 = .ok (.getfield 50, 3) := by decide +kernel
theorem d_M_coreBit_14 : decode b_M_coreBit 14 = .ok (.iload_n 1, 1) := by decide +kernel
theorem d_M_coreBit_15 : decode b_M_coreBit 15 = .ok (.iaload, 1) := by decide +kernel
theorem d_M_coreBit_16 : decode b_M_coreBit 16 = .ok (.iadd, 1) := by decide +kernel
theorem d_M_coreBit_17 : decode b_M_coreBit 17 = .ok (.istore_n 3, 1) := by decide +kernel
theorem d_M_coreBit_18 : decode b_M_coreBit 18 = .ok (.iload_n 2, 1) := by decide +kernel
theorem d_M_coreBit_19 : decode b_M_coreBit 19 = .ok (.ifCond .le 23, 3) := by decide +kernel
theorem d_M_coreBit_22 : decode b_M_coreBit 22 = .ok (.iload_n 2, 1) := by decide +kernel
theorem d_M_coreBit_23 : decode b_M_coreBit 23 = .ok (.bipush 12, 2) := by decide +kernel
theorem d_M_coreBit_25 : decode b_M_coreBit 25 = .ok (.if_icmp .ge 17, 3) := by decide +kernel
theorem d_M_coreBit_28 : decode b_M_coreBit 28 = .ok (.aload_n 0, 1) := by decide +kernel
theorem d_M_coreBit_29 : decode b_M_coreBit 29 = .ok (.getfield 41, 3) := by decide +kernel
theorem d_M_coreBit_32 : decode b_M_coreBit 32 = .ok (.iload_n 3, 1) := by decide +kernel
theorem d_M_coreBit_33 : decode b_M_coreBit 33 = .ok (.iaload, 1) := by decide +kernel
theorem d_M_coreBit_34 : decode b_M_coreBit 34 = .ok (.bipush 11, 2) := by decide +kernel
theorem d_M_coreBit_36 : decode b_M_coreBit 36 = .ok (.iload_n 2, 1) := by decide +kernel
theorem d_M_coreBit_37 : decode b_M_coreBit 37 = .ok (.isub, 1) := by decide +kernel
theorem d_M_coreBit_38 : decode b_M_coreBit 38 = .ok (.ishr, 1) := by decide +kernel
theorem d_M_coreBit_39 : decode b_M_coreBit 39 = .ok (.iconst 1, 1) := by decide +kernel
theorem d_M_coreBit_40 : decode b_M_coreBit 40 = .ok (.iand, 1) := by decide +kernel
theorem d_M_coreBit_41 : decode b_M_coreBit 41 = .ok (.ireturn, 1) := by decide +kernel
theorem d_M_coreBit_42 : decode b_M_coreBit 42 = .ok (.iload_n 2, 1) := by decide +kernel
theorem d_M_coreBit_43 : decode b_M_coreBit 43 = .ok (.bipush 15, 2) := by decide +kernel
theorem d_M_coreBit_45 : decode b_M_coreBit 45 = .ok (.if_icmp .ge 5, 3) := by decide +kernel
theorem d_M_coreBit_48 : decode b_M_coreBit 48 = .ok (.iconst 0, 1) := by decide +kernel
theorem d_M_coreBit_49 : decode b_M_coreBit 49 = .ok (.ireturn, 1) := by decide +kernel
theorem d_M_coreBit_50 : decode b_M_coreBit 50 = .ok (.iload_n 2, 1) := by decide +kernel
theorem d_M_coreBit_51 : decode b_M_coreBit 51 = .ok (.bipush 19, 2) := by decide +kernel
theorem d_M_coreBit_53 : decode b_M_coreBit 53 = .ok (.if_icmp .ge 17, 3) := by decide +kernel
theorem d_M_coreBit_56 : decode b_M_coreBit 56 = .ok (.aload_n 0, 1) := by decide +kernel
theorem d_M_coreBit_57 : decode b_M_coreBit 57 = .ok (.getfield 44, 3) := by decide +kernel
theorem d_M_coreBit_60 : decode b_M_coreBit 60 = .ok (.iload_n 3, 1) := by decide +kernel
theorem d_M_coreBit_61 : decode b_M_coreBit 61 = .ok (.iaload, 1) := by decide +kernel
theorem d_M_coreBit_62 : decode b_M_coreBit 62 = .ok (.bipush 18, 2) := by decide +kernel
theorem d_M_coreBit_64 : decode b_M_coreBit 64 = .ok (.iload_n 2, 1) := by decide +kernel
theorem d_M_coreBit_65 : decode b_M_coreBit 65 = .ok (.isub, 1) := by decide +kernel
theorem d_M_coreBit_66 : decode b_M_coreBit 66 = .ok (.ishr, 1) := by decide +kernel
theorem d_M_coreBit_67 : decode b_M_coreBit 67 = .ok (.iconst 1, 1) := by decide +kernel
theorem d_M_coreBit_68 : decode b_M_coreBit 68 = .ok (.iand, 1) := by decide +kernel
theorem d_M_coreBit_69 : decode b_M_coreBit 69 = .ok (.ireturn, 1) := by decide +kernel
theorem d_M_coreBit_70 : decode b_M_coreBit 70 = .ok (.iload_n 2, 1) := by decide +kernel
theorem d_M_coreBit_71 : decode b_M_coreBit 71 = .ok (.bipush 19, 2) := by decide +kernel
theorem d_M_coreBit_73 : decode b_M_coreBit 73 = .ok (.isub, 1) := by decide +kernel
theorem d_M_coreBit_74 : decode b_M_coreBit 74 = .ok (.istore 4, 2) := by decide +kernel
theorem d_M_coreBit_76 : decode b_M_coreBit 76 = .ok (.iload 4, 2) := by decide +kernel
theorem d_M_coreBit_78 : decode b_M_coreBit 78 = .ok (.bipush 8, 2) := by decide +kernel
theorem d_M_coreBit_80 : decode b_M_coreBit 80 = .ok (.aload_n 0, 1) := by decide +kernel
theorem d_M_coreBit_81 : decode b_M_coreBit 81 = .ok (.getfield 44, 3) := by decide +kernel
theorem d_M_coreBit_84 : decode b_M_coreBit 84 = .ok (.iload_n 3, 1) := by decide +kernel
theorem d_M_coreBit_85 : decode b_M_coreBit 85 = .ok (.iaload, 1) := by decide +kernel
theorem d_M_coreBit_86 : decode b_M_coreBit 86 = .ok (.imul, 1) := by decide +kernel
theorem d_M_coreBit_87 : decode b_M_coreBit 87 = .ok (.if_icmp .ge 30, 3) := by decide +kernel
theorem d_M_coreBit_90 : decode b_M_coreBit 90 = .ok (.aload_n 0, 1) := by decide +kernel
theorem d_M_coreBit_91 : decode b_M_coreBit 91 = .ok (.getfield 47, 3) := by decide +kernel
theorem d_M_coreBit_94 : decode b_M_coreBit 94 = .ok (.iload_n 3, 1) := by decide +kernel
theorem d_M_coreBit_95 : decode b_M_coreBit 95 = .ok (.iaload, 1) := by decide +kernel
theorem d_M_coreBit_96 : decode b_M_coreBit 96 = .ok (.bipush 8, 2) := by decide +kernel
theorem d_M_coreBit_98 : decode b_M_coreBit 98 = .ok (.iload 4, 2) := by decide +kernel
theorem d_M_coreBit_100 : decode b_M_coreBit 100 = .ok (.bipush 8, 2) := by decide +kernel
theorem d_M_coreBit_102 : decode b_M_coreBit 102 = .ok (.idiv, 1) := by decide +kernel
theorem d_M_coreBit_103 : decode b_M_coreBit 103 = .ok (.imul, 1) := by decide +kernel
theorem d_M_coreBit_104 : decode b_M_coreBit 104 = .ok (.bipush 7, 2) := by decide +kernel
theorem d_M_coreBit_106 : decode b_M_coreBit 106 = .ok (.iadd, 1) := by decide +kernel
theorem d_M_coreBit_107 : decode b_M_coreBit 107 = .ok (.iload 4, 2) := by decide +kernel
theorem d_M_coreBit_109 : decode b_M_coreBit 109 = .ok (.bipush 8, 2) := by decide +kernel
theorem d_M_coreBit_111 : decode b_M_coreBit 111 = .ok (.irem, 1) := by decide +kernel
theorem d_M_coreBit_112 : decode b_M_coreBit 112 = .ok (.isub, 1) := by decide +kernel
theorem d_M_coreBit_113 : decode b_M_coreBit 113 = .ok (.ishr, 1) := by decide +kernel
theorem d_M_coreBit_114 : decode b_M_coreBit 114 = .ok (.iconst 1, 1) := by decide +kernel
theorem d_M_coreBit_115 : decode b_M_coreBit 115 = .ok (.iand, 1) := by decide +kernel
theorem d_M_coreBit_116 : decode b_M_coreBit 116 = .ok (.ireturn, 1) := by decide +kernel
theorem d_M_coreBit_117 : decode b_M_coreBit 117 = .ok (.aload_n 0, 1) := by decide +kernel
theorem d_M_coreBit_118 : decode b_M_coreBit 118 = .ok (.getfield 71, 3) := by decide +kernel
theorem d_M_coreBit_121 : decode b_M_coreBit 121 = .ok (.iload_n 1, 1) := by decide +kernel
theorem d_M_coreBit_122 : decode b_M_coreBit 122 = .ok (.iaload, 1) := by decide +kernel
theorem d_M_coreBit_123 : decode b_M_coreBit 123 = .ok (.bipush 14, 2) := by decide +kernel
theorem d_M_coreBit_125 : decode b_M_coreBit 125 = .ok (.ishr, 1) := by decide +kernel
theorem d_M_coreBit_126 : decode b_M_coreBit 126 = .ok (.iconst 1, 1) := by decide +kernel
theorem d_M_coreBit_127 : decode b_M_coreBit 127 = .ok (.iand, 1) := by decide +kernel
theorem d_M_coreBit_128 : decode b_M_coreBit 128 = .ok (.ireturn, 1) := by decide +kernel
theorem d_M_see_0 : decode b_M_see 0 = .ok (.aload_n 0, 1) := by decide +kernel
theorem d_M_see_1 : decode b_M_see 1 = .ok (.getfield 20, 3) := by decide +kernel
theorem d_M_see_4 : decode b_M_see 4 = .ok (.iload_n 1, 1) := by decide +kernel
theorem d_M_see_5 : decode b_M_see 5 = .ok (.iaload, 1) := by decide +kernel
theorem d_M_see_6 : decode b_M_see 6 = .ok (.tableswitch 96 1 7 #[42, 51, 60, 69, 78, 96, 87], 42) := by decide +kernel
theorem d_M_see_48 : decode b_M_see 48 = .ok (.aload_n 0, 1) := by decide +kernel
theorem d_M_see_49 : decode b_M_see 49 = .ok (.iload_n 1, 1) := by decide +kernel
theorem d_M_see_50 : decode b_M_see 50 = .ok (.iload_n 2, 1) := by decide +kernel
theorem d_M_see_51 : decode b_M_see 51 = .ok (.invokevirtual 163, 3) := by decide +kernel
theorem d_M_see_54 : decode b_M_see 54 = .ok (.goto 104, 3) := by decide +kernel
theorem d_M_see_57 : decode b_M_see 57 = .ok (.aload_n 0, 1) := by decide +kernel
theorem d_M_see_58 : decode b_M_see 58 = .ok (.iload_n 1, 1) := by decide +kernel
theorem d_M_see_59 : decode b_M_see 59 = .ok (.iload_n 2, 1) := by decide +kernel
theorem d_M_see_60 : decode b_M_see 60 = .ok (.invokevirtual 140, 3) := by decide +kernel
theorem d_M_see_63 : decode b_M_see 63 = .ok (.goto 95, 3) := by decide +kernel
theorem d_M_see_66 : decode b_M_see 66 = .ok (.aload_n 0, 1) := by decide +kernel
theorem d_M_see_67 : decode b_M_see 67 = .ok (.iload_n 1, 1) := by decide +kernel
theorem d_M_see_68 : decode b_M_see 68 = .ok (.iload_n 2, 1) := by decide +kernel
theorem d_M_see_69 : decode b_M_see 69 = .ok (.invokevirtual 166, 3) := by decide +kernel
theorem d_M_see_72 : decode b_M_see 72 = .ok (.goto 86, 3) := by decide +kernel
theorem d_M_see_75 : decode b_M_see 75 = .ok (.aload_n 0, 1) := by decide +kernel
theorem d_M_see_76 : decode b_M_see 76 = .ok (.iload_n 1, 1) := by decide +kernel
theorem d_M_see_77 : decode b_M_see 77 = .ok (.iload_n 2, 1) := by decide +kernel
theorem d_M_see_78 : decode b_M_see 78 = .ok (.invokevirtual 169, 3) := by decide +kernel
theorem d_M_see_81 : decode b_M_see 81 = .ok (.goto 77, 3) := by decide +kernel
theorem d_M_see_84 : decode b_M_see 84 = .ok (.aload_n 0, 1) := by decide +kernel
theorem d_M_see_85 : decode b_M_see 85 = .ok (.iload_n 1, 1) := by decide +kernel
theorem d_M_see_86 : decode b_M_see 86 = .ok (.iload_n 2, 1) := by decide +kernel
theorem d_M_see_87 : decode b_M_see 87 = .ok (.invokevirtual 172, 3) := by decide +kernel
theorem d_M_see_90 : decode b_M_see 90 = .ok (.goto 68, 3) := by decide +kernel
theorem d_M_see_93 : decode b_M_see 93 = .ok (.aload_n 0, 1) := by decide +kernel
theorem d_M_see_94 : decode b_M_see 94 = .ok (.iload_n 1, 1) := by decide +kernel
theorem d_M_see_95 : decode b_M_see 95 = .ok (.iload_n 2, 1) := by decide +kernel
theorem d_M_see_96 : decode b_M_see 96 = .ok (.invokevirtual 175, 3) := by decide +kernel
theorem d_M_see_99 : decode b_M_see 99 = .ok (.goto 59, 3) := by decide +kernel
theorem d_M_see_102 : decode b_M_see 102 = .ok (.iload_n 2, 1) := by decide +kernel
theorem d_M_see_103 : decode b_M_see 103 = .ok (.ifCond .ne 11, 3) := by decide +kernel
theorem d_M_see_106 : decode b_M_see 106 = .ok (.aload_n 0, 1) := by decide +kernel
theorem d_M_see_107 : decode b_M_see 107 = .ok (.iload_n 1, 1) := by decide +kernel
theorem d_M_see_108 : decode b_M_see 108 = .ok (.invokevirtual 160, 3) := by decide +kernel
theorem d_M_see_111 : decode b_M_see 111 = .ok (.goto 47, 3) := by decide +kernel
theorem d_M_see_114 : decode b_M_see 114 = .ok (.aload_n 0, 1) := by decide +kernel
theorem d_M_see_115 : decode b_M_see 115 = .ok (.getfield 20, 3) := by decide +kernel
theorem d_M_see_118 : decode b_M_see 118 = .ok (.iload_n 1, 1) := by decide +kernel
theorem d_M_see_119 : decode b_M_see 119 = .ok (.iaload, 1) := by decide +kernel
theorem d_M_see_120 : decode b_M_see 120 = .ok (.bipush 6, 2) := by decide +kernel
theorem d_M_see_122 : decode b_M_see 122 = .ok (.if_icmp .ne 36, 3) := by decide +kernel
theorem d_M_see_125 : decode b_M_see 125 = .ok (.aload_n 0, 1) := by decide +kernel
theorem d_M_see_126 : decode b_M_see 126 = .ok (.getfield 89, 3) := by decide +kernel
theorem d_M_see_129 : decode b_M_see 129 = .ok (.iload_n 1, 1) := by decide +kernel
theorem d_M_see_130 : decode b_M_see 130 = .ok (.dup2, 1) := by decide +kernel
theorem d_M_see_131 : decode b_M_see 131 = .ok (.iaload, 1) := by decide +kernel
theorem d_M_see_132 : decode b_M_see 132 = .ok (.iconst 1, 1) := by decide +kernel
theorem d_M_see_133 : decode b_M_see 133 = .ok (.iadd, 1) := by decide +kernel
theorem d_M_see_134 : decode b_M_see 134 = .ok (.iastore, 1) := by decide +kernel
theorem d_M_see_135 : decode b_M_see 135 = .ok (.aload_n 0, 1) := by decide +kernel
theorem d_M_see_136 : decode b_M_see 136 = .ok (.getfield 20, 3) := by decide +kernel
theorem d_M_see_139 : decode b_M_see 139 = .ok (.iload_n 1, 1) := by decide +kernel
theorem d_M_see_140 : decode b_M_see 140 = .ok (.aload_n 0, 1) := by decide +kernel
theorem d_M_see_141 : decode b_M_see 141 = .ok (.getfield 89, 3) := by decide +kernel
theorem d_M_see_144 : decode b_M_see 144 = .ok (.iload_n 1, 1) := by decide +kernel
theorem d_M_see_145 : decode b_M_see 145 = .ok (.iaload, 1) := by decide +kernel
theorem d_M_see_146 : decode b_M_see 146 = .ok (.bipush 8, 2) := by decide +kernel
theorem d_M_see_148 : decode b_M_see 148 = .ok (.if_icmp .ne 7, 3) := by decide +kernel
theorem d_M_see_151 : decode b_M_see 151 = .ok (.iconst 0, 1) := by decide +kernel
theorem d_M_see_152 : decode b_M_see 152 = .ok (.goto 5, 3) := by decide +kernel
theorem d_M_see_155 : decode b_M_see 155 = .ok (.bipush 6, 2) := by decide +kernel
theorem d_M_see_157 : decode b_M_see 157 = .ok (.iastore, 1) := by decide +kernel
theorem d_M_see_158 : decode b_M_see 158 = .ok (.return_, 1) := by decide +kernel
theorem d_M_send_0 : decode b_M_send 0 = .ok (.aload_n 0, 1) := by decide +kernel
theorem d_M_send_1 : decode b_M_send 1 = .ok (.getfield 59, 3) := by decide +kernel
theorem d_M_send_4 : decode b_M_send 4 = .ok (.iload_n 1, 1) := by decide +kernel
theorem d_M_send_5 : decode b_M_send 5 = .ok (.iaload, 1) := by decide +kernel
theorem d_M_send_6 : decode b_M_send 6 = .ok (.ifCond .ne 37, 3) := by decide +kernel
theorem d_M_send_9 : decode b_M_send 9 = .ok (.aload_n 0, 1) := by decide +kernel
theorem d_M_send_10 : decode b_M_send 10 = .ok (.getfield 65, 3) := by decide +kernel
theorem d_M_send_13 : decode b_M_send 13 = .ok (.iload_n 1, 1) := by decide +kernel
theorem d_M_send_14 : decode b_M_send 14 = .ok (.iaload, 1) := by decide +kernel
theorem d_M_send_15 : decode b_M_send 15 = .ok (.iconst 5, 1) := by decide +kernel
theorem d_M_send_16 : decode b_M_send 16 = .ok (.if_icmp .ge 27, 3) := by decide +kernel
theorem d_M_send_19 : decode b_M_send 19 = .ok (.aload_n 0, 1) := by decide +kernel
theorem d_M_send_20 : decode b_M_send 20 = .ok (.getfield 62, 3) := by decide +kernel
theorem d_M_send_23 : decode b_M_send 23 = .ok (.iload_n 1, 1) := by decide +kernel
theorem d_M_send_24 : decode b_M_send 24 = .ok (.iaload, 1) := by decide +kernel
theorem d_M_send_25 : decode b_M_send 25 = .ok (.ifCond .le 18, 3) := by decide +kernel
theorem d_M_send_28 : decode b_M_send 28 = .ok (.aload_n 0, 1) := by decide +kernel
theorem d_M_send_29 : decode b_M_send 29 = .ok (.getfield 62, 3) := by decide +kernel
theorem d_M_send_32 : decode b_M_send 32 = .ok (.iload_n 1, 1) := by decide +kernel
theorem d_M_send_33 : decode b_M_send 33 = .ok (.iaload, 1) := by decide +kernel
theorem d_M_send_34 : decode b_M_send 34 = .ok (.bipush 12, 2) := by decide +kernel
theorem d_M_send_36 : decode b_M_send 36 = .ok (.if_icmp .ge 7, 3) := by decide +kernel
theorem d_M_send_39 : decode b_M_send 39 = .ok (.iconst 1, 1) := by decide +kernel
theorem d_M_send_40 : decode b_M_send 40 = .ok (.goto 4, 3) := by decide +kernel
theorem d_M_send_43 : decode b_M_send 43 = .ok (.iconst 0, 1) := by decide +kernel
theorem d_M_send_44 : decode b_M_send 44 = .ok (.istore_n 3, 1) := by decide +kernel
theorem d_M_send_45 : decode b_M_send 45 = .ok (.iload_n 3, 1) := by decide +kernel
theorem d_M_send_46 : decode b_M_send 46 = .ok (.ifCond .eq 40, 3) := by decide +kernel
theorem d_M_send_49 : decode b_M_send 49 = .ok (.aload_n 0, 1) := by decide +kernel
theorem d_M_send_50 : decode b_M_send 50 = .ok (.getfield 98, 3) := by decide +kernel
theorem d_M_send_53 : decode b_M_send 53 = .ok (.iload_n 1, 1) := by decide +kernel
theorem d_M_send_54 : decode b_M_send 54 = .ok (.iaload, 1) := by decide +kernel
theorem d_M_send_55 : decode b_M_send 55 = .ok (.iconst 1, 1) := by decide +kernel
theorem d_M_send_56 : decode b_M_send 56 = .ok (.if_icmp .ne 30, 3) := by decide +kernel
theorem d_M_send_59 : decode b_M_send 59 = .ok (.iload_n 2, 1) := by decide +kernel
theorem d_M_send_60 : decode b_M_send 60 = .ok (.ifCond .ne 26, 3) := by decide +kernel
theorem d_M_send_63 : decode b_M_send 63 = .ok (.aload_n 0, 1) := by decide +kernel
theorem d_M_send_64 : decode b_M_send 64 = .ok (.getfield 20, 3) := by decide +kernel
theorem d_M_send_67 : decode b_M_send 67 = .ok (.iload_n 1, 1) := by decide +kernel
theorem d_M_send_68 : decode b_M_send 68 = .ok (.iconst 2, 1) := by decide +kernel
theorem d_M_send_69 : decode b_M_send 69 = .ok (.iastore, 1) := by decide +kernel
theorem d_M_send_70 : decode b_M_send 70 = .ok (.aload_n 0, 1) := by decide +kernel
theorem d_M_send_71 : decode b_M_send 71 = .ok (.getfield 95, 3) := by decide +kernel
theorem d_M_send_74 : decode b_M_send 74 = .ok (.iload_n 1, 1) := by decide +kernel
theorem d_M_send_75 : decode b_M_send 75 = .ok (.iconst 2, 1) := by decide +kernel
theorem d_M_send_76 : decode b_M_send 76 = .ok (.iastore, 1) := by decide +kernel
theorem d_M_send_77 : decode b_M_send 77 = .ok (.aload_n 0, 1) := by decide +kernel
theorem d_M_send_78 : decode b_M_send 78 = .ok (.iload_n 1, 1) := by decide +kernel
theorem d_M_send_79 : decode b_M_send 79 = .ok (.iload_n 2, 1) := by decide +kernel
theorem d_M_send_80 : decode b_M_send 80 = .ok (.invokevirtual 140, 3) := by decide +kernel
theorem d_M_send_83 : decode b_M_send 83 = .ok (.goto 108, 3) := by decide +kernel
theorem d_M_send_86 : decode b_M_send 86 = .ok (.aload_n 0, 1) := by decide +kernel
theorem d_M_send_87 : decode b_M_send 87 = .ok (.getfield 59, 3) := by decide +kernel
theorem d_M_send_90 : decode b_M_send 90 = .ok (.iload_n 1, 1) := by decide +kernel
theorem d_M_send_91 : decode b_M_send 91 = .ok (.iaload, 1) := by decide +kernel
theorem d_M_send_92 : decode b_M_send 92 = .ok (.iconst 2, 1) := by decide +kernel
theorem d_M_send_93 : decode b_M_send 93 = .ok (.if_icmp .ne 19, 3) := by decide +kernel
theorem d_M_send_96 : decode b_M_send 96 = .ok (.iload_n 2, 1) := by decide +kernel
theorem d_M_send_97 : decode b_M_send 97 = .ok (.iconst 1, 1) := by decide +kernel
theorem d_M_send_98 : decode b_M_send 98 = .ok (.if_icmp .ne 14, 3) := by decide +kernel
theorem d_M_send_101 : decode b_M_send 101 = .ok (.aload_n 0, 1) := by decide +kernel
theorem d_M_send_102 : decode b_M_send 102 = .ok (.iload_n 1, 1) := by decide +kernel
theorem d_M_send_103 : decode b_M_send 103 = .ok (.bipush 6, 2) := by decide +kernel
theorem d_M_send_105 : decode b_M_send 105 = .ok (.iconst 1, 1) := by decide +kernel
theorem d_M_send_106 : decode b_M_send 106 = .ok (.invokevirtual 143, 3) := by decide +kernel
theorem d_M_send_109 : decode b_M_send 109 = .ok (.goto 82, 3) := by decide +kernel
theorem d_M_send_112 : decode b_M_send 112 = .ok (.aload_n 0, 1) := by decide +kernel
theorem d_M_send_113 : decode b_M_send 113 = .ok (.getfield 59, 3) := by decide +kernel
theorem d_M_send_116 : decode b_M_send 116 = .ok (.iload_n 1, 1) := by decide +kernel
theorem d_M_send_117 : decode b_M_send 117 = .ok (.iaload, 1) := by decide +kernel
theorem d_M_send_118 : decode b_M_send 118 = .ok (.iconst 2, 1) := by decide +kernel
theorem d_M_send_119 : decode b_M_send 119 = .ok (.if_icmp .eq 23, 3) := by decide +kernel
theorem d_M_send_122 : decode b_M_send 122 = .ok (.iload_n 2, 1) := by decide +kernel
theorem d_M_send_123 : decode b_M_send 123 = .ok (.aload_n 0, 1) := by decide +kernel
theorem d_M_send_124 : decode b_M_send 124 = .ok (.getfield 98, 3) := by decide +kernel
theorem d_M_send_127 : decode b_M_send 127 = .ok (.iload_n 1, 1) := by decide +kernel
theorem d_M_send_128 : decode b_M_send 128 = .ok (.iaload, 1) := by decide +kernel
theorem d_M_send_129 : decode b_M_send 129 = .ok (.if_icmp .eq 13, 3) := by decide +kernel
theorem d_M_send_132 : decode b_M_send 132 = .ok (.aload_n 0, 1) := by decide +kernel
theorem d_M_send_133 : decode b_M_send 133 = .ok (.iload_n 1, 1) := by decide +kernel
theorem d_M_send_134 : decode b_M_send 134 = .ok (.iconst 2, 1) := by decide +kernel
theorem d_M_send_135 : decode b_M_send 135 = .ok (.iconst 1, 1) := by decide +kernel
theorem d_M_send_136 : decode b_M_send 136 = .ok (.invokevirtual 143, 3) := by decide +kernel
theorem d_M_send_139 : decode b_M_send 139 = .ok (.goto 52, 3) := by decide +kernel
theorem d_M_send_142 : decode b_M_send 142 = .ok (.aload_n 0, 1) := by decide +kernel
theorem d_M_send_143 : decode b_M_send 143 = .ok (.getfield 59, 3) := by decide +kernel
theorem d_M_send_146 : decode b_M_send 146 = .ok (.iload_n 1, 1) := by decide +kernel
theorem d_M_send_147 : decode b_M_send 147 = .ok (.iaload, 1) := by decide +kernel
theorem d_M_send_148 : decode b_M_send 148 = .ok (.ifCond .ne 14, 3) := by decide +kernel
theorem d_M_send_151 : decode b_M_send 151 = .ok (.aload_n 0, 1) := by decide +kernel
theorem d_M_send_152 : decode b_M_send 152 = .ok (.iload_n 1, 1) := by decide +kernel
theorem d_M_send_153 : decode b_M_send 153 = .ok (.iload_n 2, 1) := by decide +kernel
theorem d_M_send_154 : decode b_M_send 154 = .ok (.invokevirtual 147, 3) := by decide +kernel
theorem d_M_send_157 : decode b_M_send 157 = .ok (.istore 4, 2) := by decide +kernel
theorem d_M_send_159 : decode b_M_send 159 = .ok (.goto 32, 3) := by decide +kernel
theorem d_M_send_162 : decode b_M_send 162 = .ok (.aload_n 0, 1) := by decide +kernel
theorem d_M_send_163 : decode b_M_send 163 = .ok (.getfield 59, 3) := by decide +kernel
theorem d_M_send_166 : decode b_M_send 166 = .ok (.iload_n 1, 1) := by decide +kernel
theorem d_M_send_167 : decode b_M_send 167 = .ok (.iaload, 1) := by decide +kernel
theorem d_M_send_168 : decode b_M_send 168 = .ok (.bipush 10, 2) := by decide +kernel
theorem d_M_send_170 : decode b_M_send 170 = .ok (.if_icmp .ne 11, 3) := by decide +kernel
theorem d_M_send_173 : decode b_M_send 173 = .ok (.aload_n 0, 1) := by decide +kernel
theorem d_M_send_174 : decode b_M_send 174 = .ok (.iload_n 1, 1) := by decide +kernel
theorem d_M_send_175 : decode b_M_send 175 = .ok (.invokevirtual 151, 3) := by decide +kernel
theorem d_M_send_178 : decode b_M_send 178 = .ok (.goto 13, 3) := by decide +kernel
theorem d_M_send_181 : decode b_M_send 181 = .ok (.aload_n 0, 1) := by decide +kernel
theorem d_M_send_182 : decode b_M_send 182 = .ok (.getfield 59, 3) := by decide +kernel
theorem d_M_send_185 : decode b_M_send 185 = .ok (.iload_n 1, 1) := by decide +kernel
theorem d_M_send_186 : decode b_M_send 186 = .ok (.dup2, 1) := by decide +kernel
theorem d_M_send_187 : decode b_M_send 187 = .ok (.iaload, 1) := by decide +kernel
theorem d_M_send_188 : decode b_M_send 188 = .ok (.iconst 1, 1) := by decide +kernel
theorem d_M_send_189 : decode b_M_send 189 = .ok (.iadd, 1) := by decide +kernel
theorem d_M_send_190 : decode b_M_send 190 = .ok (.iastore, 1) := by decide +kernel
theorem d_M_send_191 : decode b_M_send 191 = .ok (.return_, 1) := by decide +kernel
theorem d_M_hear_0 : decode b_M_hear 0 = .ok (.aload_n 0, 1) := by decide +kernel
theorem d_M_hear_1 : decode b_M_hear 1 = .ok (.getfield 59, 3) := by decide +kernel
theorem d_M_hear_4 : decode b_M_hear 4 = .ok (.iload_n 1, 1) := by decide +kernel
theorem d_M_hear_5 : decode b_M_hear 5 = .ok (.iaload, 1) := by decide +kernel
theorem d_M_hear_6 : decode b_M_hear 6 = .ok (.istore_n 3, 1) := by decide +kernel
theorem d_M_hear_7 : decode b_M_hear 7 = .ok (.iconst 0, 1) := by decide +kernel
theorem d_M_hear_8 : decode b_M_hear 8 = .ok (.istore 4, 2) := by decide +kernel
theorem d_M_hear_10 : decode b_M_hear 10 = .ok (.iload_n 3, 1) := by decide +kernel
theorem d_M_hear_11 : decode b_M_hear 11 = .ok (.ifCond .ne 14, 3) := by decide +kernel
theorem d_M_hear_14 : decode b_M_hear 14 = .ok (.aload_n 0, 1) := by decide +kernel
theorem d_M_hear_15 : decode b_M_hear 15 = .ok (.iload_n 1, 1) := by decide +kernel
theorem d_M_hear_16 : decode b_M_hear 16 = .ok (.iload_n 2, 1) := by decide +kernel
theorem d_M_hear_17 : decode b_M_hear 17 = .ok (.invokevirtual 147, 3) := by decide +kernel
theorem d_M_hear_20 : decode b_M_hear 20 = .ok (.istore 4, 2) := by decide +kernel
theorem d_M_hear_22 : decode b_M_hear 22 = .ok (.goto 77, 3) := by decide +kernel
theorem d_M_hear_25 : decode b_M_hear 25 = .ok (.iload_n 3, 1) := by decide +kernel
theorem d_M_hear_26 : decode b_M_hear 26 = .ok (.iconst 3, 1) := by decide +kernel
theorem d_M_hear_27 : decode b_M_hear 27 = .ok (.if_icmp .ne 16, 3) := by decide +kernel
theorem d_M_hear_30 : decode b_M_hear 30 = .ok (.aload_n 0, 1) := by decide +kernel
theorem d_M_hear_31 : decode b_M_hear 31 = .ok (.getfield 71, 3) := by decide +kernel
theorem d_M_hear_34 : decode b_M_hear 34 = .ok (.iload_n 1, 1) := by decide +kernel
theorem d_M_hear_35 : decode b_M_hear 35 = .ok (.iaload, 1) := by decide +kernel
theorem d_M_hear_36 : decode b_M_hear 36 = .ok (.ifCond .eq 7, 3) := by decide +kernel
theorem d_M_hear_39 : decode b_M_hear 39 = .ok (.iconst 1, 1) := by decide +kernel
theorem d_M_hear_40 : decode b_M_hear 40 = .ok (.goto 4, 3) := by decide +kernel
theorem d_M_hear_43 : decode b_M_hear 43 = .ok (.iconst 0, 1) := by decide +kernel
theorem d_M_hear_44 : decode b_M_hear 44 = .ok (.istore 5, 2) := by decide +kernel
theorem d_M_hear_46 : decode b_M_hear 46 = .ok (.iload_n 2, 1) := by decide +kernel
theorem d_M_hear_47 : decode b_M_hear 47 = .ok (.ifCond .ne 18, 3) := by decide +kernel
theorem d_M_hear_50 : decode b_M_hear 50 = .ok (.iload_n 3, 1) := by decide +kernel
theorem d_M_hear_51 : decode b_M_hear 51 = .ok (.iconst 2, 1) := by decide +kernel
theorem d_M_hear_52 : decode b_M_hear 52 = .ok (.if_icmp .eq 13, 3) := by decide +kernel
theorem d_M_hear_55 : decode b_M_hear 55 = .ok (.iload_n 3, 1) := by decide +kernel
theorem d_M_hear_56 : decode b_M_hear 56 = .ok (.bipush 10, 2) := by decide +kernel
theorem d_M_hear_58 : decode b_M_hear 58 = .ok (.if_icmp .ge 7, 3) := by decide +kernel
theorem d_M_hear_61 : decode b_M_hear 61 = .ok (.iconst 1, 1) := by decide +kernel
theorem d_M_hear_62 : decode b_M_hear 62 = .ok (.goto 4, 3) := by decide +kernel
theorem d_M_hear_65 : decode b_M_hear 65 = .ok (.iconst 0, 1) := by decide +kernel
theorem d_M_hear_66 : decode b_M_hear 66 = .ok (.istore 6, 2) := by decide +kernel
theorem d_M_hear_68 : decode b_M_hear 68 = .ok (.iload 5, 2) := by decide +kernel
theorem d_M_hear_70 : decode b_M_hear 70 = .ok (.ifCond .eq 7, 3) := by decide +kernel
theorem d_M_hear_73 : decode b_M_hear 73 = .ok (.iconst 5, 1) := by decide +kernel
theorem d_M_hear_74 : decode b_M_hear 74 = .ok (.goto 13, 3) := by decide +kernel
theorem d_M_hear_77 : decode b_M_hear 77 = .ok (.iload 6, 2) := by decide +kernel
theorem d_M_hear_79 : decode b_M_hear 79 = .ok (.ifCond .eq 7, 3) := by decide +kernel
theorem d_M_hear_82 : decode b_M_hear 82 = .ok (.iconst 4, 1) := by decide +kernel
theorem d_M_hear_83 : decode b_M_hear 83 = .ok (.goto 4, 3) := by decide +kernel
theorem d_M_hear_86 : decode b_M_hear 86 = .ok (.iconst 0, 1) := by decide +kernel
theorem d_M_hear_87 : decode b_M_hear 87 = .ok (.istore 4, 2) := by decide +kernel
theorem d_M_hear_89 : decode b_M_hear 89 = .ok (.aload_n 0, 1) := by decide +kernel
theorem d_M_hear_90 : decode b_M_hear 90 = .ok (.getfield 59, 3) := by decide +kernel
theorem d_M_hear_93 : decode b_M_hear 93 = .ok (.iload_n 1, 1) := by decide +kernel
theorem d_M_hear_94 : decode b_M_hear 94 = .ok (.dup2, 1) := by decide +kernel
theorem d_M_hear_95 : decode b_M_hear 95 = .ok (.iaload, 1) := by decide +kernel
theorem d_M_hear_96 : decode b_M_hear 96 = .ok (.iconst 1, 1) := by decide +kernel
theorem d_M_hear_97 : decode b_M_hear 97 = .ok (.iadd, 1) := by decide +kernel
theorem d_M_hear_98 : decode b_M_hear 98 = .ok (.iastore, 1) := by decide +kernel
theorem d_M_hear_99 : decode b_M_hear 99 = .ok (.iload 4, 2) := by decide +kernel
theorem d_M_hear_101 : decode b_M_hear 101 = .ok (.ifCond .le 14, 3) := by decide +kernel
theorem d_M_hear_104 : decode b_M_hear 104 = .ok (.aload_n 0, 1) := by decide +kernel
theorem d_M_hear_105 : decode b_M_hear 105 = .ok (.iload_n 1, 1) := by decide +kernel
theorem d_M_hear_106 : decode b_M_hear 106 = .ok (.iload 4, 2) := by decide +kernel
theorem d_M_hear_108 : decode b_M_hear 108 = .ok (.iconst 2, 1) := by decide +kernel
theorem d_M_hear_109 : decode b_M_hear 109 = .ok (.invokevirtual 143, 3) := by decide +kernel
theorem d_M_hear_112 : decode b_M_hear 112 = .ok (.goto 15, 3) := by decide +kernel
theorem d_M_hear_115 : decode b_M_hear 115 = .ok (.iload_n 3, 1) := by decide +kernel
theorem d_M_hear_116 : decode b_M_hear 116 = .ok (.bipush 10, 2) := by decide +kernel
theorem d_M_hear_118 : decode b_M_hear 118 = .ok (.if_icmp .ne 9, 3) := by decide +kernel
theorem d_M_hear_121 : decode b_M_hear 121 = .ok (.aload_n 0, 1) := by decide +kernel
theorem d_M_hear_122 : decode b_M_hear 122 = .ok (.iload_n 1, 1) := by decide +kernel
theorem d_M_hear_123 : decode b_M_hear 123 = .ok (.iload_n 2, 1) := by decide +kernel
theorem d_M_hear_124 : decode b_M_hear 124 = .ok (.invokevirtual 154, 3) := by decide +kernel
theorem d_M_hear_127 : decode b_M_hear 127 = .ok (.return_, 1) := by decide +kernel
theorem d_M_readCore_0 : decode b_M_readCore 0 = .ok (.aload_n 0, 1) := by decide +kernel
theorem d_M_readCore_1 : decode b_M_readCore 1 = .ok (.getfield 65, 3) := by decide +kernel
theorem d_M_readCore_4 : decode b_M_readCore 4 = .ok (.iload_n 1, 1) := by decide +kernel
theorem d_M_readCore_5 : decode b_M_readCore 5 = .ok (.iaload, 1) := by decide +kernel
theorem d_M_readCore_6 : decode b_M_readCore 6 = .ok (.iconst 5, 1) := by decide +kernel
theorem d_M_readCore_7 : decode b_M_readCore 7 = .ok (.if_icmp .ne 68, 3) := by decide +kernel
theorem d_M_readCore_10 : decode b_M_readCore 10 = .ok (.iload_n 2, 1) := by decide +kernel
theorem d_M_readCore_11 : decode b_M_readCore 11 = .ok (.aload_n 0, 1) := by decide +kernel
theorem d_M_readCore_12 : decode b_M_readCore 12 = .ok (.getfield 68, 3) := by decide +kernel
theorem d_M_readCore_15 : decode b_M_readCore 15 = .ok (.iload_n 1, 1) := by decide +kernel
theorem d_M_readCore_16 : decode b_M_readCore 16 = .ok (.iaload, 1) := by decide +kernel
theorem d_M_readCore_17 : decode b_M_readCore 17 = .ok (.if_icmp .ne 7, 3) := by decide +kernel
theorem d_M_readCore_20 : decode b_M_readCore 20 = .ok (.iconst 1, 1) := by decide +kernel
theorem d_M_readCore_21 : decode b_M_readCore 21 = .ok (.goto 4, 3) := by decide +kernel
theorem d_M_readCore_24 : decode b_M_readCore 24 = .ok (.iconst 0, 1) := by decide +kernel
theorem d_M_readCore_25 : decode b_M_readCore 25 = .ok (.istore_n 3, 1) := by decide +kernel
theorem d_M_readCore_26 : decode b_M_readCore 26 = .ok (.aload_n 0, 1) := by decide +kernel
theorem d_M_readCore_27 : decode b_M_readCore 27 = .ok (.getfield 68, 3) := by decide +kernel
theorem d_M_readCore_30 : decode b_M_readCore 30 = .ok (.iload_n 1, 1) := by decide +kernel
theorem d_M_readCore_31 : decode b_M_readCore 31 = .ok (.iload_n 2, 1) := by decide +kernel
theorem d_M_readCore_32 : decode b_M_readCore 32 = .ok (.iastore, 1) := by decide +kernel
theorem d_M_readCore_33 : decode b_M_readCore 33 = .ok (.aload_n 0, 1) := by decide +kernel
theorem d_M_readCore_34 : decode b_M_readCore 34 = .ok (.getfield 65, 3) := by decide +kernel
theorem d_M_readCore_37 : decode b_M_readCore 37 = .ok (.iload_n 1, 1) := by decide +kernel
theorem d_M_readCore_38 : decode b_M_readCore 38 = .ok (.iconst 1, 1) := by decide +kernel
theorem d_M_readCore_39 : decode b_M_readCore 39 = .ok (.iastore, 1) := by decide +kernel
theorem d_M_readCore_40 : decode b_M_readCore 40 = .ok (.aload_n 0, 1) := by decide +kernel
theorem d_M_readCore_41 : decode b_M_readCore 41 = .ok (.getfield 59, 3) := by decide +kernel
theorem d_M_readCore_44 : decode b_M_readCore 44 = .ok (.iload_n 1, 1) := by decide +kernel
theorem d_M_readCore_45 : decode b_M_readCore 45 = .ok (.aload_n 0, 1) := by decide +kernel
theorem d_M_readCore_46 : decode b_M_readCore 46 = .ok (.getfield 62, 3) := by decide +kernel
theorem d_M_readCore_49 : decode b_M_readCore 49 = .ok (.iload_n 1, 1) := by decide +kernel
theorem d_M_readCore_50 : decode b_M_readCore 50 = .ok (.iaload, 1) := by decide +kernel
theorem d_M_readCore_51 : decode b_M_readCore 51 = .ok (.aload_n 0, 1) := by decide +kernel
theorem d_M_readCore_52 : decode b_M_readCore 52 = .ok (.iload_n 1, 1) := by decide +kernel
theorem d_M_readCore_53 : decode b_M_readCore 53 = .ok (.invokevirtual 120, 3) := by decide +kernel
theorem d_M_readCore_56 : decode b_M_readCore 56 = .ok (.if_icmp .ne 7, 3) := by decide +kernel
theorem d_M_readCore_59 : decode b_M_readCore 59 = .ok (.iconst 1, 1) := by decide +kernel
theorem d_M_readCore_60 : decode b_M_readCore 60 = .ok (.goto 4, 3) := by decide +kernel
theorem d_M_readCore_63 : decode b_M_readCore 63 = .ok (.iconst 0, 1) := by decide +kernel
theorem d_M_readCore_64 : decode b_M_readCore 64 = .ok (.iastore, 1) := by decide +kernel
theorem d_M_readCore_65 : decode b_M_readCore 65 = .ok (.iload_n 3, 1) := by decide +kernel
theorem d_M_readCore_66 : decode b_M_readCore 66 = .ok (.ifCond .eq 7, 3) := by decide +kernel
theorem d_M_readCore_69 : decode b_M_readCore 69 = .ok (.iconst 3, 1) := by decide +kernel
theorem d_M_readCore_70 : decode b_M_readCore 70 = .ok (.goto 4, 3) := by decide +kernel
theorem d_M_readCore_73 : decode b_M_readCore 73 = .ok (.iconst 0, 1) := by decide +kernel
theorem d_M_readCore_74 : decode b_M_readCore 74 = .ok (.ireturn, 1) := by decide +kernel
theorem d_M_readCore_75 : decode b_M_readCore 75 = .ok (.aload_n 0, 1) := by decide +kernel
theorem d_M_readCore_76 : decode b_M_readCore 76 = .ok (.getfield 62, 3) := by decide +kernel
theorem d_M_readCore_79 : decode b_M_readCore 79 = .ok (.iload_n 1, 1) := by decide +kernel
theorem d_M_readCore_80 : decode b_M_readCore 80 = .ok (.iaload, 1) := by decide +kernel
theorem d_M_readCore_81 : decode b_M_readCore 81 = .ok (.istore_n 3, 1) := by decide +kernel
theorem d_M_readCore_82 : decode b_M_readCore 82 = .ok (.aload_n 0, 1) := by decide +kernel
theorem d_M_readCore_83 : decode b_M_readCore 83 = .ok (.getfield 65, 3) := by decide +kernel
theorem d_M_readCore_86 : decode b_M_readCore 86 = .ok (.iload_n 1, 1) := by decide +kernel
theorem d_M_readCore_87 : decode b_M_readCore 87 = .ok (.iload_n 3, 1) := by decide +kernel
theorem d_M_readCore_88 : decode b_M_readCore 88 = .ok (.ifCond .le 24, 3) := by decide +kernel
theorem d_M_readCore_91 : decode b_M_readCore 91 = .ok (.iload_n 2, 1) := by decide +kernel
theorem d_M_readCore_92 : decode b_M_readCore 92 = .ok (.aload_n 0, 1) := by decide +kernel
theorem d_M_readCore_93 : decode b_M_readCore 93 = .ok (.getfield 68, 3) := by decide +kernel
theorem d_M_readCore_96 : decode b_M_readCore 96 = .ok (.iload_n 1, 1) := by decide +kernel
theorem d_M_readCore_97 : decode b_M_readCore 97 = .ok (.iaload, 1) := by decide +kernel
theorem d_M_readCore_98 : decode b_M_readCore 98 = .ok (.if_icmp .ne 14, 3) := by decide +kernel
theorem d_M_readCore_101 : decode b_M_readCore 101 = .ok (.aload_n 0, 1) := by decide +kernel
theorem d_M_readCore_102 : decode b_M_readCore 102 = .ok (.getfield 65, 3) := by decide +kernel
theorem d_M_readCore_105 : decode b_M_readCore 105 = .ok (.iload_n 1, 1) := by decide +kernel
theorem d_M_readCore_106 : decode b_M_readCore 106 = .ok (.iaload, 1) := by decide +kernel
theorem d_M_readCore_107 : decode b_M_readCore 107 = .ok (.iconst 1, 1) := by decide +kernel
theorem d_M_readCore_108 : decode b_M_readCore 108 = .ok (.iadd, 1) := by decide +kernel
theorem d_M_readCore_109 : decode b_M_readCore 109 = .ok (.goto 4, 3) := by decide +kernel
theorem d_M_readCore_112 : decode b_M_readCore 112 = .ok (.iconst 1, 1) := by decide +kernel
theorem d_M_readCore_113 : decode b_M_readCore 113 = .ok (.iastore, 1) := by decide +kernel
theorem d_M_readCore_114 : decode b_M_readCore 114 = .ok (.aload_n 0, 1) := by decide +kernel
theorem d_M_readCore_115 : decode b_M_readCore 115 = .ok (.getfield 68, 3) := by decide +kernel
theorem d_M_readCore_118 : decode b_M_readCore 118 = .ok (.iload_n 1, 1) := by decide +kernel
theorem d_M_readCore_119 : decode b_M_readCore 119 = .ok (.iload_n 2, 1) := by decide +kernel
theorem d_M_readCore_120 : decode b_M_readCore 120 = .ok (.iastore, 1) := by decide +kernel
theorem d_M_readCore_121 : decode b_M_readCore 121 = .ok (.aload_n 0, 1) := by decide +kernel
theorem d_M_readCore_122 : decode b_M_readCore 122 = .ok (.getfield 71, 3) := by decide +kernel
theorem d_M_readCore_125 : decode b_M_readCore 125 = .ok (.iload_n 1, 1) := by decide +kernel
theorem d_M_readCore_126 : decode b_M_readCore 126 = .ok (.iaload, 1) := by decide +kernel
theorem d_M_readCore_127 : decode b_M_readCore 127 = .ok (.iconst 1, 1) := by decide +kernel
theorem d_M_readCore_128 : decode b_M_readCore 128 = .ok (.ishl, 1) := by decide +kernel
theorem d_M_readCore_129 : decode b_M_readCore 129 = .ok (.sipush 32767, 3) := by decide +kernel
theorem d_M_readCore_132 : decode b_M_readCore 132 = .ok (.iand, 1) := by decide +kernel
theorem d_M_readCore_133 : decode b_M_readCore 133 = .ok (.istore 4, 2) := by decide +kernel
theorem d_M_readCore_135 : decode b_M_readCore 135 = .ok (.aload_n 0, 1) := by decide +kernel
theorem d_M_readCore_136 : decode b_M_readCore 136 = .ok (.getfield 71, 3) := by decide +kernel
theorem d_M_readCore_139 : decode b_M_readCore 139 = .ok (.iload_n 1, 1) := by decide +kernel
theorem d_M_readCore_140 : decode b_M_readCore 140 = .ok (.iload_n 2, 1) := by decide +kernel
theorem d_M_readCore_141 : decode b_M_readCore 141 = .ok (.aload_n 0, 1) := by decide +kernel
theorem d_M_readCore_142 : decode b_M_readCore 142 = .ok (.getfield 71, 3) := by decide +kernel
theorem d_M_readCore_145 : decode b_M_readCore 145 = .ok (.iload_n 1, 1) := by decide +kernel
theorem d_M_readCore_146 : decode b_M_readCore 146 = .ok (.iaload, 1) := by decide +kernel
theorem d_M_readCore_147 : decode b_M_readCore 147 = .ok (.bipush 14, 2) := by decide +kernel
theorem d_M_readCore_149 : decode b_M_readCore 149 = .ok (.ishr, 1) := by decide +kernel
theorem d_M_readCore_150 : decode b_M_readCore 150 = .ok (.iconst 1, 1) := by decide +kernel
theorem d_M_readCore_151 : decode b_M_readCore 151 = .ok (.iand, 1) := by decide +kernel
theorem d_M_readCore_152 : decode b_M_readCore 152 = .ok (.if_icmp .eq 12, 3) := by decide +kernel
theorem d_M_readCore_155 : decode b_M_readCore 155 = .ok (.iload 4, 2) := by decide +kernel
theorem d_M_readCore_157 : decode b_M_readCore 157 = .ok (.sipush 17817, 3) := by decide +kernel
theorem d_M_readCore_160 : decode b_M_readCore 160 = .ok (.ixor, 1) := by decide +kernel
theorem d_M_readCore_161 : decode b_M_readCore 161 = .ok (.goto 5, 3) := by decide +kernel
theorem d_M_readCore_164 : decode b_M_readCore 164 = .ok (.iload 4, 2) := by decide +kernel
theorem d_M_readCore_166 : decode b_M_readCore 166 = .ok (.iastore, 1) := by decide +kernel
theorem d_M_readCore_167 : decode b_M_readCore 167 = .ok (.iload_n 3, 1) := by decide +kernel
theorem d_M_readCore_168 : decode b_M_readCore 168 = .ok (.ifCond .le 28, 3) := by decide +kernel
theorem d_M_readCore_171 : decode b_M_readCore 171 = .ok (.iload_n 3, 1) := by decide +kernel
theorem d_M_readCore_172 : decode b_M_readCore 172 = .ok (.bipush 12, 2) := by decide +kernel
theorem d_M_readCore_174 : decode b_M_readCore 174 = .ok (.if_icmp .ge 22, 3) := by decide +kernel
theorem d_M_readCore_177 : decode b_M_readCore 177 = .ok (.aload_n 0, 1) := by decide +kernel
theorem d_M_readCore_178 : decode b_M_readCore 178 = .ok (.getfield 74, 3) := by decide +kernel
theorem d_M_readCore_181 : decode b_M_readCore 181 = .ok (.iload_n 1, 1) := by decide +kernel
theorem d_M_readCore_182 : decode b_M_readCore 182 = .ok (.iconst 2, 1) := by decide +kernel
theorem d_M_readCore_183 : decode b_M_readCore 183 = .ok (.aload_n 0, 1) := by decide +kernel
theorem d_M_readCore_184 : decode b_M_readCore 184 = .ok (.getfield 74, 3) := by decide +kernel
theorem d_M_readCore_187 : decode b_M_readCore 187 = .ok (.iload_n 1, 1) := by decide +kernel
theorem d_M_readCore_188 : decode b_M_readCore 188 = .ok (.iaload, 1) := by decide +kernel
theorem d_M_readCore_189 : decode b_M_readCore 189 = .ok (.imul, 1) := by decide +kernel
theorem d_M_readCore_190 : decode b_M_readCore 190 = .ok (.iload_n 2, 1) := by decide +kernel
theorem d_M_readCore_191 : decode b_M_readCore 191 = .ok (.iadd, 1) := by decide +kernel
theorem d_M_readCore_192 : decode b_M_readCore 192 = .ok (.iastore, 1) := by decide +kernel
theorem d_M_readCore_193 : decode b_M_readCore 193 = .ok (.goto 94, 3) := by decide +kernel
theorem d_M_readCore_196 : decode b_M_readCore 196 = .ok (.iload_n 3, 1) := by decide +kernel
theorem d_M_readCore_197 : decode b_M_readCore 197 = .ok (.bipush 14, 2) := by decide +kernel
theorem d_M_readCore_199 : decode b_M_readCore 199 = .ok (.if_icmp .le 28, 3) := by decide +kernel
theorem d_M_readCore_202 : decode b_M_readCore 202 = .ok (.iload_n 3, 1) := by decide +kernel
theorem d_M_readCore_203 : decode b_M_readCore 203 = .ok (.bipush 19, 2) := by decide +kernel
theorem d_M_readCore_205 : decode b_M_readCore 205 = .ok (.if_icmp .ge 22, 3) := by decide +kernel
theorem d_M_readCore_208 : decode b_M_readCore 208 = .ok (.aload_n 0, 1) := by decide +kernel
theorem d_M_readCore_209 : decode b_M_readCore 209 = .ok (.getfield 77, 3) := by decide +kernel
theorem d_M_readCore_212 : decode b_M_readCore 212 = .ok (.iload_n 1, 1) := by decide +kernel
theorem d_M_readCore_213 : decode b_M_readCore 213 = .ok (.iconst 2, 1) := by decide +kernel
theorem d_M_readCore_214 : decode b_M_readCore 214 = .ok (.aload_n 0, 1) := by decide +kernel
theorem d_M_readCore_215 : decode b_M_readCore 215 = .ok (.getfield 77, 3) := by decide +kernel
theorem d_M_readCore_218 : decode b_M_readCore 218 = .ok (.iload_n 1, 1) := by decide +kernel
theorem d_M_readCore_219 : decode b_M_readCore 219 = .ok (.iaload, 1) := by decide +kernel
theorem d_M_readCore_220 : decode b_M_readCore 220 = .ok (.imul, 1) := by decide +kernel
theorem d_M_readCore_221 : decode b_M_readCore 221 = .ok (.iload_n 2, 1) := by decide +kernel
theorem d_M_readCore_222 : decode b_M_readCore 222 = .ok (.iadd, 1) := by decide +kernel
theorem d_M_readCore_223 : decode b_M_readCore 223 = .ok (.iastore, 1) := by decide +kernel
theorem d_M_readCore_224 : decode b_M_readCore 224 = .ok (.goto 63, 3) := by decide +kernel
theorem d_M_readCore_227 : decode b_M_readCore 227 = .ok (.iload_n 3, 1) := by decide +kernel
theorem d_M_readCore_228 : decode b_M_readCore 228 = .ok (.bipush 18, 2) := by decide +kernel
theorem d_M_readCore_230 : decode b_M_readCore 230 = .ok (.if_icmp .le 57, 3) := by decide +kernel
theorem d_M_readCore_233 : decode b_M_readCore 233 = .ok (.iload_n 3, 1) := by decide +kernel
theorem d_M_readCore_234 : decode b_M_readCore 234 = .ok (.bipush 19, 2) := by decide +kernel
theorem d_M_readCore_236 : decode b_M_readCore 236 = .ok (.bipush 8, 2) := by decide +kernel
theorem d_M_readCore_238 : decode b_M_readCore 238 = .ok (.aload_n 0, 1) := by decide +kernel
theorem d_M_readCore_239 : decode b_M_readCore 239 = .ok (.getfield 77, 3) := by decide +kernel
theorem d_M_readCore_242 : decode b_M_readCore 242 = .ok (.iload_n 1, 1) := by decide +kernel
theorem d_M_readCore_243 : decode b_M_readCore 243 = .ok (.iaload, 1) := by decide +kernel
theorem d_M_readCore_244 : decode b_M_readCore 244 = .ok (.imul, 1) := by decide +kernel
theorem d_M_readCore_245 : decode b_M_readCore 245 = .ok (.iadd, 1) := by decide +kernel
theorem d_M_readCore_246 : decode b_M_readCore 246 = .ok (.if_icmp .ge 41, 3) := by decide +kernel
theorem d_M_readCore_249 : decode b_M_readCore 249 = .ok (.iload_n 3, 1) := by decide +kernel
theorem d_M_readCore_250 : decode b_M_readCore 250 = .ok (.bipush 19, 2) := by decide +kernel
theorem d_M_readCore_252 : decode b_M_readCore 252 = .ok (.isub, 1) := by decide +kernel
theorem d_M_readCore_253 : decode b_M_readCore 253 = .ok (.istore 5, 2) := by decide +kernel
theorem d_M_readCore_255 : decode b_M_readCore 255 = .ok (.aload_n 0, 1) := by decide +kernel
theorem d_M_readCore_256 : decode b_M_readCore 256 = .ok (.getfield 80, 3) := by decide +kernel
theorem d_M_readCore_259 : decode b_M_readCore 259 = .ok (.iload_n 1, 1) := by decide +kernel
theorem d_M_readCore_260 : decode b_M_readCore 260 = .ok (.aload_n 0, 1) := by decide +kernel
theorem d_M_readCore_261 : decode b_M_readCore 261 = .ok (.getfield 80, 3) := by decide +kernel
theorem d_M_readCore_264 : decode b_M_readCore 264 = .ok (.iload_n 1, 1) := by decide +kernel
theorem d_M_readCore_265 : decode b_M_readCore 265 = .ok (.iaload, 1) := by decide +kernel
theorem d_M_readCore_266 : decode b_M_readCore 266 = .ok (.iload_n 2, 1) := by decide +kernel
theorem d_M_readCore_267 : decode b_M_readCore 267 = .ok (.bipush 8, 2) := by decide +kernel
theorem d_M_readCore_269 : decode b_M_readCore 269 = .ok (.iload 5, 2) := by decide +kernel
theorem d_M_readCore_271 : decode b_M_readCore 271 = .ok (.bipush 8, 2) := by decide +kernel
theorem d_M_readCore_273 : decode b_M_readCore 273 = .ok (.idiv, 1) := by decide +kernel
theorem d_M_readCore_274 : decode b_M_readCore 274 = .ok (.imul, 1) := by decide +kernel
theorem d_M_readCore_275 : decode b_M_readCore 275 = .ok (.bipush 7, 2) := by decide +kernel
theorem d_M_readCore_277 : decode b_M_readCore 277 = .ok (.iadd, 1) := by decide +kernel
theorem d_M_readCore_278 : decode b_M_readCore 278 = .ok (.iload 5, 2) := by decide +kernel
theorem d_M_readCore_280 : decode b_M_readCore 280 = .ok (.bipush 8, 2) := by decide +kernel
theorem d_M_readCore_282 : decode b_M_readCore 282 = .ok (.irem, 1) := by decide +kernel
theorem d_M_readCore_283 : decode b_M_readCore 283 = .ok (.isub, 1) := by decide +kernel
theorem d_M_readCore_284 : decode b_M_readCore 284 = .ok (.ishl, 1) := by decide +kernel
theorem d_M_readCore_285 : decode b_M_readCore 285 = .ok (.ior, 1) := by decide +kernel
theorem d_M_readCore_286 : decode b_M_readCore 286 = .ok (.iastore, 1) := by decide +kernel
theorem d_M_readCore_287 : decode b_M_readCore 287 = .ok (.aload_n 0, 1) := by decide +kernel
theorem d_M_readCore_288 : decode b_M_readCore 288 = .ok (.getfield 62, 3) := by decide +kernel
theorem d_M_readCore_291 : decode b_M_readCore 291 = .ok (.iload_n 1, 1) := by decide +kernel
theorem d_M_readCore_292 : decode b_M_readCore 292 = .ok (.dup2, 1) := by decide +kernel
theorem d_M_readCore_293 : decode b_M_readCore 293 = .ok (.iaload, 1) := by decide +kernel
theorem d_M_readCore_294 : decode b_M_readCore 294 = .ok (.iconst 1, 1) := by decide +kernel
theorem d_M_readCore_295 : decode b_M_readCore 295 = .ok (.iadd, 1) := by decide +kernel
theorem d_M_readCore_296 : decode b_M_readCore 296 = .ok (.iastore, 1) := by decide +kernel
theorem d_M_readCore_297 : decode b_M_readCore 297 = .ok (.iload_n 3, 1) := by decide +kernel
theorem d_M_readCore_298 : decode b_M_readCore 298 = .ok (.bipush 11, 2) := by decide +kernel
theorem d_M_readCore_300 : decode b_M_readCore 300 = .ok (.if_icmp .le 14, 3) := by decide +kernel
theorem d_M_readCore_303 : decode b_M_readCore 303 = .ok (.iload_n 3, 1) := by decide +kernel
theorem d_M_readCore_304 : decode b_M_readCore 304 = .ok (.bipush 15, 2) := by decide +kernel
theorem d_M_readCore_306 : decode b_M_readCore 306 = .ok (.if_icmp .ge 8, 3) := by decide +kernel
theorem d_M_readCore_309 : decode b_M_readCore 309 = .ok (.iload_n 2, 1) := by decide +kernel
theorem d_M_readCore_310 : decode b_M_readCore 310 = .ok (.iconst 1, 1) := by decide +kernel
theorem d_M_readCore_311 : decode b_M_readCore 311 = .ok (.if_icmp .eq 19, 3) := by decide +kernel
theorem d_M_readCore_314 : decode b_M_readCore 314 = .ok (.iload_n 3, 1) := by decide +kernel
theorem d_M_readCore_315 : decode b_M_readCore 315 = .ok (.bipush 18, 2) := by decide +kernel
theorem d_M_readCore_317 : decode b_M_readCore 317 = .ok (.if_icmp .ne 15, 3) := by decide +kernel
theorem d_M_readCore_320 : decode b_M_readCore 320 = .ok (.aload_n 0, 1) := by decide +kernel
theorem d_M_readCore_321 : decode b_M_readCore 321 = .ok (.getfield 77, 3) := by decide +kernel
theorem d_M_readCore_324 : decode b_M_readCore 324 = .ok (.iload_n 1, 1) := by decide +kernel
theorem d_M_readCore_325 : decode b_M_readCore 325 = .ok (.iaload, 1) := by decide +kernel
theorem d_M_readCore_326 : decode b_M_readCore 326 = .ok (.iconst 2, 1) := by decide +kernel
theorem d_M_readCore_327 : decode b_M_readCore 327 = .ok (.if_icmp .le 5, 3) := by decide +kernel
theorem d_M_readCore_330 : decode b_M_readCore 330 = .ok (.iconst 4, 1) := by decide +kernel
theorem d_M_readCore_331 : decode b_M_readCore 331 = .ok (.ireturn, 1) := by decide +kernel
theorem d_M_readCore_332 : decode b_M_readCore 332 = .ok (.aload_n 0, 1) := by decide +kernel
theorem d_M_readCore_333 : decode b_M_readCore 333 = .ok (.getfield 59, 3) := by decide +kernel
theorem d_M_readCore_336 : decode b_M_readCore 336 = .ok (.iload_n 1, 1) := by decide +kernel
theorem d_M_readCore_337 : decode b_M_readCore 337 = .ok (.aload_n 0, 1) := by decide +kernel
theorem d_M_readCore_338 : decode b_M_readCore 338 = .ok (.getfield 62, 3) := by decide +kernel
theorem d_M_readCore_341 : decode b_M_readCore 341 = .ok (.iload_n 1, 1) := by decide +kernel
theorem d_M_readCore_342 : decode b_M_readCore 342 = .ok (.iaload, 1) := by decide +kernel
theorem d_M_readCore_343 : decode b_M_readCore 343 = .ok (.aload_n 0, 1) := by decide +kernel
theorem d_M_readCore_344 : decode b_M_readCore 344 = .ok (.iload_n 1, 1) := by decide +kernel
theorem d_M_readCore_345 : decode b_M_readCore 345 = .ok (.invokevirtual 120, 3) := by decide +kernel
theorem d_M_readCore_348 : decode b_M_readCore 348 = .ok (.if_icmp .ne 17, 3) := by decide +kernel
theorem d_M_readCore_351 : decode b_M_readCore 351 = .ok (.aload_n 0, 1) := by decide +kernel
theorem d_M_readCore_352 : decode b_M_readCore 352 = .ok (.getfield 65, 3) := by decide +kernel
theorem d_M_readCore_355 : decode b_M_readCore 355 = .ok (.iload_n 1, 1) := by decide +kernel
theorem d_M_readCore_356 : decode b_M_readCore 356 = .ok (.iaload, 1) := by decide +kernel
theorem d_M_readCore_357 : decode b_M_readCore 357 = .ok (.iconst 5, 1) := by decide +kernel
theorem d_M_readCore_358 : decode b_M_readCore 358 = .ok (.if_icmp .ge 7, 3) := by decide +kernel
theorem d_M_readCore_361 : decode b_M_readCore 361 = .ok (.iconst 1, 1) := by decide +kernel
theorem d_M_readCore_362 : decode b_M_readCore 362 = .ok (.goto 4, 3) := by decide +kernel
theorem d_M_readCore_365 : decode b_M_readCore 365 = .ok (.iconst 0, 1) := by decide +kernel
theorem d_M_readCore_366 : decode b_M_readCore 366 = .ok (.iastore, 1) := by decide +kernel
theorem d_M_readCore_367 : decode b_M_readCore 367 = .ok (.iconst 0, 1) := by decide +kernel
theorem d_M_readCore_368 : decode b_M_readCore 368 = .ok (.ireturn, 1) := by decide +kernel
theorem d_M_coreLength_0 : decode b_M_coreLength 0 = .ok (.aload_n 0, 1) := by decide +kernel
theorem d_M_coreLength_1 : decode b_M_coreLength 1 = .ok (.getfield 62, 3) := by decide +kernel
theorem d_M_coreLength_4 : decode b_M_coreLength 4 = .ok (.iload_n 1, 1) := by decide +kernel
theorem d_M_coreLength_5 : decode b_M_coreLength 5 = .ok (.iaload, 1) := by decide +kernel
theorem d_M_coreLength_6 : decode b_M_coreLength 6 = .ok (.bipush 19, 2) := by decide +kernel
theorem d_M_coreLength_8 : decode b_M_coreLength 8 = .ok (.if_icmp .ge 9, 3) := by decide +kernel
theorem d_M_coreLength_11 : decode b_M_coreLength 11 = .ok (.sipush 999, 3) := by decide +kernel
theorem d_M_coreLength_14 : decode b_M_coreLength 14 = .ok (.goto 15, 3) := by decide +kernel
theorem d_M_coreLength_17 : decode b_M_coreLength 17 = .ok (.bipush 34, 2) := by decide +kernel
theorem d_M_coreLength_19 : decode b_M_coreLength 19 = .ok (.bipush 8, 2) := by decide +kernel
theorem d_M_coreLength_21 : decode b_M_coreLength 21 = .ok (.aload_n 0, 1) := by decide +kernel
theorem d_M_coreLength_22 : decode b_M_coreLength 22 = .ok (.getfield 77, 3) := by decide +kernel
theorem d_M_coreLength_25 : decode b_M_coreLength 25 = .ok (.iload_n 1, 1) := by decide +kernel
theorem d_M_coreLength_26 : decode b_M_coreLength 26 = .ok (.iaload, 1) := by decide +kernel
theorem d_M_coreLength_27 : decode b_M_coreLength 27 = .ok (.imul, 1) := by decide +kernel
theorem d_M_coreLength_28 : decode b_M_coreLength 28 = .ok (.iadd, 1) := by decide +kernel
theorem d_M_coreLength_29 : decode b_M_coreLength 29 = .ok (.ireturn, 1) := by decide +kernel
theorem d_M_err_0 : decode b_M_err 0 = .ok (.aload_n 0, 1) := by decide +kernel
theorem d_M_err_1 : decode b_M_err 1 = .ok (.getfield 7, 3) := by decide +kernel
theorem d_M_err_4 : decode b_M_err 4 = .ok (.iload_n 2, 1) := by decide +kernel
theorem d_M_err_5 : decode b_M_err 5 = .ok (.dup2, 1) := by decide +kernel
theorem d_M_err_6 : decode b_M_err 6 = .ok (.iaload, 1) := by decide +kernel
theorem d_M_err_7 : decode b_M_err 7 = .ok (.iconst 1, 1) := by decide +kernel
theorem d_M_err_8 : decode b_M_err 8 = .ok (.iadd, 1) := by decide +kernel
theorem d_M_err_9 : decode b_M_err 9 = .ok (.iastore, 1) := by decide +kernel
theorem d_M_err_10 : decode b_M_err 10 = .ok (.iload_n 3, 1) := by decide +kernel
theorem d_M_err_11 : decode b_M_err 11 = .ok (.iconst 1, 1) := by decide +kernel
theorem d_M_err_12 : decode b_M_err 12 = .ok (.if_icmp .ne 35, 3) := by decide +kernel
theorem d_M_err_15 : decode b_M_err 15 = .ok (.aload_n 0, 1) := by decide +kernel
theorem d_M_err_16 : decode b_M_err 16 = .ok (.getfield 23, 3) := by decide +kernel
theorem d_M_err_19 : decode b_M_err 19 = .ok (.iload_n 1, 1) := by decide +kernel
theorem d_M_err_20 : decode b_M_err 20 = .ok (.dup2, 1) := by decide +kernel
theorem d_M_err_21 : decode b_M_err 21 = .ok (.iaload, 1) := by decide +kernel
theorem d_M_err_22 : decode b_M_err 22 = .ok (.iload_n 2, 1) := by decide +kernel
theorem d_M_err_23 : decode b_M_err 23 = .ok (.bipush 6, 2) := by decide +kernel
theorem d_M_err_25 : decode b_M_err 25 = .ok (.if_icmp .ne 15, 3) := by decide +kernel
theorem d_M_err_28 : decode b_M_err 28 = .ok (.aload_n 0, 1) := by decide +kernel
theorem d_M_err_29 : decode b_M_err 29 = .ok (.iload_n 1, 1) := by decide +kernel
theorem d_M_err_30 : decode b_M_err 30 = .ok (.invokevirtual 123, 3) := by decide +kernel
theorem d_M_err_33 : decode b_M_err 33 = .ok (.ifCond .eq 7, 3) := by decide +kernel
theorem d_M_err_36 : decode b_M_err 36 = .ok (.iconst 0, 1) := by decide +kernel
theorem d_M_err_37 : decode b_M_err 37 = .ok (.goto 5, 3) := by decide +kernel
theorem d_M_err_40 : decode b_M_err 40 = .ok (.bipush 8, 2) := by decide +kernel
theorem d_M_err_42 : decode b_M_err 42 = .ok (.iadd, 1) := by decide +kernel
theorem d_M_err_43 : decode b_M_err 43 = .ok (.iastore, 1) := by decide +kernel
theorem d_M_err_44 : decode b_M_err 44 = .ok (.goto 13, 3) := by decide +kernel
theorem d_M_err_47 : decode b_M_err 47 = .ok (.aload_n 0, 1) := by decide +kernel
theorem d_M_err_48 : decode b_M_err 48 = .ok (.getfield 26, 3) := by decide +kernel
theorem d_M_err_51 : decode b_M_err 51 = .ok (.iload_n 1, 1) := by decide +kernel
theorem d_M_err_52 : decode b_M_err 52 = .ok (.dup2, 1) := by decide +kernel
theorem d_M_err_53 : decode b_M_err 53 = .ok (.iaload, 1) := by decide +kernel
theorem d_M_err_54 : decode b_M_err 54 = .ok (.iconst 1, 1) := by decide +kernel
theorem d_M_err_55 : decode b_M_err 55 = .ok (.iadd, 1) := by decide +kernel
theorem d_M_err_56 : decode b_M_err 56 = .ok (.iastore, 1) := by decide +kernel
theorem d_M_err_57 : decode b_M_err 57 = .ok (.aload_n 0, 1) := by decide +kernel
theorem d_M_err_58 : decode b_M_err 58 = .ok (.iload_n 1, 1) := by decide +kernel
theorem d_M_err_59 : decode b_M_err 59 = .ok (.invokevirtual 126, 3) := by decide +kernel
theorem d_M_err_62 : decode b_M_err 62 = .ok (.ifCond .ne 14, 3) := by decide +kernel
theorem d_M_err_65 : decode b_M_err 65 = .ok (.aload_n 0, 1) := by decide +kernel
theorem d_M_err_66 : decode b_M_err 66 = .ok (.iload_n 1, 1) := by decide +kernel
theorem d_M_err_67 : decode b_M_err 67 = .ok (.iload_n 3, 1) := by decide +kernel
theorem d_M_err_68 : decode b_M_err 68 = .ok (.aload_n 0, 1) := by decide +kernel
theorem d_M_err_69 : decode b_M_err 69 = .ok (.iload_n 1, 1) := by decide +kernel
theorem d_M_err_70 : decode b_M_err 70 = .ok (.invokevirtual 123, 3) := by decide +kernel
theorem d_M_err_73 : decode b_M_err 73 = .ok (.invokevirtual 129, 3) := by decide +kernel
theorem d_M_err_76 : decode b_M_err 76 = .ok (.return_, 1) := by decide +kernel
theorem d_M_isPassive_0 : decode b_M_isPassive 0 = .ok (.aload_n 0, 1) := by decide +kernel
theorem d_M_isPassive_1 : decode b_M_isPassive 1 = .ok (.getfield 23, 3) := by decide +kernel
theorem d_M_isPassive_4 : decode b_M_isPassive 4 = .ok (.iload_n 1, 1) := by decide +kernel
theorem d_M_isPassive_5 : decode b_M_isPassive 5 = .ok (.iaload, 1) := by decide +kernel
theorem d_M_isPassive_6 : decode b_M_isPassive 6 = .ok (.bipush 127, 2) := by decide +kernel
theorem d_M_isPassive_8 : decode b_M_isPassive 8 = .ok (.if_icmp .gt 14, 3) := by decide +kernel
theorem d_M_isPassive_11 : decode b_M_isPassive 11 = .ok (.aload_n 0, 1) := by decide +kernel
theorem d_M_isPassive_12 : decode b_M_isPassive 12 = .ok (.getfield 26, 3) := by decide +kernel
theorem d_M_isPassive_15 : decode b_M_isPassive 15 = .ok (.iload_n 1, 1) := by decide +kernel
theorem d_M_isPassive_16 : decode b_M_isPassive 16 = .ok (.iaload, 1) := by decide +kernel
theorem d_M_isPassive_17 : decode b_M_isPassive 17 = .ok (.bipush 127, 2) := by decide +kernel
theorem d_M_isPassive_19 : decode b_M_isPassive 19 = .ok (.if_icmp .le 7, 3) := by decide +kernel
theorem d_M_isPassive_22 : decode b_M_isPassive 22 = .ok (.iconst 1, 1) := by decide +kernel
theorem d_M_isPassive_23 : decode b_M_isPassive 23 = .ok (.goto 4, 3) := by decide +kernel
theorem d_M_isPassive_26 : decode b_M_isPassive 26 = .ok (.iconst 0, 1) := by decide +kernel
theorem d_M_isPassive_27 : decode b_M_isPassive 27 = .ok (.ireturn, 1) := by decide +kernel
theorem d_M_goesOff_0 : decode b_M_goesOff 0 = .ok (.aload_n 0, 1) := by decide +kernel
theorem d_M_goesOff_1 : decode b_M_goesOff 1 = .ok (.getfield 23, 3) := by decide +kernel
theorem d_M_goesOff_4 : decode b_M_goesOff 4 = .ok (.iload_n 1, 1) := by decide +kernel
theorem d_M_goesOff_5 : decode b_M_goesOff 5 = .ok (.iaload, 1) := by decide +kernel
theorem d_M_goesOff_6 : decode b_M_goesOff 6 = .ok (.sipush 256, 3) := by decide +kernel
theorem d_M_goesOff_9 : decode b_M_goesOff 9 = .ok (.if_icmp .ge 5, 3) := by decide +kernel
theorem d_M_goesOff_12 : decode b_M_goesOff 12 = .ok (.iconst 0, 1) := by decide +kernel
theorem d_M_goesOff_13 : decode b_M_goesOff 13 = .ok (.ireturn, 1) := by decide +kernel
theorem d_M_goesOff_14 : decode b_M_goesOff 14 = .ok (.aload_n 0, 1) := by decide +kernel
theorem d_M_goesOff_15 : decode b_M_goesOff 15 = .ok (.getfield 20, 3) := by decide +kernel
theorem d_M_goesOff_18 : decode b_M_goesOff 18 = .ok (.iload_n 1, 1) := by decide +kernel
theorem d_M_goesOff_19 : decode b_M_goesOff 19 = .ok (.bipush 7, 2) := by decide +kernel
theorem d_M_goesOff_21 : decode b_M_goesOff 21 = .ok (.iastore, 1) := by decide +kernel
theorem d_M_goesOff_22 : decode b_M_goesOff 22 = .ok (.aload_n 0, 1) := by decide +kernel
theorem d_M_goesOff_23 : decode b_M_goesOff 23 = .ok (.getfield 38, 3) := by decide +kernel
theorem d_M_goesOff_26 : decode b_M_goesOff 26 = .ok (.iload_n 1, 1) := by decide +kernel
theorem d_M_goesOff_27 : decode b_M_goesOff 27 = .ok (.iconst 0, 1) := by decide +kernel
theorem d_M_goesOff_28 : decode b_M_goesOff 28 = .ok (.iastore, 1) := by decide +kernel
theorem d_M_goesOff_29 : decode b_M_goesOff 29 = .ok (.aload_n 0, 1) := by decide +kernel
theorem d_M_goesOff_30 : decode b_M_goesOff 30 = .ok (.getfield 92, 3) := by decide +kernel
theorem d_M_goesOff_33 : decode b_M_goesOff 33 = .ok (.iload_n 1, 1) := by decide +kernel
theorem d_M_goesOff_34 : decode b_M_goesOff 34 = .ok (.iconst 0, 1) := by decide +kernel
theorem d_M_goesOff_35 : decode b_M_goesOff 35 = .ok (.iastore, 1) := by decide +kernel
theorem d_M_goesOff_36 : decode b_M_goesOff 36 = .ok (.aload_n 0, 1) := by decide +kernel
theorem d_M_goesOff_37 : decode b_M_goesOff 37 = .ok (.getfield 89, 3) := by decide +kernel
theorem d_M_goesOff_40 : decode b_M_goesOff 40 = .ok (.iload_n 1, 1) := by decide +kernel
theorem d_M_goesOff_41 : decode b_M_goesOff 41 = .ok (.iconst 0, 1) := by decide +kernel
theorem d_M_goesOff_42 : decode b_M_goesOff 42 = .ok (.iastore, 1) := by decide +kernel
theorem d_M_goesOff_43 : decode b_M_goesOff 43 = .ok (.iconst 1, 1) := by decide +kernel
theorem d_M_goesOff_44 : decode b_M_goesOff 44 = .ok (.ireturn, 1) := by decide +kernel
theorem d_M_flag_0 : decode b_M_flag 0 = .ok (.aload_n 0, 1) := by decide +kernel
theorem d_M_flag_1 : decode b_M_flag 1 = .ok (.getfield 83, 3) := by decide +kernel
theorem d_M_flag_4 : decode b_M_flag 4 = .ok (.iload_n 1, 1) := by decide +kernel
theorem d_M_flag_5 : decode b_M_flag 5 = .ok (.iload_n 2, 1) := by decide +kernel
theorem d_M_flag_6 : decode b_M_flag 6 = .ok (.iastore, 1) := by decide +kernel
theorem d_M_flag_7 : decode b_M_flag 7 = .ok (.aload_n 0, 1) := by decide +kernel
theorem d_M_flag_8 : decode b_M_flag 8 = .ok (.getfield 86, 3) := by decide +kernel
theorem d_M_flag_11 : decode b_M_flag 11 = .ok (.iload_n 1, 1) := by decide +kernel
theorem d_M_flag_12 : decode b_M_flag 12 = .ok (.iload_n 3, 1) := by decide +kernel
theorem d_M_flag_13 : decode b_M_flag 13 = .ok (.bastore, 1) := by decide +kernel
theorem d_M_flag_14 : decode b_M_flag 14 = .ok (.aload_n 0, 1) := by decide +kernel
theorem d_M_flag_15 : decode b_M_flag 15 = .ok (.getfield 20, 3) := by decide +kernel
theorem d_M_flag_18 : decode b_M_flag 18 = .ok (.iload_n 1, 1) := by decide +kernel
theorem d_M_flag_19 : decode b_M_flag 19 = .ok (.iconst 3, 1) := by decide +kernel
theorem d_M_flag_20 : decode b_M_flag 20 = .ok (.iastore, 1) := by decide +kernel
theorem d_M_flag_21 : decode b_M_flag 21 = .ok (.aload_n 0, 1) := by decide +kernel
theorem d_M_flag_22 : decode b_M_flag 22 = .ok (.getfield 89, 3) := by decide +kernel
theorem d_M_flag_25 : decode b_M_flag 25 = .ok (.iload_n 1, 1) := by decide +kernel
theorem d_M_flag_26 : decode b_M_flag 26 = .ok (.iconst 0, 1) := by decide +kernel
theorem d_M_flag_27 : decode b_M_flag 27 = .ok (.iastore, 1) := by decide +kernel
theorem d_M_flag_28 : decode b_M_flag 28 = .ok (.return_, 1) := by decide +kernel
theorem d_M_heardFrame_0 : decode b_M_heardFrame 0 = .ok (.aload_n 0, 1) := by decide +kernel
theorem d_M_heardFrame_1 : decode b_M_heardFrame 1 = .ok (.getfield 26, 3) := by decide +kernel
theorem d_M_heardFrame_4 : decode b_M_heardFrame 4 = .ok (.iload_n 1, 1) := by decide +kernel
theorem d_M_heardFrame_5 : decode b_M_heardFrame 5 = .ok (.aload_n 0, 1) := by decide +kernel
theorem d_M_heardFrame_6 : decode b_M_heardFrame 6 = .ok (.getfield 26, 3) := by decide +kernel
theorem d_M_heardFrame_9 : decode b_M_heardFrame 9 = .ok (.iload_n 1, 1) := by decide +kernel
theorem d_M_heardFrame_10 : decode b_M_heardFrame 10 = .ok (.iaload, 1) := by decide +kernel
theorem d_M_heardFrame_11 : decode b_M_heardFrame 11 = .ok (.bipush 127, 2) := by decide +kernel
theorem d_M_heardFrame_13 : decode b_M_heardFrame 13 = .ok (.if_icmp .le 8, 3) := by decide +kernel
theorem d_M_heardFrame_16 : decode b_M_heardFrame 16 = .ok (.bipush 127, 2) := by decide +kernel
theorem d_M_heardFrame_18 : decode b_M_heardFrame 18 = .ok (.goto 24, 3) := by decide +kernel
theorem d_M_heardFrame_21 : decode b_M_heardFrame 21 = .ok (.aload_n 0, 1) := by decide +kernel
theorem d_M_heardFrame_22 : decode b_M_heardFrame 22 = .ok (.getfield 26, 3) := by decide +kernel
theorem d_M_heardFrame_25 : decode b_M_heardFrame 25 = .ok (.iload_n 1, 1) := by decide +kernel
theorem d_M_heardFrame_26 : decode b_M_heardFrame 26 = .ok (.iaload, 1) := by decide +kernel
theorem d_M_heardFrame_27 : decode b_M_heardFrame 27 = .ok (.ifCond .le 14, 3) := by decide +kernel
theorem d_M_heardFrame_30 : decode b_M_heardFrame 30 = .ok (.aload_n 0, 1) := by decide +kernel
theorem d_M_heardFrame_31 : decode b_M_heardFrame 31 = .ok (.getfield 26, 3) := by decide +kernel
theorem d_M_heardFrame_34 : decode b_M_heardFrame 34 = .ok (.iload_n 1, 1) := by decide +kernel
theorem d_M_heardFrame_35 : decode b_M_heardFrame 35 = .ok (.iaload, 1) := by decide +kernel
theorem d_M_heardFrame_36 : decode b_M_heardFrame 36 = .ok (.iconst 1, 1) := by decide +kernel
theorem d_M_heardFrame_37 : decode b_M_heardFrame 37 = .ok (.isub, 1) := by decide +kernel
theorem d_M_heardFrame_38 : decode b_M_heardFrame 38 = .ok (.goto 4, 3) := by decide +kernel
theorem d_M_heardFrame_41 : decode b_M_heardFrame 41 = .ok (.iconst 0, 1) := by decide +kernel
theorem d_M_heardFrame_42 : decode b_M_heardFrame 42 = .ok (.iastore, 1) := by decide +kernel
theorem d_M_heardFrame_43 : decode b_M_heardFrame 43 = .ok (.aload_n 0, 1) := by decide +kernel
theorem d_M_heardFrame_44 : decode b_M_heardFrame 44 = .ok (.getfield 74, 3) := by decide +kernel
theorem d_M_heardFrame_47 : decode b_M_heardFrame 47 = .ok (.iload_n 1, 1) := by decide +kernel
theorem d_M_heardFrame_48 : decode b_M_heardFrame 48 = .ok (.iaload, 1) := by decide +kernel
theorem d_M_heardFrame_49 : decode b_M_heardFrame 49 = .ok (.aload_n 0, 1) := by decide +kernel
theorem d_M_heardFrame_50 : decode b_M_heardFrame 50 = .ok (.getfield 29, 3) := by decide +kernel
theorem d_M_heardFrame_53 : decode b_M_heardFrame 53 = .ok (.iload_n 1, 1) := by decide +kernel
theorem d_M_heardFrame_54 : decode b_M_heardFrame 54 = .ok (.iaload, 1) := by decide +kernel
theorem d_M_heardFrame_55 : decode b_M_heardFrame 55 = .ok (.iand, 1) := by decide +kernel
theorem d_M_heardFrame_56 : decode b_M_heardFrame 56 = .ok (.aload_n 0, 1) := by decide +kernel
theorem d_M_heardFrame_57 : decode b_M_heardFrame 57 = .ok (.getfield 32, 3) := by decide +kernel
theorem d_M_heardFrame_60 : decode b_M_heardFrame 60 = .ok (.iload_n 1, 1) := by decide +kernel
theorem d_M_heardFrame_61 : decode b_M_heardFrame 61 = .ok (.iaload, 1) := by decide +kernel
theorem d_M_heardFrame_62 : decode b_M_heardFrame 62 = .ok (.if_icmp .ne 79, 3) := by decide +kernel
theorem d_M_heardFrame_65 : decode b_M_heardFrame 65 = .ok (.aload_n 0, 1) := by decide +kernel
theorem d_M_heardFrame_66 : decode b_M_heardFrame 66 = .ok (.getfield 53, 3) := by decide +kernel
theorem d_M_heardFrame_69 : decode b_M_heardFrame 69 = .ok (.iload_n 1, 1) := by decide +kernel
theorem d_M_heardFrame_70 : decode b_M_heardFrame 70 = .ok (.iaload, 1) := by decide +kernel
theorem d_M_heardFrame_71 : decode b_M_heardFrame 71 = .ok (.iconst 4, 1) := by decide +kernel
theorem d_M_heardFrame_72 : decode b_M_heardFrame 72 = .ok (.if_icmp .ne 16, 3) := by decide +kernel
theorem d_M_heardFrame_75 : decode b_M_heardFrame 75 = .ok (.aload_n 0, 1) := by decide +kernel
theorem d_M_heardFrame_76 : decode b_M_heardFrame 76 = .ok (.getfield 35, 3) := by decide +kernel
theorem d_M_heardFrame_79 : decode b_M_heardFrame 79 = .ok (.iload_n 1, 1) := by decide +kernel
theorem d_M_heardFrame_80 : decode b_M_heardFrame 80 = .ok (.dup2, 1) := by decide +kernel
theorem d_M_heardFrame_81 : decode b_M_heardFrame 81 = .ok (.iaload, 1) := by decide +kernel
theorem d_M_heardFrame_82 : decode b_M_heardFrame 82 = .ok (.iconst 1, 1) := by decide +kernel
theorem d_M_heardFrame_83 : decode b_M_heardFrame 83 = .ok (.iadd, 1) := by decide +kernel
theorem d_M_heardFrame_84 : decode b_M_heardFrame 84 = .ok (.iastore, 1) := by decide +kernel
theorem d_M_heardFrame_85 : decode b_M_heardFrame 85 = .ok (.goto 56, 3) := by decide +kernel
theorem d_M_heardFrame_88 : decode b_M_heardFrame 88 = .ok (.aload_n 0, 1) := by decide +kernel
theorem d_M_heardFrame_89 : decode b_M_heardFrame 89 = .ok (.getfield 56, 3) := by decide +kernel
theorem d_M_heardFrame_92 : decode b_M_heardFrame 92 = .ok (.iconst 4, 1) := by decide +kernel
theorem d_M_heardFrame_93 : decode b_M_heardFrame 93 = .ok (.iload_n 1, 1) := by decide +kernel
theorem d_M_heardFrame_94 : decode b_M_heardFrame 94 = .ok (.imul, 1) := by decide +kernel
theorem d_M_heardFrame_95 : decode b_M_heardFrame 95 = .ok (.aload_n 0, 1) := by decide +kernel
theorem d_M_heardFrame_96 : decode b_M_heardFrame 96 = .ok (.getfield 53, 3) := by decide +kernel
theorem d_M_heardFrame_99 : decode b_M_heardFrame 99 = .ok (.iload_n 1, 1) := by decide +kernel
theorem d_M_heardFrame_100 : decode b_M_heardFrame 100 = .ok (.iaload, 1) := by decide +kernel
theorem d_M_heardFrame_101 : decode b_M_heardFrame 101 = .ok (.iadd, 1) := by decide +kernel
theorem d_M_heardFrame_102 : decode b_M_heardFrame 102 = .ok (.aload_n 0, 1) := by decide +kernel
theorem d_M_heardFrame_103 : decode b_M_heardFrame 103 = .ok (.getfield 74, 3) := by decide +kernel
theorem d_M_heardFrame_106 : decode b_M_heardFrame 106 = .ok (.iload_n 1, 1) := by decide +kernel
theorem d_M_heardFrame_107 : decode b_M_heardFrame 107 = .ok (.iaload, 1) := by decide +kernel
theorem d_M_heardFrame_108 : decode b_M_heardFrame 108 = .ok (.sipush 2048, 3) := by decide +kernel
theorem d_M_heardFrame_111 : decode b_M_heardFrame 111 = .ok (.aload_n 0, 1) := by decide +kernel
theorem d_M_heardFrame_112 : decode b_M_heardFrame 112 = .ok (.getfield 77, 3) := by decide +kernel
theorem d_M_heardFrame_115 : decode b_M_heardFrame 115 = .ok (.iload_n 1, 1) := by decide +kernel
theorem d_M_heardFrame_116 : decode b_M_heardFrame 116 = .ok (.iaload, 1) := by decide +kernel
theorem d_M_heardFrame_117 : decode b_M_heardFrame 117 = .ok (.imul, 1) := by decide +kernel
theorem d_M_heardFrame_118 : decode b_M_heardFrame 118 = .ok (.iadd, 1) := by decide +kernel
theorem d_M_heardFrame_119 : decode b_M_heardFrame 119 = .ok (.sipush 8192, 3) := by decide +kernel
theorem d_M_heardFrame_122 : decode b_M_heardFrame 122 = .ok (.aload_n 0, 1) := by decide +kernel
theorem d_M_heardFrame_123 : decode b_M_heardFrame 123 = .ok (.getfield 80, 3) := by decide +kernel
theorem d_M_heardFrame_126 : decode b_M_heardFrame 126 = .ok (.iload_n 1, 1) := by decide +kernel
theorem d_M_heardFrame_127 : decode b_M_heardFrame 127 = .ok (.iaload, 1) := by decide +kernel
theorem d_M_heardFrame_128 : decode b_M_heardFrame 128 = .ok (.imul, 1) := by decide +kernel
theorem d_M_heardFrame_129 : decode b_M_heardFrame 129 = .ok (.iadd, 1) := by decide +kernel
theorem d_M_heardFrame_130 : decode b_M_heardFrame 130 = .ok (.iastore, 1) := by decide +kernel
theorem d_M_heardFrame_131 : decode b_M_heardFrame 131 = .ok (.aload_n 0, 1) := by decide +kernel
theorem d_M_heardFrame_132 : decode b_M_heardFrame 132 = .ok (.getfield 53, 3) := by decide +kernel
theorem d_M_heardFrame_135 : decode b_M_heardFrame 135 = .ok (.iload_n 1, 1) := by decide +kernel
theorem d_M_heardFrame_136 : decode b_M_heardFrame 136 = .ok (.dup2, 1) := by decide +kernel
theorem d_M_heardFrame_137 : decode b_M_heardFrame 137 = .ok (.iaload, 1) := by decide +kernel
theorem d_M_heardFrame_138 : decode b_M_heardFrame 138 = .ok (.iconst 1, 1) := by decide +kernel
theorem d_M_heardFrame_139 : decode b_M_heardFrame 139 = .ok (.iadd, 1) := by decide +kernel
theorem d_M_heardFrame_140 : decode b_M_heardFrame 140 = .ok (.iastore, 1) := by decide +kernel
theorem d_M_heardFrame_141 : decode b_M_heardFrame 141 = .ok (.iload_n 2, 1) := by decide +kernel
theorem d_M_heardFrame_142 : decode b_M_heardFrame 142 = .ok (.ifCond .ne 11, 3) := by decide +kernel
theorem d_M_heardFrame_145 : decode b_M_heardFrame 145 = .ok (.aload_n 0, 1) := by decide +kernel
theorem d_M_heardFrame_146 : decode b_M_heardFrame 146 = .ok (.iload_n 1, 1) := by decide +kernel
theorem d_M_heardFrame_147 : decode b_M_heardFrame 147 = .ok (.invokevirtual 137, 3) := by decide +kernel
theorem d_M_heardFrame_150 : decode b_M_heardFrame 150 = .ok (.goto 8, 3) := by decide +kernel
theorem d_M_heardFrame_153 : decode b_M_heardFrame 153 = .ok (.aload_n 0, 1) := by decide +kernel
theorem d_M_heardFrame_154 : decode b_M_heardFrame 154 = .ok (.iload_n 1, 1) := by decide +kernel
theorem d_M_heardFrame_155 : decode b_M_heardFrame 155 = .ok (.invokevirtual 133, 3) := by decide +kernel
theorem d_M_heardFrame_158 : decode b_M_heardFrame 158 = .ok (.return_, 1) := by decide +kernel
theorem d_M_overload_0 : decode b_M_overload 0 = .ok (.aload_n 0, 1) := by decide +kernel
theorem d_M_overload_1 : decode b_M_overload 1 = .ok (.getfield 7, 3) := by decide +kernel
theorem d_M_overload_4 : decode b_M_overload 4 = .ok (.bipush 7, 2) := by decide +kernel
theorem d_M_overload_6 : decode b_M_overload 6 = .ok (.dup2, 1) := by decide +kernel
theorem d_M_overload_7 : decode b_M_overload 7 = .ok (.iaload, 1) := by decide +kernel
theorem d_M_overload_8 : decode b_M_overload 8 = .ok (.iconst 1, 1) := by decide +kernel
theorem d_M_overload_9 : decode b_M_overload 9 = .ok (.iadd, 1) := by decide +kernel
theorem d_M_overload_10 : decode b_M_overload 10 = .ok (.iastore, 1) := by decide +kernel
theorem d_M_overload_11 : decode b_M_overload 11 = .ok (.aload_n 0, 1) := by decide +kernel
theorem d_M_overload_12 : decode b_M_overload 12 = .ok (.getfield 95, 3) := by decide +kernel
theorem d_M_overload_15 : decode b_M_overload 15 = .ok (.iload_n 1, 1) := by decide +kernel
theorem d_M_overload_16 : decode b_M_overload 16 = .ok (.iconst 0, 1) := by decide +kernel
theorem d_M_overload_17 : decode b_M_overload 17 = .ok (.iastore, 1) := by decide +kernel
theorem d_M_overload_18 : decode b_M_overload 18 = .ok (.aload_n 0, 1) := by decide +kernel
theorem d_M_overload_19 : decode b_M_overload 19 = .ok (.iload_n 1, 1) := by decide +kernel
theorem d_M_overload_20 : decode b_M_overload 20 = .ok (.iconst 0, 1) := by decide +kernel
theorem d_M_overload_21 : decode b_M_overload 21 = .ok (.iconst 0, 1) := by decide +kernel
theorem d_M_overload_22 : decode b_M_overload 22 = .ok (.invokevirtual 129, 3) := by decide +kernel
theorem d_M_overload_25 : decode b_M_overload 25 = .ok (.return_, 1) := by decide +kernel
theorem d_M_rest_0 : decode b_M_rest 0 = .ok (.aload_n 0, 1) := by decide +kernel
theorem d_M_rest_1 : decode b_M_rest 1 = .ok (.getfield 20, 3) := by decide +kernel
theorem d_M_rest_4 : decode b_M_rest 4 = .ok (.iload_n 1, 1) := by decide +kernel
theorem d_M_rest_5 : decode b_M_rest 5 = .ok (.iconst 5, 1) := by decide +kernel
theorem d_M_rest_6 : decode b_M_rest 6 = .ok (.iastore, 1) := by decide +kernel
theorem d_M_rest_7 : decode b_M_rest 7 = .ok (.aload_n 0, 1) := by decide +kernel
theorem d_M_rest_8 : decode b_M_rest 8 = .ok (.getfield 89, 3) := by decide +kernel
theorem d_M_rest_11 : decode b_M_rest 11 = .ok (.iload_n 1, 1) := by decide +kernel
theorem d_M_rest_12 : decode b_M_rest 12 = .ok (.iconst 0, 1) := by decide +kernel
theorem d_M_rest_13 : decode b_M_rest 13 = .ok (.iastore, 1) := by decide +kernel
theorem d_M_rest_14 : decode b_M_rest 14 = .ok (.return_, 1) := by decide +kernel
theorem d_M_sentFrame_0 : decode b_M_sentFrame 0 = .ok (.aload_n 0, 1) := by decide +kernel
theorem d_M_sentFrame_1 : decode b_M_sentFrame 1 = .ok (.getfield 7, 3) := by decide +kernel
theorem d_M_sentFrame_4 : decode b_M_sentFrame 4 = .ok (.iconst 1, 1) := by decide +kernel
theorem d_M_sentFrame_5 : decode b_M_sentFrame 5 = .ok (.dup2, 1) := by decide +kernel
theorem d_M_sentFrame_6 : decode b_M_sentFrame 6 = .ok (.iaload, 1) := by decide +kernel
theorem d_M_sentFrame_7 : decode b_M_sentFrame 7 = .ok (.iconst 1, 1) := by decide +kernel
theorem d_M_sentFrame_8 : decode b_M_sentFrame 8 = .ok (.iadd, 1) := by decide +kernel
theorem d_M_sentFrame_9 : decode b_M_sentFrame 9 = .ok (.iastore, 1) := by decide +kernel
theorem d_M_sentFrame_10 : decode b_M_sentFrame 10 = .ok (.aload_n 0, 1) := by decide +kernel
theorem d_M_sentFrame_11 : decode b_M_sentFrame 11 = .ok (.getfield 23, 3) := by decide +kernel
theorem d_M_sentFrame_14 : decode b_M_sentFrame 14 = .ok (.iload_n 1, 1) := by decide +kernel
theorem d_M_sentFrame_15 : decode b_M_sentFrame 15 = .ok (.dup2, 1) := by decide +kernel
theorem d_M_sentFrame_16 : decode b_M_sentFrame 16 = .ok (.iaload, 1) := by decide +kernel
theorem d_M_sentFrame_17 : decode b_M_sentFrame 17 = .ok (.aload_n 0, 1) := by decide +kernel
theorem d_M_sentFrame_18 : decode b_M_sentFrame 18 = .ok (.getfield 23, 3) := by decide +kernel
theorem d_M_sentFrame_21 : decode b_M_sentFrame 21 = .ok (.iload_n 1, 1) := by decide +kernel
theorem d_M_sentFrame_22 : decode b_M_sentFrame 22 = .ok (.iaload, 1) := by decide +kernel
theorem d_M_sentFrame_23 : decode b_M_sentFrame 23 = .ok (.ifCond .le 7, 3) := by decide +kernel
theorem d_M_sentFrame_26 : decode b_M_sentFrame 26 = .ok (.iconst 1, 1) := by decide +kernel
theorem d_M_sentFrame_27 : decode b_M_sentFrame 27 = .ok (.goto 4, 3) := by decide +kernel
theorem d_M_sentFrame_30 : decode b_M_sentFrame 30 = .ok (.iconst 0, 1) := by decide +kernel
theorem d_M_sentFrame_31 : decode b_M_sentFrame 31 = .ok (.isub, 1) := by decide +kernel
theorem d_M_sentFrame_32 : decode b_M_sentFrame 32 = .ok (.iastore, 1) := by decide +kernel
theorem d_M_sentFrame_33 : decode b_M_sentFrame 33 = .ok (.aload_n 0, 1) := by decide +kernel
theorem d_M_sentFrame_34 : decode b_M_sentFrame 34 = .ok (.getfield 38, 3) := by decide +kernel
theorem d_M_sentFrame_37 : decode b_M_sentFrame 37 = .ok (.iload_n 1, 1) := by decide +kernel
theorem d_M_sentFrame_38 : decode b_M_sentFrame 38 = .ok (.dup2, 1) := by decide +kernel
theorem d_M_sentFrame_39 : decode b_M_sentFrame 39 = .ok (.iaload, 1) := by decide +kernel
theorem d_M_sentFrame_40 : decode b_M_sentFrame 40 = .ok (.iconst 1, 1) := by decide +kernel
theorem d_M_sentFrame_41 : decode b_M_sentFrame 41 = .ok (.isub, 1) := by decide +kernel
theorem d_M_sentFrame_42 : decode b_M_sentFrame 42 = .ok (.iastore, 1) := by decide +kernel
theorem d_M_sentFrame_43 : decode b_M_sentFrame 43 = .ok (.iconst 4, 1) := by decide +kernel
theorem d_M_sentFrame_44 : decode b_M_sentFrame 44 = .ok (.iload_n 1, 1) := by decide +kernel
theorem d_M_sentFrame_45 : decode b_M_sentFrame 45 = .ok (.imul, 1) := by decide +kernel
theorem d_M_sentFrame_46 : decode b_M_sentFrame 46 = .ok (.aload_n 0, 1) := by decide +kernel
theorem d_M_sentFrame_47 : decode b_M_sentFrame 47 = .ok (.getfield 50, 3) := by decide +kernel
theorem d_M_sentFrame_50 : decode b_M_sentFrame 50 = .ok (.iload_n 1, 1) := by decide +kernel
theorem d_M_sentFrame_51 : decode b_M_sentFrame 51 = .ok (.iaload, 1) := by decide +kernel
theorem d_M_sentFrame_52 : decode b_M_sentFrame 52 = .ok (.iadd, 1) := by decide +kernel
theorem d_M_sentFrame_53 : decode b_M_sentFrame 53 = .ok (.istore_n 2, 1) := by decide +kernel
theorem d_M_sentFrame_54 : decode b_M_sentFrame 54 = .ok (.iload_n 2, 1) := by decide +kernel
theorem d_M_sentFrame_55 : decode b_M_sentFrame 55 = .ok (.iconst 4, 1) := by decide +kernel
theorem d_M_sentFrame_56 : decode b_M_sentFrame 56 = .ok (.iload_n 1, 1) := by decide +kernel
theorem d_M_sentFrame_57 : decode b_M_sentFrame 57 = .ok (.imul, 1) := by decide +kernel
theorem d_M_sentFrame_58 : decode b_M_sentFrame 58 = .ok (.aload_n 0, 1) := by decide +kernel
theorem d_M_sentFrame_59 : decode b_M_sentFrame 59 = .ok (.getfield 38, 3) := by decide +kernel
theorem d_M_sentFrame_62 : decode b_M_sentFrame 62 = .ok (.iload_n 1, 1) := by decide +kernel
theorem d_M_sentFrame_63 : decode b_M_sentFrame 63 = .ok (.iaload, 1) := by decide +kernel
theorem d_M_sentFrame_64 : decode b_M_sentFrame 64 = .ok (.iadd, 1) := by decide +kernel
theorem d_M_sentFrame_65 : decode b_M_sentFrame 65 = .ok (.if_icmp .ge 51, 3) := by decide +kernel
theorem d_M_sentFrame_68 : decode b_M_sentFrame 68 = .ok (.aload_n 0, 1) := by decide +kernel
theorem d_M_sentFrame_69 : decode b_M_sentFrame 69 = .ok (.getfield 41, 3) := by decide +kernel
theorem d_M_sentFrame_72 : decode b_M_sentFrame 72 = .ok (.iload_n 2, 1) := by decide +kernel
theorem d_M_sentFrame_73 : decode b_M_sentFrame 73 = .ok (.aload_n 0, 1) := by decide +kernel
theorem d_M_sentFrame_74 : decode b_M_sentFrame 74 = .ok (.getfield 41, 3) := by decide +kernel
theorem d_M_sentFrame_77 : decode b_M_sentFrame 77 = .ok (.iload_n 2, 1) := by decide +kernel
theorem d_M_sentFrame_78 : decode b_M_sentFrame 78 = .ok (.iconst 1, 1) := by decide +kernel
theorem d_M_sentFrame_79 : decode b_M_sentFrame 79 = .ok (.iadd, 1) := by decide +kernel
theorem d_M_sentFrame_80 : decode b_M_sentFrame 80 = .ok (.iaload, 1) := by decide +kernel
theorem d_M_sentFrame_81 : decode b_M_sentFrame 81 = .ok (.iastore, 1) := by decide +kernel
theorem d_M_sentFrame_82 : decode b_M_sentFrame 82 = .ok (.aload_n 0, 1) := by decide +kernel
theorem d_M_sentFrame_83 : decode b_M_sentFrame 83 = .ok (.getfield 44, 3) := by decide +kernel
theorem d_M_sentFrame_86 : decode b_M_sentFrame 86 = .ok (.iload_n 2, 1) := by decide +kernel
theorem d_M_sentFrame_87 : decode b_M_sentFrame 87 = .ok (.aload_n 0, 1) := by decide +kernel
theorem d_M_sentFrame_88 : decode b_M_sentFrame 88 = .ok (.getfield 44, 3) := by decide +kernel
theorem d_M_sentFrame_91 : decode b_M_sentFrame 91 = .ok (.iload_n 2, 1) := by decide +kernel
theorem d_M_sentFrame_92 : decode b_M_sentFrame 92 = .ok (.iconst 1, 1) := by decide +kernel
theorem d_M_sentFrame_93 : decode b_M_sentFrame 93 = .ok (.iadd, 1) := by decide +kernel
theorem d_M_sentFrame_94 : decode b_M_sentFrame 94 = .ok (.iaload, 1) := by decide +kernel
theorem d_M_sentFrame_95 : decode b_M_sentFrame 95 = .ok (.iastore, 1) := by decide +kernel
theorem d_M_sentFrame_96 : decode b_M_sentFrame 96 = .ok (.aload_n 0, 1) := by decide +kernel
theorem d_M_sentFrame_97 : decode b_M_sentFrame 97 = .ok (.getfield 47, 3) := by decide +kernel
theorem d_M_sentFrame_100 : decode b_M_sentFrame 100 = .ok (.iload_n 2, 1) := by decide +kernel
theorem d_M_sentFrame_101 : decode b_M_sentFrame 101 = .ok (.aload_n 0, 1) := by decide +kernel
theorem d_M_sentFrame_102 : decode b_M_sentFrame 102 = .ok (.getfield 47, 3) := by decide +kernel
theorem d_M_sentFrame_105 : decode b_M_sentFrame 105 = .ok (.iload_n 2, 1) := by decide +kernel
theorem d_M_sentFrame_106 : decode b_M_sentFrame 106 = .ok (.iconst 1, 1) := by decide +kernel
theorem d_M_sentFrame_107 : decode b_M_sentFrame 107 = .ok (.iadd, 1) := by decide +kernel
theorem d_M_sentFrame_108 : decode b_M_sentFrame 108 = .ok (.iaload, 1) := by decide +kernel
theorem d_M_sentFrame_109 : decode b_M_sentFrame 109 = .ok (.iastore, 1) := by decide +kernel
theorem d_M_sentFrame_110 : decode b_M_sentFrame 110 = .ok (.iinc 2 1, 3) := by decide +kernel
theorem d_M_sentFrame_113 : decode b_M_sentFrame 113 = .ok (.goto (-59), 3) := by decide +kernel
theorem d_M_sentFrame_116 : decode b_M_sentFrame 116 = .ok (.aload_n 0, 1) := by decide +kernel
theorem d_M_sentFrame_117 : decode b_M_sentFrame 117 = .ok (.iload_n 1, 1) := by decide +kernel
theorem d_M_sentFrame_118 : decode b_M_sentFrame 118 = .ok (.invokevirtual 133, 3) := by decide +kernel
theorem d_M_sentFrame_121 : decode b_M_sentFrame 121 = .ok (.return_, 1) := by decide +kernel
theorem d_M_flagging_0 : decode b_M_flagging 0 = .ok (.aload_n 0, 1) := by decide +kernel
theorem d_M_flagging_1 : decode b_M_flagging 1 = .ok (.getfield 98, 3) := by decide +kernel
theorem d_M_flagging_4 : decode b_M_flagging 4 = .ok (.iload_n 1, 1) := by decide +kernel
theorem d_M_flagging_5 : decode b_M_flagging 5 = .ok (.iaload, 1) := by decide +kernel
theorem d_M_flagging_6 : decode b_M_flagging 6 = .ok (.ifCond .ne 17, 3) := by decide +kernel
theorem d_M_flagging_9 : decode b_M_flagging 9 = .ok (.iload_n 2, 1) := by decide +kernel
theorem d_M_flagging_10 : decode b_M_flagging 10 = .ok (.iconst 1, 1) := by decide +kernel
theorem d_M_flagging_11 : decode b_M_flagging 11 = .ok (.if_icmp .ne 12, 3) := by decide +kernel
theorem d_M_flagging_14 : decode b_M_flagging 14 = .ok (.aload_n 0, 1) := by decide +kernel
theorem d_M_flagging_15 : decode b_M_flagging 15 = .ok (.iload_n 1, 1) := by decide +kernel
theorem d_M_flagging_16 : decode b_M_flagging 16 = .ok (.invokevirtual 157, 3) := by decide +kernel
theorem d_M_flagging_19 : decode b_M_flagging 19 = .ok (.ifCond .eq 4, 3) := by decide +kernel
theorem d_M_flagging_22 : decode b_M_flagging 22 = .ok (.return_, 1) := by decide +kernel
theorem d_M_flagging_23 : decode b_M_flagging 23 = .ok (.aload_n 0, 1) := by decide +kernel
theorem d_M_flagging_24 : decode b_M_flagging 24 = .ok (.getfield 89, 3) := by decide +kernel
theorem d_M_flagging_27 : decode b_M_flagging 27 = .ok (.iload_n 1, 1) := by decide +kernel
theorem d_M_flagging_28 : decode b_M_flagging 28 = .ok (.dup2, 1) := by decide +kernel
theorem d_M_flagging_29 : decode b_M_flagging 29 = .ok (.iaload, 1) := by decide +kernel
theorem d_M_flagging_30 : decode b_M_flagging 30 = .ok (.iconst 1, 1) := by decide +kernel
theorem d_M_flagging_31 : decode b_M_flagging 31 = .ok (.iadd, 1) := by decide +kernel
theorem d_M_flagging_32 : decode b_M_flagging 32 = .ok (.iastore, 1) := by decide +kernel
theorem d_M_flagging_33 : decode b_M_flagging 33 = .ok (.aload_n 0, 1) := by decide +kernel
theorem d_M_flagging_34 : decode b_M_flagging 34 = .ok (.getfield 89, 3) := by decide +kernel
theorem d_M_flagging_37 : decode b_M_flagging 37 = .ok (.iload_n 1, 1) := by decide +kernel
theorem d_M_flagging_38 : decode b_M_flagging 38 = .ok (.iaload, 1) := by decide +kernel
theorem d_M_flagging_39 : decode b_M_flagging 39 = .ok (.bipush 6, 2) := by decide +kernel
theorem d_M_flagging_41 : decode b_M_flagging 41 = .ok (.if_icmp .ne 24, 3) := by decide +kernel
theorem d_M_flagging_44 : decode b_M_flagging 44 = .ok (.aload_n 0, 1) := by decide +kernel
theorem d_M_flagging_45 : decode b_M_flagging 45 = .ok (.getfield 20, 3) := by decide +kernel
theorem d_M_flagging_48 : decode b_M_flagging 48 = .ok (.iload_n 1, 1) := by decide +kernel
theorem d_M_flagging_49 : decode b_M_flagging 49 = .ok (.iconst 4, 1) := by decide +kernel
theorem d_M_flagging_50 : decode b_M_flagging 50 = .ok (.iastore, 1) := by decide +kernel
theorem d_M_flagging_51 : decode b_M_flagging 51 = .ok (.aload_n 0, 1) := by decide +kernel
theorem d_M_flagging_52 : decode b_M_flagging 52 = .ok (.getfield 89, 3) := by decide +kernel
theorem d_M_flagging_55 : decode b_M_flagging 55 = .ok (.iload_n 1, 1) := by decide +kernel
theorem d_M_flagging_56 : decode b_M_flagging 56 = .ok (.iconst 0, 1) := by decide +kernel
theorem d_M_flagging_57 : decode b_M_flagging 57 = .ok (.iastore, 1) := by decide +kernel
theorem d_M_flagging_58 : decode b_M_flagging 58 = .ok (.aload_n 0, 1) := by decide +kernel
theorem d_M_flagging_59 : decode b_M_flagging 59 = .ok (.getfield 92, 3) := by decide +kernel
theorem d_M_flagging_62 : decode b_M_flagging 62 = .ok (.iload_n 1, 1) := by decide +kernel
theorem d_M_flagging_63 : decode b_M_flagging 63 = .ok (.iconst 0, 1) := by decide +kernel
theorem d_M_flagging_64 : decode b_M_flagging 64 = .ok (.iastore, 1) := by decide +kernel
theorem d_M_flagging_65 : decode b_M_flagging 65 = .ok (.return_, 1) := by decide +kernel
theorem d_M_eightMore_0 : decode b_M_eightMore 0 = .ok (.aload_n 0, 1) := by decide +kernel
theorem d_M_eightMore_1 : decode b_M_eightMore 1 = .ok (.getfield 23, 3) := by decide +kernel
theorem d_M_eightMore_4 : decode b_M_eightMore 4 = .ok (.iload_n 1, 1) := by decide +kernel
theorem d_M_eightMore_5 : decode b_M_eightMore 5 = .ok (.dup2, 1) := by decide +kernel
theorem d_M_eightMore_6 : decode b_M_eightMore 6 = .ok (.iaload, 1) := by decide +kernel
theorem d_M_eightMore_7 : decode b_M_eightMore 7 = .ok (.aload_n 0, 1) := by decide +kernel
theorem d_M_eightMore_8 : decode b_M_eightMore 8 = .ok (.getfield 83, 3) := by decide +kernel
theorem d_M_eightMore_11 : decode b_M_eightMore 11 = .ok (.iload_n 1, 1) := by decide +kernel
theorem d_M_eightMore_12 : decode b_M_eightMore 12 = .ok (.iaload, 1) := by decide +kernel
theorem d_M_eightMore_13 : decode b_M_eightMore 13 = .ok (.iconst 1, 1) := by decide +kernel
theorem d_M_eightMore_14 : decode b_M_eightMore 14 = .ok (.if_icmp .ne 8, 3) := by decide +kernel
theorem d_M_eightMore_17 : decode b_M_eightMore 17 = .ok (.bipush 8, 2) := by decide +kernel
theorem d_M_eightMore_19 : decode b_M_eightMore 19 = .ok (.goto 4, 3) := by decide +kernel
theorem d_M_eightMore_22 : decode b_M_eightMore 22 = .ok (.iconst 0, 1) := by decide +kernel
theorem d_M_eightMore_23 : decode b_M_eightMore 23 = .ok (.iadd, 1) := by decide +kernel
theorem d_M_eightMore_24 : decode b_M_eightMore 24 = .ok (.iastore, 1) := by decide +kernel
theorem d_M_eightMore_25 : decode b_M_eightMore 25 = .ok (.aload_n 0, 1) := by decide +kernel
theorem d_M_eightMore_26 : decode b_M_eightMore 26 = .ok (.getfield 26, 3) := by decide +kernel
theorem d_M_eightMore_29 : decode b_M_eightMore 29 = .ok (.iload_n 1, 1) := by decide +kernel
theorem d_M_eightMore_30 : decode b_M_eightMore 30 = .ok (.dup2, 1) := by decide +kernel
theorem d_M_eightMore_31 : decode b_M_eightMore 31 = .ok (.iaload, 1) := by decide +kernel
theorem d_M_eightMore_32 : decode b_M_eightMore 32 = .ok (.aload_n 0, 1) := by decide +kernel
theorem d_M_eightMore_33 : decode b_M_eightMore 33 = .ok (.getfield 83, 3) := by decide +kernel
theorem d_M_eightMore_36 : decode b_M_eightMore 36 = .ok (.iload_n 1, 1) := by decide +kernel
theorem d_M_eightMore_37 : decode b_M_eightMore 37 = .ok (.iaload, 1) := by decide +kernel
theorem d_M_eightMore_38 : decode b_M_eightMore 38 = .ok (.iconst 2, 1) := by decide +kernel
theorem d_M_eightMore_39 : decode b_M_eightMore 39 = .ok (.if_icmp .ne 8, 3) := by decide +kernel
theorem d_M_eightMore_42 : decode b_M_eightMore 42 = .ok (.bipush 8, 2) := by decide +kernel
theorem d_M_eightMore_44 : decode b_M_eightMore 44 = .ok (.goto 4, 3) := by decide +kernel
theorem d_M_eightMore_47 : decode b_M_eightMore 47 = .ok (.iconst 0, 1) := by decide +kernel
theorem d_M_eightMore_48 : decode b_M_eightMore 48 = .ok (.iadd, 1) := by decide +kernel
theorem d_M_eightMore_49 : decode b_M_eightMore 49 = .ok (.iastore, 1) := by decide +kernel
theorem d_M_eightMore_50 : decode b_M_eightMore 50 = .ok (.aload_n 0, 1) := by decide +kernel
theorem d_M_eightMore_51 : decode b_M_eightMore 51 = .ok (.iload_n 1, 1) := by decide +kernel
theorem d_M_eightMore_52 : decode b_M_eightMore 52 = .ok (.invokevirtual 126, 3) := by decide +kernel
theorem d_M_eightMore_55 : decode b_M_eightMore 55 = .ok (.ireturn, 1) := by decide +kernel
theorem d_M_goAfter_0 : decode b_M_goAfter 0 = .ok (.iload_n 2, 1) := by decide +kernel
theorem d_M_goAfter_1 : decode b_M_goAfter 1 = .ok (.iconst 1, 1) := by decide +kernel
theorem d_M_goAfter_2 : decode b_M_goAfter 2 = .ok (.if_icmp .ne 32, 3) := by decide +kernel
theorem d_M_goAfter_5 : decode b_M_goAfter 5 = .ok (.aload_n 0, 1) := by decide +kernel
theorem d_M_goAfter_6 : decode b_M_goAfter 6 = .ok (.getfield 92, 3) := by decide +kernel
theorem d_M_goAfter_9 : decode b_M_goAfter 9 = .ok (.iload_n 1, 1) := by decide +kernel
theorem d_M_goAfter_10 : decode b_M_goAfter 10 = .ok (.dup2, 1) := by decide +kernel
theorem d_M_goAfter_11 : decode b_M_goAfter 11 = .ok (.iaload, 1) := by decide +kernel
theorem d_M_goAfter_12 : decode b_M_goAfter 12 = .ok (.iconst 1, 1) := by decide +kernel
theorem d_M_goAfter_13 : decode b_M_goAfter 13 = .ok (.iadd, 1) := by decide +kernel
theorem d_M_goAfter_14 : decode b_M_goAfter 14 = .ok (.iastore, 1) := by decide +kernel
theorem d_M_goAfter_15 : decode b_M_goAfter 15 = .ok (.aload_n 0, 1) := by decide +kernel
theorem d_M_goAfter_16 : decode b_M_goAfter 16 = .ok (.getfield 92, 3) := by decide +kernel
theorem d_M_goAfter_19 : decode b_M_goAfter 19 = .ok (.iload_n 1, 1) := by decide +kernel
theorem d_M_goAfter_20 : decode b_M_goAfter 20 = .ok (.iaload, 1) := by decide +kernel
theorem d_M_goAfter_21 : decode b_M_goAfter 21 = .ok (.bipush 8, 2) := by decide +kernel
theorem d_M_goAfter_23 : decode b_M_goAfter 23 = .ok (.if_icmp .ne 123, 3) := by decide +kernel
theorem d_M_goAfter_26 : decode b_M_goAfter 26 = .ok (.aload_n 0, 1) := by decide +kernel
theorem d_M_goAfter_27 : decode b_M_goAfter 27 = .ok (.iload_n 1, 1) := by decide +kernel
theorem d_M_goAfter_28 : decode b_M_goAfter 28 = .ok (.invokevirtual 133, 3) := by decide +kernel
theorem d_M_goAfter_31 : decode b_M_goAfter 31 = .ok (.goto 115, 3) := by decide +kernel
theorem d_M_goAfter_34 : decode b_M_goAfter 34 = .ok (.aload_n 0, 1) := by decide +kernel
theorem d_M_goAfter_35 : decode b_M_goAfter 35 = .ok (.getfield 92, 3) := by decide +kernel
theorem d_M_goAfter_38 : decode b_M_goAfter 38 = .ok (.iload_n 1, 1) := by decide +kernel
theorem d_M_goAfter_39 : decode b_M_goAfter 39 = .ok (.iaload, 1) := by decide +kernel
theorem d_M_goAfter_40 : decode b_M_goAfter 40 = .ok (.ifCond .le 35, 3) := by decide +kernel
theorem d_M_goAfter_43 : decode b_M_goAfter 43 = .ok (.aload_n 0, 1) := by decide +kernel
theorem d_M_goAfter_44 : decode b_M_goAfter 44 = .ok (.getfield 83, 3) := by decide +kernel
theorem d_M_goAfter_47 : decode b_M_goAfter 47 = .ok (.iload_n 1, 1) := by decide +kernel
theorem d_M_goAfter_48 : decode b_M_goAfter 48 = .ok (.iaload, 1) := by decide +kernel
theorem d_M_goAfter_49 : decode b_M_goAfter 49 = .ok (.ifCond .ne 11, 3) := by decide +kernel
theorem d_M_goAfter_52 : decode b_M_goAfter 52 = .ok (.aload_n 0, 1) := by decide +kernel
theorem d_M_goAfter_53 : decode b_M_goAfter 53 = .ok (.iload_n 1, 1) := by decide +kernel
theorem d_M_goAfter_54 : decode b_M_goAfter 54 = .ok (.invokevirtual 137, 3) := by decide +kernel
theorem d_M_goAfter_57 : decode b_M_goAfter 57 = .ok (.goto 89, 3) := by decide +kernel
theorem d_M_goAfter_60 : decode b_M_goAfter 60 = .ok (.aload_n 0, 1) := by decide +kernel
theorem d_M_goAfter_61 : decode b_M_goAfter 61 = .ok (.iload_n 1, 1) := by decide +kernel
theorem d_M_goAfter_62 : decode b_M_goAfter 62 = .ok (.iconst 4, 1) := by decide +kernel
theorem d_M_goAfter_63 : decode b_M_goAfter 63 = .ok (.aload_n 0, 1) := by decide +kernel
theorem d_M_goAfter_64 : decode b_M_goAfter 64 = .ok (.getfield 83, 3) := by decide +kernel
theorem d_M_goAfter_67 : decode b_M_goAfter 67 = .ok (.iload_n 1, 1) := by decide +kernel
theorem d_M_goAfter_68 : decode b_M_goAfter 68 = .ok (.iaload, 1) := by decide +kernel
theorem d_M_goAfter_69 : decode b_M_goAfter 69 = .ok (.invokevirtual 143, 3) := by decide +kernel
theorem d_M_goAfter_72 : decode b_M_goAfter 72 = .ok (.goto 74, 3) := by decide +kernel
theorem d_M_goAfter_75 : decode b_M_goAfter 75 = .ok (.aload_n 0, 1) := by decide +kernel
theorem d_M_goAfter_76 : decode b_M_goAfter 76 = .ok (.getfield 89, 3) := by decide +kernel
theorem d_M_goAfter_79 : decode b_M_goAfter 79 = .ok (.iload_n 1, 1) := by decide +kernel
theorem d_M_goAfter_80 : decode b_M_goAfter 80 = .ok (.dup2, 1) := by decide +kernel
theorem d_M_goAfter_81 : decode b_M_goAfter 81 = .ok (.iaload, 1) := by decide +kernel
theorem d_M_goAfter_82 : decode b_M_goAfter 82 = .ok (.iconst 1, 1) := by decide +kernel
theorem d_M_goAfter_83 : decode b_M_goAfter 83 = .ok (.iadd, 1) := by decide +kernel
theorem d_M_goAfter_84 : decode b_M_goAfter 84 = .ok (.iastore, 1) := by decide +kernel
theorem d_M_goAfter_85 : decode b_M_goAfter 85 = .ok (.aload_n 0, 1) := by decide +kernel
theorem d_M_goAfter_86 : decode b_M_goAfter 86 = .ok (.getfield 26, 3) := by decide +kernel
theorem d_M_goAfter_89 : decode b_M_goAfter 89 = .ok (.iload_n 1, 1) := by decide +kernel
theorem d_M_goAfter_90 : decode b_M_goAfter 90 = .ok (.dup2, 1) := by decide +kernel
theorem d_M_goAfter_91 : decode b_M_goAfter 91 = .ok (.iaload, 1) := by decide +kernel
theorem d_M_goAfter_92 : decode b_M_goAfter 92 = .ok (.aload_n 0, 1) := by decide +kernel
theorem d_M_goAfter_93 : decode b_M_goAfter 93 = .ok (.getfield 89, 3) := by decide +kernel
theorem d_M_goAfter_96 : decode b_M_goAfter 96 = .ok (.iload_n 1, 1) := by decide +kernel
theorem d_M_goAfter_97 : decode b_M_goAfter 97 = .ok (.iaload, 1) := by decide +kernel
theorem d_M_goAfter_98 : decode b_M_goAfter 98 = .ok (.iconst 1, 1) := by decide +kernel
theorem d_M_goAfter_99 : decode b_M_goAfter 99 = .ok (.if_icmp .ne 18, 3) := by decide +kernel
theorem d_M_goAfter_102 : decode b_M_goAfter 102 = .ok (.aload_n 0, 1) := by decide +kernel
theorem d_M_goAfter_103 : decode b_M_goAfter 103 = .ok (.getfield 83, 3) := by decide +kernel
theorem d_M_goAfter_106 : decode b_M_goAfter 106 = .ok (.iload_n 1, 1) := by decide +kernel
theorem d_M_goAfter_107 : decode b_M_goAfter 107 = .ok (.iaload, 1) := by decide +kernel
theorem d_M_goAfter_108 : decode b_M_goAfter 108 = .ok (.iconst 2, 1) := by decide +kernel
theorem d_M_goAfter_109 : decode b_M_goAfter 109 = .ok (.if_icmp .ne 8, 3) := by decide +kernel
theorem d_M_goAfter_112 : decode b_M_goAfter 112 = .ok (.bipush 8, 2) := by decide +kernel
theorem d_M_goAfter_114 : decode b_M_goAfter 114 = .ok (.goto 4, 3) := by decide +kernel
theorem d_M_goAfter_117 : decode b_M_goAfter 117 = .ok (.iconst 0, 1) := by decide +kernel
theorem d_M_goAfter_118 : decode b_M_goAfter 118 = .ok (.iadd, 1) := by decide +kernel
theorem d_M_goAfter_119 : decode b_M_goAfter 119 = .ok (.iastore, 1) := by decide +kernel
theorem d_M_goAfter_120 : decode b_M_goAfter 120 = .ok (.aload_n 0, 1) := by decide +kernel
theorem d_M_goAfter_121 : decode b_M_goAfter 121 = .ok (.getfield 89, 3) := by decide +kernel
theorem d_M_goAfter_124 : decode b_M_goAfter 124 = .ok (.iload_n 1, 1) := by decide +kernel
theorem d_M_goAfter_125 : decode b_M_goAfter 125 = .ok (.iaload, 1) := by decide +kernel
theorem d_M_goAfter_126 : decode b_M_goAfter 126 = .ok (.bipush 8, 2) := by decide +kernel
theorem d_M_goAfter_128 : decode b_M_goAfter 128 = .ok (.irem, 1) := by decide +kernel
theorem d_M_goAfter_129 : decode b_M_goAfter 129 = .ok (.ifCond .ne 15, 3) := by decide +kernel
theorem d_M_goAfter_132 : decode b_M_goAfter 132 = .ok (.aload_n 0, 1) := by decide +kernel
theorem d_M_goAfter_133 : decode b_M_goAfter 133 = .ok (.iload_n 1, 1) := by decide +kernel
theorem d_M_goAfter_134 : decode b_M_goAfter 134 = .ok (.invokevirtual 157, 3) := by decide +kernel
theorem d_M_goAfter_137 : decode b_M_goAfter 137 = .ok (.ifCond .eq 7, 3) := by decide +kernel
theorem d_M_goAfter_140 : decode b_M_goAfter 140 = .ok (.iconst 1, 1) := by decide +kernel
theorem d_M_goAfter_141 : decode b_M_goAfter 141 = .ok (.goto 4, 3) := by decide +kernel
theorem d_M_goAfter_144 : decode b_M_goAfter 144 = .ok (.iconst 0, 1) := by decide +kernel
theorem d_M_goAfter_145 : decode b_M_goAfter 145 = .ok (.istore_n 3, 1) := by decide +kernel
theorem d_M_goAfter_146 : decode b_M_goAfter 146 = .ok (.return_, 1) := by decide +kernel
theorem d_M_pausing_0 : decode b_M_pausing 0 = .ok (.aload_n 0, 1) := by decide +kernel
theorem d_M_pausing_1 : decode b_M_pausing 1 = .ok (.getfield 89, 3) := by decide +kernel
theorem d_M_pausing_4 : decode b_M_pausing 4 = .ok (.iload_n 1, 1) := by decide +kernel
theorem d_M_pausing_5 : decode b_M_pausing 5 = .ok (.dup2, 1) := by decide +kernel
theorem d_M_pausing_6 : decode b_M_pausing 6 = .ok (.iaload, 1) := by decide +kernel
theorem d_M_pausing_7 : decode b_M_pausing 7 = .ok (.iconst 1, 1) := by decide +kernel
theorem d_M_pausing_8 : decode b_M_pausing 8 = .ok (.iadd, 1) := by decide +kernel
theorem d_M_pausing_9 : decode b_M_pausing 9 = .ok (.iastore, 1) := by decide +kernel
theorem d_M_pausing_10 : decode b_M_pausing 10 = .ok (.iload_n 2, 1) := by decide +kernel
theorem d_M_pausing_11 : decode b_M_pausing 11 = .ok (.ifCond .ne 29, 3) := by decide +kernel
theorem d_M_pausing_14 : decode b_M_pausing 14 = .ok (.aload_n 0, 1) := by decide +kernel
theorem d_M_pausing_15 : decode b_M_pausing 15 = .ok (.getfield 89, 3) := by decide +kernel
theorem d_M_pausing_18 : decode b_M_pausing 18 = .ok (.iload_n 1, 1) := by decide +kernel
theorem d_M_pausing_19 : decode b_M_pausing 19 = .ok (.iaload, 1) := by decide +kernel
theorem d_M_pausing_20 : decode b_M_pausing 20 = .ok (.iconst 3, 1) := by decide +kernel
theorem d_M_pausing_21 : decode b_M_pausing 21 = .ok (.if_icmp .ge 11, 3) := by decide +kernel
theorem d_M_pausing_24 : decode b_M_pausing 24 = .ok (.aload_n 0, 1) := by decide +kernel
theorem d_M_pausing_25 : decode b_M_pausing 25 = .ok (.iload_n 1, 1) := by decide +kernel
theorem d_M_pausing_26 : decode b_M_pausing 26 = .ok (.invokevirtual 137, 3) := by decide +kernel
theorem d_M_pausing_29 : decode b_M_pausing 29 = .ok (.goto 58, 3) := by decide +kernel
theorem d_M_pausing_32 : decode b_M_pausing 32 = .ok (.aload_n 0, 1) := by decide +kernel
theorem d_M_pausing_33 : decode b_M_pausing 33 = .ok (.iload_n 1, 1) := by decide +kernel
theorem d_M_pausing_34 : decode b_M_pausing 34 = .ok (.invokevirtual 160, 3) := by decide +kernel
theorem d_M_pausing_37 : decode b_M_pausing 37 = .ok (.goto 50, 3) := by decide +kernel
theorem d_M_pausing_40 : decode b_M_pausing 40 = .ok (.aload_n 0, 1) := by decide +kernel
theorem d_M_pausing_41 : decode b_M_pausing 41 = .ok (.getfield 89, 3) := by decide +kernel
theorem d_M_pausing_44 : decode b_M_pausing 44 = .ok (.iload_n 1, 1) := by decide +kernel
theorem d_M_pausing_45 : decode b_M_pausing 45 = .ok (.iaload, 1) := by decide +kernel
theorem d_M_pausing_46 : decode b_M_pausing 46 = .ok (.iconst 3, 1) := by decide +kernel
theorem d_M_pausing_47 : decode b_M_pausing 47 = .ok (.if_icmp .ne 40, 3) := by decide +kernel
theorem d_M_pausing_50 : decode b_M_pausing 50 = .ok (.aload_n 0, 1) := by decide +kernel
theorem d_M_pausing_51 : decode b_M_pausing 51 = .ok (.getfield 20, 3) := by decide +kernel
theorem d_M_pausing_54 : decode b_M_pausing 54 = .ok (.iload_n 1, 1) := by decide +kernel
theorem d_M_pausing_55 : decode b_M_pausing 55 = .ok (.aload_n 0, 1) := by decide +kernel
theorem d_M_pausing_56 : decode b_M_pausing 56 = .ok (.iload_n 1, 1) := by decide +kernel
theorem d_M_pausing_57 : decode b_M_pausing 57 = .ok (.invokevirtual 123, 3) := by decide +kernel
theorem d_M_pausing_60 : decode b_M_pausing 60 = .ok (.ifCond .eq 18, 3) := by decide +kernel
theorem d_M_pausing_63 : decode b_M_pausing 63 = .ok (.aload_n 0, 1) := by decide +kernel
theorem d_M_pausing_64 : decode b_M_pausing 64 = .ok (.getfield 95, 3) := by decide +kernel
theorem d_M_pausing_67 : decode b_M_pausing 67 = .ok (.iload_n 1, 1) := by decide +kernel
theorem d_M_pausing_68 : decode b_M_pausing 68 = .ok (.iaload, 1) := by decide +kernel
theorem d_M_pausing_69 : decode b_M_pausing 69 = .ok (.iconst 1, 1) := by decide +kernel
theorem d_M_pausing_70 : decode b_M_pausing 70 = .ok (.if_icmp .ne 8, 3) := by decide +kernel
theorem d_M_pausing_73 : decode b_M_pausing 73 = .ok (.bipush 6, 2) := by decide +kernel
theorem d_M_pausing_75 : decode b_M_pausing 75 = .ok (.goto 4, 3) := by decide +kernel
theorem d_M_pausing_78 : decode b_M_pausing 78 = .ok (.iconst 0, 1) := by decide +kernel
theorem d_M_pausing_79 : decode b_M_pausing 79 = .ok (.iastore, 1) := by decide +kernel
theorem d_M_pausing_80 : decode b_M_pausing 80 = .ok (.aload_n 0, 1) := by decide +kernel
theorem d_M_pausing_81 : decode b_M_pausing 81 = .ok (.getfield 89, 3) := by decide +kernel
theorem d_M_pausing_84 : decode b_M_pausing 84 = .ok (.iload_n 1, 1) := by decide +kernel
theorem d_M_pausing_85 : decode b_M_pausing 85 = .ok (.iconst 0, 1) := by decide +kernel
theorem d_M_pausing_86 : decode b_M_pausing 86 = .ok (.iastore, 1) := by decide +kernel
theorem d_M_pausing_87 : decode b_M_pausing 87 = .ok (.return_, 1) := by decide +kernel
theorem d_M_start_0 : decode b_M_start 0 = .ok (.aload_n 0, 1) := by decide +kernel
theorem d_M_start_1 : decode b_M_start 1 = .ok (.iload_n 1, 1) := by decide +kernel
theorem d_M_start_2 : decode b_M_start 2 = .ok (.iconst 2, 1) := by decide +kernel
theorem d_M_start_3 : decode b_M_start 3 = .ok (.invokevirtual 112, 3) := by decide +kernel
theorem d_M_start_6 : decode b_M_start 6 = .ok (.aload_n 0, 1) := by decide +kernel
theorem d_M_start_7 : decode b_M_start 7 = .ok (.iload_n 1, 1) := by decide +kernel
theorem d_M_start_8 : decode b_M_start 8 = .ok (.iconst 0, 1) := by decide +kernel
theorem d_M_start_9 : decode b_M_start 9 = .ok (.invokevirtual 140, 3) := by decide +kernel
theorem d_M_start_12 : decode b_M_start 12 = .ok (.return_, 1) := by decide +kernel
theorem d_M_offTime_0 : decode b_M_offTime 0 = .ok (.aload_n 0, 1) := by decide +kernel
theorem d_M_offTime_1 : decode b_M_offTime 1 = .ok (.getfield 92, 3) := by decide +kernel
theorem d_M_offTime_4 : decode b_M_offTime 4 = .ok (.iload_n 1, 1) := by decide +kernel
theorem d_M_offTime_5 : decode b_M_offTime 5 = .ok (.iload_n 2, 1) := by decide +kernel
theorem d_M_offTime_6 : decode b_M_offTime 6 = .ok (.iconst 1, 1) := by decide +kernel
theorem d_M_offTime_7 : decode b_M_offTime 7 = .ok (.if_icmp .ne 14, 3) := by decide +kernel
theorem d_M_offTime_10 : decode b_M_offTime 10 = .ok (.aload_n 0, 1) := by decide +kernel
theorem d_M_offTime_11 : decode b_M_offTime 11 = .ok (.getfield 92, 3) := by decide +kernel
theorem d_M_offTime_14 : decode b_M_offTime 14 = .ok (.iload_n 1, 1) := by decide +kernel
theorem d_M_offTime_15 : decode b_M_offTime 15 = .ok (.iaload, 1) := by decide +kernel
theorem d_M_offTime_16 : decode b_M_offTime 16 = .ok (.iconst 1, 1) := by decide +kernel
theorem d_M_offTime_17 : decode b_M_offTime 17 = .ok (.iadd, 1) := by decide +kernel
theorem d_M_offTime_18 : decode b_M_offTime 18 = .ok (.goto 4, 3) := by decide +kernel
theorem d_M_offTime_21 : decode b_M_offTime 21 = .ok (.iconst 0, 1) := by decide +kernel
theorem d_M_offTime_22 : decode b_M_offTime 22 = .ok (.iastore, 1) := by decide +kernel
theorem d_M_offTime_23 : decode b_M_offTime 23 = .ok (.aload_n 0, 1) := by decide +kernel
theorem d_M_offTime_24 : decode b_M_offTime 24 = .ok (.getfield 92, 3) := by decide +kernel
theorem d_M_offTime_27 : decode b_M_offTime 27 = .ok (.iload_n 1, 1) := by decide +kernel
theorem d_M_offTime_28 : decode b_M_offTime 28 = .ok (.iaload, 1) := by decide +kernel
theorem d_M_offTime_29 : decode b_M_offTime 29 = .ok (.bipush 11, 2) := by decide +kernel
theorem d_M_offTime_31 : decode b_M_offTime 31 = .ok (.if_icmp .ne 20, 3) := by decide +kernel
theorem d_M_offTime_34 : decode b_M_offTime 34 = .ok (.aload_n 0, 1) := by decide +kernel
theorem d_M_offTime_35 : decode b_M_offTime 35 = .ok (.getfield 92, 3) := by decide +kernel
theorem d_M_offTime_38 : decode b_M_offTime 38 = .ok (.iload_n 1, 1) := by decide +kernel
theorem d_M_offTime_39 : decode b_M_offTime 39 = .ok (.iconst 0, 1) := by decide +kernel
theorem d_M_offTime_40 : decode b_M_offTime 40 = .ok (.iastore, 1) := by decide +kernel
theorem d_M_offTime_41 : decode b_M_offTime 41 = .ok (.aload_n 0, 1) := by decide +kernel
theorem d_M_offTime_42 : decode b_M_offTime 42 = .ok (.getfield 89, 3) := by decide +kernel
theorem d_M_offTime_45 : decode b_M_offTime 45 = .ok (.iload_n 1, 1) := by decide +kernel
theorem d_M_offTime_46 : decode b_M_offTime 46 = .ok (.dup2, 1) := by decide +kernel
theorem d_M_offTime_47 : decode b_M_offTime 47 = .ok (.iaload, 1) := by decide +kernel
theorem d_M_offTime_48 : decode b_M_offTime 48 = .ok (.iconst 1, 1) := by decide +kernel
theorem d_M_offTime_49 : decode b_M_offTime 49 = .ok (.iadd, 1) := by decide +kernel
theorem d_M_offTime_50 : decode b_M_offTime 50 = .ok (.iastore, 1) := by decide +kernel
theorem d_M_offTime_51 : decode b_M_offTime 51 = .ok (.aload_n 0, 1) := by decide +kernel
theorem d_M_offTime_52 : decode b_M_offTime 52 = .ok (.getfield 89, 3) := by decide +kernel
theorem d_M_offTime_55 : decode b_M_offTime 55 = .ok (.iload_n 1, 1) := by decide +kernel
theorem d_M_offTime_56 : decode b_M_offTime 56 = .ok (.iaload, 1) := by decide +kernel
theorem d_M_offTime_57 : decode b_M_offTime 57 = .ok (.bipush 8, 2) := by decide +kernel
theorem d_M_offTime_59 : decode b_M_offTime 59 = .ok (.if_icmp .ne 31, 3) := by decide +kernel
theorem d_M_offTime_62 : decode b_M_offTime 62 = .ok (.aload_n 0, 1) := by decide +kernel
theorem d_M_offTime_63 : decode b_M_offTime 63 = .ok (.getfield 23, 3) := by decide +kernel
theorem d_M_offTime_66 : decode b_M_offTime 66 = .ok (.iload_n 1, 1) := by decide +kernel
theorem d_M_offTime_67 : decode b_M_offTime 67 = .ok (.iconst 0, 1) := by decide +kernel
theorem d_M_offTime_68 : decode b_M_offTime 68 = .ok (.iastore, 1) := by decide +kernel
theorem d_M_offTime_69 : decode b_M_offTime 69 = .ok (.aload_n 0, 1) := by decide +kernel
theorem d_M_offTime_70 : decode b_M_offTime 70 = .ok (.getfield 26, 3) := by decide +kernel
theorem d_M_offTime_73 : decode b_M_offTime 73 = .ok (.iload_n 1, 1) := by decide +kernel
theorem d_M_offTime_74 : decode b_M_offTime 74 = .ok (.iconst 0, 1) := by decide +kernel
theorem d_M_offTime_75 : decode b_M_offTime 75 = .ok (.iastore, 1) := by decide +kernel
theorem d_M_offTime_76 : decode b_M_offTime 76 = .ok (.aload_n 0, 1) := by decide +kernel
theorem d_M_offTime_77 : decode b_M_offTime 77 = .ok (.getfield 20, 3) := by decide +kernel
theorem d_M_offTime_80 : decode b_M_offTime 80 = .ok (.iload_n 1, 1) := by decide +kernel
theorem d_M_offTime_81 : decode b_M_offTime 81 = .ok (.iconst 0, 1) := by decide +kernel
theorem d_M_offTime_82 : decode b_M_offTime 82 = .ok (.iastore, 1) := by decide +kernel
theorem d_M_offTime_83 : decode b_M_offTime 83 = .ok (.aload_n 0, 1) := by decide +kernel
theorem d_M_offTime_84 : decode b_M_offTime 84 = .ok (.getfield 89, 3) := by decide +kernel
theorem d_M_offTime_87 : decode b_M_offTime 87 = .ok (.iload_n 1, 1) := by decide +kernel
theorem d_M_offTime_88 : decode b_M_offTime 88 = .ok (.iconst 0, 1) := by decide +kernel
theorem d_M_offTime_89 : decode b_M_offTime 89 = .ok (.iastore, 1) := by decide +kernel
theorem d_M_offTime_90 : decode b_M_offTime 90 = .ok (.return_, 1) := by decide +kernel
theorem d_M_level_0 : decode b_M_level 0 = .ok (.aload_n 0, 1) := by decide +kernel
theorem d_M_level_1 : decode b_M_level 1 = .ok (.iconst 0, 1) := by decide +kernel
theorem d_M_level_2 : decode b_M_level 2 = .ok (.putfield 105, 3) := by decide +kernel
theorem d_M_level_5 : decode b_M_level 5 = .ok (.iload_n 1, 1) := by decide +kernel
theorem d_M_level_6 : decode b_M_level 6 = .ok (.ifCond .lt 19, 3) := by decide +kernel
theorem d_M_level_9 : decode b_M_level 9 = .ok (.iload_n 1, 1) := by decide +kernel
theorem d_M_level_10 : decode b_M_level 10 = .ok (.bipush 63, 2) := by decide +kernel
theorem d_M_level_12 : decode b_M_level 12 = .ok (.if_icmp .gt 13, 3) := by decide +kernel
theorem d_M_level_15 : decode b_M_level 15 = .ok (.iload_n 1, 1) := by decide +kernel
theorem d_M_level_16 : decode b_M_level 16 = .ok (.aload_n 0, 1) := by decide +kernel
theorem d_M_level_17 : decode b_M_level 17 = .ok (.getfield 7, 3) := by decide +kernel
theorem d_M_level_20 : decode b_M_level 20 = .ok (.iconst 0, 1) := by decide +kernel
theorem d_M_level_21 : decode b_M_level 21 = .ok (.iaload, 1) := by decide +kernel
theorem d_M_level_22 : decode b_M_level 22 = .ok (.if_icmp .lt 7, 3) := by decide +kernel
theorem d_M_level_25 : decode b_M_level 25 = .ok (.iconst (-1), 1) := by decide +kernel
theorem d_M_level_26 : decode b_M_level 26 = .ok (.goto 19, 3) := by decide +kernel
theorem d_M_level_29 : decode b_M_level 29 = .ok (.aload_n 0, 1) := by decide +kernel
theorem d_M_level_30 : decode b_M_level 30 = .ok (.getfield 13, 3) := by decide +kernel
theorem d_M_level_33 : decode b_M_level 33 = .ok (.aload_n 0, 1) := by decide +kernel
theorem d_M_level_34 : decode b_M_level 34 = .ok (.getfield 7, 3) := by decide +kernel
theorem d_M_level_37 : decode b_M_level 37 = .ok (.iconst 0, 1) := by decide +kernel
theorem d_M_level_38 : decode b_M_level 38 = .ok (.iaload, 1) := by decide +kernel
theorem d_M_level_39 : decode b_M_level 39 = .ok (.iload_n 1, 1) := by decide +kernel
theorem d_M_level_40 : decode b_M_level 40 = .ok (.isub, 1) := by decide +kernel
theorem d_M_level_41 : decode b_M_level 41 = .ok (.bipush 64, 2) := by decide +kernel
theorem d_M_level_43 : decode b_M_level 43 = .ok (.irem, 1) := by decide +kernel
theorem d_M_level_44 : decode b_M_level 44 = .ok (.iaload, 1) := by decide +kernel
theorem d_M_level_45 : decode b_M_level 45 = .ok (.ireturn, 1) := by decide +kernel
theorem d_M_state_0 : decode b_M_state 0 = .ok (.aload_n 0, 1) := by decide +kernel
theorem d_M_state_1 : decode b_M_state 1 = .ok (.aload_n 0, 1) := by decide +kernel
theorem d_M_state_2 : decode b_M_state 2 = .ok (.iload_n 1, 1) := by decide +kernel
theorem d_M_state_3 : decode b_M_state 3 = .ok (.invokevirtual 108, 3) := by decide +kernel
theorem d_M_state_6 : decode b_M_state 6 = .ok (.ifCond .eq 7, 3) := by decide +kernel
theorem d_M_state_9 : decode b_M_state 9 = .ok (.iconst 1, 1) := by decide +kernel
theorem d_M_state_10 : decode b_M_state 10 = .ok (.goto 4, 3) := by decide +kernel
theorem d_M_state_13 : decode b_M_state 13 = .ok (.iconst 0, 1) := by decide +kernel
theorem d_M_state_14 : decode b_M_state 14 = .ok (.putfield 105, 3) := by decide +kernel
theorem d_M_state_17 : decode b_M_state 17 = .ok (.aload_n 0, 1) := by decide +kernel
theorem d_M_state_18 : decode b_M_state 18 = .ok (.getfield 105, 3) := by decide +kernel
theorem d_M_state_21 : decode b_M_state 21 = .ok (.ifCond .ne 12, 3) := by decide +kernel
theorem d_M_state_24 : decode b_M_state 24 = .ok (.aload_n 0, 1) := by decide +kernel
theorem d_M_state_25 : decode b_M_state 25 = .ok (.getfield 20, 3) := by decide +kernel
theorem d_M_state_28 : decode b_M_state 28 = .ok (.iload_n 1, 1) := by decide +kernel
theorem d_M_state_29 : decode b_M_state 29 = .ok (.iaload, 1) := by decide +kernel
theorem d_M_state_30 : decode b_M_state 30 = .ok (.goto 4, 3) := by decide +kernel
theorem d_M_state_33 : decode b_M_state 33 = .ok (.iconst 0, 1) := by decide +kernel
theorem d_M_state_34 : decode b_M_state 34 = .ok (.ireturn, 1) := by decide +kernel
theorem d_M_count_0 : decode b_M_count 0 = .ok (.aload_n 0, 1) := by decide +kernel
theorem d_M_count_1 : decode b_M_count 1 = .ok (.aload_n 0, 1) := by decide +kernel
theorem d_M_count_2 : decode b_M_count 2 = .ok (.iload_n 1, 1) := by decide +kernel
theorem d_M_count_3 : decode b_M_count 3 = .ok (.invokevirtual 108, 3) := by decide +kernel
theorem d_M_count_6 : decode b_M_count 6 = .ok (.ifCond .ne 12, 3) := by decide +kernel
theorem d_M_count_9 : decode b_M_count 9 = .ok (.iload_n 2, 1) := by decide +kernel
theorem d_M_count_10 : decode b_M_count 10 = .ok (.ifCond .lt 8, 3) := by decide +kernel
theorem d_M_count_13 : decode b_M_count 13 = .ok (.iload_n 2, 1) := by decide +kernel
theorem d_M_count_14 : decode b_M_count 14 = .ok (.iconst 4, 1) := by decide +kernel
theorem d_M_count_15 : decode b_M_count 15 = .ok (.if_icmp .le 7, 3) := by decide +kernel
theorem d_M_count_18 : decode b_M_count 18 = .ok (.iconst 1, 1) := by decide +kernel
theorem d_M_count_19 : decode b_M_count 19 = .ok (.goto 4, 3) := by decide +kernel
theorem d_M_count_22 : decode b_M_count 22 = .ok (.iconst 0, 1) := by decide +kernel
theorem d_M_count_23 : decode b_M_count 23 = .ok (.putfield 105, 3) := by decide +kernel
theorem d_M_count_26 : decode b_M_count 26 = .ok (.aload_n 0, 1) := by decide +kernel
theorem d_M_count_27 : decode b_M_count 27 = .ok (.getfield 105, 3) := by decide +kernel
theorem d_M_count_30 : decode b_M_count 30 = .ok (.ifCond .eq 5, 3) := by decide +kernel
theorem d_M_count_33 : decode b_M_count 33 = .ok (.iconst 0, 1) := by decide +kernel
theorem d_M_count_34 : decode b_M_count 34 = .ok (.ireturn, 1) := by decide +kernel
theorem d_M_count_35 : decode b_M_count 35 = .ok (.iload_n 2, 1) := by decide +kernel
theorem d_M_count_36 : decode b_M_count 36 = .ok (.ifCond .ne 12, 3) := by decide +kernel
theorem d_M_count_39 : decode b_M_count 39 = .ok (.aload_n 0, 1) := by decide +kernel
theorem d_M_count_40 : decode b_M_count 40 = .ok (.getfield 23, 3) := by decide +kernel
theorem d_M_count_43 : decode b_M_count 43 = .ok (.iload_n 1, 1) := by decide +kernel
theorem d_M_count_44 : decode b_M_count 44 = .ok (.iaload, 1) := by decide +kernel
theorem d_M_count_45 : decode b_M_count 45 = .ok (.goto 51, 3) := by decide +kernel
theorem d_M_count_48 : decode b_M_count 48 = .ok (.iload_n 2, 1) := by decide +kernel
theorem d_M_count_49 : decode b_M_count 49 = .ok (.iconst 1, 1) := by decide +kernel
theorem d_M_count_50 : decode b_M_count 50 = .ok (.if_icmp .ne 12, 3) := by decide +kernel
theorem d_M_count_53 : decode b_M_count 53 = .ok (.aload_n 0, 1) := by decide +kernel
theorem d_M_count_54 : decode b_M_count 54 = .ok (.getfield 26, 3) := by decide +kernel
theorem d_M_count_57 : decode b_M_count 57 = .ok (.iload_n 1, 1) := by decide +kernel
theorem d_M_count_58 : decode b_M_count 58 = .ok (.iaload, 1) := by decide +kernel
theorem d_M_count_59 : decode b_M_count 59 = .ok (.goto 37, 3) := by decide +kernel
theorem d_M_count_62 : decode b_M_count 62 = .ok (.iload_n 2, 1) := by decide +kernel
theorem d_M_count_63 : decode b_M_count 63 = .ok (.iconst 2, 1) := by decide +kernel
theorem d_M_count_64 : decode b_M_count 64 = .ok (.if_icmp .ne 12, 3) := by decide +kernel
theorem d_M_count_67 : decode b_M_count 67 = .ok (.aload_n 0, 1) := by decide +kernel
theorem d_M_count_68 : decode b_M_count 68 = .ok (.getfield 38, 3) := by decide +kernel
theorem d_M_count_71 : decode b_M_count 71 = .ok (.iload_n 1, 1) := by decide +kernel
theorem d_M_count_72 : decode b_M_count 72 = .ok (.iaload, 1) := by decide +kernel
theorem d_M_count_73 : decode b_M_count 73 = .ok (.goto 23, 3) := by decide +kernel
theorem d_M_count_76 : decode b_M_count 76 = .ok (.iload_n 2, 1) := by decide +kernel
theorem d_M_count_77 : decode b_M_count 77 = .ok (.iconst 3, 1) := by decide +kernel
theorem d_M_count_78 : decode b_M_count 78 = .ok (.if_icmp .ne 12, 3) := by decide +kernel
theorem d_M_count_81 : decode b_M_count 81 = .ok (.aload_n 0, 1) := by decide +kernel
theorem d_M_count_82 : decode b_M_count 82 = .ok (.getfield 53, 3) := by decide +kernel
theorem d_M_count_85 : decode b_M_count 85 = .ok (.iload_n 1, 1) := by decide +kernel
theorem d_M_count_86 : decode b_M_count 86 = .ok (.iaload, 1) := by decide +kernel
theorem d_M_count_87 : decode b_M_count 87 = .ok (.goto 9, 3) := by decide +kernel
theorem d_M_count_90 : decode b_M_count 90 = .ok (.aload_n 0, 1) := by decide +kernel
theorem d_M_count_91 : decode b_M_count 91 = .ok (.getfield 35, 3) := by decide +kernel
theorem d_M_count_94 : decode b_M_count 94 = .ok (.iload_n 1, 1) := by decide +kernel
theorem d_M_count_95 : decode b_M_count 95 = .ok (.iaload, 1) := by decide +kernel
theorem d_M_count_96 : decode b_M_count 96 = .ok (.ireturn, 1) := by decide +kernel
theorem d_M_take_0 : decode b_M_take 0 = .ok (.aload_n 0, 1) := by decide +kernel
theorem d_M_take_1 : decode b_M_take 1 = .ok (.aload_n 0, 1) := by decide +kernel
theorem d_M_take_2 : decode b_M_take 2 = .ok (.iload_n 1, 1) := by decide +kernel
theorem d_M_take_3 : decode b_M_take 3 = .ok (.invokevirtual 108, 3) := by decide +kernel
theorem d_M_take_6 : decode b_M_take 6 = .ok (.ifCond .eq 7, 3) := by decide +kernel
theorem d_M_take_9 : decode b_M_take 9 = .ok (.iconst 1, 1) := by decide +kernel
theorem d_M_take_10 : decode b_M_take 10 = .ok (.goto 17, 3) := by decide +kernel
theorem d_M_take_13 : decode b_M_take 13 = .ok (.aload_n 0, 1) := by decide +kernel
theorem d_M_take_14 : decode b_M_take 14 = .ok (.getfield 53, 3) := by decide +kernel
theorem d_M_take_17 : decode b_M_take 17 = .ok (.iload_n 1, 1) := by decide +kernel
theorem d_M_take_18 : decode b_M_take 18 = .ok (.iaload, 1) := by decide +kernel
theorem d_M_take_19 : decode b_M_take 19 = .ok (.ifCond .ne 7, 3) := by decide +kernel
theorem d_M_take_22 : decode b_M_take 22 = .ok (.iconst 2, 1) := by decide +kernel
theorem d_M_take_23 : decode b_M_take 23 = .ok (.goto 4, 3) := by decide +kernel
theorem d_M_take_26 : decode b_M_take 26 = .ok (.iconst 0, 1) := by decide +kernel
theorem d_M_take_27 : decode b_M_take 27 = .ok (.putfield 105, 3) := by decide +kernel
theorem d_M_take_30 : decode b_M_take 30 = .ok (.aload_n 0, 1) := by decide +kernel
theorem d_M_take_31 : decode b_M_take 31 = .ok (.getfield 105, 3) := by decide +kernel
theorem d_M_take_34 : decode b_M_take 34 = .ok (.ifCond .eq 5, 3) := by decide +kernel
theorem d_M_take_37 : decode b_M_take 37 = .ok (.iconst 0, 1) := by decide +kernel
theorem d_M_take_38 : decode b_M_take 38 = .ok (.ireturn, 1) := by decide +kernel
theorem d_M_take_39 : decode b_M_take 39 = .ok (.aload_n 0, 1) := by decide +kernel
theorem d_M_take_40 : decode b_M_take 40 = .ok (.getfield 56, 3) := by decide +kernel
theorem d_M_take_43 : decode b_M_take 43 = .ok (.iconst 4, 1) := by decide +kernel
theorem d_M_take_44 : decode b_M_take 44 = .ok (.iload_n 1, 1) := by decide +kernel
theorem d_M_take_45 : decode b_M_take 45 = .ok (.imul, 1) := by decide +kernel
theorem d_M_take_46 : decode b_M_take 46 = .ok (.iaload, 1) := by decide +kernel
theorem d_M_take_47 : decode b_M_take 47 = .ok (.istore_n 2, 1) := by decide +kernel
theorem d_M_take_48 : decode b_M_take 48 = .ok (.aload_n 0, 1) := by decide +kernel
theorem d_M_take_49 : decode b_M_take 49 = .ok (.getfield 53, 3) := by decide +kernel
theorem d_M_take_52 : decode b_M_take 52 = .ok (.iload_n 1, 1) := by decide +kernel
theorem d_M_take_53 : decode b_M_take 53 = .ok (.dup2, 1) := by decide +kernel
theorem d_M_take_54 : decode b_M_take 54 = .ok (.iaload, 1) := by decide +kernel
theorem d_M_take_55 : decode b_M_take 55 = .ok (.iconst 1, 1) := by decide +kernel
theorem d_M_take_56 : decode b_M_take 56 = .ok (.isub, 1) := by decide +kernel
theorem d_M_take_57 : decode b_M_take 57 = .ok (.iastore, 1) := by decide +kernel
theorem d_M_take_58 : decode b_M_take 58 = .ok (.iconst 4, 1) := by decide +kernel
theorem d_M_take_59 : decode b_M_take 59 = .ok (.iload_n 1, 1) := by decide +kernel
theorem d_M_take_60 : decode b_M_take 60 = .ok (.imul, 1) := by decide +kernel
theorem d_M_take_61 : decode b_M_take 61 = .ok (.istore_n 3, 1) := by decide +kernel
theorem d_M_take_62 : decode b_M_take 62 = .ok (.iload_n 3, 1) := by decide +kernel
theorem d_M_take_63 : decode b_M_take 63 = .ok (.iconst 4, 1) := by decide +kernel
theorem d_M_take_64 : decode b_M_take 64 = .ok (.iload_n 1, 1) := by decide +kernel
theorem d_M_take_65 : decode b_M_take 65 = .ok (.imul, 1) := by decide +kernel
theorem d_M_take_66 : decode b_M_take 66 = .ok (.aload_n 0, 1) := by decide +kernel
theorem d_M_take_67 : decode b_M_take 67 = .ok (.getfield 53, 3) := by decide +kernel
theorem d_M_take_70 : decode b_M_take 70 = .ok (.iload_n 1, 1) := by decide +kernel
theorem d_M_take_71 : decode b_M_take 71 = .ok (.iaload, 1) := by decide +kernel
theorem d_M_take_72 : decode b_M_take 72 = .ok (.iadd, 1) := by decide +kernel
theorem d_M_take_73 : decode b_M_take 73 = .ok (.if_icmp .ge 23, 3) := by decide +kernel
theorem d_M_take_76 : decode b_M_take 76 = .ok (.aload_n 0, 1) := by decide +kernel
theorem d_M_take_77 : decode b_M_take 77 = .ok (.getfield 56, 3) := by decide +kernel
theorem d_M_take_80 : decode b_M_take 80 = .ok (.iload_n 3, 1) := by decide +kernel
theorem d_M_take_81 : decode b_M_take 81 = .ok (.aload_n 0, 1) := by decide +kernel
theorem d_M_take_82 : decode b_M_take 82 = .ok (.getfield 56, 3) := by decide +kernel
theorem d_M_take_85 : decode b_M_take 85 = .ok (.iload_n 3, 1) := by decide +kernel
theorem d_M_take_86 : decode b_M_take 86 = .ok (.iconst 1, 1) := by decide +kernel
theorem d_M_take_87 : decode b_M_take 87 = .ok (.iadd, 1) := by decide +kernel
theorem d_M_take_88 : decode b_M_take 88 = .ok (.iaload, 1) := by decide +kernel
theorem d_M_take_89 : decode b_M_take 89 = .ok (.iastore, 1) := by decide +kernel
theorem d_M_take_90 : decode b_M_take 90 = .ok (.iinc 3 1, 3) := by decide +kernel
theorem d_M_take_93 : decode b_M_take 93 = .ok (.goto (-31), 3) := by decide +kernel
theorem d_M_take_96 : decode b_M_take 96 = .ok (.iload_n 2, 1) := by decide +kernel
theorem d_M_take_97 : decode b_M_take 97 = .ok (.ireturn, 1) := by decide +kernel
theorem d_M_total_0 : decode b_M_total 0 = .ok (.aload_n 0, 1) := by decide +kernel
theorem d_M_total_1 : decode b_M_total 1 = .ok (.iload_n 1, 1) := by decide +kernel
theorem d_M_total_2 : decode b_M_total 2 = .ok (.ifCond .lt 9, 3) := by decide +kernel
theorem d_M_total_5 : decode b_M_total 5 = .ok (.iload_n 1, 1) := by decide +kernel
theorem d_M_total_6 : decode b_M_total 6 = .ok (.bipush 7, 2) := by decide +kernel
theorem d_M_total_8 : decode b_M_total 8 = .ok (.if_icmp .le 7, 3) := by decide +kernel
theorem d_M_total_11 : decode b_M_total 11 = .ok (.iconst 1, 1) := by decide +kernel
theorem d_M_total_12 : decode b_M_total 12 = .ok (.goto 4, 3) := by decide +kernel
theorem d_M_total_15 : decode b_M_total 15 = .ok (.iconst 0, 1) := by decide +kernel
theorem d_M_total_16 : decode b_M_total 16 = .ok (.putfield 105, 3) := by decide +kernel
theorem d_M_total_19 : decode b_M_total 19 = .ok (.aload_n 0, 1) := by decide +kernel
theorem d_M_total_20 : decode b_M_total 20 = .ok (.getfield 105, 3) := by decide +kernel
theorem d_M_total_23 : decode b_M_total 23 = .ok (.ifCond .ne 12, 3) := by decide +kernel
theorem d_M_total_26 : decode b_M_total 26 = .ok (.aload_n 0, 1) := by decide +kernel
theorem d_M_total_27 : decode b_M_total 27 = .ok (.getfield 7, 3) := by decide +kernel
theorem d_M_total_30 : decode b_M_total 30 = .ok (.iload_n 1, 1) := by decide +kernel
theorem d_M_total_31 : decode b_M_total 31 = .ok (.iaload, 1) := by decide +kernel
theorem d_M_total_32 : decode b_M_total 32 = .ok (.goto 4, 3) := by decide +kernel
theorem d_M_total_35 : decode b_M_total 35 = .ok (.iconst 0, 1) := by decide +kernel
theorem d_M_total_36 : decode b_M_total 36 = .ok (.ireturn, 1) := by decide +kernel
