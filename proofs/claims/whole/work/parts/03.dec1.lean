theorem dX0_init_11 : decode cX0_init 11 = .ok (.putfield 15, 3) := by decide +kernel
theorem dX0_init_14 : decode cX0_init 14 = .ok (.aload_n 0, 1) := by decide +kernel
theorem dX0_init_15 : decode cX0_init 15 = .ok (.sipush 1000, 3) := by decide +kernel
theorem dX0_init_18 : decode cX0_init 18 = .ok (.putfield 18, 3) := by decide +kernel
theorem dX0_init_21 : decode cX0_init 21 = .ok (.aload_n 0, 1) := by decide +kernel
theorem dX0_init_22 : decode cX0_init 22 = .ok (.sipush 3000, 3) := by decide +kernel
theorem dX0_init_25 : decode cX0_init 25 = .ok (.putfield 21, 3) := by decide +kernel
theorem dX0_init_28 : decode cX0_init 28 = .ok (.aload_n 0, 1) := by decide +kernel
theorem dX0_init_29 : decode cX0_init 29 = .ok (.bipush 10, 2) := by decide +kernel
theorem dX0_init_31 : decode cX0_init 31 = .ok (.putfield 24, 3) := by decide +kernel
theorem dX0_init_34 : decode cX0_init 34 = .ok (.aload_n 0, 1) := by decide +kernel
theorem dX0_init_35 : decode cX0_init 35 = .ok (.iconst 0, 1) := by decide +kernel
theorem dX0_init_36 : decode cX0_init 36 = .ok (.putfield 27, 3) := by decide +kernel
theorem dX0_init_39 : decode cX0_init 39 = .ok (.aload_n 0, 1) := by decide +kernel
theorem dX0_init_40 : decode cX0_init 40 = .ok (.sipush 207, 3) := by decide +kernel
theorem dX0_init_43 : decode cX0_init 43 = .ok (.putfield 30, 3) := by decide +kernel
theorem dX0_init_46 : decode cX0_init 46 = .ok (.aload_n 0, 1) := by decide +kernel
theorem dX0_init_47 : decode cX0_init 47 = .ok (.sipush 253, 3) := by decide +kernel
theorem dX0_init_50 : decode cX0_init 50 = .ok (.putfield 33, 3) := by decide +kernel
theorem dX0_init_53 : decode cX0_init 53 = .ok (.aload_n 0, 1) := by decide +kernel
theorem dX0_init_54 : decode cX0_init 54 = .ok (.ldc 36, 2) := by decide +kernel
theorem dX0_init_56 : decode cX0_init 56 = .ok (.putfield 37, 3) := by decide +kernel
theorem dX0_init_59 : decode cX0_init 59 = .ok (.aload_n 0, 1) := by decide +kernel
theorem dX0_init_60 : decode cX0_init 60 = .ok (.ldc 40, 2) := by decide +kernel
theorem dX0_init_62 : decode cX0_init 62 = .ok (.putfield 41, 3) := by decide +kernel
theorem dX0_init_65 : decode cX0_init 65 = .ok (.aload_n 0, 1) := by decide +kernel
theorem dX0_init_66 : decode cX0_init 66 = .ok (.iconst 0, 1) := by decide +kernel
theorem dX0_init_67 : decode cX0_init 67 = .ok (.putfield 44, 3) := by decide +kernel
theorem dX0_init_70 : decode cX0_init 70 = .ok (.aload_n 0, 1) := by decide +kernel
theorem dX0_init_71 : decode cX0_init 71 = .ok (.iconst 0, 1) := by decide +kernel
theorem dX0_init_72 : decode cX0_init 72 = .ok (.putfield 47, 3) := by decide +kernel
theorem dX0_init_75 : decode cX0_init 75 = .ok (.aload_n 0, 1) := by decide +kernel
theorem dX0_init_76 : decode cX0_init 76 = .ok (.lconst 0, 1) := by decide +kernel
theorem dX0_init_77 : decode cX0_init 77 = .ok (.putfield 50, 3) := by decide +kernel
theorem dX0_init_80 : decode cX0_init 80 = .ok (.aload_n 0, 1) := by decide +kernel
theorem dX0_init_81 : decode cX0_init 81 = .ok (.iconst 0, 1) := by decide +kernel
theorem dX0_init_82 : decode cX0_init 82 = .ok (.putfield 54, 3) := by decide +kernel
theorem dX0_init_85 : decode cX0_init 85 = .ok (.return_, 1) := by decide +kernel
theorem dX0_leaveStop_0 : decode cX0_leaveStop 0 = .ok (.aload_n 0, 1) := by decide +kernel
theorem dX0_leaveStop_1 : decode cX0_leaveStop 1 = .ok (.getfield 9, 3) := by decide +kernel
theorem dX0_leaveStop_4 : decode cX0_leaveStop 4 = .ok (.iconst 2, 1) := by decide +kernel
theorem dX0_leaveStop_5 : decode cX0_leaveStop 5 = .ok (.if_icmp .eq 5, 3) := by decide +kernel
theorem dX0_leaveStop_8 : decode cX0_leaveStop 8 = .ok (.iconst 0, 1) := by decide +kernel
theorem dX0_leaveStop_9 : decode cX0_leaveStop 9 = .ok (.ireturn, 1) := by decide +kernel
theorem dX0_leaveStop_10 : decode cX0_leaveStop 10 = .ok (.aload_n 0, 1) := by decide +kernel
theorem dX0_leaveStop_11 : decode cX0_leaveStop 11 = .ok (.iconst 0, 1) := by decide +kernel
theorem dX0_leaveStop_12 : decode cX0_leaveStop 12 = .ok (.putfield 9, 3) := by decide +kernel
theorem dX0_leaveStop_15 : decode cX0_leaveStop 15 = .ok (.aload_n 0, 1) := by decide +kernel
theorem dX0_leaveStop_16 : decode cX0_leaveStop 16 = .ok (.iconst 0, 1) := by decide +kernel
theorem dX0_leaveStop_17 : decode cX0_leaveStop 17 = .ok (.putfield 27, 3) := by decide +kernel
theorem dX0_leaveStop_20 : decode cX0_leaveStop 20 = .ok (.iconst 1, 1) := by decide +kernel
theorem dX0_leaveStop_21 : decode cX0_leaveStop 21 = .ok (.ireturn, 1) := by decide +kernel
theorem dX0_drifted_0 : decode cX0_drifted 0 = .ok (.iload_n 1, 1) := by decide +kernel
theorem dX0_drifted_1 : decode cX0_drifted 1 = .ok (.aload_n 0, 1) := by decide +kernel
theorem dX0_drifted_2 : decode cX0_drifted 2 = .ok (.getfield 44, 3) := by decide +kernel
theorem dX0_drifted_5 : decode cX0_drifted 5 = .ok (.iadd, 1) := by decide +kernel
theorem dX0_drifted_6 : decode cX0_drifted 6 = .ok (.iload_n 1, 1) := by decide +kernel
theorem dX0_drifted_7 : decode cX0_drifted 7 = .ok (.ldc 57, 2) := by decide +kernel
theorem dX0_drifted_9 : decode cX0_drifted 9 = .ok (.isub, 1) := by decide +kernel
theorem dX0_drifted_10 : decode cX0_drifted 10 = .ok (.aload_n 0, 1) := by decide +kernel
theorem dX0_drifted_11 : decode cX0_drifted 11 = .ok (.getfield 47, 3) := by decide +kernel
theorem dX0_drifted_14 : decode cX0_drifted 14 = .ok (.imul, 1) := by decide +kernel
theorem dX0_drifted_15 : decode cX0_drifted 15 = .ok (.bipush 100, 2) := by decide +kernel
theorem dX0_drifted_17 : decode cX0_drifted 17 = .ok (.idiv, 1) := by decide +kernel
theorem dX0_drifted_18 : decode cX0_drifted 18 = .ok (.iadd, 1) := by decide +kernel
theorem dX0_drifted_19 : decode cX0_drifted 19 = .ok (.ireturn, 1) := by decide +kernel
set_option maxRecDepth 20000 in
theorem ggX0_admits_X6_outside : GoodIn wsX0_admits wsX6_outside := goodIn_r _ [7] (by decide +kernel) (by decide +kernel)
set_option maxRecDepth 20000 in
theorem gX0_admits_X6_outside_n58 : GoodIn wsX0_admits (wsX6_outside) := ggX0_admits_X6_outside
theorem dX0_admits_0 : decode cX0_admits 0 = .ok (.iload_n 1, 1) := by decide +kernel
theorem dX0_admits_1 : decode cX0_admits 1 = .ok (.aload_n 0, 1) := by decide +kernel
theorem dX0_admits_2 : decode cX0_admits 2 = .ok (.getfield 30, 3) := by decide +kernel
theorem dX0_admits_5 : decode cX0_admits 5 = .ok (.aload_n 0, 1) := by decide +kernel
theorem dX0_admits_6 : decode cX0_admits 6 = .ok (.getfield 33, 3) := by decide +kernel
theorem dX0_admits_9 : decode cX0_admits 9 = .ok (.invokestatic 58, 3) := by decide +kernel
theorem dX0_admits_12 : decode cX0_admits 12 = .ok (.ifCond .ne 22, 3) := by decide +kernel
theorem dX0_admits_15 : decode cX0_admits 15 = .ok (.iload_n 2, 1) := by decide +kernel
theorem dX0_admits_16 : decode cX0_admits 16 = .ok (.aload_n 0, 1) := by decide +kernel
theorem dX0_admits_17 : decode cX0_admits 17 = .ok (.getfield 37, 3) := by decide +kernel
theorem dX0_admits_20 : decode cX0_admits 20 = .ok (.aload_n 0, 1) := by decide +kernel
theorem dX0_admits_21 : decode cX0_admits 21 = .ok (.getfield 41, 3) := by decide +kernel
theorem dX0_admits_24 : decode cX0_admits 24 = .ok (.invokestatic 58, 3) := by decide +kernel
theorem dX0_admits_27 : decode cX0_admits 27 = .ok (.ifCond .ne 7, 3) := by decide +kernel
theorem dX0_admits_30 : decode cX0_admits 30 = .ok (.iconst 1, 1) := by decide +kernel
theorem dX0_admits_31 : decode cX0_admits 31 = .ok (.goto 4, 3) := by decide +kernel
theorem dX0_admits_34 : decode cX0_admits 34 = .ok (.iconst 0, 1) := by decide +kernel
theorem dX0_admits_35 : decode cX0_admits 35 = .ok (.ireturn, 1) := by decide +kernel
theorem dX0_raisePower_0 : decode cX0_raisePower 0 = .ok (.aload_n 0, 1) := by decide +kernel
theorem dX0_raisePower_1 : decode cX0_raisePower 1 = .ok (.aload_n 0, 1) := by decide +kernel
theorem dX0_raisePower_2 : decode cX0_raisePower 2 = .ok (.getfield 15, 3) := by decide +kernel
theorem dX0_raisePower_5 : decode cX0_raisePower 5 = .ok (.aload_n 0, 1) := by decide +kernel
theorem dX0_raisePower_6 : decode cX0_raisePower 6 = .ok (.getfield 24, 3) := by decide +kernel
theorem dX0_raisePower_9 : decode cX0_raisePower 9 = .ok (.iadd, 1) := by decide +kernel
theorem dX0_raisePower_10 : decode cX0_raisePower 10 = .ok (.aload_n 0, 1) := by decide +kernel
theorem dX0_raisePower_11 : decode cX0_raisePower 11 = .ok (.getfield 18, 3) := by decide +kernel
theorem dX0_raisePower_14 : decode cX0_raisePower 14 = .ok (.invokestatic 62, 3) := by decide +kernel
theorem dX0_raisePower_17 : decode cX0_raisePower 17 = .ok (.putfield 15, 3) := by decide +kernel
theorem dX0_raisePower_20 : decode cX0_raisePower 20 = .ok (.return_, 1) := by decide +kernel
theorem dX0_account_0 : decode cX0_account 0 = .ok (.aload_n 0, 1) := by decide +kernel
theorem dX0_account_1 : decode cX0_account 1 = .ok (.dup, 1) := by decide +kernel
theorem dX0_account_2 : decode cX0_account 2 = .ok (.getfield 50, 3) := by decide +kernel
theorem dX0_account_5 : decode cX0_account 5 = .ok (.aload_n 0, 1) := by decide +kernel
theorem dX0_account_6 : decode cX0_account 6 = .ok (.getfield 15, 3) := by decide +kernel
theorem dX0_account_9 : decode cX0_account 9 = .ok (.i2l, 1) := by decide +kernel
theorem dX0_account_10 : decode cX0_account 10 = .ok (.ladd, 1) := by decide +kernel
theorem dX0_account_11 : decode cX0_account 11 = .ok (.putfield 50, 3) := by decide +kernel
theorem dX0_account_14 : decode cX0_account 14 = .ok (.aload_n 0, 1) := by decide +kernel
theorem dX0_account_15 : decode cX0_account 15 = .ok (.getfield 9, 3) := by decide +kernel
theorem dX0_account_18 : decode cX0_account 18 = .ok (.iconst 1, 1) := by decide +kernel
theorem dX0_account_19 : decode cX0_account 19 = .ok (.if_icmp .ne 13, 3) := by decide +kernel
theorem dX0_account_22 : decode cX0_account 22 = .ok (.aload_n 0, 1) := by decide +kernel
theorem dX0_account_23 : decode cX0_account 23 = .ok (.dup, 1) := by decide +kernel
theorem dX0_account_24 : decode cX0_account 24 = .ok (.getfield 54, 3) := by decide +kernel
theorem dX0_account_27 : decode cX0_account 27 = .ok (.iconst 1, 1) := by decide +kernel
theorem dX0_account_28 : decode cX0_account 28 = .ok (.iadd, 1) := by decide +kernel
theorem dX0_account_29 : decode cX0_account 29 = .ok (.putfield 54, 3) := by decide +kernel
theorem dX0_account_32 : decode cX0_account 32 = .ok (.return_, 1) := by decide +kernel
theorem dX0_takeFrom_0 : decode cX0_takeFrom 0 = .ok (.aload_n 0, 1) := by decide +kernel
theorem dX0_takeFrom_1 : decode cX0_takeFrom 1 = .ok (.aload_n 1, 1) := by decide +kernel
theorem dX0_takeFrom_2 : decode cX0_takeFrom 2 = .ok (.getfield 9, 3) := by decide +kernel
theorem dX0_takeFrom_5 : decode cX0_takeFrom 5 = .ok (.putfield 9, 3) := by decide +kernel
theorem dX0_takeFrom_8 : decode cX0_takeFrom 8 = .ok (.aload_n 0, 1) := by decide +kernel
theorem dX0_takeFrom_9 : decode cX0_takeFrom 9 = .ok (.aload_n 1, 1) := by decide +kernel
theorem dX0_takeFrom_10 : decode cX0_takeFrom 10 = .ok (.getfield 15, 3) := by decide +kernel
theorem dX0_takeFrom_13 : decode cX0_takeFrom 13 = .ok (.putfield 15, 3) := by decide +kernel
theorem dX0_takeFrom_16 : decode cX0_takeFrom 16 = .ok (.aload_n 0, 1) := by decide +kernel
theorem dX0_takeFrom_17 : decode cX0_takeFrom 17 = .ok (.aload_n 1, 1) := by decide +kernel
theorem dX0_takeFrom_18 : decode cX0_takeFrom 18 = .ok (.getfield 18, 3) := by decide +kernel
theorem dX0_takeFrom_21 : decode cX0_takeFrom 21 = .ok (.putfield 18, 3) := by decide +kernel
theorem dX0_takeFrom_24 : decode cX0_takeFrom 24 = .ok (.aload_n 0, 1) := by decide +kernel
theorem dX0_takeFrom_25 : decode cX0_takeFrom 25 = .ok (.aload_n 1, 1) := by decide +kernel
theorem dX0_takeFrom_26 : decode cX0_takeFrom 26 = .ok (.getfield 21, 3) := by decide +kernel
theorem dX0_takeFrom_29 : decode cX0_takeFrom 29 = .ok (.putfield 21, 3) := by decide +kernel
theorem dX0_takeFrom_32 : decode cX0_takeFrom 32 = .ok (.aload_n 0, 1) := by decide +kernel
theorem dX0_takeFrom_33 : decode cX0_takeFrom 33 = .ok (.aload_n 1, 1) := by decide +kernel
theorem dX0_takeFrom_34 : decode cX0_takeFrom 34 = .ok (.getfield 24, 3) := by decide +kernel
theorem dX0_takeFrom_37 : decode cX0_takeFrom 37 = .ok (.putfield 24, 3) := by decide +kernel
theorem dX0_takeFrom_40 : decode cX0_takeFrom 40 = .ok (.aload_n 0, 1) := by decide +kernel
theorem dX0_takeFrom_41 : decode cX0_takeFrom 41 = .ok (.aload_n 1, 1) := by decide +kernel
theorem dX0_takeFrom_42 : decode cX0_takeFrom 42 = .ok (.getfield 27, 3) := by decide +kernel
theorem dX0_takeFrom_45 : decode cX0_takeFrom 45 = .ok (.putfield 27, 3) := by decide +kernel
theorem dX0_takeFrom_48 : decode cX0_takeFrom 48 = .ok (.aload_n 0, 1) := by decide +kernel
theorem dX0_takeFrom_49 : decode cX0_takeFrom 49 = .ok (.aload_n 1, 1) := by decide +kernel
theorem dX0_takeFrom_50 : decode cX0_takeFrom 50 = .ok (.getfield 30, 3) := by decide +kernel
theorem dX0_takeFrom_53 : decode cX0_takeFrom 53 = .ok (.putfield 30, 3) := by decide +kernel
theorem dX0_takeFrom_56 : decode cX0_takeFrom 56 = .ok (.aload_n 0, 1) := by decide +kernel
theorem dX0_takeFrom_57 : decode cX0_takeFrom 57 = .ok (.aload_n 1, 1) := by decide +kernel
theorem dX0_takeFrom_58 : decode cX0_takeFrom 58 = .ok (.getfield 33, 3) := by decide +kernel
theorem dX0_takeFrom_61 : decode cX0_takeFrom 61 = .ok (.putfield 33, 3) := by decide +kernel
theorem dX0_takeFrom_64 : decode cX0_takeFrom 64 = .ok (.aload_n 0, 1) := by decide +kernel
theorem dX0_takeFrom_65 : decode cX0_takeFrom 65 = .ok (.aload_n 1, 1) := by decide +kernel
theorem dX0_takeFrom_66 : decode cX0_takeFrom 66 = .ok (.getfield 37, 3) := by decide +kernel
theorem dX0_takeFrom_69 : decode cX0_takeFrom 69 = .ok (.putfield 37, 3) := by decide +kernel
theorem dX0_takeFrom_72 : decode cX0_takeFrom 72 = .ok (.aload_n 0, 1) := by decide +kernel
theorem dX0_takeFrom_73 : decode cX0_takeFrom 73 = .ok (.aload_n 1, 1) := by decide +kernel
theorem dX0_takeFrom_74 : decode cX0_takeFrom 74 = .ok (.getfield 41, 3) := by decide +kernel
theorem dX0_takeFrom_77 : decode cX0_takeFrom 77 = .ok (.putfield 41, 3) := by decide +kernel
theorem dX0_takeFrom_80 : decode cX0_takeFrom 80 = .ok (.aload_n 0, 1) := by decide +kernel
theorem dX0_takeFrom_81 : decode cX0_takeFrom 81 = .ok (.aload_n 1, 1) := by decide +kernel
theorem dX0_takeFrom_82 : decode cX0_takeFrom 82 = .ok (.getfield 44, 3) := by decide +kernel
theorem dX0_takeFrom_85 : decode cX0_takeFrom 85 = .ok (.putfield 44, 3) := by decide +kernel
theorem dX0_takeFrom_88 : decode cX0_takeFrom 88 = .ok (.aload_n 0, 1) := by decide +kernel
theorem dX0_takeFrom_89 : decode cX0_takeFrom 89 = .ok (.aload_n 1, 1) := by decide +kernel
theorem dX0_takeFrom_90 : decode cX0_takeFrom 90 = .ok (.getfield 47, 3) := by decide +kernel
theorem dX0_takeFrom_93 : decode cX0_takeFrom 93 = .ok (.putfield 47, 3) := by decide +kernel
theorem dX0_takeFrom_96 : decode cX0_takeFrom 96 = .ok (.aload_n 0, 1) := by decide +kernel
theorem dX0_takeFrom_97 : decode cX0_takeFrom 97 = .ok (.aload_n 1, 1) := by decide +kernel
theorem dX0_takeFrom_98 : decode cX0_takeFrom 98 = .ok (.getfield 50, 3) := by decide +kernel
theorem dX0_takeFrom_101 : decode cX0_takeFrom 101 = .ok (.putfield 50, 3) := by decide +kernel
theorem dX0_takeFrom_104 : decode cX0_takeFrom 104 = .ok (.aload_n 0, 1) := by decide +kernel
theorem dX0_takeFrom_105 : decode cX0_takeFrom 105 = .ok (.aload_n 1, 1) := by decide +kernel
theorem dX0_takeFrom_106 : decode cX0_takeFrom 106 = .ok (.getfield 54, 3) := by decide +kernel
theorem dX0_takeFrom_109 : decode cX0_takeFrom 109 = .ok (.putfield 54, 3) := by decide +kernel
theorem dX0_takeFrom_112 : decode cX0_takeFrom 112 = .ok (.return_, 1) := by decide +kernel
theorem dX1_init_0 : decode cX1_init 0 = .ok (.aload_n 0, 1) := by decide +kernel
theorem dX1_init_1 : decode cX1_init 1 = .ok (.invokespecial 3, 3) := by decide +kernel
theorem dX1_init_4 : decode cX1_init 4 = .ok (.aload_n 0, 1) := by decide +kernel
theorem dX1_init_5 : decode cX1_init 5 = .ok (.sipush 230, 3) := by decide +kernel
theorem dX1_init_8 : decode cX1_init 8 = .ok (.putfield 9, 3) := by decide +kernel
theorem dX1_init_11 : decode cX1_init 11 = .ok (.aload_n 0, 1) := by decide +kernel
theorem dX1_init_12 : decode cX1_init 12 = .ok (.ldc 15, 2) := by decide +kernel
theorem dX1_init_14 : decode cX1_init 14 = .ok (.putfield 16, 3) := by decide +kernel
theorem dX1_init_17 : decode cX1_init 17 = .ok (.aload_n 0, 1) := by decide +kernel
theorem dX1_init_18 : decode cX1_init 18 = .ok (.iconst 0, 1) := by decide +kernel
theorem dX1_init_19 : decode cX1_init 19 = .ok (.putfield 19, 3) := by decide +kernel
theorem dX1_init_22 : decode cX1_init 22 = .ok (.aload_n 0, 1) := by decide +kernel
theorem dX1_init_23 : decode cX1_init 23 = .ok (.iconst 1, 1) := by decide +kernel
theorem dX1_init_24 : decode cX1_init 24 = .ok (.putfield 22, 3) := by decide +kernel
theorem dX1_init_27 : decode cX1_init 27 = .ok (.aload_n 0, 1) := by decide +kernel
theorem dX1_init_28 : decode cX1_init 28 = .ok (.sipush 230, 3) := by decide +kernel
theorem dX1_init_31 : decode cX1_init 31 = .ok (.putfield 26, 3) := by decide +kernel
theorem dX1_init_34 : decode cX1_init 34 = .ok (.aload_n 0, 1) := by decide +kernel
theorem dX1_init_35 : decode cX1_init 35 = .ok (.ldc 15, 2) := by decide +kernel
theorem dX1_init_37 : decode cX1_init 37 = .ok (.putfield 29, 3) := by decide +kernel
theorem dX1_init_40 : decode cX1_init 40 = .ok (.aload_n 0, 1) := by decide +kernel
theorem dX1_init_41 : decode cX1_init 41 = .ok (.sipush 1000, 3) := by decide +kernel
theorem dX1_init_44 : decode cX1_init 44 = .ok (.putfield 32, 3) := by decide +kernel
theorem dX1_init_47 : decode cX1_init 47 = .ok (.aload_n 0, 1) := by decide +kernel
theorem dX1_init_48 : decode cX1_init 48 = .ok (.ldc 15, 2) := by decide +kernel
theorem dX1_init_50 : decode cX1_init 50 = .ok (.putfield 35, 3) := by decide +kernel
theorem dX1_init_53 : decode cX1_init 53 = .ok (.aload_n 0, 1) := by decide +kernel
theorem dX1_init_54 : decode cX1_init 54 = .ok (.bipush 10, 2) := by decide +kernel
theorem dX1_init_56 : decode cX1_init 56 = .ok (.putfield 38, 3) := by decide +kernel
theorem dX1_init_59 : decode cX1_init 59 = .ok (.return_, 1) := by decide +kernel
theorem dX1_becomeIsland_0 : decode cX1_becomeIsland 0 = .ok (.aload_n 0, 1) := by decide +kernel
theorem dX1_becomeIsland_1 : decode cX1_becomeIsland 1 = .ok (.iload_n 1, 1) := by decide +kernel
theorem dX1_becomeIsland_2 : decode cX1_becomeIsland 2 = .ok (.putfield 32, 3) := by decide +kernel
theorem dX1_becomeIsland_5 : decode cX1_becomeIsland 5 = .ok (.aload_n 0, 1) := by decide +kernel
theorem dX1_becomeIsland_6 : decode cX1_becomeIsland 6 = .ok (.iload_n 2, 1) := by decide +kernel
theorem dX1_becomeIsland_7 : decode cX1_becomeIsland 7 = .ok (.putfield 35, 3) := by decide +kernel
theorem dX1_becomeIsland_10 : decode cX1_becomeIsland 10 = .ok (.aload_n 0, 1) := by decide +kernel
theorem dX1_becomeIsland_11 : decode cX1_becomeIsland 11 = .ok (.iload_n 3, 1) := by decide +kernel
theorem dX1_becomeIsland_12 : decode cX1_becomeIsland 12 = .ok (.putfield 38, 3) := by decide +kernel
theorem dX1_becomeIsland_15 : decode cX1_becomeIsland 15 = .ok (.return_, 1) := by decide +kernel
set_option maxRecDepth 20000 in
theorem ggX1_turn_J9_floorMod_7cf53 : GoodIn wsX1_turn wsJ9_floorMod_7cf53 := goodIn_r _ [6] (by decide +kernel) (by decide +kernel)
set_option maxRecDepth 20000 in
theorem gX1_turn_J9_floorMod_7cf53 : GoodIn wsX1_turn (va_wsS RX1 42 yJ9_floorMod_7cf53 wsJ9_floorMod_7cf53) := goodIn_app (goodIn_of _ (by decide +kernel)) ggX1_turn_J9_floorMod_7cf53
theorem dX1_turn_0 : decode cX1_turn 0 = .ok (.aload_n 0, 1) := by decide +kernel
theorem dX1_turn_1 : decode cX1_turn 1 = .ok (.aload_n 0, 1) := by decide +kernel
theorem dX1_turn_2 : decode cX1_turn 2 = .ok (.getfield 19, 3) := by decide +kernel
theorem dX1_turn_5 : decode cX1_turn 5 = .ok (.iload_n 1, 1) := by decide +kernel
theorem dX1_turn_6 : decode cX1_turn 6 = .ok (.iadd, 1) := by decide +kernel
theorem dX1_turn_7 : decode cX1_turn 7 = .ok (.ldc 41, 2) := by decide +kernel
theorem dX1_turn_9 : decode cX1_turn 9 = .ok (.invokestatic 42, 3) := by decide +kernel
theorem dX1_turn_12 : decode cX1_turn 12 = .ok (.putfield 19, 3) := by decide +kernel
theorem dX1_turn_15 : decode cX1_turn 15 = .ok (.return_, 1) := by decide +kernel
set_option maxRecDepth 20000 in
theorem ggX1_settle_X1_islandVoltage : GoodIn wsX1_settle wsX1_islandVoltage := goodIn_r _ [10, 11, 12, 13, 14, 15, 31, 32, 33, 34, 35, 36, 37, 38, 39] (by decide +kernel) (by decide +kernel)
set_option maxRecDepth 20000 in
theorem gX1_settle_X1_islandVoltage : GoodIn wsX1_settle (wsV RX1 48 RX1 yX1_islandVoltage wsX1_islandVoltage) := goodIn_app (goodIn_of _ (by decide +kernel)) ggX1_settle_X1_islandVoltage
set_option maxRecDepth 20000 in
theorem ggX1_settle_X1_islandFrequency : GoodIn wsX1_settle wsX1_islandFrequency := goodIn_r _ [19, 5, 20, 21, 22, 23, 24, 25, 26, 27, 13, 14, 15, 28, 29, 30, 31, 32, 33, 34, 35, 36, 37, 38, 39] (by decide +kernel) (by decide +kernel)
set_option maxRecDepth 20000 in
theorem gX1_settle_X1_islandFrequency : GoodIn wsX1_settle (wsV RX1 52 RX1 yX1_islandFrequency wsX1_islandFrequency) := goodIn_app (goodIn_of _ (by decide +kernel)) ggX1_settle_X1_islandFrequency
theorem dX1_settle_0 : decode cX1_settle 0 = .ok (.aload_n 0, 1) := by decide +kernel
theorem dX1_settle_1 : decode cX1_settle 1 = .ok (.getfield 22, 3) := by decide +kernel
theorem dX1_settle_4 : decode cX1_settle 4 = .ok (.ifCond .eq 22, 3) := by decide +kernel
theorem dX1_settle_7 : decode cX1_settle 7 = .ok (.aload_n 0, 1) := by decide +kernel
theorem dX1_settle_8 : decode cX1_settle 8 = .ok (.aload_n 0, 1) := by decide +kernel
theorem dX1_settle_9 : decode cX1_settle 9 = .ok (.getfield 26, 3) := by decide +kernel
theorem dX1_settle_12 : decode cX1_settle 12 = .ok (.putfield 9, 3) := by decide +kernel
theorem dX1_settle_15 : decode cX1_settle 15 = .ok (.aload_n 0, 1) := by decide +kernel
theorem dX1_settle_16 : decode cX1_settle 16 = .ok (.aload_n 0, 1) := by decide +kernel
theorem dX1_settle_17 : decode cX1_settle 17 = .ok (.getfield 29, 3) := by decide +kernel
theorem dX1_settle_20 : decode cX1_settle 20 = .ok (.putfield 16, 3) := by decide +kernel
theorem dX1_settle_23 : decode cX1_settle 23 = .ok (.goto 33, 3) := by decide +kernel
theorem dX1_settle_26 : decode cX1_settle 26 = .ok (.iload_n 1, 1) := by decide +kernel
theorem dX1_settle_27 : decode cX1_settle 27 = .ok (.ifCond .le 24, 3) := by decide +kernel
theorem dX1_settle_30 : decode cX1_settle 30 = .ok (.aload_n 0, 1) := by decide +kernel
theorem dX1_settle_31 : decode cX1_settle 31 = .ok (.aload_n 0, 1) := by decide +kernel
theorem dX1_settle_32 : decode cX1_settle 32 = .ok (.iload_n 1, 1) := by decide +kernel
theorem dX1_settle_33 : decode cX1_settle 33 = .ok (.invokevirtual 48, 3) := by decide +kernel
theorem dX1_settle_36 : decode cX1_settle 36 = .ok (.putfield 9, 3) := by decide +kernel
theorem dX1_settle_39 : decode cX1_settle 39 = .ok (.aload_n 0, 1) := by decide +kernel
theorem dX1_settle_40 : decode cX1_settle 40 = .ok (.aload_n 0, 1) := by decide +kernel
theorem dX1_settle_41 : decode cX1_settle 41 = .ok (.iload_n 2, 1) := by decide +kernel
theorem dX1_settle_42 : decode cX1_settle 42 = .ok (.invokevirtual 52, 3) := by decide +kernel
theorem dX1_settle_45 : decode cX1_settle 45 = .ok (.putfield 16, 3) := by decide +kernel
theorem dX1_settle_48 : decode cX1_settle 48 = .ok (.goto 8, 3) := by decide +kernel
theorem dX1_settle_51 : decode cX1_settle 51 = .ok (.aload_n 0, 1) := by decide +kernel
theorem dX1_settle_52 : decode cX1_settle 52 = .ok (.iconst 0, 1) := by decide +kernel
theorem dX1_settle_53 : decode cX1_settle 53 = .ok (.putfield 9, 3) := by decide +kernel
theorem dX1_settle_56 : decode cX1_settle 56 = .ok (.return_, 1) := by decide +kernel
theorem dX1_islandVoltage_0 : decode cX1_islandVoltage 0 = .ok (.aload_n 0, 1) := by decide +kernel
theorem dX1_islandVoltage_1 : decode cX1_islandVoltage 1 = .ok (.getfield 32, 3) := by decide +kernel
theorem dX1_islandVoltage_4 : decode cX1_islandVoltage 4 = .ok (.ifCond .le 22, 3) := by decide +kernel
theorem dX1_islandVoltage_7 : decode cX1_islandVoltage 7 = .ok (.sipush 230, 3) := by decide +kernel
theorem dX1_islandVoltage_10 : decode cX1_islandVoltage 10 = .ok (.iload_n 1, 1) := by decide +kernel
theorem dX1_islandVoltage_11 : decode cX1_islandVoltage 11 = .ok (.imul, 1) := by decide +kernel
theorem dX1_islandVoltage_12 : decode cX1_islandVoltage 12 = .ok (.aload_n 0, 1) := by decide +kernel
theorem dX1_islandVoltage_13 : decode cX1_islandVoltage 13 = .ok (.getfield 32, 3) := by decide +kernel
theorem dX1_islandVoltage_16 : decode cX1_islandVoltage 16 = .ok (.idiv, 1) := by decide +kernel
theorem dX1_islandVoltage_17 : decode cX1_islandVoltage 17 = .ok (.sipush 400, 3) := by decide +kernel
theorem dX1_islandVoltage_20 : decode cX1_islandVoltage 20 = .ok (.invokestatic 55, 3) := by decide +kernel
theorem dX1_islandVoltage_23 : decode cX1_islandVoltage 23 = .ok (.goto 6, 3) := by decide +kernel
theorem dX1_islandVoltage_26 : decode cX1_islandVoltage 26 = .ok (.sipush 400, 3) := by decide +kernel
theorem dX1_islandVoltage_29 : decode cX1_islandVoltage 29 = .ok (.ireturn, 1) := by decide +kernel
set_option maxRecDepth 20000 in
theorem ggX1_islandFrequency_X6_limitedFrequency : GoodIn wsX1_islandFrequency wsX6_limitedFrequency := goodIn_r _ [6, 7, 8, 9, 10, 11, 12, 13, 14, 15] (by decide +kernel) (by decide +kernel)
set_option maxRecDepth 20000 in
theorem gX1_islandFrequency_X6_limitedFrequency_n58 : GoodIn wsX1_islandFrequency (wsX6_limitedFrequency) := ggX1_islandFrequency_X6_limitedFrequency
theorem dX1_islandFrequency_0 : decode cX1_islandFrequency 0 = .ok (.iload_n 1, 1) := by decide +kernel
theorem dX1_islandFrequency_1 : decode cX1_islandFrequency 1 = .ok (.aload_n 0, 1) := by decide +kernel
theorem dX1_islandFrequency_2 : decode cX1_islandFrequency 2 = .ok (.getfield 16, 3) := by decide +kernel
theorem dX1_islandFrequency_5 : decode cX1_islandFrequency 5 = .ok (.isub, 1) := by decide +kernel
theorem dX1_islandFrequency_6 : decode cX1_islandFrequency 6 = .ok (.iconst 4, 1) := by decide +kernel
theorem dX1_islandFrequency_7 : decode cX1_islandFrequency 7 = .ok (.idiv, 1) := by decide +kernel
theorem dX1_islandFrequency_8 : decode cX1_islandFrequency 8 = .ok (.istore_n 2, 1) := by decide +kernel
theorem dX1_islandFrequency_9 : decode cX1_islandFrequency 9 = .ok (.aload_n 0, 1) := by decide +kernel
theorem dX1_islandFrequency_10 : decode cX1_islandFrequency 10 = .ok (.getfield 35, 3) := by decide +kernel
theorem dX1_islandFrequency_13 : decode cX1_islandFrequency 13 = .ok (.aload_n 0, 1) := by decide +kernel
theorem dX1_islandFrequency_14 : decode cX1_islandFrequency 14 = .ok (.getfield 16, 3) := by decide +kernel
theorem dX1_islandFrequency_17 : decode cX1_islandFrequency 17 = .ok (.isub, 1) := by decide +kernel
theorem dX1_islandFrequency_18 : decode cX1_islandFrequency 18 = .ok (.aload_n 0, 1) := by decide +kernel
theorem dX1_islandFrequency_19 : decode cX1_islandFrequency 19 = .ok (.getfield 38, 3) := by decide +kernel
theorem dX1_islandFrequency_22 : decode cX1_islandFrequency 22 = .ok (.imul, 1) := by decide +kernel
theorem dX1_islandFrequency_23 : decode cX1_islandFrequency 23 = .ok (.bipush 100, 2) := by decide +kernel
theorem dX1_islandFrequency_25 : decode cX1_islandFrequency 25 = .ok (.idiv, 1) := by decide +kernel
theorem dX1_islandFrequency_26 : decode cX1_islandFrequency 26 = .ok (.istore_n 3, 1) := by decide +kernel
theorem dX1_islandFrequency_27 : decode cX1_islandFrequency 27 = .ok (.aload_n 0, 1) := by decide +kernel
theorem dX1_islandFrequency_28 : decode cX1_islandFrequency 28 = .ok (.getfield 16, 3) := by decide +kernel
theorem dX1_islandFrequency_31 : decode cX1_islandFrequency 31 = .ok (.iload_n 2, 1) := by decide +kernel
theorem dX1_islandFrequency_32 : decode cX1_islandFrequency 32 = .ok (.iadd, 1) := by decide +kernel
theorem dX1_islandFrequency_33 : decode cX1_islandFrequency 33 = .ok (.iload_n 3, 1) := by decide +kernel
theorem dX1_islandFrequency_34 : decode cX1_islandFrequency 34 = .ok (.iadd, 1) := by decide +kernel
theorem dX1_islandFrequency_35 : decode cX1_islandFrequency 35 = .ok (.invokestatic 58, 3) := by decide +kernel
theorem dX1_islandFrequency_38 : decode cX1_islandFrequency 38 = .ok (.ireturn, 1) := by decide +kernel
set_option maxRecDepth 20000 in
theorem ggX1_takeFrom_X1_becomeIsland : GoodIn wsX1_takeFrom wsX1_becomeIsland := goodIn_r _ [14, 7, 8, 9, 15, 16, 17, 18, 19, 20, 21, 22, 23] (by decide +kernel) (by decide +kernel)
set_option maxRecDepth 20000 in
theorem gX1_takeFrom_X1_becomeIsland : GoodIn wsX1_takeFrom (wsV RX1 61 RX1 yX1_becomeIsland wsX1_becomeIsland) := goodIn_app (goodIn_of _ (by decide +kernel)) ggX1_takeFrom_X1_becomeIsland
theorem dX1_takeFrom_0 : decode cX1_takeFrom 0 = .ok (.aload_n 0, 1) := by decide +kernel
theorem dX1_takeFrom_1 : decode cX1_takeFrom 1 = .ok (.aload_n 1, 1) := by decide +kernel
theorem dX1_takeFrom_2 : decode cX1_takeFrom 2 = .ok (.getfield 9, 3) := by decide +kernel
theorem dX1_takeFrom_5 : decode cX1_takeFrom 5 = .ok (.putfield 9, 3) := by decide +kernel
theorem dX1_takeFrom_8 : decode cX1_takeFrom 8 = .ok (.aload_n 0, 1) := by decide +kernel
theorem dX1_takeFrom_9 : decode cX1_takeFrom 9 = .ok (.aload_n 1, 1) := by decide +kernel
theorem dX1_takeFrom_10 : decode cX1_takeFrom 10 = .ok (.getfield 16, 3) := by decide +kernel
theorem dX1_takeFrom_13 : decode cX1_takeFrom 13 = .ok (.putfield 16, 3) := by decide +kernel
theorem dX1_takeFrom_16 : decode cX1_takeFrom 16 = .ok (.aload_n 0, 1) := by decide +kernel
theorem dX1_takeFrom_17 : decode cX1_takeFrom 17 = .ok (.aload_n 1, 1) := by decide +kernel
theorem dX1_takeFrom_18 : decode cX1_takeFrom 18 = .ok (.getfield 19, 3) := by decide +kernel
theorem dX1_takeFrom_21 : decode cX1_takeFrom 21 = .ok (.putfield 19, 3) := by decide +kernel
theorem dX1_takeFrom_24 : decode cX1_takeFrom 24 = .ok (.aload_n 0, 1) := by decide +kernel
theorem dX1_takeFrom_25 : decode cX1_takeFrom 25 = .ok (.aload_n 1, 1) := by decide +kernel
theorem dX1_takeFrom_26 : decode cX1_takeFrom 26 = .ok (.getfield 22, 3) := by decide +kernel
theorem dX1_takeFrom_29 : decode cX1_takeFrom 29 = .ok (.putfield 22, 3) := by decide +kernel
theorem dX1_takeFrom_32 : decode cX1_takeFrom 32 = .ok (.aload_n 0, 1) := by decide +kernel
theorem dX1_takeFrom_33 : decode cX1_takeFrom 33 = .ok (.aload_n 1, 1) := by decide +kernel
theorem dX1_takeFrom_34 : decode cX1_takeFrom 34 = .ok (.getfield 26, 3) := by decide +kernel
theorem dX1_takeFrom_37 : decode cX1_takeFrom 37 = .ok (.putfield 26, 3) := by decide +kernel
theorem dX1_takeFrom_40 : decode cX1_takeFrom 40 = .ok (.aload_n 0, 1) := by decide +kernel
theorem dX1_takeFrom_41 : decode cX1_takeFrom 41 = .ok (.aload_n 1, 1) := by decide +kernel
theorem dX1_takeFrom_42 : decode cX1_takeFrom 42 = .ok (.getfield 29, 3) := by decide +kernel
theorem dX1_takeFrom_45 : decode cX1_takeFrom 45 = .ok (.putfield 29, 3) := by decide +kernel
theorem dX1_takeFrom_48 : decode cX1_takeFrom 48 = .ok (.aload_n 0, 1) := by decide +kernel
theorem dX1_takeFrom_49 : decode cX1_takeFrom 49 = .ok (.aload_n 1, 1) := by decide +kernel
theorem dX1_takeFrom_50 : decode cX1_takeFrom 50 = .ok (.getfield 32, 3) := by decide +kernel
theorem dX1_takeFrom_53 : decode cX1_takeFrom 53 = .ok (.aload_n 1, 1) := by decide +kernel
theorem dX1_takeFrom_54 : decode cX1_takeFrom 54 = .ok (.getfield 35, 3) := by decide +kernel
theorem dX1_takeFrom_57 : decode cX1_takeFrom 57 = .ok (.aload_n 1, 1) := by decide +kernel
theorem dX1_takeFrom_58 : decode cX1_takeFrom 58 = .ok (.getfield 38, 3) := by decide +kernel
theorem dX1_takeFrom_61 : decode cX1_takeFrom 61 = .ok (.invokevirtual 61, 3) := by decide +kernel
theorem dX1_takeFrom_64 : decode cX1_takeFrom 64 = .ok (.return_, 1) := by decide +kernel
theorem dX2_init_0 : decode cX2_init 0 = .ok (.aload_n 0, 1) := by decide +kernel
theorem dX2_init_1 : decode cX2_init 1 = .ok (.invokespecial 3, 3) := by decide +kernel
theorem dX2_init_4 : decode cX2_init 4 = .ok (.aload_n 0, 1) := by decide +kernel
theorem dX2_init_5 : decode cX2_init 5 = .ok (.iconst 0, 1) := by decide +kernel
theorem dX2_init_6 : decode cX2_init 6 = .ok (.putfield 9, 3) := by decide +kernel
theorem dX2_init_9 : decode cX2_init 9 = .ok (.aload_n 0, 1) := by decide +kernel
theorem dX2_init_10 : decode cX2_init 10 = .ok (.bipush 40, 2) := by decide +kernel
theorem dX2_init_12 : decode cX2_init 12 = .ok (.newarray .int, 2) := by decide +kernel
theorem dX2_init_14 : decode cX2_init 14 = .ok (.putfield 15, 3) := by decide +kernel
theorem dX2_init_17 : decode cX2_init 17 = .ok (.aload_n 0, 1) := by decide +kernel
theorem dX2_init_18 : decode cX2_init 18 = .ok (.bipush 40, 2) := by decide +kernel
theorem dX2_init_20 : decode cX2_init 20 = .ok (.newarray .int, 2) := by decide +kernel
theorem dX2_init_22 : decode cX2_init 22 = .ok (.putfield 19, 3) := by decide +kernel
theorem dX2_init_25 : decode cX2_init 25 = .ok (.return_, 1) := by decide +kernel
set_option maxRecDepth 20000 in
theorem ggX2_append_J9_floorMod_7cf53 : GoodIn wsX2_append wsJ9_floorMod_7cf53 := goodIn_r _ [7] (by decide +kernel) (by decide +kernel)
set_option maxRecDepth 20000 in
theorem gX2_append_J9_floorMod_7cf53 : GoodIn wsX2_append (va_wsS RX2 22 yJ9_floorMod_7cf53 wsJ9_floorMod_7cf53) := goodIn_app (goodIn_of _ (by decide +kernel)) ggX2_append_J9_floorMod_7cf53
theorem dX2_append_0 : decode cX2_append 0 = .ok (.aload_n 0, 1) := by decide +kernel
theorem dX2_append_1 : decode cX2_append 1 = .ok (.getfield 9, 3) := by decide +kernel
theorem dX2_append_4 : decode cX2_append 4 = .ok (.bipush 40, 2) := by decide +kernel
theorem dX2_append_6 : decode cX2_append 6 = .ok (.invokestatic 22, 3) := by decide +kernel
theorem dX2_append_9 : decode cX2_append 9 = .ok (.istore_n 3, 1) := by decide +kernel
theorem dX2_append_10 : decode cX2_append 10 = .ok (.aload_n 0, 1) := by decide +kernel
theorem dX2_append_11 : decode cX2_append 11 = .ok (.getfield 15, 3) := by decide +kernel
theorem dX2_append_14 : decode cX2_append 14 = .ok (.iload_n 3, 1) := by decide +kernel
theorem dX2_append_15 : decode cX2_append 15 = .ok (.iload_n 1, 1) := by decide +kernel
theorem dX2_append_16 : decode cX2_append 16 = .ok (.iastore, 1) := by decide +kernel
theorem dX2_append_17 : decode cX2_append 17 = .ok (.aload_n 0, 1) := by decide +kernel
theorem dX2_append_18 : decode cX2_append 18 = .ok (.getfield 19, 3) := by decide +kernel
theorem dX2_append_21 : decode cX2_append 21 = .ok (.iload_n 3, 1) := by decide +kernel
theorem dX2_append_22 : decode cX2_append 22 = .ok (.iload_n 2, 1) := by decide +kernel
theorem dX2_append_23 : decode cX2_append 23 = .ok (.iastore, 1) := by decide +kernel
theorem dX2_append_24 : decode cX2_append 24 = .ok (.aload_n 0, 1) := by decide +kernel
theorem dX2_append_25 : decode cX2_append 25 = .ok (.dup, 1) := by decide +kernel
theorem dX2_append_26 : decode cX2_append 26 = .ok (.getfield 9, 3) := by decide +kernel
theorem dX2_append_29 : decode cX2_append 29 = .ok (.iconst 1, 1) := by decide +kernel
theorem dX2_append_30 : decode cX2_append 30 = .ok (.iadd, 1) := by decide +kernel
theorem dX2_append_31 : decode cX2_append 31 = .ok (.putfield 9, 3) := by decide +kernel
theorem dX2_append_34 : decode cX2_append 34 = .ok (.return_, 1) := by decide +kernel
set_option maxRecDepth 20000 in
theorem ggX2_timeOf_X2_isKept : GoodIn wsX2_timeOf wsX2_isKept := goodIn_r _ [6, 7, 12, 13, 14] (by decide +kernel) (by decide +kernel)
set_option maxRecDepth 20000 in
theorem gX2_timeOf_X2_isKept : GoodIn wsX2_timeOf (wsV RX2 28 RX2 yX2_isKept wsX2_isKept) := goodIn_app (goodIn_of _ (by decide +kernel)) ggX2_timeOf_X2_isKept
set_option maxRecDepth 20000 in
theorem ggX2_timeOf_J9_floorMod_7cf53 : GoodIn wsX2_timeOf wsJ9_floorMod_7cf53 := goodIn_r _ [11] (by decide +kernel) (by decide +kernel)
set_option maxRecDepth 20000 in
theorem gX2_timeOf_J9_floorMod_7cf53 : GoodIn wsX2_timeOf (va_wsS RX2 22 yJ9_floorMod_7cf53 wsJ9_floorMod_7cf53) := goodIn_app (goodIn_of _ (by decide +kernel)) ggX2_timeOf_J9_floorMod_7cf53
theorem dX2_timeOf_0 : decode cX2_timeOf 0 = .ok (.aload_n 0, 1) := by decide +kernel
theorem dX2_timeOf_1 : decode cX2_timeOf 1 = .ok (.iload_n 1, 1) := by decide +kernel
theorem dX2_timeOf_2 : decode cX2_timeOf 2 = .ok (.invokevirtual 28, 3) := by decide +kernel
theorem dX2_timeOf_5 : decode cX2_timeOf 5 = .ok (.ifCond .eq 17, 3) := by decide +kernel
theorem dX2_timeOf_8 : decode cX2_timeOf 8 = .ok (.aload_n 0, 1) := by decide +kernel
theorem dX2_timeOf_9 : decode cX2_timeOf 9 = .ok (.getfield 15, 3) := by decide +kernel
theorem dX2_timeOf_12 : decode cX2_timeOf 12 = .ok (.iload_n 1, 1) := by decide +kernel
theorem dX2_timeOf_13 : decode cX2_timeOf 13 = .ok (.bipush 40, 2) := by decide +kernel
theorem dX2_timeOf_15 : decode cX2_timeOf 15 = .ok (.invokestatic 22, 3) := by decide +kernel
theorem dX2_timeOf_18 : decode cX2_timeOf 18 = .ok (.iaload, 1) := by decide +kernel
theorem dX2_timeOf_19 : decode cX2_timeOf 19 = .ok (.goto 4, 3) := by decide +kernel
theorem dX2_timeOf_22 : decode cX2_timeOf 22 = .ok (.iconst (-1), 1) := by decide +kernel
theorem dX2_timeOf_23 : decode cX2_timeOf 23 = .ok (.ireturn, 1) := by decide +kernel
set_option maxRecDepth 20000 in
theorem ggX2_causeOf_X2_isKept : GoodIn wsX2_causeOf wsX2_isKept := goodIn_r _ [6, 7, 12, 13, 14] (by decide +kernel) (by decide +kernel)
set_option maxRecDepth 20000 in
theorem gX2_causeOf_X2_isKept : GoodIn wsX2_causeOf (wsV RX2 28 RX2 yX2_isKept wsX2_isKept) := goodIn_app (goodIn_of _ (by decide +kernel)) ggX2_causeOf_X2_isKept
set_option maxRecDepth 20000 in
theorem ggX2_causeOf_J9_floorMod_7cf53 : GoodIn wsX2_causeOf wsJ9_floorMod_7cf53 := goodIn_r _ [11] (by decide +kernel) (by decide +kernel)
set_option maxRecDepth 20000 in
theorem gX2_causeOf_J9_floorMod_7cf53 : GoodIn wsX2_causeOf (va_wsS RX2 22 yJ9_floorMod_7cf53 wsJ9_floorMod_7cf53) := goodIn_app (goodIn_of _ (by decide +kernel)) ggX2_causeOf_J9_floorMod_7cf53
theorem dX2_causeOf_0 : decode cX2_causeOf 0 = .ok (.aload_n 0, 1) := by decide +kernel
theorem dX2_causeOf_1 : decode cX2_causeOf 1 = .ok (.iload_n 1, 1) := by decide +kernel
theorem dX2_causeOf_2 : decode cX2_causeOf 2 = .ok (.invokevirtual 28, 3) := by decide +kernel
theorem dX2_causeOf_5 : decode cX2_causeOf 5 = .ok (.ifCond .eq 17, 3) := by decide +kernel
theorem dX2_causeOf_8 : decode cX2_causeOf 8 = .ok (.aload_n 0, 1) := by decide +kernel
theorem dX2_causeOf_9 : decode cX2_causeOf 9 = .ok (.getfield 19, 3) := by decide +kernel
theorem dX2_causeOf_12 : decode cX2_causeOf 12 = .ok (.iload_n 1, 1) := by decide +kernel
theorem dX2_causeOf_13 : decode cX2_causeOf 13 = .ok (.bipush 40, 2) := by decide +kernel
theorem dX2_causeOf_15 : decode cX2_causeOf 15 = .ok (.invokestatic 22, 3) := by decide +kernel
theorem dX2_causeOf_18 : decode cX2_causeOf 18 = .ok (.iaload, 1) := by decide +kernel
theorem dX2_causeOf_19 : decode cX2_causeOf 19 = .ok (.goto 4, 3) := by decide +kernel
theorem dX2_causeOf_22 : decode cX2_causeOf 22 = .ok (.iconst (-1), 1) := by decide +kernel
theorem dX2_causeOf_23 : decode cX2_causeOf 23 = .ok (.ireturn, 1) := by decide +kernel
theorem dX2_isKept_0 : decode cX2_isKept 0 = .ok (.iload_n 1, 1) := by decide +kernel
theorem dX2_isKept_1 : decode cX2_isKept 1 = .ok (.ifCond .lt 26, 3) := by decide +kernel
theorem dX2_isKept_4 : decode cX2_isKept 4 = .ok (.iload_n 1, 1) := by decide +kernel
theorem dX2_isKept_5 : decode cX2_isKept 5 = .ok (.aload_n 0, 1) := by decide +kernel
theorem dX2_isKept_6 : decode cX2_isKept 6 = .ok (.getfield 9, 3) := by decide +kernel
theorem dX2_isKept_9 : decode cX2_isKept 9 = .ok (.if_icmp .ge 18, 3) := by decide +kernel
theorem dX2_isKept_12 : decode cX2_isKept 12 = .ok (.iload_n 1, 1) := by decide +kernel
theorem dX2_isKept_13 : decode cX2_isKept 13 = .ok (.aload_n 0, 1) := by decide +kernel
theorem dX2_isKept_14 : decode cX2_isKept 14 = .ok (.getfield 9, 3) := by decide +kernel
theorem dX2_isKept_17 : decode cX2_isKept 17 = .ok (.bipush 40, 2) := by decide +kernel
theorem dX2_isKept_19 : decode cX2_isKept 19 = .ok (.isub, 1) := by decide +kernel
theorem dX2_isKept_20 : decode cX2_isKept 20 = .ok (.if_icmp .lt 7, 3) := by decide +kernel
theorem dX2_isKept_23 : decode cX2_isKept 23 = .ok (.iconst 1, 1) := by decide +kernel
theorem dX2_isKept_24 : decode cX2_isKept 24 = .ok (.goto 4, 3) := by decide +kernel
theorem dX2_isKept_27 : decode cX2_isKept 27 = .ok (.iconst 0, 1) := by decide +kernel
theorem dX2_isKept_28 : decode cX2_isKept 28 = .ok (.ireturn, 1) := by decide +kernel
set_option maxRecDepth 20000 in
theorem ggX2_takeFrom_X6_copyRow : GoodIn wsX2_takeFrom wsX6_copyRow := goodIn_r _ [6, 7, 8, 9, 10, 11, 12, 13, 14] (by decide +kernel) (by decide +kernel)
set_option maxRecDepth 20000 in
theorem gX2_takeFrom_X6_copyRow_n32 : GoodIn wsX2_takeFrom (wsX6_copyRow) := ggX2_takeFrom_X6_copyRow
theorem dX2_takeFrom_0 : decode cX2_takeFrom 0 = .ok (.aload_n 0, 1) := by decide +kernel
theorem dX2_takeFrom_1 : decode cX2_takeFrom 1 = .ok (.aload_n 1, 1) := by decide +kernel
theorem dX2_takeFrom_2 : decode cX2_takeFrom 2 = .ok (.getfield 9, 3) := by decide +kernel
theorem dX2_takeFrom_5 : decode cX2_takeFrom 5 = .ok (.putfield 9, 3) := by decide +kernel
theorem dX2_takeFrom_8 : decode cX2_takeFrom 8 = .ok (.aload_n 1, 1) := by decide +kernel
theorem dX2_takeFrom_9 : decode cX2_takeFrom 9 = .ok (.getfield 15, 3) := by decide +kernel
theorem dX2_takeFrom_12 : decode cX2_takeFrom 12 = .ok (.aload_n 0, 1) := by decide +kernel
theorem dX2_takeFrom_13 : decode cX2_takeFrom 13 = .ok (.getfield 15, 3) := by decide +kernel
theorem dX2_takeFrom_16 : decode cX2_takeFrom 16 = .ok (.invokestatic 32, 3) := by decide +kernel
theorem dX2_takeFrom_19 : decode cX2_takeFrom 19 = .ok (.aload_n 1, 1) := by decide +kernel
theorem dX2_takeFrom_20 : decode cX2_takeFrom 20 = .ok (.getfield 19, 3) := by decide +kernel
theorem dX2_takeFrom_23 : decode cX2_takeFrom 23 = .ok (.aload_n 0, 1) := by decide +kernel
theorem dX2_takeFrom_24 : decode cX2_takeFrom 24 = .ok (.getfield 19, 3) := by decide +kernel
theorem dX2_takeFrom_27 : decode cX2_takeFrom 27 = .ok (.invokestatic 32, 3) := by decide +kernel
theorem dX2_takeFrom_30 : decode cX2_takeFrom 30 = .ok (.return_, 1) := by decide +kernel
theorem dX3_init_0 : decode cX3_init 0 = .ok (.aload_n 0, 1) := by decide +kernel
theorem dX3_init_1 : decode cX3_init 1 = .ok (.invokespecial 3, 3) := by decide +kernel
theorem dX3_init_4 : decode cX3_init 4 = .ok (.aload_n 0, 1) := by decide +kernel
theorem dX3_init_5 : decode cX3_init 5 = .ok (.iconst 0, 1) := by decide +kernel
theorem dX3_init_6 : decode cX3_init 6 = .ok (.putfield 9, 3) := by decide +kernel
theorem dX3_init_9 : decode cX3_init 9 = .ok (.aload_n 0, 1) := by decide +kernel
theorem dX3_init_10 : decode cX3_init 10 = .ok (.ldc 15, 2) := by decide +kernel
theorem dX3_init_12 : decode cX3_init 12 = .ok (.putfield 16, 3) := by decide +kernel
theorem dX3_init_15 : decode cX3_init 15 = .ok (.aload_n 0, 1) := by decide +kernel
theorem dX3_init_16 : decode cX3_init 16 = .ok (.iconst 0, 1) := by decide +kernel
theorem dX3_init_17 : decode cX3_init 17 = .ok (.putfield 19, 3) := by decide +kernel
theorem dX3_init_20 : decode cX3_init 20 = .ok (.aload_n 0, 1) := by decide +kernel
theorem dX3_init_21 : decode cX3_init 21 = .ok (.sipush 200, 3) := by decide +kernel
theorem dX3_init_24 : decode cX3_init 24 = .ok (.putfield 22, 3) := by decide +kernel
theorem dX3_init_27 : decode cX3_init 27 = .ok (.aload_n 0, 1) := by decide +kernel
theorem dX3_init_28 : decode cX3_init 28 = .ok (.bipush 20, 2) := by decide +kernel
theorem dX3_init_30 : decode cX3_init 30 = .ok (.putfield 25, 3) := by decide +kernel
theorem dX3_init_33 : decode cX3_init 33 = .ok (.aload_n 0, 1) := by decide +kernel
theorem dX3_init_34 : decode cX3_init 34 = .ok (.sipush 5000, 3) := by decide +kernel
theorem dX3_init_37 : decode cX3_init 37 = .ok (.putfield 28, 3) := by decide +kernel
theorem dX3_init_40 : decode cX3_init 40 = .ok (.aload_n 0, 1) := by decide +kernel
theorem dX3_init_41 : decode cX3_init 41 = .ok (.bipush 100, 2) := by decide +kernel
theorem dX3_init_43 : decode cX3_init 43 = .ok (.putfield 31, 3) := by decide +kernel
theorem dX3_init_46 : decode cX3_init 46 = .ok (.aload_n 0, 1) := by decide +kernel
theorem dX3_init_47 : decode cX3_init 47 = .ok (.iconst 0, 1) := by decide +kernel
theorem dX3_init_48 : decode cX3_init 48 = .ok (.putfield 34, 3) := by decide +kernel
theorem dX3_init_51 : decode cX3_init 51 = .ok (.aload_n 0, 1) := by decide +kernel
theorem dX3_init_52 : decode cX3_init 52 = .ok (.bipush 20, 2) := by decide +kernel
theorem dX3_init_54 : decode cX3_init 54 = .ok (.newarray .int, 2) := by decide +kernel
theorem dX3_init_56 : decode cX3_init 56 = .ok (.putfield 37, 3) := by decide +kernel
theorem dX3_init_59 : decode cX3_init 59 = .ok (.iconst 0, 1) := by decide +kernel
theorem dX3_init_60 : decode cX3_init 60 = .ok (.istore_n 1, 1) := by decide +kernel
theorem dX3_init_61 : decode cX3_init 61 = .ok (.iload_n 1, 1) := by decide +kernel
theorem dX3_init_62 : decode cX3_init 62 = .ok (.bipush 20, 2) := by decide +kernel
theorem dX3_init_64 : decode cX3_init 64 = .ok (.if_icmp .ge 17, 3) := by decide +kernel
theorem dX3_init_67 : decode cX3_init 67 = .ok (.aload_n 0, 1) := by decide +kernel
theorem dX3_init_68 : decode cX3_init 68 = .ok (.getfield 37, 3) := by decide +kernel
theorem dX3_init_71 : decode cX3_init 71 = .ok (.iload_n 1, 1) := by decide +kernel
theorem dX3_init_72 : decode cX3_init 72 = .ok (.ldc 15, 2) := by decide +kernel
theorem dX3_init_74 : decode cX3_init 74 = .ok (.iastore, 1) := by decide +kernel
theorem dX3_init_75 : decode cX3_init 75 = .ok (.iinc 1 1, 3) := by decide +kernel
theorem dX3_init_78 : decode cX3_init 78 = .ok (.goto (-17), 3) := by decide +kernel
theorem dX3_init_81 : decode cX3_init 81 = .ok (.return_, 1) := by decide +kernel
set_option maxRecDepth 20000 in
theorem ggX3_follow_J9_floorMod_7cf53 : GoodIn wsX3_follow wsJ9_floorMod_7cf53 := goodIn_r _ [13] (by decide +kernel) (by decide +kernel)
set_option maxRecDepth 20000 in
theorem gX3_follow_J9_floorMod_7cf53 : GoodIn wsX3_follow (va_wsS RX3 43 yJ9_floorMod_7cf53 wsJ9_floorMod_7cf53) := goodIn_app (goodIn_of _ (by decide +kernel)) ggX3_follow_J9_floorMod_7cf53
set_option maxRecDepth 20000 in
theorem ggX3_follow_X6_limitedFrequency : GoodIn wsX3_follow wsX6_limitedFrequency := goodIn_r _ [16, 17, 18, 19, 20, 21, 22, 23, 24, 25] (by decide +kernel) (by decide +kernel)
set_option maxRecDepth 20000 in
theorem gX3_follow_X6_limitedFrequency_n49 : GoodIn wsX3_follow (wsX6_limitedFrequency) := ggX3_follow_X6_limitedFrequency
set_option maxRecDepth 20000 in
theorem ggX3_follow_X6_outside : GoodIn wsX3_follow wsX6_outside := goodIn_r _ [27] (by decide +kernel) (by decide +kernel)
set_option maxRecDepth 20000 in
theorem gX3_follow_X6_outside_n53 : GoodIn wsX3_follow (wsX6_outside) := ggX3_follow_X6_outside
theorem dX3_follow_0 : decode cX3_follow 0 = .ok (.aload_n 0, 1) := by decide +kernel
theorem dX3_follow_1 : decode cX3_follow 1 = .ok (.getfield 9, 3) := by decide +kernel
theorem dX3_follow_4 : decode cX3_follow 4 = .ok (.aload_n 0, 1) := by decide +kernel
theorem dX3_follow_5 : decode cX3_follow 5 = .ok (.getfield 16, 3) := by decide +kernel
theorem dX3_follow_8 : decode cX3_follow 8 = .ok (.iadd, 1) := by decide +kernel
theorem dX3_follow_9 : decode cX3_follow 9 = .ok (.istore_n 3, 1) := by decide +kernel
theorem dX3_follow_10 : decode cX3_follow 10 = .ok (.iload_n 2, 1) := by decide +kernel
theorem dX3_follow_11 : decode cX3_follow 11 = .ok (.bipush 20, 2) := by decide +kernel
theorem dX3_follow_13 : decode cX3_follow 13 = .ok (.if_icmp .lt 106, 3) := by decide +kernel
theorem dX3_follow_16 : decode cX3_follow 16 = .ok (.aload_n 0, 1) := by decide +kernel
theorem dX3_follow_17 : decode cX3_follow 17 = .ok (.iload_n 1, 1) := by decide +kernel
theorem dX3_follow_18 : decode cX3_follow 18 = .ok (.iload_n 3, 1) := by decide +kernel
theorem dX3_follow_19 : decode cX3_follow 19 = .ok (.isub, 1) := by decide +kernel
theorem dX3_follow_20 : decode cX3_follow 20 = .ok (.ldc 41, 2) := by decide +kernel
theorem dX3_follow_22 : decode cX3_follow 22 = .ok (.iadd, 1) := by decide +kernel
theorem dX3_follow_23 : decode cX3_follow 23 = .ok (.ldc 42, 2) := by decide +kernel
theorem dX3_follow_25 : decode cX3_follow 25 = .ok (.invokestatic 43, 3) := by decide +kernel
theorem dX3_follow_28 : decode cX3_follow 28 = .ok (.ldc 41, 2) := by decide +kernel
theorem dX3_follow_30 : decode cX3_follow 30 = .ok (.isub, 1) := by decide +kernel
theorem dX3_follow_31 : decode cX3_follow 31 = .ok (.putfield 19, 3) := by decide +kernel
theorem dX3_follow_34 : decode cX3_follow 34 = .ok (.aload_n 0, 1) := by decide +kernel
theorem dX3_follow_35 : decode cX3_follow 35 = .ok (.iload_n 3, 1) := by decide +kernel
theorem dX3_follow_36 : decode cX3_follow 36 = .ok (.aload_n 0, 1) := by decide +kernel
theorem dX3_follow_37 : decode cX3_follow 37 = .ok (.getfield 19, 3) := by decide +kernel
theorem dX3_follow_40 : decode cX3_follow 40 = .ok (.aload_n 0, 1) := by decide +kernel
theorem dX3_follow_41 : decode cX3_follow 41 = .ok (.getfield 22, 3) := by decide +kernel
theorem dX3_follow_44 : decode cX3_follow 44 = .ok (.imul, 1) := by decide +kernel
theorem dX3_follow_45 : decode cX3_follow 45 = .ok (.sipush 1000, 3) := by decide +kernel
theorem dX3_follow_48 : decode cX3_follow 48 = .ok (.idiv, 1) := by decide +kernel
theorem dX3_follow_49 : decode cX3_follow 49 = .ok (.iadd, 1) := by decide +kernel
theorem dX3_follow_50 : decode cX3_follow 50 = .ok (.ldc 42, 2) := by decide +kernel
theorem dX3_follow_52 : decode cX3_follow 52 = .ok (.invokestatic 43, 3) := by decide +kernel
theorem dX3_follow_55 : decode cX3_follow 55 = .ok (.putfield 9, 3) := by decide +kernel
theorem dX3_follow_58 : decode cX3_follow 58 = .ok (.aload_n 0, 1) := by decide +kernel
theorem dX3_follow_59 : decode cX3_follow 59 = .ok (.aload_n 0, 1) := by decide +kernel
theorem dX3_follow_60 : decode cX3_follow 60 = .ok (.getfield 16, 3) := by decide +kernel
theorem dX3_follow_63 : decode cX3_follow 63 = .ok (.aload_n 0, 1) := by decide +kernel
theorem dX3_follow_64 : decode cX3_follow 64 = .ok (.getfield 19, 3) := by decide +kernel
theorem dX3_follow_67 : decode cX3_follow 67 = .ok (.aload_n 0, 1) := by decide +kernel
theorem dX3_follow_68 : decode cX3_follow 68 = .ok (.getfield 25, 3) := by decide +kernel
theorem dX3_follow_71 : decode cX3_follow 71 = .ok (.imul, 1) := by decide +kernel
theorem dX3_follow_72 : decode cX3_follow 72 = .ok (.sipush 1000, 3) := by decide +kernel
theorem dX3_follow_75 : decode cX3_follow 75 = .ok (.idiv, 1) := by decide +kernel
theorem dX3_follow_76 : decode cX3_follow 76 = .ok (.iadd, 1) := by decide +kernel
theorem dX3_follow_77 : decode cX3_follow 77 = .ok (.invokestatic 49, 3) := by decide +kernel
theorem dX3_follow_80 : decode cX3_follow 80 = .ok (.putfield 16, 3) := by decide +kernel
theorem dX3_follow_83 : decode cX3_follow 83 = .ok (.aload_n 0, 1) := by decide +kernel
theorem dX3_follow_84 : decode cX3_follow 84 = .ok (.aload_n 0, 1) := by decide +kernel
theorem dX3_follow_85 : decode cX3_follow 85 = .ok (.getfield 19, 3) := by decide +kernel
theorem dX3_follow_88 : decode cX3_follow 88 = .ok (.aload_n 0, 1) := by decide +kernel
theorem dX3_follow_89 : decode cX3_follow 89 = .ok (.getfield 28, 3) := by decide +kernel
theorem dX3_follow_92 : decode cX3_follow 92 = .ok (.ineg, 1) := by decide +kernel
theorem dX3_follow_93 : decode cX3_follow 93 = .ok (.aload_n 0, 1) := by decide +kernel
theorem dX3_follow_94 : decode cX3_follow 94 = .ok (.getfield 28, 3) := by decide +kernel
theorem dX3_follow_97 : decode cX3_follow 97 = .ok (.invokestatic 53, 3) := by decide +kernel
theorem dX3_follow_100 : decode cX3_follow 100 = .ok (.ifCond .eq 7, 3) := by decide +kernel
theorem dX3_follow_103 : decode cX3_follow 103 = .ok (.iconst 0, 1) := by decide +kernel
theorem dX3_follow_104 : decode cX3_follow 104 = .ok (.goto 9, 3) := by decide +kernel
theorem dX3_follow_107 : decode cX3_follow 107 = .ok (.aload_n 0, 1) := by decide +kernel
theorem dX3_follow_108 : decode cX3_follow 108 = .ok (.getfield 34, 3) := by decide +kernel
theorem dX3_follow_111 : decode cX3_follow 111 = .ok (.iconst 1, 1) := by decide +kernel
theorem dX3_follow_112 : decode cX3_follow 112 = .ok (.iadd, 1) := by decide +kernel
theorem dX3_follow_113 : decode cX3_follow 113 = .ok (.putfield 34, 3) := by decide +kernel
theorem dX3_follow_116 : decode cX3_follow 116 = .ok (.goto 23, 3) := by decide +kernel
theorem dX3_follow_119 : decode cX3_follow 119 = .ok (.aload_n 0, 1) := by decide +kernel
theorem dX3_follow_120 : decode cX3_follow 120 = .ok (.iconst 0, 1) := by decide +kernel
theorem dX3_follow_121 : decode cX3_follow 121 = .ok (.putfield 19, 3) := by decide +kernel
theorem dX3_follow_124 : decode cX3_follow 124 = .ok (.aload_n 0, 1) := by decide +kernel
theorem dX3_follow_125 : decode cX3_follow 125 = .ok (.iload_n 3, 1) := by decide +kernel
theorem dX3_follow_126 : decode cX3_follow 126 = .ok (.ldc 42, 2) := by decide +kernel
theorem dX3_follow_128 : decode cX3_follow 128 = .ok (.invokestatic 43, 3) := by decide +kernel
theorem dX3_follow_131 : decode cX3_follow 131 = .ok (.putfield 9, 3) := by decide +kernel
theorem dX3_follow_134 : decode cX3_follow 134 = .ok (.aload_n 0, 1) := by decide +kernel
theorem dX3_follow_135 : decode cX3_follow 135 = .ok (.iconst 0, 1) := by decide +kernel
theorem dX3_follow_136 : decode cX3_follow 136 = .ok (.putfield 34, 3) := by decide +kernel
theorem dX3_follow_139 : decode cX3_follow 139 = .ok (.return_, 1) := by decide +kernel
set_option maxRecDepth 20000 in
theorem ggX3_changeUntil_J9_floorMod_7cf53 : GoodIn wsX3_changeUntil wsJ9_floorMod_7cf53 := goodIn_r _ [6] (by decide +kernel) (by decide +kernel)
set_option maxRecDepth 20000 in
theorem gX3_changeUntil_J9_floorMod_7cf53 : GoodIn wsX3_changeUntil (va_wsS RX3 43 yJ9_floorMod_7cf53 wsJ9_floorMod_7cf53) := goodIn_app (goodIn_of _ (by decide +kernel)) ggX3_changeUntil_J9_floorMod_7cf53
theorem dX3_changeUntil_0 : decode cX3_changeUntil 0 = .ok (.iload_n 1, 1) := by decide +kernel
theorem dX3_changeUntil_1 : decode cX3_changeUntil 1 = .ok (.bipush 20, 2) := by decide +kernel
theorem dX3_changeUntil_3 : decode cX3_changeUntil 3 = .ok (.invokestatic 43, 3) := by decide +kernel
theorem dX3_changeUntil_6 : decode cX3_changeUntil 6 = .ok (.istore_n 2, 1) := by decide +kernel
theorem dX3_changeUntil_7 : decode cX3_changeUntil 7 = .ok (.aload_n 0, 1) := by decide +kernel
theorem dX3_changeUntil_8 : decode cX3_changeUntil 8 = .ok (.getfield 16, 3) := by decide +kernel
theorem dX3_changeUntil_11 : decode cX3_changeUntil 11 = .ok (.aload_n 0, 1) := by decide +kernel
theorem dX3_changeUntil_12 : decode cX3_changeUntil 12 = .ok (.getfield 37, 3) := by decide +kernel
theorem dX3_changeUntil_15 : decode cX3_changeUntil 15 = .ok (.iload_n 2, 1) := by decide +kernel
theorem dX3_changeUntil_16 : decode cX3_changeUntil 16 = .ok (.iaload, 1) := by decide +kernel
theorem dX3_changeUntil_17 : decode cX3_changeUntil 17 = .ok (.isub, 1) := by decide +kernel
theorem dX3_changeUntil_18 : decode cX3_changeUntil 18 = .ok (.istore_n 3, 1) := by decide +kernel
theorem dX3_changeUntil_19 : decode cX3_changeUntil 19 = .ok (.aload_n 0, 1) := by decide +kernel
theorem dX3_changeUntil_20 : decode cX3_changeUntil 20 = .ok (.getfield 37, 3) := by decide +kernel
theorem dX3_changeUntil_23 : decode cX3_changeUntil 23 = .ok (.iload_n 2, 1) := by decide +kernel
theorem dX3_changeUntil_24 : decode cX3_changeUntil 24 = .ok (.aload_n 0, 1) := by decide +kernel
theorem dX3_changeUntil_25 : decode cX3_changeUntil 25 = .ok (.getfield 16, 3) := by decide +kernel
theorem dX3_changeUntil_28 : decode cX3_changeUntil 28 = .ok (.iastore, 1) := by decide +kernel
theorem dX3_changeUntil_29 : decode cX3_changeUntil 29 = .ok (.iload_n 3, 1) := by decide +kernel
theorem dX3_changeUntil_30 : decode cX3_changeUntil 30 = .ok (.ifCond .ge 8, 3) := by decide +kernel
theorem dX3_changeUntil_33 : decode cX3_changeUntil 33 = .ok (.iload_n 3, 1) := by decide +kernel
theorem dX3_changeUntil_34 : decode cX3_changeUntil 34 = .ok (.ineg, 1) := by decide +kernel
theorem dX3_changeUntil_35 : decode cX3_changeUntil 35 = .ok (.goto 4, 3) := by decide +kernel
theorem dX3_changeUntil_38 : decode cX3_changeUntil 38 = .ok (.iload_n 3, 1) := by decide +kernel
theorem dX3_changeUntil_39 : decode cX3_changeUntil 39 = .ok (.ireturn, 1) := by decide +kernel
theorem dX3_holdsLock_0 : decode cX3_holdsLock 0 = .ok (.aload_n 0, 1) := by decide +kernel
theorem dX3_holdsLock_1 : decode cX3_holdsLock 1 = .ok (.getfield 34, 3) := by decide +kernel
theorem dX3_holdsLock_4 : decode cX3_holdsLock 4 = .ok (.aload_n 0, 1) := by decide +kernel
theorem dX3_holdsLock_5 : decode cX3_holdsLock 5 = .ok (.getfield 31, 3) := by decide +kernel
theorem dX3_holdsLock_8 : decode cX3_holdsLock 8 = .ok (.if_icmp .lt 7, 3) := by decide +kernel
theorem dX3_holdsLock_11 : decode cX3_holdsLock 11 = .ok (.iconst 1, 1) := by decide +kernel
theorem dX3_holdsLock_12 : decode cX3_holdsLock 12 = .ok (.goto 4, 3) := by decide +kernel
theorem dX3_holdsLock_15 : decode cX3_holdsLock 15 = .ok (.iconst 0, 1) := by decide +kernel
theorem dX3_holdsLock_16 : decode cX3_holdsLock 16 = .ok (.ireturn, 1) := by decide +kernel
set_option maxRecDepth 20000 in
theorem ggX3_takeFrom_X6_copyRow : GoodIn wsX3_takeFrom wsX6_copyRow := goodIn_r _ [12, 13, 14, 15, 16, 17, 18, 19, 20] (by decide +kernel) (by decide +kernel)
set_option maxRecDepth 20000 in
theorem gX3_takeFrom_X6_copyRow_n57 : GoodIn wsX3_takeFrom (wsX6_copyRow) := ggX3_takeFrom_X6_copyRow
theorem dX3_takeFrom_0 : decode cX3_takeFrom 0 = .ok (.aload_n 0, 1) := by decide +kernel
theorem dX3_takeFrom_1 : decode cX3_takeFrom 1 = .ok (.aload_n 1, 1) := by decide +kernel
theorem dX3_takeFrom_2 : decode cX3_takeFrom 2 = .ok (.getfield 9, 3) := by decide +kernel
theorem dX3_takeFrom_5 : decode cX3_takeFrom 5 = .ok (.putfield 9, 3) := by decide +kernel
theorem dX3_takeFrom_8 : decode cX3_takeFrom 8 = .ok (.aload_n 0, 1) := by decide +kernel
theorem dX3_takeFrom_9 : decode cX3_takeFrom 9 = .ok (.aload_n 1, 1) := by decide +kernel
theorem dX3_takeFrom_10 : decode cX3_takeFrom 10 = .ok (.getfield 16, 3) := by decide +kernel
theorem dX3_takeFrom_13 : decode cX3_takeFrom 13 = .ok (.putfield 16, 3) := by decide +kernel
theorem dX3_takeFrom_16 : decode cX3_takeFrom 16 = .ok (.aload_n 0, 1) := by decide +kernel
theorem dX3_takeFrom_17 : decode cX3_takeFrom 17 = .ok (.aload_n 1, 1) := by decide +kernel
theorem dX3_takeFrom_18 : decode cX3_takeFrom 18 = .ok (.getfield 19, 3) := by decide +kernel
theorem dX3_takeFrom_21 : decode cX3_takeFrom 21 = .ok (.putfield 19, 3) := by decide +kernel
theorem dX3_takeFrom_24 : decode cX3_takeFrom 24 = .ok (.aload_n 0, 1) := by decide +kernel
theorem dX3_takeFrom_25 : decode cX3_takeFrom 25 = .ok (.aload_n 1, 1) := by decide +kernel
theorem dX3_takeFrom_26 : decode cX3_takeFrom 26 = .ok (.getfield 22, 3) := by decide +kernel
theorem dX3_takeFrom_29 : decode cX3_takeFrom 29 = .ok (.putfield 22, 3) := by decide +kernel
theorem dX3_takeFrom_32 : decode cX3_takeFrom 32 = .ok (.aload_n 0, 1) := by decide +kernel
theorem dX3_takeFrom_33 : decode cX3_takeFrom 33 = .ok (.aload_n 1, 1) := by decide +kernel
theorem dX3_takeFrom_34 : decode cX3_takeFrom 34 = .ok (.getfield 25, 3) := by decide +kernel
theorem dX3_takeFrom_37 : decode cX3_takeFrom 37 = .ok (.putfield 25, 3) := by decide +kernel
theorem dX3_takeFrom_40 : decode cX3_takeFrom 40 = .ok (.aload_n 0, 1) := by decide +kernel
theorem dX3_takeFrom_41 : decode cX3_takeFrom 41 = .ok (.aload_n 1, 1) := by decide +kernel
theorem dX3_takeFrom_42 : decode cX3_takeFrom 42 = .ok (.getfield 28, 3) := by decide +kernel
theorem dX3_takeFrom_45 : decode cX3_takeFrom 45 = .ok (.putfield 28, 3) := by decide +kernel
theorem dX3_takeFrom_48 : decode cX3_takeFrom 48 = .ok (.aload_n 0, 1) := by decide +kernel
theorem dX3_takeFrom_49 : decode cX3_takeFrom 49 = .ok (.aload_n 1, 1) := by decide +kernel
theorem dX3_takeFrom_50 : decode cX3_takeFrom 50 = .ok (.getfield 31, 3) := by decide +kernel
theorem dX3_takeFrom_53 : decode cX3_takeFrom 53 = .ok (.putfield 31, 3) := by decide +kernel
theorem dX3_takeFrom_56 : decode cX3_takeFrom 56 = .ok (.aload_n 0, 1) := by decide +kernel
theorem dX3_takeFrom_57 : decode cX3_takeFrom 57 = .ok (.aload_n 1, 1) := by decide +kernel
theorem dX3_takeFrom_58 : decode cX3_takeFrom 58 = .ok (.getfield 34, 3) := by decide +kernel
theorem dX3_takeFrom_61 : decode cX3_takeFrom 61 = .ok (.putfield 34, 3) := by decide +kernel
theorem dX3_takeFrom_64 : decode cX3_takeFrom 64 = .ok (.aload_n 1, 1) := by decide +kernel
theorem dX3_takeFrom_65 : decode cX3_takeFrom 65 = .ok (.getfield 37, 3) := by decide +kernel
theorem dX3_takeFrom_68 : decode cX3_takeFrom 68 = .ok (.aload_n 0, 1) := by decide +kernel
theorem dX3_takeFrom_69 : decode cX3_takeFrom 69 = .ok (.getfield 37, 3) := by decide +kernel
theorem dX3_takeFrom_72 : decode cX3_takeFrom 72 = .ok (.invokestatic 57, 3) := by decide +kernel
theorem dX3_takeFrom_75 : decode cX3_takeFrom 75 = .ok (.return_, 1) := by decide +kernel
theorem dX4_init_0 : decode cX4_init 0 = .ok (.aload_n 0, 1) := by decide +kernel
theorem dX4_init_1 : decode cX4_init 1 = .ok (.invokespecial 3, 3) := by decide +kernel
theorem dX4_init_4 : decode cX4_init 4 = .ok (.aload_n 0, 1) := by decide +kernel
theorem dX4_init_5 : decode cX4_init 5 = .ok (.iconst 0, 1) := by decide +kernel
theorem dX4_init_6 : decode cX4_init 6 = .ok (.putfield 9, 3) := by decide +kernel
theorem dX4_init_9 : decode cX4_init 9 = .ok (.aload_n 0, 1) := by decide +kernel
theorem dX4_init_10 : decode cX4_init 10 = .ok (.bipush 8, 2) := by decide +kernel
theorem dX4_init_12 : decode cX4_init 12 = .ok (.newarray .int, 2) := by decide +kernel
theorem dX4_init_14 : decode cX4_init 14 = .ok (.putfield 15, 3) := by decide +kernel
theorem dX4_init_17 : decode cX4_init 17 = .ok (.aload_n 0, 1) := by decide +kernel
theorem dX4_init_18 : decode cX4_init 18 = .ok (.bipush 8, 2) := by decide +kernel
theorem dX4_init_20 : decode cX4_init 20 = .ok (.newarray .int, 2) := by decide +kernel
theorem dX4_init_22 : decode cX4_init 22 = .ok (.putfield 19, 3) := by decide +kernel
theorem dX4_init_25 : decode cX4_init 25 = .ok (.aload_n 0, 1) := by decide +kernel
theorem dX4_init_26 : decode cX4_init 26 = .ok (.bipush 8, 2) := by decide +kernel
theorem dX4_init_28 : decode cX4_init 28 = .ok (.newarray .int, 2) := by decide +kernel
theorem dX4_init_30 : decode cX4_init 30 = .ok (.putfield 22, 3) := by decide +kernel
theorem dX4_init_33 : decode cX4_init 33 = .ok (.aload_n 0, 1) := by decide +kernel
theorem dX4_init_34 : decode cX4_init 34 = .ok (.bipush 8, 2) := by decide +kernel
theorem dX4_init_36 : decode cX4_init 36 = .ok (.newarray .int, 2) := by decide +kernel
theorem dX4_init_38 : decode cX4_init 38 = .ok (.putfield 25, 3) := by decide +kernel
theorem dX4_init_41 : decode cX4_init 41 = .ok (.return_, 1) := by decide +kernel
set_option maxRecDepth 20000 in
theorem ggX4_append_X6_outside : GoodIn wsX4_append wsX6_outside := goodIn_r _ [8] (by decide +kernel) (by decide +kernel)
set_option maxRecDepth 20000 in
theorem gX4_append_X6_outside_n28 : GoodIn wsX4_append (wsX6_outside) := ggX4_append_X6_outside
theorem dX4_append_0 : decode cX4_append 0 = .ok (.aload_n 0, 1) := by decide +kernel
theorem dX4_append_1 : decode cX4_append 1 = .ok (.getfield 9, 3) := by decide +kernel
theorem dX4_append_4 : decode cX4_append 4 = .ok (.istore 4, 2) := by decide +kernel
theorem dX4_append_6 : decode cX4_append 6 = .ok (.iload 4, 2) := by decide +kernel
theorem dX4_append_8 : decode cX4_append 8 = .ok (.iconst 0, 1) := by decide +kernel
theorem dX4_append_9 : decode cX4_append 9 = .ok (.bipush 7, 2) := by decide +kernel
theorem dX4_append_11 : decode cX4_append 11 = .ok (.invokestatic 28, 3) := by decide +kernel
theorem dX4_append_14 : decode cX4_append 14 = .ok (.ifCond .eq 5, 3) := by decide +kernel
theorem dX4_append_17 : decode cX4_append 17 = .ok (.iconst (-1), 1) := by decide +kernel
theorem dX4_append_18 : decode cX4_append 18 = .ok (.ireturn, 1) := by decide +kernel
theorem dX4_append_19 : decode cX4_append 19 = .ok (.aload_n 0, 1) := by decide +kernel
theorem dX4_append_20 : decode cX4_append 20 = .ok (.getfield 15, 3) := by decide +kernel
theorem dX4_append_23 : decode cX4_append 23 = .ok (.iload 4, 2) := by decide +kernel
theorem dX4_append_25 : decode cX4_append 25 = .ok (.iload_n 1, 1) := by decide +kernel
theorem dX4_append_26 : decode cX4_append 26 = .ok (.iastore, 1) := by decide +kernel
theorem dX4_append_27 : decode cX4_append 27 = .ok (.aload_n 0, 1) := by decide +kernel
theorem dX4_append_28 : decode cX4_append 28 = .ok (.getfield 19, 3) := by decide +kernel
theorem dX4_append_31 : decode cX4_append 31 = .ok (.iload 4, 2) := by decide +kernel
theorem dX4_append_33 : decode cX4_append 33 = .ok (.iload_n 2, 1) := by decide +kernel
theorem dX4_append_34 : decode cX4_append 34 = .ok (.iastore, 1) := by decide +kernel
theorem dX4_append_35 : decode cX4_append 35 = .ok (.aload_n 0, 1) := by decide +kernel
theorem dX4_append_36 : decode cX4_append 36 = .ok (.getfield 22, 3) := by decide +kernel
theorem dX4_append_39 : decode cX4_append 39 = .ok (.iload 4, 2) := by decide +kernel
theorem dX4_append_41 : decode cX4_append 41 = .ok (.iload_n 3, 1) := by decide +kernel
theorem dX4_append_42 : decode cX4_append 42 = .ok (.iastore, 1) := by decide +kernel
theorem dX4_append_43 : decode cX4_append 43 = .ok (.aload_n 0, 1) := by decide +kernel
theorem dX4_append_44 : decode cX4_append 44 = .ok (.getfield 25, 3) := by decide +kernel
theorem dX4_append_47 : decode cX4_append 47 = .ok (.iload 4, 2) := by decide +kernel
theorem dX4_append_49 : decode cX4_append 49 = .ok (.iconst 0, 1) := by decide +kernel
theorem dX4_append_50 : decode cX4_append 50 = .ok (.iastore, 1) := by decide +kernel
theorem dX4_append_51 : decode cX4_append 51 = .ok (.aload_n 0, 1) := by decide +kernel
theorem dX4_append_52 : decode cX4_append 52 = .ok (.iload 4, 2) := by decide +kernel
theorem dX4_append_54 : decode cX4_append 54 = .ok (.iconst 1, 1) := by decide +kernel
theorem dX4_append_55 : decode cX4_append 55 = .ok (.iadd, 1) := by decide +kernel
theorem dX4_append_56 : decode cX4_append 56 = .ok (.putfield 9, 3) := by decide +kernel
theorem dX4_append_59 : decode cX4_append 59 = .ok (.iload 4, 2) := by decide +kernel
theorem dX4_append_61 : decode cX4_append 61 = .ok (.ireturn, 1) := by decide +kernel
theorem dX4_countOf_0 : decode cX4_countOf 0 = .ok (.iload_n 1, 1) := by decide +kernel
theorem dX4_countOf_1 : decode cX4_countOf 1 = .ok (.ifCond .lt 26, 3) := by decide +kernel
theorem dX4_countOf_4 : decode cX4_countOf 4 = .ok (.iload_n 1, 1) := by decide +kernel
theorem dX4_countOf_5 : decode cX4_countOf 5 = .ok (.aload_n 0, 1) := by decide +kernel
theorem dX4_countOf_6 : decode cX4_countOf 6 = .ok (.getfield 9, 3) := by decide +kernel
theorem dX4_countOf_9 : decode cX4_countOf 9 = .ok (.if_icmp .ge 18, 3) := by decide +kernel
theorem dX4_countOf_12 : decode cX4_countOf 12 = .ok (.iload_n 1, 1) := by decide +kernel
theorem dX4_countOf_13 : decode cX4_countOf 13 = .ok (.bipush 8, 2) := by decide +kernel
theorem dX4_countOf_15 : decode cX4_countOf 15 = .ok (.if_icmp .ge 12, 3) := by decide +kernel
theorem dX4_countOf_18 : decode cX4_countOf 18 = .ok (.aload_n 0, 1) := by decide +kernel
theorem dX4_countOf_19 : decode cX4_countOf 19 = .ok (.getfield 25, 3) := by decide +kernel
theorem dX4_countOf_22 : decode cX4_countOf 22 = .ok (.iload_n 1, 1) := by decide +kernel
theorem dX4_countOf_23 : decode cX4_countOf 23 = .ok (.iaload, 1) := by decide +kernel
theorem dX4_countOf_24 : decode cX4_countOf 24 = .ok (.goto 4, 3) := by decide +kernel
theorem dX4_countOf_27 : decode cX4_countOf 27 = .ok (.iconst (-1), 1) := by decide +kernel
theorem dX4_countOf_28 : decode cX4_countOf 28 = .ok (.ireturn, 1) := by decide +kernel
set_option maxRecDepth 20000 in
theorem ggX4_countViolations_X4_isViolated : GoodIn wsX4_countViolations wsX4_isViolated := goodIn_r _ [9] (by decide +kernel) (by decide +kernel)
set_option maxRecDepth 20000 in
theorem gX4_countViolations_X4_isViolated : GoodIn wsX4_countViolations (va_wsS RX4 32 yX4_isViolated wsX4_isViolated) := goodIn_app (goodIn_of _ (by decide +kernel)) ggX4_countViolations_X4_isViolated
theorem dX4_countViolations_0 : decode cX4_countViolations 0 = .ok (.iconst (-1), 1) := by decide +kernel
theorem dX4_countViolations_1 : decode cX4_countViolations 1 = .ok (.istore 4, 2) := by decide +kernel
theorem dX4_countViolations_3 : decode cX4_countViolations 3 = .ok (.iconst 0, 1) := by decide +kernel
theorem dX4_countViolations_4 : decode cX4_countViolations 4 = .ok (.istore 5, 2) := by decide +kernel
theorem dX4_countViolations_6 : decode cX4_countViolations 6 = .ok (.iload 5, 2) := by decide +kernel
theorem dX4_countViolations_8 : decode cX4_countViolations 8 = .ok (.aload_n 0, 1) := by decide +kernel
theorem dX4_countViolations_9 : decode cX4_countViolations 9 = .ok (.getfield 9, 3) := by decide +kernel
theorem dX4_countViolations_12 : decode cX4_countViolations 12 = .ok (.if_icmp .ge 90, 3) := by decide +kernel
theorem dX4_countViolations_15 : decode cX4_countViolations 15 = .ok (.iload 5, 2) := by decide +kernel
theorem dX4_countViolations_17 : decode cX4_countViolations 17 = .ok (.bipush 8, 2) := by decide +kernel
theorem dX4_countViolations_19 : decode cX4_countViolations 19 = .ok (.if_icmp .ge 83, 3) := by decide +kernel
theorem dX4_countViolations_22 : decode cX4_countViolations 22 = .ok (.aload_n 0, 1) := by decide +kernel
theorem dX4_countViolations_23 : decode cX4_countViolations 23 = .ok (.getfield 15, 3) := by decide +kernel
theorem dX4_countViolations_26 : decode cX4_countViolations 26 = .ok (.iload 5, 2) := by decide +kernel
theorem dX4_countViolations_28 : decode cX4_countViolations 28 = .ok (.iaload, 1) := by decide +kernel
theorem dX4_countViolations_29 : decode cX4_countViolations 29 = .ok (.aload_n 0, 1) := by decide +kernel
theorem dX4_countViolations_30 : decode cX4_countViolations 30 = .ok (.getfield 19, 3) := by decide +kernel
theorem dX4_countViolations_33 : decode cX4_countViolations 33 = .ok (.iload 5, 2) := by decide +kernel
theorem dX4_countViolations_35 : decode cX4_countViolations 35 = .ok (.iaload, 1) := by decide +kernel
theorem dX4_countViolations_36 : decode cX4_countViolations 36 = .ok (.iload_n 1, 1) := by decide +kernel
theorem dX4_countViolations_37 : decode cX4_countViolations 37 = .ok (.iload_n 2, 1) := by decide +kernel
theorem dX4_countViolations_38 : decode cX4_countViolations 38 = .ok (.iload_n 3, 1) := by decide +kernel
theorem dX4_countViolations_39 : decode cX4_countViolations 39 = .ok (.invokestatic 32, 3) := by decide +kernel
theorem dX4_countViolations_42 : decode cX4_countViolations 42 = .ok (.istore 6, 2) := by decide +kernel
theorem dX4_countViolations_44 : decode cX4_countViolations 44 = .ok (.aload_n 0, 1) := by decide +kernel
theorem dX4_countViolations_45 : decode cX4_countViolations 45 = .ok (.getfield 25, 3) := by decide +kernel
theorem dX4_countViolations_48 : decode cX4_countViolations 48 = .ok (.iload 5, 2) := by decide +kernel
theorem dX4_countViolations_50 : decode cX4_countViolations 50 = .ok (.iload 6, 2) := by decide +kernel
theorem dX4_countViolations_52 : decode cX4_countViolations 52 = .ok (.ifCond .eq 15, 3) := by decide +kernel
theorem dX4_countViolations_55 : decode cX4_countViolations 55 = .ok (.aload_n 0, 1) := by decide +kernel
theorem dX4_countViolations_56 : decode cX4_countViolations 56 = .ok (.getfield 25, 3) := by decide +kernel
theorem dX4_countViolations_59 : decode cX4_countViolations 59 = .ok (.iload 5, 2) := by decide +kernel
theorem dX4_countViolations_61 : decode cX4_countViolations 61 = .ok (.iaload, 1) := by decide +kernel
theorem dX4_countViolations_62 : decode cX4_countViolations 62 = .ok (.iconst 1, 1) := by decide +kernel
theorem dX4_countViolations_63 : decode cX4_countViolations 63 = .ok (.iadd, 1) := by decide +kernel
theorem dX4_countViolations_64 : decode cX4_countViolations 64 = .ok (.goto 4, 3) := by decide +kernel
theorem dX4_countViolations_67 : decode cX4_countViolations 67 = .ok (.iconst 0, 1) := by decide +kernel
theorem dX4_countViolations_68 : decode cX4_countViolations 68 = .ok (.iastore, 1) := by decide +kernel
theorem dX4_countViolations_69 : decode cX4_countViolations 69 = .ok (.iload 4, 2) := by decide +kernel
theorem dX4_countViolations_71 : decode cX4_countViolations 71 = .ok (.iconst (-1), 1) := by decide +kernel
theorem dX4_countViolations_72 : decode cX4_countViolations 72 = .ok (.if_icmp .ne 24, 3) := by decide +kernel
theorem dX4_countViolations_75 : decode cX4_countViolations 75 = .ok (.aload_n 0, 1) := by decide +kernel
theorem dX4_countViolations_76 : decode cX4_countViolations 76 = .ok (.getfield 25, 3) := by decide +kernel
theorem dX4_countViolations_79 : decode cX4_countViolations 79 = .ok (.iload 5, 2) := by decide +kernel
theorem dX4_countViolations_81 : decode cX4_countViolations 81 = .ok (.iaload, 1) := by decide +kernel
theorem dX4_countViolations_82 : decode cX4_countViolations 82 = .ok (.aload_n 0, 1) := by decide +kernel
theorem dX4_countViolations_83 : decode cX4_countViolations 83 = .ok (.getfield 22, 3) := by decide +kernel
theorem dX4_countViolations_86 : decode cX4_countViolations 86 = .ok (.iload 5, 2) := by decide +kernel
theorem dX4_countViolations_88 : decode cX4_countViolations 88 = .ok (.iaload, 1) := by decide +kernel
theorem dX4_countViolations_89 : decode cX4_countViolations 89 = .ok (.if_icmp .lt 7, 3) := by decide +kernel
theorem dX4_countViolations_92 : decode cX4_countViolations 92 = .ok (.iload 5, 2) := by decide +kernel
theorem dX4_countViolations_94 : decode cX4_countViolations 94 = .ok (.istore 4, 2) := by decide +kernel
theorem dX4_countViolations_96 : decode cX4_countViolations 96 = .ok (.iinc 5 1, 3) := by decide +kernel
theorem dX4_countViolations_99 : decode cX4_countViolations 99 = .ok (.goto (-93), 3) := by decide +kernel
theorem dX4_countViolations_102 : decode cX4_countViolations 102 = .ok (.iload 4, 2) := by decide +kernel
theorem dX4_countViolations_104 : decode cX4_countViolations 104 = .ok (.ireturn, 1) := by decide +kernel
theorem dX4_isViolated_0 : decode cX4_isViolated 0 = .ok (.iload_n 0, 1) := by decide +kernel
theorem dX4_isViolated_1 : decode cX4_isViolated 1 = .ok (.tableswitch 75 0 3 #[31, 42, 53, 64], 31) := by decide +kernel
theorem dX4_isViolated_32 : decode cX4_isViolated 32 = .ok (.iload_n 2, 1) := by decide +kernel
theorem dX4_isViolated_33 : decode cX4_isViolated 33 = .ok (.iload_n 1, 1) := by decide +kernel
theorem dX4_isViolated_34 : decode cX4_isViolated 34 = .ok (.if_icmp .ge 7, 3) := by decide +kernel
theorem dX4_isViolated_37 : decode cX4_isViolated 37 = .ok (.iconst 1, 1) := by decide +kernel
theorem dX4_isViolated_38 : decode cX4_isViolated 38 = .ok (.goto 4, 3) := by decide +kernel
theorem dX4_isViolated_41 : decode cX4_isViolated 41 = .ok (.iconst 0, 1) := by decide +kernel
theorem dX4_isViolated_42 : decode cX4_isViolated 42 = .ok (.ireturn, 1) := by decide +kernel
theorem dX4_isViolated_43 : decode cX4_isViolated 43 = .ok (.iload_n 2, 1) := by decide +kernel
theorem dX4_isViolated_44 : decode cX4_isViolated 44 = .ok (.iload_n 1, 1) := by decide +kernel
theorem dX4_isViolated_45 : decode cX4_isViolated 45 = .ok (.if_icmp .le 7, 3) := by decide +kernel
theorem dX4_isViolated_48 : decode cX4_isViolated 48 = .ok (.iconst 1, 1) := by decide +kernel
theorem dX4_isViolated_49 : decode cX4_isViolated 49 = .ok (.goto 4, 3) := by decide +kernel
theorem dX4_isViolated_52 : decode cX4_isViolated 52 = .ok (.iconst 0, 1) := by decide +kernel
theorem dX4_isViolated_53 : decode cX4_isViolated 53 = .ok (.ireturn, 1) := by decide +kernel
theorem dX4_isViolated_54 : decode cX4_isViolated 54 = .ok (.iload_n 3, 1) := by decide +kernel
theorem dX4_isViolated_55 : decode cX4_isViolated 55 = .ok (.iload_n 1, 1) := by decide +kernel
theorem dX4_isViolated_56 : decode cX4_isViolated 56 = .ok (.if_icmp .ge 7, 3) := by decide +kernel
theorem dX4_isViolated_59 : decode cX4_isViolated 59 = .ok (.iconst 1, 1) := by decide +kernel
theorem dX4_isViolated_60 : decode cX4_isViolated 60 = .ok (.goto 4, 3) := by decide +kernel
theorem dX4_isViolated_63 : decode cX4_isViolated 63 = .ok (.iconst 0, 1) := by decide +kernel
theorem dX4_isViolated_64 : decode cX4_isViolated 64 = .ok (.ireturn, 1) := by decide +kernel
theorem dX4_isViolated_65 : decode cX4_isViolated 65 = .ok (.iload_n 3, 1) := by decide +kernel
theorem dX4_isViolated_66 : decode cX4_isViolated 66 = .ok (.iload_n 1, 1) := by decide +kernel
theorem dX4_isViolated_67 : decode cX4_isViolated 67 = .ok (.if_icmp .le 7, 3) := by decide +kernel
theorem dX4_isViolated_70 : decode cX4_isViolated 70 = .ok (.iconst 1, 1) := by decide +kernel
theorem dX4_isViolated_71 : decode cX4_isViolated 71 = .ok (.goto 4, 3) := by decide +kernel
theorem dX4_isViolated_74 : decode cX4_isViolated 74 = .ok (.iconst 0, 1) := by decide +kernel
theorem dX4_isViolated_75 : decode cX4_isViolated 75 = .ok (.ireturn, 1) := by decide +kernel
theorem dX4_isViolated_76 : decode cX4_isViolated 76 = .ok (.iload 4, 2) := by decide +kernel
theorem dX4_isViolated_78 : decode cX4_isViolated 78 = .ok (.iload_n 1, 1) := by decide +kernel
theorem dX4_isViolated_79 : decode cX4_isViolated 79 = .ok (.if_icmp .le 7, 3) := by decide +kernel
theorem dX4_isViolated_82 : decode cX4_isViolated 82 = .ok (.iconst 1, 1) := by decide +kernel
theorem dX4_isViolated_83 : decode cX4_isViolated 83 = .ok (.goto 4, 3) := by decide +kernel
theorem dX4_isViolated_86 : decode cX4_isViolated 86 = .ok (.iconst 0, 1) := by decide +kernel
theorem dX4_isViolated_87 : decode cX4_isViolated 87 = .ok (.ireturn, 1) := by decide +kernel
theorem dX4_forgetViolations_0 : decode cX4_forgetViolations 0 = .ok (.iconst 0, 1) := by decide +kernel
theorem dX4_forgetViolations_1 : decode cX4_forgetViolations 1 = .ok (.istore_n 1, 1) := by decide +kernel
theorem dX4_forgetViolations_2 : decode cX4_forgetViolations 2 = .ok (.iload_n 1, 1) := by decide +kernel
theorem dX4_forgetViolations_3 : decode cX4_forgetViolations 3 = .ok (.bipush 8, 2) := by decide +kernel
theorem dX4_forgetViolations_5 : decode cX4_forgetViolations 5 = .ok (.if_icmp .ge 16, 3) := by decide +kernel
theorem dX4_forgetViolations_8 : decode cX4_forgetViolations 8 = .ok (.aload_n 0, 1) := by decide +kernel
theorem dX4_forgetViolations_9 : decode cX4_forgetViolations 9 = .ok (.getfield 25, 3) := by decide +kernel
theorem dX4_forgetViolations_12 : decode cX4_forgetViolations 12 = .ok (.iload_n 1, 1) := by decide +kernel
theorem dX4_forgetViolations_13 : decode cX4_forgetViolations 13 = .ok (.iconst 0, 1) := by decide +kernel
theorem dX4_forgetViolations_14 : decode cX4_forgetViolations 14 = .ok (.iastore, 1) := by decide +kernel
theorem dX4_forgetViolations_15 : decode cX4_forgetViolations 15 = .ok (.iinc 1 1, 3) := by decide +kernel
theorem dX4_forgetViolations_18 : decode cX4_forgetViolations 18 = .ok (.goto (-16), 3) := by decide +kernel
theorem dX4_forgetViolations_21 : decode cX4_forgetViolations 21 = .ok (.return_, 1) := by decide +kernel
set_option maxRecDepth 20000 in
theorem ggX4_takeFrom_X6_copyRow : GoodIn wsX4_takeFrom wsX6_copyRow := goodIn_r _ [8, 9, 10, 11, 12, 13, 14, 15, 16] (by decide +kernel) (by decide +kernel)
set_option maxRecDepth 20000 in
theorem gX4_takeFrom_X6_copyRow_n36 : GoodIn wsX4_takeFrom (wsX6_copyRow) := ggX4_takeFrom_X6_copyRow
theorem dX4_takeFrom_0 : decode cX4_takeFrom 0 = .ok (.aload_n 0, 1) := by decide +kernel
theorem dX4_takeFrom_1 : decode cX4_takeFrom 1 = .ok (.aload_n 1, 1) := by decide +kernel
theorem dX4_takeFrom_2 : decode cX4_takeFrom 2 = .ok (.getfield 9, 3) := by decide +kernel
theorem dX4_takeFrom_5 : decode cX4_takeFrom 5 = .ok (.putfield 9, 3) := by decide +kernel
theorem dX4_takeFrom_8 : decode cX4_takeFrom 8 = .ok (.aload_n 1, 1) := by decide +kernel
theorem dX4_takeFrom_9 : decode cX4_takeFrom 9 = .ok (.getfield 15, 3) := by decide +kernel
theorem dX4_takeFrom_12 : decode cX4_takeFrom 12 = .ok (.aload_n 0, 1) := by decide +kernel
theorem dX4_takeFrom_13 : decode cX4_takeFrom 13 = .ok (.getfield 15, 3) := by decide +kernel
theorem dX4_takeFrom_16 : decode cX4_takeFrom 16 = .ok (.invokestatic 36, 3) := by decide +kernel
theorem dX4_takeFrom_19 : decode cX4_takeFrom 19 = .ok (.aload_n 1, 1) := by decide +kernel
theorem dX4_takeFrom_20 : decode cX4_takeFrom 20 = .ok (.getfield 19, 3) := by decide +kernel
theorem dX4_takeFrom_23 : decode cX4_takeFrom 23 = .ok (.aload_n 0, 1) := by decide +kernel
theorem dX4_takeFrom_24 : decode cX4_takeFrom 24 = .ok (.getfield 19, 3) := by decide +kernel
theorem dX4_takeFrom_27 : decode cX4_takeFrom 27 = .ok (.invokestatic 36, 3) := by decide +kernel
theorem dX4_takeFrom_30 : decode cX4_takeFrom 30 = .ok (.aload_n 1, 1) := by decide +kernel
theorem dX4_takeFrom_31 : decode cX4_takeFrom 31 = .ok (.getfield 22, 3) := by decide +kernel
theorem dX4_takeFrom_34 : decode cX4_takeFrom 34 = .ok (.aload_n 0, 1) := by decide +kernel
theorem dX4_takeFrom_35 : decode cX4_takeFrom 35 = .ok (.getfield 22, 3) := by decide +kernel
theorem dX4_takeFrom_38 : decode cX4_takeFrom 38 = .ok (.invokestatic 36, 3) := by decide +kernel
theorem dX4_takeFrom_41 : decode cX4_takeFrom 41 = .ok (.aload_n 1, 1) := by decide +kernel
theorem dX4_takeFrom_42 : decode cX4_takeFrom 42 = .ok (.getfield 25, 3) := by decide +kernel
theorem dX4_takeFrom_45 : decode cX4_takeFrom 45 = .ok (.aload_n 0, 1) := by decide +kernel
theorem dX4_takeFrom_46 : decode cX4_takeFrom 46 = .ok (.getfield 25, 3) := by decide +kernel
theorem dX4_takeFrom_49 : decode cX4_takeFrom 49 = .ok (.invokestatic 36, 3) := by decide +kernel
theorem dX4_takeFrom_52 : decode cX4_takeFrom 52 = .ok (.return_, 1) := by decide +kernel
set_option maxRecDepth 20000 in
theorem ggX5_init_X1_init : GoodIn wsX5_init wsX1_init := goodIn_r _ [26, 27, 2, 3, 28, 29, 30, 31, 32, 33, 34, 35, 36, 37, 92, 93, 94, 95, 96, 97, 98, 99, 100] (by decide +kernel) (by decide +kernel)
set_option maxRecDepth 20000 in
theorem gX5_init_X1_init_n17 : GoodIn wsX5_init (wsX1_init) := ggX5_init_X1_init
set_option maxRecDepth 20000 in
theorem ggX5_init_X3_init : GoodIn wsX5_init wsX3_init := goodIn_r _ [40, 41, 2, 3, 42, 43, 44, 45, 46, 47, 48, 49, 50, 51, 52, 101, 102, 103, 104, 105, 106, 107, 108, 109] (by decide +kernel) (by decide +kernel)
set_option maxRecDepth 20000 in
theorem gX5_init_X3_init : GoodIn wsX5_init (wsX3_init) := ggX5_init_X3_init
set_option maxRecDepth 20000 in
theorem ggX5_init_X0_init : GoodIn wsX5_init wsX0_init := goodIn_r _ [54, 55, 2, 3, 56, 57, 58, 59, 60, 61, 62, 63, 64, 65, 66, 67, 68, 69, 70, 71, 110, 111, 112, 113, 114, 115, 116, 117, 118, 119, 120, 121, 122, 123] (by decide +kernel) (by decide +kernel)
set_option maxRecDepth 20000 in
theorem gX5_init_X0_init_n31 : GoodIn wsX5_init (wsX0_init) := ggX5_init_X0_init
set_option maxRecDepth 20000 in
theorem ggX5_init_X4_init : GoodIn wsX5_init wsX4_init := goodIn_r _ [73, 74, 2, 3, 75, 51, 76, 77, 78, 79, 124, 125, 126, 127, 128] (by decide +kernel) (by decide +kernel)
set_option maxRecDepth 20000 in
theorem gX5_init_X4_init_n38 : GoodIn wsX5_init (wsX4_init) := ggX5_init_X4_init
set_option maxRecDepth 20000 in
theorem ggX5_init_X2_init : GoodIn wsX5_init wsX2_init := goodIn_r _ [81, 82, 2, 3, 83, 51, 84, 85, 129, 130, 131] (by decide +kernel) (by decide +kernel)
set_option maxRecDepth 20000 in
theorem gX5_init_X2_init_n45 : GoodIn wsX5_init (wsX2_init) := ggX5_init_X2_init
theorem dX5_init_0 : decode cX5_init 0 = .ok (.aload_n 0, 1) := by decide +kernel
theorem dX5_init_1 : decode cX5_init 1 = .ok (.invokespecial 3, 3) := by decide +kernel
theorem dX5_init_4 : decode cX5_init 4 = .ok (.aload_n 0, 1) := by decide +kernel
theorem dX5_init_5 : decode cX5_init 5 = .ok (.iconst 0, 1) := by decide +kernel
theorem dX5_init_6 : decode cX5_init 6 = .ok (.putfield 9, 3) := by decide +kernel
theorem dX5_init_9 : decode cX5_init 9 = .ok (.aload_n 0, 1) := by decide +kernel
theorem dX5_init_10 : decode cX5_init 10 = .ok (.new 15, 3) := by decide +kernel
theorem dX5_init_13 : decode cX5_init 13 = .ok (.dup, 1) := by decide +kernel
theorem dX5_init_14 : decode cX5_init 14 = .ok (.invokespecial 17, 3) := by decide +kernel
theorem dX5_init_17 : decode cX5_init 17 = .ok (.putfield 18, 3) := by decide +kernel
theorem dX5_init_20 : decode cX5_init 20 = .ok (.aload_n 0, 1) := by decide +kernel
theorem dX5_init_21 : decode cX5_init 21 = .ok (.new 22, 3) := by decide +kernel
theorem dX5_init_24 : decode cX5_init 24 = .ok (.dup, 1) := by decide +kernel
theorem dX5_init_25 : decode cX5_init 25 = .ok (.invokespecial 24, 3) := by decide +kernel
theorem dX5_init_28 : decode cX5_init 28 = .ok (.putfield 25, 3) := by decide +kernel
theorem dX5_init_31 : decode cX5_init 31 = .ok (.aload_n 0, 1) := by decide +kernel
theorem dX5_init_32 : decode cX5_init 32 = .ok (.new 29, 3) := by decide +kernel
theorem dX5_init_35 : decode cX5_init 35 = .ok (.dup, 1) := by decide +kernel
theorem dX5_init_36 : decode cX5_init 36 = .ok (.invokespecial 31, 3) := by decide +kernel
theorem dX5_init_39 : decode cX5_init 39 = .ok (.putfield 32, 3) := by decide +kernel
theorem dX5_init_42 : decode cX5_init 42 = .ok (.aload_n 0, 1) := by decide +kernel
theorem dX5_init_43 : decode cX5_init 43 = .ok (.new 36, 3) := by decide +kernel
theorem dX5_init_46 : decode cX5_init 46 = .ok (.dup, 1) := by decide +kernel
theorem dX5_init_47 : decode cX5_init 47 = .ok (.invokespecial 38, 3) := by decide +kernel
theorem dX5_init_50 : decode cX5_init 50 = .ok (.putfield 39, 3) := by decide +kernel
theorem dX5_init_53 : decode cX5_init 53 = .ok (.aload_n 0, 1) := by decide +kernel
theorem dX5_init_54 : decode cX5_init 54 = .ok (.new 43, 3) := by decide +kernel
theorem dX5_init_57 : decode cX5_init 57 = .ok (.dup, 1) := by decide +kernel
theorem dX5_init_58 : decode cX5_init 58 = .ok (.invokespecial 45, 3) := by decide +kernel
theorem dX5_init_61 : decode cX5_init 61 = .ok (.putfield 46, 3) := by decide +kernel
theorem dX5_init_64 : decode cX5_init 64 = .ok (.return_, 1) := by decide +kernel
set_option maxRecDepth 20000 in
theorem ggX5_tick_X0_drifted : GoodIn wsX5_tick wsX0_drifted := goodIn_r _ [15, 16, 17, 18, 162, 163, 164, 165, 166, 167, 168, 169, 170, 171, 172, 173, 174, 175] (by decide +kernel) (by decide +kernel)
set_option maxRecDepth 20000 in
theorem gX5_tick_X0_drifted : GoodIn wsX5_tick (wsV RX5 56 RX0 yX0_drifted wsX0_drifted) := goodIn_app (goodIn_of _ (by decide +kernel)) ggX5_tick_X0_drifted
set_option maxRecDepth 20000 in
theorem ggX5_tick_X1_settle : GoodIn wsX5_tick wsX1_settle := goodIn_r _ [23, 24, 25, 26, 27, 28, 29, 30, 31, 22, 32, 33, 34, 35, 36, 37, 38, 39, 40, 41, 42, 43, 44, 45, 46, 47, 48, 49, 50, 51, 52, 185, 186, 187, 188, 189, 190, 191, 192, 193] (by decide +kernel) (by decide +kernel)
set_option maxRecDepth 20000 in
theorem gX5_tick_X1_settle : GoodIn wsX5_tick (wsV RX5 60 RX1 yX1_settle wsX1_settle) := goodIn_app (goodIn_of _ (by decide +kernel)) ggX5_tick_X1_settle
set_option maxRecDepth 20000 in
theorem ggX5_tick_X1_turn : GoodIn wsX5_tick wsX1_turn := goodIn_r _ [56, 57, 58, 59, 60, 61, 62, 185, 186, 187, 188, 189, 190, 191, 192, 193] (by decide +kernel) (by decide +kernel)
set_option maxRecDepth 20000 in
theorem gX5_tick_X1_turn : GoodIn wsX5_tick (wsV RX5 65 RX1 yX1_turn wsX1_turn) := goodIn_app (goodIn_of _ (by decide +kernel)) ggX5_tick_X1_turn
set_option maxRecDepth 20000 in
theorem ggX5_tick_X3_follow : GoodIn wsX5_tick wsX3_follow := goodIn_r _ [67, 68, 69, 70, 71, 72, 73, 74, 75, 76, 77, 60, 61, 62, 44, 45, 46, 47, 48, 49, 35, 36, 37, 50, 51, 52, 78, 79, 176, 177, 178, 179, 180, 181, 182, 183, 184] (by decide +kernel) (by decide +kernel)
set_option maxRecDepth 20000 in
theorem gX5_tick_X3_follow : GoodIn wsX5_tick (wsV RX5 75 RX3 yX3_follow wsX3_follow) := goodIn_app (goodIn_of _ (by decide +kernel)) ggX5_tick_X3_follow
set_option maxRecDepth 20000 in
theorem ggX5_tick_X3_changeUntil : GoodIn wsX5_tick wsX3_changeUntil := goodIn_r _ [83, 69, 84, 77, 60, 61, 62, 176, 177, 178, 179, 180, 181, 182, 183, 184] (by decide +kernel) (by decide +kernel)
set_option maxRecDepth 20000 in
theorem gX5_tick_X3_changeUntil : GoodIn wsX5_tick (wsV RX5 78 RX3 yX3_changeUntil wsX3_changeUntil) := goodIn_app (goodIn_of _ (by decide +kernel)) ggX5_tick_X3_changeUntil
set_option maxRecDepth 20000 in
theorem ggX5_tick_X5_protect : GoodIn wsX5_tick wsX5_protect := goodIn_r _ [89, 5, 90, 2, 9, 6, 3, 91, 92, 93, 66, 94, 76, 95, 96, 97, 98, 88, 99, 10, 4, 100, 101, 1, 102, 103, 104, 105, 106, 107, 108, 109, 110, 60, 61, 62, 111, 112, 113, 114, 115, 116, 117, 118, 119, 120, 121, 122, 123, 124, 125, 126, 14, 127, 128, 129, 130, 131, 35, 36, 37, 156, 157, 158, 159, 160, 161, 185, 186, 187, 188, 189, 190, 191, 192, 193, 176, 177, 178, 179, 180, 181, 182, 183, 184, 162, 163, 164, 165, 166, 167, 168, 169, 170, 171, 172, 173, 174, 175, 194, 195, 196, 197, 198, 199, 200, 201] (by decide +kernel) (by decide +kernel)
set_option maxRecDepth 20000 in
theorem gX5_tick_X5_protect : GoodIn wsX5_tick (wsV RX5 84 RX5 yX5_protect wsX5_protect) := goodIn_app (goodIn_of _ (by decide +kernel)) ggX5_tick_X5_protect
set_option maxRecDepth 20000 in
theorem ggX5_tick_X5_prepare : GoodIn wsX5_tick wsX5_prepare := goodIn_r _ [135, 5, 3, 2, 9, 6, 100, 136, 10, 90, 101, 1, 91, 92, 93, 66, 94, 76, 95, 137, 138, 139, 14, 140, 141, 142, 143, 144, 78, 45, 79, 124, 125, 126, 127, 128, 129, 130, 131, 35, 36, 37, 145, 146, 147, 114, 148, 119, 102, 103, 104, 105, 106, 107, 108, 109, 110, 60, 61, 62, 156, 157, 158, 159, 160, 161, 185, 186, 187, 188, 189, 190, 191, 192, 193, 176, 177, 178, 179, 180, 181, 182, 183, 184, 162, 163, 164, 165, 166, 167, 168, 169, 170, 171, 172, 173, 174, 175, 197, 198, 199, 200, 201, 194, 195, 196] (by decide +kernel) (by decide +kernel)
set_option maxRecDepth 20000 in
theorem gX5_tick_X5_prepare : GoodIn wsX5_tick (wsV RX5 87 RX5 yX5_prepare wsX5_prepare) := goodIn_app (goodIn_of _ (by decide +kernel)) ggX5_tick_X5_prepare
set_option maxRecDepth 20000 in
theorem ggX5_tick_X0_account : GoodIn wsX5_tick wsX0_account := goodIn_r _ [152, 153, 128, 154, 155, 162, 163, 164, 165, 166, 167, 168, 169, 170, 171, 172, 173, 174, 175] (by decide +kernel) (by decide +kernel)
set_option maxRecDepth 20000 in
theorem gX5_tick_X0_account : GoodIn wsX5_tick (wsV RX5 90 RX0 yX0_account wsX0_account) := goodIn_app (goodIn_of _ (by decide +kernel)) ggX5_tick_X0_account
theorem dX5_tick_0 : decode cX5_tick 0 = .ok (.aload_n 0, 1) := by decide +kernel
theorem dX5_tick_1 : decode cX5_tick 1 = .ok (.dup, 1) := by decide +kernel
theorem dX5_tick_2 : decode cX5_tick 2 = .ok (.getfield 9, 3) := by decide +kernel
theorem dX5_tick_5 : decode cX5_tick 5 = .ok (.iconst 1, 1) := by decide +kernel
theorem dX5_tick_6 : decode cX5_tick 6 = .ok (.iadd, 1) := by decide +kernel
theorem dX5_tick_7 : decode cX5_tick 7 = .ok (.putfield 9, 3) := by decide +kernel
theorem dX5_tick_10 : decode cX5_tick 10 = .ok (.aload_n 0, 1) := by decide +kernel
theorem dX5_tick_11 : decode cX5_tick 11 = .ok (.getfield 18, 3) := by decide +kernel
theorem dX5_tick_14 : decode cX5_tick 14 = .ok (.aload_n 0, 1) := by decide +kernel
theorem dX5_tick_15 : decode cX5_tick 15 = .ok (.getfield 32, 3) := by decide +kernel
theorem dX5_tick_18 : decode cX5_tick 18 = .ok (.getfield 50, 3) := by decide +kernel
theorem dX5_tick_21 : decode cX5_tick 21 = .ok (.aload_n 0, 1) := by decide +kernel
theorem dX5_tick_22 : decode cX5_tick 22 = .ok (.getfield 32, 3) := by decide +kernel
theorem dX5_tick_25 : decode cX5_tick 25 = .ok (.aload_n 0, 1) := by decide +kernel
theorem dX5_tick_26 : decode cX5_tick 26 = .ok (.getfield 25, 3) := by decide +kernel
theorem dX5_tick_29 : decode cX5_tick 29 = .ok (.getfield 53, 3) := by decide +kernel
theorem dX5_tick_32 : decode cX5_tick 32 = .ok (.invokevirtual 56, 3) := by decide +kernel
theorem dX5_tick_35 : decode cX5_tick 35 = .ok (.invokevirtual 60, 3) := by decide +kernel
theorem dX5_tick_38 : decode cX5_tick 38 = .ok (.aload_n 0, 1) := by decide +kernel
theorem dX5_tick_39 : decode cX5_tick 39 = .ok (.getfield 18, 3) := by decide +kernel
theorem dX5_tick_42 : decode cX5_tick 42 = .ok (.aload_n 0, 1) := by decide +kernel
theorem dX5_tick_43 : decode cX5_tick 43 = .ok (.getfield 18, 3) := by decide +kernel
theorem dX5_tick_46 : decode cX5_tick 46 = .ok (.getfield 64, 3) := by decide +kernel
theorem dX5_tick_49 : decode cX5_tick 49 = .ok (.invokevirtual 65, 3) := by decide +kernel
theorem dX5_tick_52 : decode cX5_tick 52 = .ok (.aload_n 0, 1) := by decide +kernel
theorem dX5_tick_53 : decode cX5_tick 53 = .ok (.getfield 25, 3) := by decide +kernel
theorem dX5_tick_56 : decode cX5_tick 56 = .ok (.aload_n 0, 1) := by decide +kernel
theorem dX5_tick_57 : decode cX5_tick 57 = .ok (.getfield 18, 3) := by decide +kernel
theorem dX5_tick_60 : decode cX5_tick 60 = .ok (.getfield 69, 3) := by decide +kernel
theorem dX5_tick_63 : decode cX5_tick 63 = .ok (.aload_n 0, 1) := by decide +kernel
theorem dX5_tick_64 : decode cX5_tick 64 = .ok (.getfield 18, 3) := by decide +kernel
theorem dX5_tick_67 : decode cX5_tick 67 = .ok (.getfield 72, 3) := by decide +kernel
theorem dX5_tick_70 : decode cX5_tick 70 = .ok (.invokevirtual 75, 3) := by decide +kernel
theorem dX5_tick_73 : decode cX5_tick 73 = .ok (.aload_n 0, 1) := by decide +kernel
theorem dX5_tick_74 : decode cX5_tick 74 = .ok (.getfield 25, 3) := by decide +kernel
theorem dX5_tick_77 : decode cX5_tick 77 = .ok (.aload_n 0, 1) := by decide +kernel
theorem dX5_tick_78 : decode cX5_tick 78 = .ok (.getfield 9, 3) := by decide +kernel
theorem dX5_tick_81 : decode cX5_tick 81 = .ok (.invokevirtual 78, 3) := by decide +kernel
theorem dX5_tick_84 : decode cX5_tick 84 = .ok (.istore_n 1, 1) := by decide +kernel
theorem dX5_tick_85 : decode cX5_tick 85 = .ok (.aload_n 0, 1) := by decide +kernel
theorem dX5_tick_86 : decode cX5_tick 86 = .ok (.getfield 32, 3) := by decide +kernel
theorem dX5_tick_89 : decode cX5_tick 89 = .ok (.getfield 81, 3) := by decide +kernel
theorem dX5_tick_92 : decode cX5_tick 92 = .ok (.istore_n 2, 1) := by decide +kernel
theorem dX5_tick_93 : decode cX5_tick 93 = .ok (.iload_n 2, 1) := by decide +kernel
theorem dX5_tick_94 : decode cX5_tick 94 = .ok (.iconst 1, 1) := by decide +kernel
theorem dX5_tick_95 : decode cX5_tick 95 = .ok (.if_icmp .ne 11, 3) := by decide +kernel
theorem dX5_tick_98 : decode cX5_tick 98 = .ok (.aload_n 0, 1) := by decide +kernel
theorem dX5_tick_99 : decode cX5_tick 99 = .ok (.iload_n 1, 1) := by decide +kernel
theorem dX5_tick_100 : decode cX5_tick 100 = .ok (.invokevirtual 84, 3) := by decide +kernel
theorem dX5_tick_103 : decode cX5_tick 103 = .ok (.goto 11, 3) := by decide +kernel
theorem dX5_tick_106 : decode cX5_tick 106 = .ok (.iload_n 2, 1) := by decide +kernel
theorem dX5_tick_107 : decode cX5_tick 107 = .ok (.ifCond .ne 7, 3) := by decide +kernel
theorem dX5_tick_110 : decode cX5_tick 110 = .ok (.aload_n 0, 1) := by decide +kernel
theorem dX5_tick_111 : decode cX5_tick 111 = .ok (.invokevirtual 87, 3) := by decide +kernel
theorem dX5_tick_114 : decode cX5_tick 114 = .ok (.aload_n 0, 1) := by decide +kernel
theorem dX5_tick_115 : decode cX5_tick 115 = .ok (.getfield 32, 3) := by decide +kernel
theorem dX5_tick_118 : decode cX5_tick 118 = .ok (.invokevirtual 90, 3) := by decide +kernel
theorem dX5_tick_121 : decode cX5_tick 121 = .ok (.return_, 1) := by decide +kernel
set_option maxRecDepth 20000 in
theorem ggX5_protect_X3_holdsLock : GoodIn wsX5_protect wsX3_holdsLock := goodIn_r _ [11, 12, 13, 76, 77, 78, 79, 80, 81, 82, 83, 84] (by decide +kernel) (by decide +kernel)
set_option maxRecDepth 20000 in
theorem gX5_protect_X3_holdsLock : GoodIn wsX5_protect (wsV RX5 93 RX3 yX3_holdsLock wsX3_holdsLock) := goodIn_app (goodIn_of _ (by decide +kernel)) ggX5_protect_X3_holdsLock
set_option maxRecDepth 20000 in
theorem ggX5_protect_X5_trip : GoodIn wsX5_protect wsX5_trip := goodIn_r _ [18, 6, 19, 20, 21, 22, 23, 24, 25, 26, 27, 28, 29, 30, 31, 32, 33, 34, 35, 61, 62, 63, 64, 65, 66, 85, 86, 87, 88, 89, 90, 91, 92, 93, 94, 95, 96, 97, 98, 99, 100, 101] (by decide +kernel) (by decide +kernel)
set_option maxRecDepth 20000 in
theorem gX5_protect_X5_trip : GoodIn wsX5_protect (wsV RX5 97 RX5 yX5_trip wsX5_trip) := goodIn_app (goodIn_of _ (by decide +kernel)) ggX5_protect_X5_trip
set_option maxRecDepth 20000 in
theorem ggX5_protect_X4_countViolations : GoodIn wsX5_protect wsX4_countViolations := goodIn_r _ [40, 41, 42, 43, 44, 45, 46, 47, 39, 48, 102, 103, 104, 105, 106] (by decide +kernel) (by decide +kernel)
set_option maxRecDepth 20000 in
theorem gX5_protect_X4_countViolations : GoodIn wsX5_protect (wsV RX5 100 RX4 yX4_countViolations wsX4_countViolations) := goodIn_app (goodIn_of _ (by decide +kernel)) ggX5_protect_X4_countViolations
set_option maxRecDepth 20000 in
theorem ggX5_protect_X0_raisePower : GoodIn wsX5_protect wsX0_raisePower := goodIn_r _ [53, 54, 55, 56, 57, 58, 59, 60, 85, 86, 87, 88, 89, 90, 91, 92, 93, 94, 95, 96, 97, 98] (by decide +kernel) (by decide +kernel)
set_option maxRecDepth 20000 in
theorem gX5_protect_X0_raisePower : GoodIn wsX5_protect (wsV RX5 104 RX0 yX0_raisePower wsX0_raisePower) := goodIn_app (goodIn_of _ (by decide +kernel)) ggX5_protect_X0_raisePower
theorem dX5_protect_0 : decode cX5_protect 0 = .ok (.aload_n 0, 1) := by decide +kernel
theorem dX5_protect_1 : decode cX5_protect 1 = .ok (.getfield 25, 3) := by decide +kernel
theorem dX5_protect_4 : decode cX5_protect 4 = .ok (.invokevirtual 93, 3) := by decide +kernel
theorem dX5_protect_7 : decode cX5_protect 7 = .ok (.ifCond .ne 10, 3) := by decide +kernel
theorem dX5_protect_10 : decode cX5_protect 10 = .ok (.aload_n 0, 1) := by decide +kernel
theorem dX5_protect_11 : decode cX5_protect 11 = .ok (.bipush 101, 2) := by decide +kernel
theorem dX5_protect_13 : decode cX5_protect 13 = .ok (.invokevirtual 97, 3) := by decide +kernel
theorem dX5_protect_16 : decode cX5_protect 16 = .ok (.return_, 1) := by decide +kernel
theorem dX5_protect_17 : decode cX5_protect 17 = .ok (.aload_n 0, 1) := by decide +kernel
theorem dX5_protect_18 : decode cX5_protect 18 = .ok (.getfield 39, 3) := by decide +kernel
theorem dX5_protect_21 : decode cX5_protect 21 = .ok (.aload_n 0, 1) := by decide +kernel
theorem dX5_protect_22 : decode cX5_protect 22 = .ok (.getfield 18, 3) := by decide +kernel
theorem dX5_protect_25 : decode cX5_protect 25 = .ok (.getfield 72, 3) := by decide +kernel
theorem dX5_protect_28 : decode cX5_protect 28 = .ok (.aload_n 0, 1) := by decide +kernel
theorem dX5_protect_29 : decode cX5_protect 29 = .ok (.getfield 25, 3) := by decide +kernel
theorem dX5_protect_32 : decode cX5_protect 32 = .ok (.getfield 53, 3) := by decide +kernel
theorem dX5_protect_35 : decode cX5_protect 35 = .ok (.iload_n 1, 1) := by decide +kernel
theorem dX5_protect_36 : decode cX5_protect 36 = .ok (.invokevirtual 100, 3) := by decide +kernel
theorem dX5_protect_39 : decode cX5_protect 39 = .ok (.istore_n 2, 1) := by decide +kernel
theorem dX5_protect_40 : decode cX5_protect 40 = .ok (.iload_n 2, 1) := by decide +kernel
theorem dX5_protect_41 : decode cX5_protect 41 = .ok (.iconst (-1), 1) := by decide +kernel
theorem dX5_protect_42 : decode cX5_protect 42 = .ok (.if_icmp .ne 13, 3) := by decide +kernel
theorem dX5_protect_45 : decode cX5_protect 45 = .ok (.aload_n 0, 1) := by decide +kernel
theorem dX5_protect_46 : decode cX5_protect 46 = .ok (.getfield 32, 3) := by decide +kernel
theorem dX5_protect_49 : decode cX5_protect 49 = .ok (.invokevirtual 104, 3) := by decide +kernel
theorem dX5_protect_52 : decode cX5_protect 52 = .ok (.goto 8, 3) := by decide +kernel
theorem dX5_protect_55 : decode cX5_protect 55 = .ok (.aload_n 0, 1) := by decide +kernel
theorem dX5_protect_56 : decode cX5_protect 56 = .ok (.iload_n 2, 1) := by decide +kernel
theorem dX5_protect_57 : decode cX5_protect 57 = .ok (.invokevirtual 97, 3) := by decide +kernel
theorem dX5_protect_60 : decode cX5_protect 60 = .ok (.return_, 1) := by decide +kernel
set_option maxRecDepth 20000 in
theorem ggX5_prepare_X3_holdsLock : GoodIn wsX5_prepare wsX3_holdsLock := goodIn_r _ [16, 17, 18, 75, 76, 77, 78, 79, 80, 81, 82, 83] (by decide +kernel) (by decide +kernel)
set_option maxRecDepth 20000 in
theorem gX5_prepare_X3_holdsLock : GoodIn wsX5_prepare (wsV RX5 93 RX3 yX3_holdsLock wsX3_holdsLock) := goodIn_app (goodIn_of _ (by decide +kernel)) ggX5_prepare_X3_holdsLock
set_option maxRecDepth 20000 in
theorem ggX5_prepare_X0_admits : GoodIn wsX5_prepare wsX0_admits := goodIn_r _ [23, 24, 25, 26, 27, 28, 29, 30, 84, 85, 86, 87, 88, 89, 90, 91, 92, 93, 94, 95, 96, 97] (by decide +kernel) (by decide +kernel)
set_option maxRecDepth 20000 in
theorem gX5_prepare_X0_admits : GoodIn wsX5_prepare (wsV RX5 107 RX0 yX0_admits wsX0_admits) := goodIn_app (goodIn_of _ (by decide +kernel)) ggX5_prepare_X0_admits
set_option maxRecDepth 20000 in
theorem ggX5_prepare_X0_raisePower : GoodIn wsX5_prepare wsX0_raisePower := goodIn_r _ [34, 35, 36, 37, 38, 39, 40, 41, 84, 85, 86, 87, 88, 89, 90, 91, 92, 93, 94, 95, 96, 97] (by decide +kernel) (by decide +kernel)
set_option maxRecDepth 20000 in
theorem gX5_prepare_X0_raisePower : GoodIn wsX5_prepare (wsV RX5 104 RX0 yX0_raisePower wsX0_raisePower) := goodIn_app (goodIn_of _ (by decide +kernel)) ggX5_prepare_X0_raisePower
set_option maxRecDepth 20000 in
theorem ggX5_prepare_X4_forgetViolations : GoodIn wsX5_prepare wsX4_forgetViolations := goodIn_r _ [46, 47, 98, 99, 100, 101, 102] (by decide +kernel) (by decide +kernel)
set_option maxRecDepth 20000 in
theorem gX5_prepare_X4_forgetViolations : GoodIn wsX5_prepare (wsV RX5 117 RX4 yX4_forgetViolations wsX4_forgetViolations) := goodIn_app (goodIn_of _ (by decide +kernel)) ggX5_prepare_X4_forgetViolations
set_option maxRecDepth 20000 in
theorem ggX5_prepare_X2_append : GoodIn wsX5_prepare wsX2_append := goodIn_r _ [52, 53, 54, 55, 56, 57, 58, 59, 103, 104, 105] (by decide +kernel) (by decide +kernel)
set_option maxRecDepth 20000 in
theorem gX5_prepare_X2_append : GoodIn wsX5_prepare (wsV RX5 120 RX2 yX2_append wsX2_append) := goodIn_app (goodIn_of _ (by decide +kernel)) ggX5_prepare_X2_append
theorem dX5_prepare_0 : decode cX5_prepare 0 = .ok (.aload_n 0, 1) := by decide +kernel
theorem dX5_prepare_1 : decode cX5_prepare 1 = .ok (.getfield 25, 3) := by decide +kernel
theorem dX5_prepare_4 : decode cX5_prepare 4 = .ok (.invokevirtual 93, 3) := by decide +kernel
theorem dX5_prepare_7 : decode cX5_prepare 7 = .ok (.ifCond .eq 31, 3) := by decide +kernel
theorem dX5_prepare_10 : decode cX5_prepare 10 = .ok (.aload_n 0, 1) := by decide +kernel
theorem dX5_prepare_11 : decode cX5_prepare 11 = .ok (.getfield 32, 3) := by decide +kernel
theorem dX5_prepare_14 : decode cX5_prepare 14 = .ok (.aload_n 0, 1) := by decide +kernel
theorem dX5_prepare_15 : decode cX5_prepare 15 = .ok (.getfield 18, 3) := by decide +kernel
theorem dX5_prepare_18 : decode cX5_prepare 18 = .ok (.getfield 72, 3) := by decide +kernel
theorem dX5_prepare_21 : decode cX5_prepare 21 = .ok (.aload_n 0, 1) := by decide +kernel
theorem dX5_prepare_22 : decode cX5_prepare 22 = .ok (.getfield 25, 3) := by decide +kernel
theorem dX5_prepare_25 : decode cX5_prepare 25 = .ok (.getfield 53, 3) := by decide +kernel
theorem dX5_prepare_28 : decode cX5_prepare 28 = .ok (.invokevirtual 107, 3) := by decide +kernel
theorem dX5_prepare_31 : decode cX5_prepare 31 = .ok (.ifCond .eq 7, 3) := by decide +kernel
theorem dX5_prepare_34 : decode cX5_prepare 34 = .ok (.iconst 1, 1) := by decide +kernel
theorem dX5_prepare_35 : decode cX5_prepare 35 = .ok (.goto 4, 3) := by decide +kernel
theorem dX5_prepare_38 : decode cX5_prepare 38 = .ok (.iconst 0, 1) := by decide +kernel
theorem dX5_prepare_39 : decode cX5_prepare 39 = .ok (.istore_n 1, 1) := by decide +kernel
theorem dX5_prepare_40 : decode cX5_prepare 40 = .ok (.aload_n 0, 1) := by decide +kernel
theorem dX5_prepare_41 : decode cX5_prepare 41 = .ok (.getfield 32, 3) := by decide +kernel
theorem dX5_prepare_44 : decode cX5_prepare 44 = .ok (.iload_n 1, 1) := by decide +kernel
theorem dX5_prepare_45 : decode cX5_prepare 45 = .ok (.ifCond .eq 15, 3) := by decide +kernel
theorem dX5_prepare_48 : decode cX5_prepare 48 = .ok (.aload_n 0, 1) := by decide +kernel
theorem dX5_prepare_49 : decode cX5_prepare 49 = .ok (.getfield 32, 3) := by decide +kernel
theorem dX5_prepare_52 : decode cX5_prepare 52 = .ok (.getfield 111, 3) := by decide +kernel
theorem dX5_prepare_55 : decode cX5_prepare 55 = .ok (.iconst 1, 1) := by decide +kernel
theorem dX5_prepare_56 : decode cX5_prepare 56 = .ok (.iadd, 1) := by decide +kernel
theorem dX5_prepare_57 : decode cX5_prepare 57 = .ok (.goto 4, 3) := by decide +kernel
theorem dX5_prepare_60 : decode cX5_prepare 60 = .ok (.iconst 0, 1) := by decide +kernel
theorem dX5_prepare_61 : decode cX5_prepare 61 = .ok (.putfield 111, 3) := by decide +kernel
theorem dX5_prepare_64 : decode cX5_prepare 64 = .ok (.aload_n 0, 1) := by decide +kernel
theorem dX5_prepare_65 : decode cX5_prepare 65 = .ok (.getfield 32, 3) := by decide +kernel
theorem dX5_prepare_68 : decode cX5_prepare 68 = .ok (.getfield 111, 3) := by decide +kernel
theorem dX5_prepare_71 : decode cX5_prepare 71 = .ok (.aload_n 0, 1) := by decide +kernel
theorem dX5_prepare_72 : decode cX5_prepare 72 = .ok (.getfield 32, 3) := by decide +kernel
theorem dX5_prepare_75 : decode cX5_prepare 75 = .ok (.getfield 114, 3) := by decide +kernel
theorem dX5_prepare_78 : decode cX5_prepare 78 = .ok (.if_icmp .lt 38, 3) := by decide +kernel
theorem dX5_prepare_81 : decode cX5_prepare 81 = .ok (.aload_n 0, 1) := by decide +kernel
theorem dX5_prepare_82 : decode cX5_prepare 82 = .ok (.getfield 32, 3) := by decide +kernel
theorem dX5_prepare_85 : decode cX5_prepare 85 = .ok (.iconst 1, 1) := by decide +kernel
theorem dX5_prepare_86 : decode cX5_prepare 86 = .ok (.putfield 81, 3) := by decide +kernel
theorem dX5_prepare_89 : decode cX5_prepare 89 = .ok (.aload_n 0, 1) := by decide +kernel
theorem dX5_prepare_90 : decode cX5_prepare 90 = .ok (.getfield 32, 3) := by decide +kernel
theorem dX5_prepare_93 : decode cX5_prepare 93 = .ok (.invokevirtual 104, 3) := by decide +kernel
theorem dX5_prepare_96 : decode cX5_prepare 96 = .ok (.aload_n 0, 1) := by decide +kernel
theorem dX5_prepare_97 : decode cX5_prepare 97 = .ok (.getfield 39, 3) := by decide +kernel
theorem dX5_prepare_100 : decode cX5_prepare 100 = .ok (.invokevirtual 117, 3) := by decide +kernel
theorem dX5_prepare_103 : decode cX5_prepare 103 = .ok (.aload_n 0, 1) := by decide +kernel
theorem dX5_prepare_104 : decode cX5_prepare 104 = .ok (.getfield 46, 3) := by decide +kernel
theorem dX5_prepare_107 : decode cX5_prepare 107 = .ok (.aload_n 0, 1) := by decide +kernel
theorem dX5_prepare_108 : decode cX5_prepare 108 = .ok (.getfield 9, 3) := by decide +kernel
theorem dX5_prepare_111 : decode cX5_prepare 111 = .ok (.bipush 100, 2) := by decide +kernel
theorem dX5_prepare_113 : decode cX5_prepare 113 = .ok (.invokevirtual 120, 3) := by decide +kernel
theorem dX5_prepare_116 : decode cX5_prepare 116 = .ok (.return_, 1) := by decide +kernel
set_option maxRecDepth 20000 in
theorem ggX5_trip_X2_append : GoodIn wsX5_trip wsX2_append := goodIn_r _ [11, 12, 13, 14, 15, 16, 17, 18, 39, 40, 41] (by decide +kernel) (by decide +kernel)
set_option maxRecDepth 20000 in
theorem gX5_trip_X2_append : GoodIn wsX5_trip (wsV RX5 120 RX2 yX2_append wsX2_append) := goodIn_app (goodIn_of _ (by decide +kernel)) ggX5_trip_X2_append
theorem dX5_trip_0 : decode cX5_trip 0 = .ok (.aload_n 0, 1) := by decide +kernel
theorem dX5_trip_1 : decode cX5_trip 1 = .ok (.getfield 32, 3) := by decide +kernel
theorem dX5_trip_4 : decode cX5_trip 4 = .ok (.iconst 0, 1) := by decide +kernel
theorem dX5_trip_5 : decode cX5_trip 5 = .ok (.putfield 81, 3) := by decide +kernel
theorem dX5_trip_8 : decode cX5_trip 8 = .ok (.aload_n 0, 1) := by decide +kernel
theorem dX5_trip_9 : decode cX5_trip 9 = .ok (.getfield 32, 3) := by decide +kernel
theorem dX5_trip_12 : decode cX5_trip 12 = .ok (.iconst 0, 1) := by decide +kernel
theorem dX5_trip_13 : decode cX5_trip 13 = .ok (.putfield 50, 3) := by decide +kernel
theorem dX5_trip_16 : decode cX5_trip 16 = .ok (.aload_n 0, 1) := by decide +kernel
theorem dX5_trip_17 : decode cX5_trip 17 = .ok (.getfield 32, 3) := by decide +kernel
theorem dX5_trip_20 : decode cX5_trip 20 = .ok (.iconst 0, 1) := by decide +kernel
theorem dX5_trip_21 : decode cX5_trip 21 = .ok (.putfield 111, 3) := by decide +kernel
theorem dX5_trip_24 : decode cX5_trip 24 = .ok (.aload_n 0, 1) := by decide +kernel
theorem dX5_trip_25 : decode cX5_trip 25 = .ok (.getfield 46, 3) := by decide +kernel
theorem dX5_trip_28 : decode cX5_trip 28 = .ok (.aload_n 0, 1) := by decide +kernel
theorem dX5_trip_29 : decode cX5_trip 29 = .ok (.getfield 9, 3) := by decide +kernel
theorem dX5_trip_32 : decode cX5_trip 32 = .ok (.iload_n 1, 1) := by decide +kernel
theorem dX5_trip_33 : decode cX5_trip 33 = .ok (.invokevirtual 120, 3) := by decide +kernel
theorem dX5_trip_36 : decode cX5_trip 36 = .ok (.return_, 1) := by decide +kernel
set_option maxRecDepth 20000 in
theorem ggX5_stopByCall_X2_append : GoodIn wsX5_stopByCall wsX2_append := goodIn_r _ [10, 11, 12, 13, 14, 15, 16, 17, 38, 39, 40] (by decide +kernel) (by decide +kernel)
set_option maxRecDepth 20000 in
theorem gX5_stopByCall_X2_append : GoodIn wsX5_stopByCall (wsV RX5 120 RX2 yX2_append wsX2_append) := goodIn_app (goodIn_of _ (by decide +kernel)) ggX5_stopByCall_X2_append
theorem dX5_stopByCall_0 : decode cX5_stopByCall 0 = .ok (.aload_n 0, 1) := by decide +kernel
theorem dX5_stopByCall_1 : decode cX5_stopByCall 1 = .ok (.getfield 32, 3) := by decide +kernel
theorem dX5_stopByCall_4 : decode cX5_stopByCall 4 = .ok (.getfield 81, 3) := by decide +kernel
theorem dX5_stopByCall_7 : decode cX5_stopByCall 7 = .ok (.iconst 1, 1) := by decide +kernel
theorem dX5_stopByCall_8 : decode cX5_stopByCall 8 = .ok (.if_icmp .ne 7, 3) := by decide +kernel
theorem dX5_stopByCall_11 : decode cX5_stopByCall 11 = .ok (.iconst 1, 1) := by decide +kernel
theorem dX5_stopByCall_12 : decode cX5_stopByCall 12 = .ok (.goto 4, 3) := by decide +kernel
theorem dX5_stopByCall_15 : decode cX5_stopByCall 15 = .ok (.iconst 0, 1) := by decide +kernel
theorem dX5_stopByCall_16 : decode cX5_stopByCall 16 = .ok (.istore_n 1, 1) := by decide +kernel
theorem dX5_stopByCall_17 : decode cX5_stopByCall 17 = .ok (.iload_n 1, 1) := by decide +kernel
theorem dX5_stopByCall_18 : decode cX5_stopByCall 18 = .ok (.ifCond .eq 16, 3) := by decide +kernel
theorem dX5_stopByCall_21 : decode cX5_stopByCall 21 = .ok (.aload_n 0, 1) := by decide +kernel
theorem dX5_stopByCall_22 : decode cX5_stopByCall 22 = .ok (.getfield 46, 3) := by decide +kernel
theorem dX5_stopByCall_25 : decode cX5_stopByCall 25 = .ok (.aload_n 0, 1) := by decide +kernel
theorem dX5_stopByCall_26 : decode cX5_stopByCall 26 = .ok (.getfield 9, 3) := by decide +kernel
theorem dX5_stopByCall_29 : decode cX5_stopByCall 29 = .ok (.bipush 102, 2) := by decide +kernel
theorem dX5_stopByCall_31 : decode cX5_stopByCall 31 = .ok (.invokevirtual 120, 3) := by decide +kernel
theorem dX5_stopByCall_34 : decode cX5_stopByCall 34 = .ok (.aload_n 0, 1) := by decide +kernel
theorem dX5_stopByCall_35 : decode cX5_stopByCall 35 = .ok (.getfield 32, 3) := by decide +kernel
theorem dX5_stopByCall_38 : decode cX5_stopByCall 38 = .ok (.iconst 2, 1) := by decide +kernel
theorem dX5_stopByCall_39 : decode cX5_stopByCall 39 = .ok (.putfield 81, 3) := by decide +kernel
theorem dX5_stopByCall_42 : decode cX5_stopByCall 42 = .ok (.aload_n 0, 1) := by decide +kernel
theorem dX5_stopByCall_43 : decode cX5_stopByCall 43 = .ok (.getfield 32, 3) := by decide +kernel
theorem dX5_stopByCall_46 : decode cX5_stopByCall 46 = .ok (.iconst 0, 1) := by decide +kernel
theorem dX5_stopByCall_47 : decode cX5_stopByCall 47 = .ok (.putfield 50, 3) := by decide +kernel
theorem dX5_stopByCall_50 : decode cX5_stopByCall 50 = .ok (.iload_n 1, 1) := by decide +kernel
theorem dX5_stopByCall_51 : decode cX5_stopByCall 51 = .ok (.ireturn, 1) := by decide +kernel
set_option maxRecDepth 20000 in
theorem ggX5_takeFrom_X1_takeFrom : GoodIn wsX5_takeFrom wsX1_takeFrom := goodIn_r _ [11, 12, 13, 14, 15, 16, 17, 18, 19, 20, 21, 22, 23, 10, 24, 93, 94, 95, 96, 97, 98, 99, 100, 101] (by decide +kernel) (by decide +kernel)
set_option maxRecDepth 20000 in
theorem gX5_takeFrom_X1_takeFrom : GoodIn wsX5_takeFrom (wsV RX5 123 RX1 yX1_takeFrom wsX1_takeFrom) := goodIn_app (goodIn_of _ (by decide +kernel)) ggX5_takeFrom_X1_takeFrom
set_option maxRecDepth 20000 in
theorem ggX5_takeFrom_X3_takeFrom : GoodIn wsX5_takeFrom wsX3_takeFrom := goodIn_r _ [29, 30, 31, 32, 33, 34, 35, 36, 37, 38, 39, 40, 41, 42, 43, 44, 45, 46, 47, 48, 49, 102, 103, 104, 105, 106, 107, 108, 109, 110] (by decide +kernel) (by decide +kernel)
set_option maxRecDepth 20000 in
theorem gX5_takeFrom_X3_takeFrom : GoodIn wsX5_takeFrom (wsV RX5 127 RX3 yX3_takeFrom wsX3_takeFrom) := goodIn_app (goodIn_of _ (by decide +kernel)) ggX5_takeFrom_X3_takeFrom
set_option maxRecDepth 20000 in
theorem ggX5_takeFrom_X0_takeFrom : GoodIn wsX5_takeFrom wsX0_takeFrom := goodIn_r _ [54, 55, 56, 57, 58, 59, 60, 61, 62, 63, 64, 65, 66, 67, 68, 111, 112, 113, 114, 115, 116, 117, 118, 119, 120, 121, 122, 123, 124] (by decide +kernel) (by decide +kernel)
set_option maxRecDepth 20000 in
theorem gX5_takeFrom_X0_takeFrom : GoodIn wsX5_takeFrom (wsV RX5 130 RX0 yX0_takeFrom wsX0_takeFrom) := goodIn_app (goodIn_of _ (by decide +kernel)) ggX5_takeFrom_X0_takeFrom
set_option maxRecDepth 20000 in
theorem ggX5_takeFrom_X4_takeFrom : GoodIn wsX5_takeFrom wsX4_takeFrom := goodIn_r _ [73, 74, 75, 76, 77, 78, 39, 40, 41, 42, 43, 44, 45, 46, 47, 48, 49, 125, 126, 127, 128, 129] (by decide +kernel) (by decide +kernel)
set_option maxRecDepth 20000 in
theorem gX5_takeFrom_X4_takeFrom : GoodIn wsX5_takeFrom (wsV RX5 133 RX4 yX4_takeFrom wsX4_takeFrom) := goodIn_app (goodIn_of _ (by decide +kernel)) ggX5_takeFrom_X4_takeFrom
set_option maxRecDepth 20000 in
theorem ggX5_takeFrom_X2_takeFrom : GoodIn wsX5_takeFrom wsX2_takeFrom := goodIn_r _ [83, 84, 85, 86, 39, 40, 41, 42, 43, 44, 45, 46, 47, 48, 49, 130, 131, 132] (by decide +kernel) (by decide +kernel)
set_option maxRecDepth 20000 in
theorem gX5_takeFrom_X2_takeFrom : GoodIn wsX5_takeFrom (wsV RX5 136 RX2 yX2_takeFrom wsX2_takeFrom) := goodIn_app (goodIn_of _ (by decide +kernel)) ggX5_takeFrom_X2_takeFrom
theorem dX5_takeFrom_0 : decode cX5_takeFrom 0 = .ok (.aload_n 0, 1) := by decide +kernel
theorem dX5_takeFrom_1 : decode cX5_takeFrom 1 = .ok (.aload_n 1, 1) := by decide +kernel
theorem dX5_takeFrom_2 : decode cX5_takeFrom 2 = .ok (.getfield 9, 3) := by decide +kernel
theorem dX5_takeFrom_5 : decode cX5_takeFrom 5 = .ok (.putfield 9, 3) := by decide +kernel
theorem dX5_takeFrom_8 : decode cX5_takeFrom 8 = .ok (.aload_n 0, 1) := by decide +kernel
theorem dX5_takeFrom_9 : decode cX5_takeFrom 9 = .ok (.getfield 18, 3) := by decide +kernel
theorem dX5_takeFrom_12 : decode cX5_takeFrom 12 = .ok (.aload_n 1, 1) := by decide +kernel
theorem dX5_takeFrom_13 : decode cX5_takeFrom 13 = .ok (.getfield 18, 3) := by decide +kernel
theorem dX5_takeFrom_16 : decode cX5_takeFrom 16 = .ok (.invokevirtual 123, 3) := by decide +kernel
theorem dX5_takeFrom_19 : decode cX5_takeFrom 19 = .ok (.aload_n 0, 1) := by decide +kernel
theorem dX5_takeFrom_20 : decode cX5_takeFrom 20 = .ok (.getfield 25, 3) := by decide +kernel
theorem dX5_takeFrom_23 : decode cX5_takeFrom 23 = .ok (.aload_n 1, 1) := by decide +kernel
theorem dX5_takeFrom_24 : decode cX5_takeFrom 24 = .ok (.getfield 25, 3) := by decide +kernel
theorem dX5_takeFrom_27 : decode cX5_takeFrom 27 = .ok (.invokevirtual 127, 3) := by decide +kernel
theorem dX5_takeFrom_30 : decode cX5_takeFrom 30 = .ok (.aload_n 0, 1) := by decide +kernel
theorem dX5_takeFrom_31 : decode cX5_takeFrom 31 = .ok (.getfield 32, 3) := by decide +kernel
theorem dX5_takeFrom_34 : decode cX5_takeFrom 34 = .ok (.aload_n 1, 1) := by decide +kernel
theorem dX5_takeFrom_35 : decode cX5_takeFrom 35 = .ok (.getfield 32, 3) := by decide +kernel
theorem dX5_takeFrom_38 : decode cX5_takeFrom 38 = .ok (.invokevirtual 130, 3) := by decide +kernel
theorem dX5_takeFrom_41 : decode cX5_takeFrom 41 = .ok (.aload_n 0, 1) := by decide +kernel
theorem dX5_takeFrom_42 : decode cX5_takeFrom 42 = .ok (.getfield 39, 3) := by decide +kernel
theorem dX5_takeFrom_45 : decode cX5_takeFrom 45 = .ok (.aload_n 1, 1) := by decide +kernel
theorem dX5_takeFrom_46 : decode cX5_takeFrom 46 = .ok (.getfield 39, 3) := by decide +kernel
theorem dX5_takeFrom_49 : decode cX5_takeFrom 49 = .ok (.invokevirtual 133, 3) := by decide +kernel
theorem dX5_takeFrom_52 : decode cX5_takeFrom 52 = .ok (.aload_n 0, 1) := by decide +kernel
theorem dX5_takeFrom_53 : decode cX5_takeFrom 53 = .ok (.getfield 46, 3) := by decide +kernel
theorem dX5_takeFrom_56 : decode cX5_takeFrom 56 = .ok (.aload_n 1, 1) := by decide +kernel
theorem dX5_takeFrom_57 : decode cX5_takeFrom 57 = .ok (.getfield 46, 3) := by decide +kernel
theorem dX5_takeFrom_60 : decode cX5_takeFrom 60 = .ok (.invokevirtual 136, 3) := by decide +kernel
theorem dX5_takeFrom_63 : decode cX5_takeFrom 63 = .ok (.return_, 1) := by decide +kernel
set_option maxRecDepth 20000 in
theorem ggX6_init_X5_init : GoodIn wsX6_init wsX5_init := goodIn_r _ [11, 12, 2, 3, 13, 14, 15, 16, 17, 18, 19, 20, 21, 22, 23, 24, 25, 26, 27, 28, 29, 30, 31, 32, 33, 34, 35, 36, 37, 38, 39, 40, 41, 42, 43, 44, 45, 46, 47, 48, 49, 50, 51, 52, 53, 54, 55, 56, 57, 58, 59, 60, 61, 62, 63, 64, 65, 66, 67, 68, 69, 70, 71, 72, 73, 74, 75, 76, 77, 78, 79, 80, 81, 82, 83, 84, 85, 86, 87, 88, 89, 90, 91, 92, 93, 94, 95, 96, 97, 98, 99, 100, 104, 105, 106, 107, 108, 109, 110, 111, 112, 113, 114, 115, 116, 117, 118, 119, 120, 121, 122, 123, 124, 125, 126, 127, 128, 129, 130, 131, 132, 133, 134, 135, 136, 137, 138, 139, 140, 141, 142, 143] (by decide +kernel) (by decide +kernel)
set_option maxRecDepth 20000 in
theorem gX6_init_X5_init_n9 : GoodIn wsX6_init (wsX5_init) := ggX6_init_X5_init
theorem dX6_init_0 : decode cX6_init 0 = .ok (.aload_n 0, 1) := by decide +kernel
theorem dX6_init_1 : decode cX6_init 1 = .ok (.invokespecial 1, 3) := by decide +kernel
theorem dX6_init_4 : decode cX6_init 4 = .ok (.aload_n 0, 1) := by decide +kernel
theorem dX6_init_5 : decode cX6_init 5 = .ok (.new 7, 3) := by decide +kernel
theorem dX6_init_8 : decode cX6_init 8 = .ok (.dup, 1) := by decide +kernel
theorem dX6_init_9 : decode cX6_init 9 = .ok (.invokespecial 9, 3) := by decide +kernel
theorem dX6_init_12 : decode cX6_init 12 = .ok (.putfield 10, 3) := by decide +kernel
theorem dX6_init_15 : decode cX6_init 15 = .ok (.aload_n 0, 1) := by decide +kernel
theorem dX6_init_16 : decode cX6_init 16 = .ok (.new 7, 3) := by decide +kernel
theorem dX6_init_19 : decode cX6_init 19 = .ok (.dup, 1) := by decide +kernel
theorem dX6_init_20 : decode cX6_init 20 = .ok (.invokespecial 9, 3) := by decide +kernel
theorem dX6_init_23 : decode cX6_init 23 = .ok (.putfield 16, 3) := by decide +kernel
theorem dX6_init_26 : decode cX6_init 26 = .ok (.aload_n 0, 1) := by decide +kernel
theorem dX6_init_27 : decode cX6_init 27 = .ok (.iconst 2, 1) := by decide +kernel
theorem dX6_init_28 : decode cX6_init 28 = .ok (.anewarray 7, 3) := by decide +kernel
theorem dX6_init_31 : decode cX6_init 31 = .ok (.putfield 19, 3) := by decide +kernel
theorem dX6_init_34 : decode cX6_init 34 = .ok (.return_, 1) := by decide +kernel
set_option maxRecDepth 20000 in
theorem ggX6_setGrid_X6_outside : GoodIn wsX6_setGrid wsX6_outside := goodIn_r _ [12] (by decide +kernel) (by decide +kernel)
set_option maxRecDepth 20000 in
theorem gX6_setGrid_X6_outside : GoodIn wsX6_setGrid (va_wsS RX6 23 yX6_outside wsX6_outside) := goodIn_app (goodIn_of _ (by decide +kernel)) ggX6_setGrid_X6_outside
theorem dX6_setGrid_0 : decode cX6_setGrid 0 = .ok (.iload_n 1, 1) := by decide +kernel
theorem dX6_setGrid_1 : decode cX6_setGrid 1 = .ok (.iconst 0, 1) := by decide +kernel
theorem dX6_setGrid_2 : decode cX6_setGrid 2 = .ok (.sipush 400, 3) := by decide +kernel
theorem dX6_setGrid_5 : decode cX6_setGrid 5 = .ok (.invokestatic 23, 3) := by decide +kernel
theorem dX6_setGrid_8 : decode cX6_setGrid 8 = .ok (.ifCond .ne 14, 3) := by decide +kernel
theorem dX6_setGrid_11 : decode cX6_setGrid 11 = .ok (.iload_n 2, 1) := by decide +kernel
theorem dX6_setGrid_12 : decode cX6_setGrid 12 = .ok (.ldc 27, 2) := by decide +kernel
theorem dX6_setGrid_14 : decode cX6_setGrid 14 = .ok (.ldc 28, 2) := by decide +kernel
theorem dX6_setGrid_16 : decode cX6_setGrid 16 = .ok (.invokestatic 23, 3) := by decide +kernel
theorem dX6_setGrid_19 : decode cX6_setGrid 19 = .ok (.ifCond .eq 13, 3) := by decide +kernel
theorem dX6_setGrid_22 : decode cX6_setGrid 22 = .ok (.new 29, 3) := by decide +kernel
theorem dX6_setGrid_25 : decode cX6_setGrid 25 = .ok (.dup, 1) := by decide +kernel
theorem dX6_setGrid_26 : decode cX6_setGrid 26 = .ok (.ldc 31, 2) := by decide +kernel
theorem dX6_setGrid_28 : decode cX6_setGrid 28 = .ok (.invokespecial 33, 3) := by decide +kernel
theorem dX6_setGrid_31 : decode cX6_setGrid 31 = .ok (.athrow, 1) := by decide +kernel
theorem dX6_setGrid_32 : decode cX6_setGrid 32 = .ok (.aload_n 0, 1) := by decide +kernel
theorem dX6_setGrid_33 : decode cX6_setGrid 33 = .ok (.getfield 10, 3) := by decide +kernel
theorem dX6_setGrid_36 : decode cX6_setGrid 36 = .ok (.getfield 36, 3) := by decide +kernel
theorem dX6_setGrid_39 : decode cX6_setGrid 39 = .ok (.iload_n 1, 1) := by decide +kernel
theorem dX6_setGrid_40 : decode cX6_setGrid 40 = .ok (.putfield 40, 3) := by decide +kernel
theorem dX6_setGrid_43 : decode cX6_setGrid 43 = .ok (.aload_n 0, 1) := by decide +kernel
theorem dX6_setGrid_44 : decode cX6_setGrid 44 = .ok (.getfield 10, 3) := by decide +kernel
theorem dX6_setGrid_47 : decode cX6_setGrid 47 = .ok (.getfield 36, 3) := by decide +kernel
theorem dX6_setGrid_50 : decode cX6_setGrid 50 = .ok (.iload_n 2, 1) := by decide +kernel
theorem dX6_setGrid_51 : decode cX6_setGrid 51 = .ok (.putfield 46, 3) := by decide +kernel
theorem dX6_setGrid_54 : decode cX6_setGrid 54 = .ok (.return_, 1) := by decide +kernel
set_option maxRecDepth 20000 in
theorem ggX6_jump_X6_outside : GoodIn wsX6_jump wsX6_outside := goodIn_r _ [11] (by decide +kernel) (by decide +kernel)
set_option maxRecDepth 20000 in
theorem gX6_jump_X6_outside : GoodIn wsX6_jump (va_wsS RX6 23 yX6_outside wsX6_outside) := goodIn_app (goodIn_of _ (by decide +kernel)) ggX6_jump_X6_outside
set_option maxRecDepth 20000 in
theorem ggX6_jump_X1_turn : GoodIn wsX6_jump wsX1_turn := goodIn_r _ [16, 17, 18, 19, 20, 21, 22, 32, 33, 34, 35, 36, 37, 38, 39, 40] (by decide +kernel) (by decide +kernel)
set_option maxRecDepth 20000 in
theorem gX6_jump_X1_turn : GoodIn wsX6_jump (wsV RX6 53 RX1 yX1_turn wsX1_turn) := goodIn_app (goodIn_of _ (by decide +kernel)) ggX6_jump_X1_turn
theorem dX6_jump_0 : decode cX6_jump 0 = .ok (.iload_n 1, 1) := by decide +kernel
theorem dX6_jump_1 : decode cX6_jump 1 = .ok (.ldc 49, 2) := by decide +kernel
theorem dX6_jump_3 : decode cX6_jump 3 = .ok (.ldc 50, 2) := by decide +kernel
theorem dX6_jump_5 : decode cX6_jump 5 = .ok (.invokestatic 23, 3) := by decide +kernel
theorem dX6_jump_8 : decode cX6_jump 8 = .ok (.ifCond .eq 13, 3) := by decide +kernel
theorem dX6_jump_11 : decode cX6_jump 11 = .ok (.new 29, 3) := by decide +kernel
theorem dX6_jump_14 : decode cX6_jump 14 = .ok (.dup, 1) := by decide +kernel
theorem dX6_jump_15 : decode cX6_jump 15 = .ok (.ldc 51, 2) := by decide +kernel
theorem dX6_jump_17 : decode cX6_jump 17 = .ok (.invokespecial 33, 3) := by decide +kernel
theorem dX6_jump_20 : decode cX6_jump 20 = .ok (.athrow, 1) := by decide +kernel
theorem dX6_jump_21 : decode cX6_jump 21 = .ok (.aload_n 0, 1) := by decide +kernel
theorem dX6_jump_22 : decode cX6_jump 22 = .ok (.getfield 10, 3) := by decide +kernel
theorem dX6_jump_25 : decode cX6_jump 25 = .ok (.getfield 36, 3) := by decide +kernel
theorem dX6_jump_28 : decode cX6_jump 28 = .ok (.iload_n 1, 1) := by decide +kernel
theorem dX6_jump_29 : decode cX6_jump 29 = .ok (.invokevirtual 53, 3) := by decide +kernel
theorem dX6_jump_32 : decode cX6_jump 32 = .ok (.aload_n 0, 1) := by decide +kernel
theorem dX6_jump_33 : decode cX6_jump 33 = .ok (.getfield 10, 3) := by decide +kernel
theorem dX6_jump_36 : decode cX6_jump 36 = .ok (.getfield 36, 3) := by decide +kernel
theorem dX6_jump_39 : decode cX6_jump 39 = .ok (.getfield 57, 3) := by decide +kernel
theorem dX6_jump_42 : decode cX6_jump 42 = .ok (.ireturn, 1) := by decide +kernel
theorem dX6_connect_0 : decode cX6_connect 0 = .ok (.aload_n 0, 1) := by decide +kernel
theorem dX6_connect_1 : decode cX6_connect 1 = .ok (.getfield 10, 3) := by decide +kernel
theorem dX6_connect_4 : decode cX6_connect 4 = .ok (.getfield 36, 3) := by decide +kernel
theorem dX6_connect_7 : decode cX6_connect 7 = .ok (.getfield 60, 3) := by decide +kernel
theorem dX6_connect_10 : decode cX6_connect 10 = .ok (.istore_n 2, 1) := by decide +kernel
theorem dX6_connect_11 : decode cX6_connect 11 = .ok (.aload_n 0, 1) := by decide +kernel
theorem dX6_connect_12 : decode cX6_connect 12 = .ok (.getfield 10, 3) := by decide +kernel
theorem dX6_connect_15 : decode cX6_connect 15 = .ok (.getfield 36, 3) := by decide +kernel
theorem dX6_connect_18 : decode cX6_connect 18 = .ok (.iload_n 1, 1) := by decide +kernel
theorem dX6_connect_19 : decode cX6_connect 19 = .ok (.putfield 60, 3) := by decide +kernel
theorem dX6_connect_22 : decode cX6_connect 22 = .ok (.iload_n 2, 1) := by decide +kernel
theorem dX6_connect_23 : decode cX6_connect 23 = .ok (.ireturn, 1) := by decide +kernel
set_option maxRecDepth 20000 in
theorem ggX6_setLoad_X6_badIsland : GoodIn wsX6_setLoad wsX6_badIsland := goodIn_r _ [8, 9, 10, 11, 12, 7, 13] (by decide +kernel) (by decide +kernel)
set_option maxRecDepth 20000 in
theorem gX6_setLoad_X6_badIsland : GoodIn wsX6_setLoad (va_wsS RX6 64 yX6_badIsland wsX6_badIsland) := goodIn_app (goodIn_of _ (by decide +kernel)) ggX6_setLoad_X6_badIsland
set_option maxRecDepth 20000 in
theorem ggX6_setLoad_X1_becomeIsland : GoodIn wsX6_setLoad wsX1_becomeIsland := goodIn_r _ [18, 19, 20, 21, 31, 32, 33, 34, 35, 36, 37, 38, 39] (by decide +kernel) (by decide +kernel)
set_option maxRecDepth 20000 in
theorem gX6_setLoad_X1_becomeIsland : GoodIn wsX6_setLoad (wsV RX6 69 RX1 yX1_becomeIsland wsX1_becomeIsland) := goodIn_app (goodIn_of _ (by decide +kernel)) ggX6_setLoad_X1_becomeIsland
theorem dX6_setLoad_0 : decode cX6_setLoad 0 = .ok (.iload_n 1, 1) := by decide +kernel
theorem dX6_setLoad_1 : decode cX6_setLoad 1 = .ok (.iload_n 2, 1) := by decide +kernel
theorem dX6_setLoad_2 : decode cX6_setLoad 2 = .ok (.iload_n 3, 1) := by decide +kernel
theorem dX6_setLoad_3 : decode cX6_setLoad 3 = .ok (.invokestatic 64, 3) := by decide +kernel
theorem dX6_setLoad_6 : decode cX6_setLoad 6 = .ok (.ifCond .eq 13, 3) := by decide +kernel
theorem dX6_setLoad_9 : decode cX6_setLoad 9 = .ok (.new 29, 3) := by decide +kernel
theorem dX6_setLoad_12 : decode cX6_setLoad 12 = .ok (.dup, 1) := by decide +kernel
theorem dX6_setLoad_13 : decode cX6_setLoad 13 = .ok (.ldc 67, 2) := by decide +kernel
theorem dX6_setLoad_15 : decode cX6_setLoad 15 = .ok (.invokespecial 33, 3) := by decide +kernel
theorem dX6_setLoad_18 : decode cX6_setLoad 18 = .ok (.athrow, 1) := by decide +kernel
theorem dX6_setLoad_19 : decode cX6_setLoad 19 = .ok (.aload_n 0, 1) := by decide +kernel
theorem dX6_setLoad_20 : decode cX6_setLoad 20 = .ok (.getfield 10, 3) := by decide +kernel
theorem dX6_setLoad_23 : decode cX6_setLoad 23 = .ok (.getfield 36, 3) := by decide +kernel
theorem dX6_setLoad_26 : decode cX6_setLoad 26 = .ok (.iload_n 1, 1) := by decide +kernel
theorem dX6_setLoad_27 : decode cX6_setLoad 27 = .ok (.iload_n 2, 1) := by decide +kernel
theorem dX6_setLoad_28 : decode cX6_setLoad 28 = .ok (.iload_n 3, 1) := by decide +kernel
theorem dX6_setLoad_29 : decode cX6_setLoad 29 = .ok (.invokevirtual 69, 3) := by decide +kernel
theorem dX6_setLoad_32 : decode cX6_setLoad 32 = .ok (.return_, 1) := by decide +kernel
set_option maxRecDepth 20000 in
theorem ggX6_setLoop_X6_outside : GoodIn wsX6_setLoop wsX6_outside := goodIn_r _ [10] (by decide +kernel) (by decide +kernel)
set_option maxRecDepth 20000 in
theorem gX6_setLoop_X6_outside : GoodIn wsX6_setLoop (va_wsS RX6 23 yX6_outside wsX6_outside) := goodIn_app (goodIn_of _ (by decide +kernel)) ggX6_setLoop_X6_outside
theorem dX6_setLoop_0 : decode cX6_setLoop 0 = .ok (.iload_n 1, 1) := by decide +kernel
theorem dX6_setLoop_1 : decode cX6_setLoop 1 = .ok (.iconst 1, 1) := by decide +kernel
theorem dX6_setLoop_2 : decode cX6_setLoop 2 = .ok (.sipush 1000, 3) := by decide +kernel
theorem dX6_setLoop_5 : decode cX6_setLoop 5 = .ok (.invokestatic 23, 3) := by decide +kernel
theorem dX6_setLoop_8 : decode cX6_setLoop 8 = .ok (.ifCond .ne 14, 3) := by decide +kernel
theorem dX6_setLoop_11 : decode cX6_setLoop 11 = .ok (.iload_n 2, 1) := by decide +kernel
theorem dX6_setLoop_12 : decode cX6_setLoop 12 = .ok (.iconst 0, 1) := by decide +kernel
theorem dX6_setLoop_13 : decode cX6_setLoop 13 = .ok (.sipush 500, 3) := by decide +kernel
theorem dX6_setLoop_16 : decode cX6_setLoop 16 = .ok (.invokestatic 23, 3) := by decide +kernel
theorem dX6_setLoop_19 : decode cX6_setLoop 19 = .ok (.ifCond .eq 13, 3) := by decide +kernel
theorem dX6_setLoop_22 : decode cX6_setLoop 22 = .ok (.new 29, 3) := by decide +kernel
theorem dX6_setLoop_25 : decode cX6_setLoop 25 = .ok (.dup, 1) := by decide +kernel
theorem dX6_setLoop_26 : decode cX6_setLoop 26 = .ok (.ldc 73, 2) := by decide +kernel
theorem dX6_setLoop_28 : decode cX6_setLoop 28 = .ok (.invokespecial 33, 3) := by decide +kernel
theorem dX6_setLoop_31 : decode cX6_setLoop 31 = .ok (.athrow, 1) := by decide +kernel
theorem dX6_setLoop_32 : decode cX6_setLoop 32 = .ok (.aload_n 0, 1) := by decide +kernel
theorem dX6_setLoop_33 : decode cX6_setLoop 33 = .ok (.getfield 10, 3) := by decide +kernel
theorem dX6_setLoop_36 : decode cX6_setLoop 36 = .ok (.getfield 75, 3) := by decide +kernel
theorem dX6_setLoop_39 : decode cX6_setLoop 39 = .ok (.iload_n 1, 1) := by decide +kernel
theorem dX6_setLoop_40 : decode cX6_setLoop 40 = .ok (.putfield 79, 3) := by decide +kernel
theorem dX6_setLoop_43 : decode cX6_setLoop 43 = .ok (.aload_n 0, 1) := by decide +kernel
theorem dX6_setLoop_44 : decode cX6_setLoop 44 = .ok (.getfield 10, 3) := by decide +kernel
theorem dX6_setLoop_47 : decode cX6_setLoop 47 = .ok (.getfield 75, 3) := by decide +kernel
theorem dX6_setLoop_50 : decode cX6_setLoop 50 = .ok (.iload_n 2, 1) := by decide +kernel
theorem dX6_setLoop_51 : decode cX6_setLoop 51 = .ok (.putfield 84, 3) := by decide +kernel
theorem dX6_setLoop_54 : decode cX6_setLoop 54 = .ok (.return_, 1) := by decide +kernel
set_option maxRecDepth 20000 in
theorem ggX6_setLock_X6_outside : GoodIn wsX6_setLock wsX6_outside := goodIn_r _ [11] (by decide +kernel) (by decide +kernel)
set_option maxRecDepth 20000 in
theorem gX6_setLock_X6_outside : GoodIn wsX6_setLock (va_wsS RX6 23 yX6_outside wsX6_outside) := goodIn_app (goodIn_of _ (by decide +kernel)) ggX6_setLock_X6_outside
theorem dX6_setLock_0 : decode cX6_setLock 0 = .ok (.iload_n 1, 1) := by decide +kernel
theorem dX6_setLock_1 : decode cX6_setLock 1 = .ok (.bipush 100, 2) := by decide +kernel
theorem dX6_setLock_3 : decode cX6_setLock 3 = .ok (.ldc 87, 2) := by decide +kernel
theorem dX6_setLock_5 : decode cX6_setLock 5 = .ok (.invokestatic 23, 3) := by decide +kernel
theorem dX6_setLock_8 : decode cX6_setLock 8 = .ok (.ifCond .ne 14, 3) := by decide +kernel
theorem dX6_setLock_11 : decode cX6_setLock 11 = .ok (.iload_n 2, 1) := by decide +kernel
theorem dX6_setLock_12 : decode cX6_setLock 12 = .ok (.iconst 1, 1) := by decide +kernel
theorem dX6_setLock_13 : decode cX6_setLock 13 = .ok (.sipush 500, 3) := by decide +kernel
theorem dX6_setLock_16 : decode cX6_setLock 16 = .ok (.invokestatic 23, 3) := by decide +kernel
theorem dX6_setLock_19 : decode cX6_setLock 19 = .ok (.ifCond .eq 13, 3) := by decide +kernel
theorem dX6_setLock_22 : decode cX6_setLock 22 = .ok (.new 29, 3) := by decide +kernel
theorem dX6_setLock_25 : decode cX6_setLock 25 = .ok (.dup, 1) := by decide +kernel
theorem dX6_setLock_26 : decode cX6_setLock 26 = .ok (.ldc 88, 2) := by decide +kernel
theorem dX6_setLock_28 : decode cX6_setLock 28 = .ok (.invokespecial 33, 3) := by decide +kernel
theorem dX6_setLock_31 : decode cX6_setLock 31 = .ok (.athrow, 1) := by decide +kernel
theorem dX6_setLock_32 : decode cX6_setLock 32 = .ok (.aload_n 0, 1) := by decide +kernel
theorem dX6_setLock_33 : decode cX6_setLock 33 = .ok (.getfield 10, 3) := by decide +kernel
theorem dX6_setLock_36 : decode cX6_setLock 36 = .ok (.getfield 75, 3) := by decide +kernel
theorem dX6_setLock_39 : decode cX6_setLock 39 = .ok (.iload_n 1, 1) := by decide +kernel
theorem dX6_setLock_40 : decode cX6_setLock 40 = .ok (.putfield 90, 3) := by decide +kernel
theorem dX6_setLock_43 : decode cX6_setLock 43 = .ok (.aload_n 0, 1) := by decide +kernel
theorem dX6_setLock_44 : decode cX6_setLock 44 = .ok (.getfield 10, 3) := by decide +kernel
theorem dX6_setLock_47 : decode cX6_setLock 47 = .ok (.getfield 75, 3) := by decide +kernel
theorem dX6_setLock_50 : decode cX6_setLock 50 = .ok (.iload_n 2, 1) := by decide +kernel
theorem dX6_setLock_51 : decode cX6_setLock 51 = .ok (.putfield 93, 3) := by decide +kernel
theorem dX6_setLock_54 : decode cX6_setLock 54 = .ok (.return_, 1) := by decide +kernel
set_option maxRecDepth 20000 in
theorem ggX6_setWindow_X6_outside : GoodIn wsX6_setWindow wsX6_outside := goodIn_r _ [14] (by decide +kernel) (by decide +kernel)
set_option maxRecDepth 20000 in
theorem gX6_setWindow_X6_outside : GoodIn wsX6_setWindow (va_wsS RX6 23 yX6_outside wsX6_outside) := goodIn_app (goodIn_of _ (by decide +kernel)) ggX6_setWindow_X6_outside
theorem dX6_setWindow_0 : decode cX6_setWindow 0 = .ok (.iload_n 1, 1) := by decide +kernel
theorem dX6_setWindow_1 : decode cX6_setWindow 1 = .ok (.iconst 0, 1) := by decide +kernel
theorem dX6_setWindow_2 : decode cX6_setWindow 2 = .ok (.sipush 400, 3) := by decide +kernel
theorem dX6_setWindow_5 : decode cX6_setWindow 5 = .ok (.invokestatic 23, 3) := by decide +kernel
theorem dX6_setWindow_8 : decode cX6_setWindow 8 = .ok (.ifCond .ne 36, 3) := by decide +kernel
theorem dX6_setWindow_11 : decode cX6_setWindow 11 = .ok (.iload_n 2, 1) := by decide +kernel
theorem dX6_setWindow_12 : decode cX6_setWindow 12 = .ok (.iload_n 1, 1) := by decide +kernel
theorem dX6_setWindow_13 : decode cX6_setWindow 13 = .ok (.sipush 400, 3) := by decide +kernel
theorem dX6_setWindow_16 : decode cX6_setWindow 16 = .ok (.invokestatic 23, 3) := by decide +kernel
theorem dX6_setWindow_19 : decode cX6_setWindow 19 = .ok (.ifCond .ne 25, 3) := by decide +kernel
theorem dX6_setWindow_22 : decode cX6_setWindow 22 = .ok (.iload_n 3, 1) := by decide +kernel
theorem dX6_setWindow_23 : decode cX6_setWindow 23 = .ok (.ldc 96, 2) := by decide +kernel
theorem dX6_setWindow_25 : decode cX6_setWindow 25 = .ok (.ldc 97, 2) := by decide +kernel
theorem dX6_setWindow_27 : decode cX6_setWindow 27 = .ok (.invokestatic 23, 3) := by decide +kernel
theorem dX6_setWindow_30 : decode cX6_setWindow 30 = .ok (.ifCond .ne 14, 3) := by decide +kernel
theorem dX6_setWindow_33 : decode cX6_setWindow 33 = .ok (.iload 4, 2) := by decide +kernel
theorem dX6_setWindow_35 : decode cX6_setWindow 35 = .ok (.iload_n 3, 1) := by decide +kernel
theorem dX6_setWindow_36 : decode cX6_setWindow 36 = .ok (.ldc 97, 2) := by decide +kernel
theorem dX6_setWindow_38 : decode cX6_setWindow 38 = .ok (.invokestatic 23, 3) := by decide +kernel
theorem dX6_setWindow_41 : decode cX6_setWindow 41 = .ok (.ifCond .eq 13, 3) := by decide +kernel
theorem dX6_setWindow_44 : decode cX6_setWindow 44 = .ok (.new 29, 3) := by decide +kernel
theorem dX6_setWindow_47 : decode cX6_setWindow 47 = .ok (.dup, 1) := by decide +kernel
theorem dX6_setWindow_48 : decode cX6_setWindow 48 = .ok (.ldc 98, 2) := by decide +kernel
theorem dX6_setWindow_50 : decode cX6_setWindow 50 = .ok (.invokespecial 33, 3) := by decide +kernel
theorem dX6_setWindow_53 : decode cX6_setWindow 53 = .ok (.athrow, 1) := by decide +kernel
theorem dX6_setWindow_54 : decode cX6_setWindow 54 = .ok (.aload_n 0, 1) := by decide +kernel
theorem dX6_setWindow_55 : decode cX6_setWindow 55 = .ok (.getfield 10, 3) := by decide +kernel
theorem dX6_setWindow_58 : decode cX6_setWindow 58 = .ok (.getfield 100, 3) := by decide +kernel
theorem dX6_setWindow_61 : decode cX6_setWindow 61 = .ok (.astore 5, 2) := by decide +kernel
theorem dX6_setWindow_63 : decode cX6_setWindow 63 = .ok (.aload 5, 2) := by decide +kernel
theorem dX6_setWindow_65 : decode cX6_setWindow 65 = .ok (.iload_n 1, 1) := by decide +kernel
theorem dX6_setWindow_66 : decode cX6_setWindow 66 = .ok (.putfield 104, 3) := by decide +kernel
theorem dX6_setWindow_69 : decode cX6_setWindow 69 = .ok (.aload 5, 2) := by decide +kernel
theorem dX6_setWindow_71 : decode cX6_setWindow 71 = .ok (.iload_n 2, 1) := by decide +kernel
theorem dX6_setWindow_72 : decode cX6_setWindow 72 = .ok (.putfield 109, 3) := by decide +kernel
theorem dX6_setWindow_75 : decode cX6_setWindow 75 = .ok (.aload 5, 2) := by decide +kernel
theorem dX6_setWindow_77 : decode cX6_setWindow 77 = .ok (.iload_n 3, 1) := by decide +kernel
theorem dX6_setWindow_78 : decode cX6_setWindow 78 = .ok (.putfield 112, 3) := by decide +kernel
theorem dX6_setWindow_81 : decode cX6_setWindow 81 = .ok (.aload 5, 2) := by decide +kernel
theorem dX6_setWindow_83 : decode cX6_setWindow 83 = .ok (.iload 4, 2) := by decide +kernel
theorem dX6_setWindow_85 : decode cX6_setWindow 85 = .ok (.putfield 115, 3) := by decide +kernel
theorem dX6_setWindow_88 : decode cX6_setWindow 88 = .ok (.return_, 1) := by decide +kernel
set_option maxRecDepth 20000 in
theorem ggX6_setPower_X6_outside : GoodIn wsX6_setPower wsX6_outside := goodIn_r _ [11] (by decide +kernel) (by decide +kernel)
set_option maxRecDepth 20000 in
theorem gX6_setPower_X6_outside : GoodIn wsX6_setPower (va_wsS RX6 23 yX6_outside wsX6_outside) := goodIn_app (goodIn_of _ (by decide +kernel)) ggX6_setPower_X6_outside
theorem dX6_setPower_0 : decode cX6_setPower 0 = .ok (.iload_n 1, 1) := by decide +kernel
theorem dX6_setPower_1 : decode cX6_setPower 1 = .ok (.iconst 1, 1) := by decide +kernel
theorem dX6_setPower_2 : decode cX6_setPower 2 = .ok (.sipush 10000, 3) := by decide +kernel
theorem dX6_setPower_5 : decode cX6_setPower 5 = .ok (.invokestatic 23, 3) := by decide +kernel
theorem dX6_setPower_8 : decode cX6_setPower 8 = .ok (.ifCond .ne 25, 3) := by decide +kernel
theorem dX6_setPower_11 : decode cX6_setPower 11 = .ok (.iload_n 2, 1) := by decide +kernel
