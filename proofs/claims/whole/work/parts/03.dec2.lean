theorem dX6_setPower_12 : decode cX6_setPower 12 = .ok (.iconst 1, 1) := by decide +kernel
theorem dX6_setPower_13 : decode cX6_setPower 13 = .ok (.sipush 5000, 3) := by decide +kernel
theorem dX6_setPower_16 : decode cX6_setPower 16 = .ok (.invokestatic 23, 3) := by decide +kernel
theorem dX6_setPower_19 : decode cX6_setPower 19 = .ok (.ifCond .ne 14, 3) := by decide +kernel
theorem dX6_setPower_22 : decode cX6_setPower 22 = .ok (.iload_n 3, 1) := by decide +kernel
theorem dX6_setPower_23 : decode cX6_setPower 23 = .ok (.iconst 1, 1) := by decide +kernel
theorem dX6_setPower_24 : decode cX6_setPower 24 = .ok (.sipush 5000, 3) := by decide +kernel
theorem dX6_setPower_27 : decode cX6_setPower 27 = .ok (.invokestatic 23, 3) := by decide +kernel
theorem dX6_setPower_30 : decode cX6_setPower 30 = .ok (.ifCond .eq 13, 3) := by decide +kernel
theorem dX6_setPower_33 : decode cX6_setPower 33 = .ok (.new 29, 3) := by decide +kernel
theorem dX6_setPower_36 : decode cX6_setPower 36 = .ok (.dup, 1) := by decide +kernel
theorem dX6_setPower_37 : decode cX6_setPower 37 = .ok (.ldc 118, 2) := by decide +kernel
theorem dX6_setPower_39 : decode cX6_setPower 39 = .ok (.invokespecial 33, 3) := by decide +kernel
theorem dX6_setPower_42 : decode cX6_setPower 42 = .ok (.athrow, 1) := by decide +kernel
theorem dX6_setPower_43 : decode cX6_setPower 43 = .ok (.aload_n 0, 1) := by decide +kernel
theorem dX6_setPower_44 : decode cX6_setPower 44 = .ok (.getfield 10, 3) := by decide +kernel
theorem dX6_setPower_47 : decode cX6_setPower 47 = .ok (.getfield 100, 3) := by decide +kernel
theorem dX6_setPower_50 : decode cX6_setPower 50 = .ok (.iload_n 1, 1) := by decide +kernel
theorem dX6_setPower_51 : decode cX6_setPower 51 = .ok (.putfield 120, 3) := by decide +kernel
theorem dX6_setPower_54 : decode cX6_setPower 54 = .ok (.aload_n 0, 1) := by decide +kernel
theorem dX6_setPower_55 : decode cX6_setPower 55 = .ok (.getfield 10, 3) := by decide +kernel
theorem dX6_setPower_58 : decode cX6_setPower 58 = .ok (.getfield 100, 3) := by decide +kernel
theorem dX6_setPower_61 : decode cX6_setPower 61 = .ok (.iload_n 2, 1) := by decide +kernel
theorem dX6_setPower_62 : decode cX6_setPower 62 = .ok (.putfield 123, 3) := by decide +kernel
theorem dX6_setPower_65 : decode cX6_setPower 65 = .ok (.aload_n 0, 1) := by decide +kernel
theorem dX6_setPower_66 : decode cX6_setPower 66 = .ok (.getfield 10, 3) := by decide +kernel
theorem dX6_setPower_69 : decode cX6_setPower 69 = .ok (.getfield 100, 3) := by decide +kernel
theorem dX6_setPower_72 : decode cX6_setPower 72 = .ok (.iload_n 3, 1) := by decide +kernel
theorem dX6_setPower_73 : decode cX6_setPower 73 = .ok (.putfield 126, 3) := by decide +kernel
theorem dX6_setPower_76 : decode cX6_setPower 76 = .ok (.return_, 1) := by decide +kernel
set_option maxRecDepth 20000 in
theorem ggX6_setDrift_X6_outside : GoodIn wsX6_setDrift wsX6_outside := goodIn_r _ [10] (by decide +kernel) (by decide +kernel)
set_option maxRecDepth 20000 in
theorem gX6_setDrift_X6_outside : GoodIn wsX6_setDrift (va_wsS RX6 23 yX6_outside wsX6_outside) := goodIn_app (goodIn_of _ (by decide +kernel)) ggX6_setDrift_X6_outside
theorem dX6_setDrift_0 : decode cX6_setDrift 0 = .ok (.iload_n 1, 1) := by decide +kernel
theorem dX6_setDrift_1 : decode cX6_setDrift 1 = .ok (.sipush (-500), 3) := by decide +kernel
theorem dX6_setDrift_4 : decode cX6_setDrift 4 = .ok (.sipush 500, 3) := by decide +kernel
theorem dX6_setDrift_7 : decode cX6_setDrift 7 = .ok (.invokestatic 23, 3) := by decide +kernel
theorem dX6_setDrift_10 : decode cX6_setDrift 10 = .ok (.ifCond .ne 13, 3) := by decide +kernel
theorem dX6_setDrift_13 : decode cX6_setDrift 13 = .ok (.iload_n 2, 1) := by decide +kernel
theorem dX6_setDrift_14 : decode cX6_setDrift 14 = .ok (.iconst 0, 1) := by decide +kernel
theorem dX6_setDrift_15 : decode cX6_setDrift 15 = .ok (.bipush 100, 2) := by decide +kernel
theorem dX6_setDrift_17 : decode cX6_setDrift 17 = .ok (.invokestatic 23, 3) := by decide +kernel
theorem dX6_setDrift_20 : decode cX6_setDrift 20 = .ok (.ifCond .eq 13, 3) := by decide +kernel
theorem dX6_setDrift_23 : decode cX6_setDrift 23 = .ok (.new 29, 3) := by decide +kernel
theorem dX6_setDrift_26 : decode cX6_setDrift 26 = .ok (.dup, 1) := by decide +kernel
theorem dX6_setDrift_27 : decode cX6_setDrift 27 = .ok (.ldc 129, 2) := by decide +kernel
theorem dX6_setDrift_29 : decode cX6_setDrift 29 = .ok (.invokespecial 33, 3) := by decide +kernel
theorem dX6_setDrift_32 : decode cX6_setDrift 32 = .ok (.athrow, 1) := by decide +kernel
theorem dX6_setDrift_33 : decode cX6_setDrift 33 = .ok (.aload_n 0, 1) := by decide +kernel
theorem dX6_setDrift_34 : decode cX6_setDrift 34 = .ok (.getfield 10, 3) := by decide +kernel
theorem dX6_setDrift_37 : decode cX6_setDrift 37 = .ok (.getfield 100, 3) := by decide +kernel
theorem dX6_setDrift_40 : decode cX6_setDrift 40 = .ok (.iload_n 1, 1) := by decide +kernel
theorem dX6_setDrift_41 : decode cX6_setDrift 41 = .ok (.putfield 131, 3) := by decide +kernel
theorem dX6_setDrift_44 : decode cX6_setDrift 44 = .ok (.aload_n 0, 1) := by decide +kernel
theorem dX6_setDrift_45 : decode cX6_setDrift 45 = .ok (.getfield 10, 3) := by decide +kernel
theorem dX6_setDrift_48 : decode cX6_setDrift 48 = .ok (.getfield 100, 3) := by decide +kernel
theorem dX6_setDrift_51 : decode cX6_setDrift 51 = .ok (.iload_n 2, 1) := by decide +kernel
theorem dX6_setDrift_52 : decode cX6_setDrift 52 = .ok (.putfield 134, 3) := by decide +kernel
theorem dX6_setDrift_55 : decode cX6_setDrift 55 = .ok (.return_, 1) := by decide +kernel
set_option maxRecDepth 20000 in
theorem ggX6_addRule_X6_outside : GoodIn wsX6_addRule wsX6_outside := goodIn_r _ [11] (by decide +kernel) (by decide +kernel)
set_option maxRecDepth 20000 in
theorem gX6_addRule_X6_outside : GoodIn wsX6_addRule (va_wsS RX6 23 yX6_outside wsX6_outside) := goodIn_app (goodIn_of _ (by decide +kernel)) ggX6_addRule_X6_outside
set_option maxRecDepth 20000 in
theorem ggX6_addRule_X4_append : GoodIn wsX6_addRule wsX4_append := goodIn_r _ [16, 17, 18, 19, 20, 21, 9, 10, 11, 31, 32, 33, 34, 35] (by decide +kernel) (by decide +kernel)
set_option maxRecDepth 20000 in
theorem gX6_addRule_X4_append : GoodIn wsX6_addRule (wsV RX6 143 RX4 yX4_append wsX4_append) := goodIn_app (goodIn_of _ (by decide +kernel)) ggX6_addRule_X4_append
theorem dX6_addRule_0 : decode cX6_addRule 0 = .ok (.iload_n 1, 1) := by decide +kernel
theorem dX6_addRule_1 : decode cX6_addRule 1 = .ok (.iconst 0, 1) := by decide +kernel
theorem dX6_addRule_2 : decode cX6_addRule 2 = .ok (.iconst 4, 1) := by decide +kernel
theorem dX6_addRule_3 : decode cX6_addRule 3 = .ok (.invokestatic 23, 3) := by decide +kernel
theorem dX6_addRule_6 : decode cX6_addRule 6 = .ok (.ifCond .ne 24, 3) := by decide +kernel
theorem dX6_addRule_9 : decode cX6_addRule 9 = .ok (.iload_n 2, 1) := by decide +kernel
theorem dX6_addRule_10 : decode cX6_addRule 10 = .ok (.iconst 0, 1) := by decide +kernel
theorem dX6_addRule_11 : decode cX6_addRule 11 = .ok (.ldc 97, 2) := by decide +kernel
theorem dX6_addRule_13 : decode cX6_addRule 13 = .ok (.invokestatic 23, 3) := by decide +kernel
theorem dX6_addRule_16 : decode cX6_addRule 16 = .ok (.ifCond .ne 14, 3) := by decide +kernel
theorem dX6_addRule_19 : decode cX6_addRule 19 = .ok (.iload_n 3, 1) := by decide +kernel
theorem dX6_addRule_20 : decode cX6_addRule 20 = .ok (.iconst 1, 1) := by decide +kernel
theorem dX6_addRule_21 : decode cX6_addRule 21 = .ok (.sipush 10000, 3) := by decide +kernel
theorem dX6_addRule_24 : decode cX6_addRule 24 = .ok (.invokestatic 23, 3) := by decide +kernel
theorem dX6_addRule_27 : decode cX6_addRule 27 = .ok (.ifCond .eq 13, 3) := by decide +kernel
theorem dX6_addRule_30 : decode cX6_addRule 30 = .ok (.new 29, 3) := by decide +kernel
theorem dX6_addRule_33 : decode cX6_addRule 33 = .ok (.dup, 1) := by decide +kernel
theorem dX6_addRule_34 : decode cX6_addRule 34 = .ok (.ldc 137, 2) := by decide +kernel
theorem dX6_addRule_36 : decode cX6_addRule 36 = .ok (.invokespecial 33, 3) := by decide +kernel
theorem dX6_addRule_39 : decode cX6_addRule 39 = .ok (.athrow, 1) := by decide +kernel
theorem dX6_addRule_40 : decode cX6_addRule 40 = .ok (.aload_n 0, 1) := by decide +kernel
theorem dX6_addRule_41 : decode cX6_addRule 41 = .ok (.getfield 10, 3) := by decide +kernel
theorem dX6_addRule_44 : decode cX6_addRule 44 = .ok (.getfield 139, 3) := by decide +kernel
theorem dX6_addRule_47 : decode cX6_addRule 47 = .ok (.iload_n 1, 1) := by decide +kernel
theorem dX6_addRule_48 : decode cX6_addRule 48 = .ok (.iload_n 2, 1) := by decide +kernel
theorem dX6_addRule_49 : decode cX6_addRule 49 = .ok (.iload_n 3, 1) := by decide +kernel
theorem dX6_addRule_50 : decode cX6_addRule 50 = .ok (.invokevirtual 143, 3) := by decide +kernel
theorem dX6_addRule_53 : decode cX6_addRule 53 = .ok (.istore 4, 2) := by decide +kernel
theorem dX6_addRule_55 : decode cX6_addRule 55 = .ok (.iload 4, 2) := by decide +kernel
theorem dX6_addRule_57 : decode cX6_addRule 57 = .ok (.iconst (-1), 1) := by decide +kernel
theorem dX6_addRule_58 : decode cX6_addRule 58 = .ok (.if_icmp .ne 13, 3) := by decide +kernel
theorem dX6_addRule_61 : decode cX6_addRule 61 = .ok (.new 149, 3) := by decide +kernel
theorem dX6_addRule_64 : decode cX6_addRule 64 = .ok (.dup, 1) := by decide +kernel
theorem dX6_addRule_65 : decode cX6_addRule 65 = .ok (.ldc 151, 2) := by decide +kernel
theorem dX6_addRule_67 : decode cX6_addRule 67 = .ok (.invokespecial 153, 3) := by decide +kernel
theorem dX6_addRule_70 : decode cX6_addRule 70 = .ok (.athrow, 1) := by decide +kernel
theorem dX6_addRule_71 : decode cX6_addRule 71 = .ok (.iload 4, 2) := by decide +kernel
theorem dX6_addRule_73 : decode cX6_addRule 73 = .ok (.ireturn, 1) := by decide +kernel
theorem dX6_clearRules_0 : decode cX6_clearRules 0 = .ok (.aload_n 0, 1) := by decide +kernel
theorem dX6_clearRules_1 : decode cX6_clearRules 1 = .ok (.getfield 10, 3) := by decide +kernel
theorem dX6_clearRules_4 : decode cX6_clearRules 4 = .ok (.getfield 139, 3) := by decide +kernel
theorem dX6_clearRules_7 : decode cX6_clearRules 7 = .ok (.getfield 154, 3) := by decide +kernel
theorem dX6_clearRules_10 : decode cX6_clearRules 10 = .ok (.istore_n 1, 1) := by decide +kernel
theorem dX6_clearRules_11 : decode cX6_clearRules 11 = .ok (.aload_n 0, 1) := by decide +kernel
theorem dX6_clearRules_12 : decode cX6_clearRules 12 = .ok (.getfield 10, 3) := by decide +kernel
theorem dX6_clearRules_15 : decode cX6_clearRules 15 = .ok (.getfield 139, 3) := by decide +kernel
theorem dX6_clearRules_18 : decode cX6_clearRules 18 = .ok (.iconst 0, 1) := by decide +kernel
theorem dX6_clearRules_19 : decode cX6_clearRules 19 = .ok (.putfield 154, 3) := by decide +kernel
theorem dX6_clearRules_22 : decode cX6_clearRules 22 = .ok (.iload_n 1, 1) := by decide +kernel
theorem dX6_clearRules_23 : decode cX6_clearRules 23 = .ok (.ireturn, 1) := by decide +kernel
set_option maxRecDepth 20000 in
theorem ggX6_start_X0_leaveStop : GoodIn wsX6_start wsX0_leaveStop := goodIn_r _ [7, 8, 9, 19, 20, 21, 22, 23, 24, 25, 26, 27, 28, 29, 30, 31, 32] (by decide +kernel) (by decide +kernel)
set_option maxRecDepth 20000 in
theorem gX6_start_X0_leaveStop : GoodIn wsX6_start (wsV RX6 157 RX0 yX0_leaveStop wsX0_leaveStop) := goodIn_app (goodIn_of _ (by decide +kernel)) ggX6_start_X0_leaveStop
theorem dX6_start_0 : decode cX6_start 0 = .ok (.aload_n 0, 1) := by decide +kernel
theorem dX6_start_1 : decode cX6_start 1 = .ok (.getfield 10, 3) := by decide +kernel
theorem dX6_start_4 : decode cX6_start 4 = .ok (.getfield 100, 3) := by decide +kernel
theorem dX6_start_7 : decode cX6_start 7 = .ok (.invokevirtual 157, 3) := by decide +kernel
theorem dX6_start_10 : decode cX6_start 10 = .ok (.ireturn, 1) := by decide +kernel
set_option maxRecDepth 20000 in
theorem ggX6_stop_X5_stopByCall : GoodIn wsX6_stop wsX5_stopByCall := goodIn_r _ [6, 7, 8, 9, 10, 11, 12, 13, 14, 15, 16, 17, 18, 19, 20, 21, 22, 23, 27, 28, 29, 30, 31, 32, 33, 34, 35, 36, 37, 38, 39, 40, 41, 42, 43, 44, 45, 46, 47, 48, 49] (by decide +kernel) (by decide +kernel)
set_option maxRecDepth 20000 in
theorem gX6_stop_X5_stopByCall : GoodIn wsX6_stop (wsV RX6 161 RX5 yX5_stopByCall wsX5_stopByCall) := goodIn_app (goodIn_of _ (by decide +kernel)) ggX6_stop_X5_stopByCall
theorem dX6_stop_0 : decode cX6_stop 0 = .ok (.aload_n 0, 1) := by decide +kernel
theorem dX6_stop_1 : decode cX6_stop 1 = .ok (.getfield 10, 3) := by decide +kernel
theorem dX6_stop_4 : decode cX6_stop 4 = .ok (.invokevirtual 161, 3) := by decide +kernel
theorem dX6_stop_7 : decode cX6_stop 7 = .ok (.ireturn, 1) := by decide +kernel
set_option maxRecDepth 20000 in
theorem ggX6_advance_X6_outside : GoodIn wsX6_advance wsX6_outside := goodIn_r _ [8] (by decide +kernel) (by decide +kernel)
set_option maxRecDepth 20000 in
theorem gX6_advance_X6_outside : GoodIn wsX6_advance (va_wsS RX6 23 yX6_outside wsX6_outside) := goodIn_app (goodIn_of _ (by decide +kernel)) ggX6_advance_X6_outside
set_option maxRecDepth 20000 in
theorem ggX6_advance_X5_tick : GoodIn wsX6_advance wsX5_tick := goodIn_r _ [13, 14, 15, 16, 17, 18, 19, 20, 21, 22, 23, 24, 25, 26, 27, 28, 29, 30, 31, 32, 33, 34, 35, 36, 37, 38, 39, 40, 41, 42, 43, 44, 45, 46, 47, 48, 49, 50, 51, 52, 53, 54, 55, 56, 57, 7, 58, 59, 60, 61, 62, 63, 64, 65, 66, 67, 68, 69, 70, 71, 72, 73, 74, 75, 76, 77, 78, 79, 80, 81, 82, 83, 84, 85, 86, 87, 88, 89, 6, 8, 90, 91, 92, 93, 94, 95, 96, 97, 12, 98, 99, 100, 101, 102, 103, 104, 105, 106, 107, 108, 109, 110, 111, 112, 113, 114, 115, 116, 117, 118, 119, 120, 121, 122, 123, 124, 125, 126, 127, 128, 129, 130, 131, 132, 133, 134, 135, 136, 137, 138, 139, 140, 141, 142, 143, 144, 145, 146, 147, 148, 149, 150, 151, 152, 153, 154, 155, 156, 157, 158, 159, 160, 161, 162, 163, 164, 168, 169, 170, 171, 172, 173, 174, 175, 176, 177, 178, 179, 180, 181, 182, 183, 184, 185, 186, 187, 188, 189, 190, 191, 192, 193, 194, 195, 196, 197, 198, 199, 200, 201, 202, 203, 204, 205, 206, 207, 208, 209, 210, 211, 212, 213] (by decide +kernel) (by decide +kernel)
set_option maxRecDepth 20000 in
theorem gX6_advance_X5_tick : GoodIn wsX6_advance (wsV RX6 166 RX5 yX5_tick wsX5_tick) := goodIn_app (goodIn_of _ (by decide +kernel)) ggX6_advance_X5_tick
theorem dX6_advance_0 : decode cX6_advance 0 = .ok (.iload_n 1, 1) := by decide +kernel
theorem dX6_advance_1 : decode cX6_advance 1 = .ok (.iconst 1, 1) := by decide +kernel
theorem dX6_advance_2 : decode cX6_advance 2 = .ok (.sipush 2000, 3) := by decide +kernel
theorem dX6_advance_5 : decode cX6_advance 5 = .ok (.invokestatic 23, 3) := by decide +kernel
theorem dX6_advance_8 : decode cX6_advance 8 = .ok (.ifCond .eq 13, 3) := by decide +kernel
theorem dX6_advance_11 : decode cX6_advance 11 = .ok (.new 29, 3) := by decide +kernel
theorem dX6_advance_14 : decode cX6_advance 14 = .ok (.dup, 1) := by decide +kernel
theorem dX6_advance_15 : decode cX6_advance 15 = .ok (.ldc 164, 2) := by decide +kernel
theorem dX6_advance_17 : decode cX6_advance 17 = .ok (.invokespecial 33, 3) := by decide +kernel
theorem dX6_advance_20 : decode cX6_advance 20 = .ok (.athrow, 1) := by decide +kernel
theorem dX6_advance_21 : decode cX6_advance 21 = .ok (.iconst 0, 1) := by decide +kernel
theorem dX6_advance_22 : decode cX6_advance 22 = .ok (.istore_n 2, 1) := by decide +kernel
theorem dX6_advance_23 : decode cX6_advance 23 = .ok (.iload_n 2, 1) := by decide +kernel
theorem dX6_advance_24 : decode cX6_advance 24 = .ok (.iload_n 1, 1) := by decide +kernel
theorem dX6_advance_25 : decode cX6_advance 25 = .ok (.if_icmp .ge 16, 3) := by decide +kernel
theorem dX6_advance_28 : decode cX6_advance 28 = .ok (.aload_n 0, 1) := by decide +kernel
theorem dX6_advance_29 : decode cX6_advance 29 = .ok (.getfield 10, 3) := by decide +kernel
theorem dX6_advance_32 : decode cX6_advance 32 = .ok (.invokevirtual 166, 3) := by decide +kernel
theorem dX6_advance_35 : decode cX6_advance 35 = .ok (.iinc 2 1, 3) := by decide +kernel
theorem dX6_advance_38 : decode cX6_advance 38 = .ok (.goto (-15), 3) := by decide +kernel
theorem dX6_advance_41 : decode cX6_advance 41 = .ok (.aload_n 0, 1) := by decide +kernel
theorem dX6_advance_42 : decode cX6_advance 42 = .ok (.getfield 10, 3) := by decide +kernel
theorem dX6_advance_45 : decode cX6_advance 45 = .ok (.getfield 169, 3) := by decide +kernel
theorem dX6_advance_48 : decode cX6_advance 48 = .ok (.ireturn, 1) := by decide +kernel
theorem dX6_state_0 : decode cX6_state 0 = .ok (.aload_n 0, 1) := by decide +kernel
theorem dX6_state_1 : decode cX6_state 1 = .ok (.getfield 10, 3) := by decide +kernel
theorem dX6_state_4 : decode cX6_state 4 = .ok (.getfield 100, 3) := by decide +kernel
theorem dX6_state_7 : decode cX6_state 7 = .ok (.getfield 172, 3) := by decide +kernel
theorem dX6_state_10 : decode cX6_state 10 = .ok (.ireturn, 1) := by decide +kernel
set_option maxRecDepth 20000 in
theorem ggX6_isLocked_X3_holdsLock : GoodIn wsX6_isLocked wsX3_holdsLock := goodIn_r _ [7, 8, 9, 19, 20, 21, 22, 23, 24, 25, 26, 27] (by decide +kernel) (by decide +kernel)
set_option maxRecDepth 20000 in
theorem gX6_isLocked_X3_holdsLock : GoodIn wsX6_isLocked (wsV RX6 175 RX3 yX3_holdsLock wsX3_holdsLock) := goodIn_app (goodIn_of _ (by decide +kernel)) ggX6_isLocked_X3_holdsLock
theorem dX6_isLocked_0 : decode cX6_isLocked 0 = .ok (.aload_n 0, 1) := by decide +kernel
theorem dX6_isLocked_1 : decode cX6_isLocked 1 = .ok (.getfield 10, 3) := by decide +kernel
theorem dX6_isLocked_4 : decode cX6_isLocked 4 = .ok (.getfield 75, 3) := by decide +kernel
theorem dX6_isLocked_7 : decode cX6_isLocked 7 = .ok (.invokevirtual 175, 3) := by decide +kernel
theorem dX6_isLocked_10 : decode cX6_isLocked 10 = .ok (.ireturn, 1) := by decide +kernel
theorem dX6_measure_0 : decode cX6_measure 0 = .ok (.iload_n 1, 1) := by decide +kernel
theorem dX6_measure_1 : decode cX6_measure 1 = .ok (.tableswitch 162 0 9 #[55, 63, 74, 85, 96, 107, 118, 129, 140, 151], 55) := by decide +kernel
theorem dX6_measure_56 : decode cX6_measure 56 = .ok (.aload_n 0, 1) := by decide +kernel
theorem dX6_measure_57 : decode cX6_measure 57 = .ok (.getfield 10, 3) := by decide +kernel
theorem dX6_measure_60 : decode cX6_measure 60 = .ok (.getfield 169, 3) := by decide +kernel
theorem dX6_measure_63 : decode cX6_measure 63 = .ok (.ireturn, 1) := by decide +kernel
theorem dX6_measure_64 : decode cX6_measure 64 = .ok (.aload_n 0, 1) := by decide +kernel
theorem dX6_measure_65 : decode cX6_measure 65 = .ok (.getfield 10, 3) := by decide +kernel
theorem dX6_measure_68 : decode cX6_measure 68 = .ok (.getfield 36, 3) := by decide +kernel
theorem dX6_measure_71 : decode cX6_measure 71 = .ok (.getfield 178, 3) := by decide +kernel
theorem dX6_measure_74 : decode cX6_measure 74 = .ok (.ireturn, 1) := by decide +kernel
theorem dX6_measure_75 : decode cX6_measure 75 = .ok (.aload_n 0, 1) := by decide +kernel
theorem dX6_measure_76 : decode cX6_measure 76 = .ok (.getfield 10, 3) := by decide +kernel
theorem dX6_measure_79 : decode cX6_measure 79 = .ok (.getfield 36, 3) := by decide +kernel
theorem dX6_measure_82 : decode cX6_measure 82 = .ok (.getfield 181, 3) := by decide +kernel
theorem dX6_measure_85 : decode cX6_measure 85 = .ok (.ireturn, 1) := by decide +kernel
theorem dX6_measure_86 : decode cX6_measure 86 = .ok (.aload_n 0, 1) := by decide +kernel
theorem dX6_measure_87 : decode cX6_measure 87 = .ok (.getfield 10, 3) := by decide +kernel
theorem dX6_measure_90 : decode cX6_measure 90 = .ok (.getfield 36, 3) := by decide +kernel
theorem dX6_measure_93 : decode cX6_measure 93 = .ok (.getfield 57, 3) := by decide +kernel
theorem dX6_measure_96 : decode cX6_measure 96 = .ok (.ireturn, 1) := by decide +kernel
theorem dX6_measure_97 : decode cX6_measure 97 = .ok (.aload_n 0, 1) := by decide +kernel
theorem dX6_measure_98 : decode cX6_measure 98 = .ok (.getfield 10, 3) := by decide +kernel
theorem dX6_measure_101 : decode cX6_measure 101 = .ok (.getfield 75, 3) := by decide +kernel
theorem dX6_measure_104 : decode cX6_measure 104 = .ok (.getfield 184, 3) := by decide +kernel
theorem dX6_measure_107 : decode cX6_measure 107 = .ok (.ireturn, 1) := by decide +kernel
theorem dX6_measure_108 : decode cX6_measure 108 = .ok (.aload_n 0, 1) := by decide +kernel
theorem dX6_measure_109 : decode cX6_measure 109 = .ok (.getfield 10, 3) := by decide +kernel
theorem dX6_measure_112 : decode cX6_measure 112 = .ok (.getfield 75, 3) := by decide +kernel
theorem dX6_measure_115 : decode cX6_measure 115 = .ok (.getfield 185, 3) := by decide +kernel
theorem dX6_measure_118 : decode cX6_measure 118 = .ok (.ireturn, 1) := by decide +kernel
theorem dX6_measure_119 : decode cX6_measure 119 = .ok (.aload_n 0, 1) := by decide +kernel
theorem dX6_measure_120 : decode cX6_measure 120 = .ok (.getfield 10, 3) := by decide +kernel
theorem dX6_measure_123 : decode cX6_measure 123 = .ok (.getfield 75, 3) := by decide +kernel
theorem dX6_measure_126 : decode cX6_measure 126 = .ok (.getfield 186, 3) := by decide +kernel
theorem dX6_measure_129 : decode cX6_measure 129 = .ok (.ireturn, 1) := by decide +kernel
theorem dX6_measure_130 : decode cX6_measure 130 = .ok (.aload_n 0, 1) := by decide +kernel
theorem dX6_measure_131 : decode cX6_measure 131 = .ok (.getfield 10, 3) := by decide +kernel
theorem dX6_measure_134 : decode cX6_measure 134 = .ok (.getfield 75, 3) := by decide +kernel
theorem dX6_measure_137 : decode cX6_measure 137 = .ok (.getfield 189, 3) := by decide +kernel
theorem dX6_measure_140 : decode cX6_measure 140 = .ok (.ireturn, 1) := by decide +kernel
theorem dX6_measure_141 : decode cX6_measure 141 = .ok (.aload_n 0, 1) := by decide +kernel
theorem dX6_measure_142 : decode cX6_measure 142 = .ok (.getfield 10, 3) := by decide +kernel
theorem dX6_measure_145 : decode cX6_measure 145 = .ok (.getfield 100, 3) := by decide +kernel
theorem dX6_measure_148 : decode cX6_measure 148 = .ok (.getfield 192, 3) := by decide +kernel
theorem dX6_measure_151 : decode cX6_measure 151 = .ok (.ireturn, 1) := by decide +kernel
theorem dX6_measure_152 : decode cX6_measure 152 = .ok (.aload_n 0, 1) := by decide +kernel
theorem dX6_measure_153 : decode cX6_measure 153 = .ok (.getfield 10, 3) := by decide +kernel
theorem dX6_measure_156 : decode cX6_measure 156 = .ok (.getfield 100, 3) := by decide +kernel
theorem dX6_measure_159 : decode cX6_measure 159 = .ok (.getfield 195, 3) := by decide +kernel
theorem dX6_measure_162 : decode cX6_measure 162 = .ok (.ireturn, 1) := by decide +kernel
theorem dX6_measure_163 : decode cX6_measure 163 = .ok (.new 29, 3) := by decide +kernel
theorem dX6_measure_166 : decode cX6_measure 166 = .ok (.dup, 1) := by decide +kernel
theorem dX6_measure_167 : decode cX6_measure 167 = .ok (.ldc 198, 2) := by decide +kernel
theorem dX6_measure_169 : decode cX6_measure 169 = .ok (.invokespecial 33, 3) := by decide +kernel
theorem dX6_measure_172 : decode cX6_measure 172 = .ok (.athrow, 1) := by decide +kernel
set_option maxRecDepth 20000 in
theorem ggX6_violations_X4_countOf : GoodIn wsX6_violations wsX4_countOf := goodIn_r _ [9, 10, 11, 21, 22, 23, 24, 25] (by decide +kernel) (by decide +kernel)
set_option maxRecDepth 20000 in
theorem gX6_violations_X4_countOf : GoodIn wsX6_violations (wsV RX6 200 RX4 yX4_countOf wsX4_countOf) := goodIn_app (goodIn_of _ (by decide +kernel)) ggX6_violations_X4_countOf
theorem dX6_violations_0 : decode cX6_violations 0 = .ok (.aload_n 0, 1) := by decide +kernel
theorem dX6_violations_1 : decode cX6_violations 1 = .ok (.getfield 10, 3) := by decide +kernel
theorem dX6_violations_4 : decode cX6_violations 4 = .ok (.getfield 139, 3) := by decide +kernel
theorem dX6_violations_7 : decode cX6_violations 7 = .ok (.iload_n 1, 1) := by decide +kernel
theorem dX6_violations_8 : decode cX6_violations 8 = .ok (.invokevirtual 200, 3) := by decide +kernel
theorem dX6_violations_11 : decode cX6_violations 11 = .ok (.istore_n 2, 1) := by decide +kernel
theorem dX6_violations_12 : decode cX6_violations 12 = .ok (.iload_n 2, 1) := by decide +kernel
theorem dX6_violations_13 : decode cX6_violations 13 = .ok (.iconst (-1), 1) := by decide +kernel
theorem dX6_violations_14 : decode cX6_violations 14 = .ok (.if_icmp .ne 13, 3) := by decide +kernel
theorem dX6_violations_17 : decode cX6_violations 17 = .ok (.new 204, 3) := by decide +kernel
theorem dX6_violations_20 : decode cX6_violations 20 = .ok (.dup, 1) := by decide +kernel
theorem dX6_violations_21 : decode cX6_violations 21 = .ok (.ldc 206, 2) := by decide +kernel
theorem dX6_violations_23 : decode cX6_violations 23 = .ok (.invokespecial 208, 3) := by decide +kernel
theorem dX6_violations_26 : decode cX6_violations 26 = .ok (.athrow, 1) := by decide +kernel
theorem dX6_violations_27 : decode cX6_violations 27 = .ok (.iload_n 2, 1) := by decide +kernel
theorem dX6_violations_28 : decode cX6_violations 28 = .ok (.ireturn, 1) := by decide +kernel
theorem dX6_energy_0 : decode cX6_energy 0 = .ok (.aload_n 0, 1) := by decide +kernel
theorem dX6_energy_1 : decode cX6_energy 1 = .ok (.getfield 10, 3) := by decide +kernel
theorem dX6_energy_4 : decode cX6_energy 4 = .ok (.getfield 100, 3) := by decide +kernel
theorem dX6_energy_7 : decode cX6_energy 7 = .ok (.getfield 209, 3) := by decide +kernel
theorem dX6_energy_10 : decode cX6_energy 10 = .ok (.lreturn, 1) := by decide +kernel
theorem dX6_availability_0 : decode cX6_availability 0 = .ok (.aload_n 0, 1) := by decide +kernel
theorem dX6_availability_1 : decode cX6_availability 1 = .ok (.getfield 10, 3) := by decide +kernel
theorem dX6_availability_4 : decode cX6_availability 4 = .ok (.getfield 169, 3) := by decide +kernel
theorem dX6_availability_7 : decode cX6_availability 7 = .ok (.istore_n 1, 1) := by decide +kernel
theorem dX6_availability_8 : decode cX6_availability 8 = .ok (.iload_n 1, 1) := by decide +kernel
theorem dX6_availability_9 : decode cX6_availability 9 = .ok (.ifCond .le 20, 3) := by decide +kernel
theorem dX6_availability_12 : decode cX6_availability 12 = .ok (.aload_n 0, 1) := by decide +kernel
theorem dX6_availability_13 : decode cX6_availability 13 = .ok (.getfield 10, 3) := by decide +kernel
theorem dX6_availability_16 : decode cX6_availability 16 = .ok (.getfield 100, 3) := by decide +kernel
theorem dX6_availability_19 : decode cX6_availability 19 = .ok (.getfield 213, 3) := by decide +kernel
theorem dX6_availability_22 : decode cX6_availability 22 = .ok (.i2d, 1) := by decide +kernel
theorem dX6_availability_23 : decode cX6_availability 23 = .ok (.iload_n 1, 1) := by decide +kernel
theorem dX6_availability_24 : decode cX6_availability 24 = .ok (.i2d, 1) := by decide +kernel
theorem dX6_availability_25 : decode cX6_availability 25 = .ok (.ddiv, 1) := by decide +kernel
theorem dX6_availability_26 : decode cX6_availability 26 = .ok (.goto 4, 3) := by decide +kernel
theorem dX6_availability_29 : decode cX6_availability 29 = .ok (.dconst 0, 1) := by decide +kernel
theorem dX6_availability_30 : decode cX6_availability 30 = .ok (.dreturn, 1) := by decide +kernel
theorem dX6_events_0 : decode cX6_events 0 = .ok (.aload_n 0, 1) := by decide +kernel
theorem dX6_events_1 : decode cX6_events 1 = .ok (.getfield 10, 3) := by decide +kernel
theorem dX6_events_4 : decode cX6_events 4 = .ok (.getfield 216, 3) := by decide +kernel
theorem dX6_events_7 : decode cX6_events 7 = .ok (.getfield 220, 3) := by decide +kernel
theorem dX6_events_10 : decode cX6_events 10 = .ok (.ireturn, 1) := by decide +kernel
set_option maxRecDepth 20000 in
theorem ggX6_event_X6_outside : GoodIn wsX6_event wsX6_outside := goodIn_r _ [8] (by decide +kernel) (by decide +kernel)
set_option maxRecDepth 20000 in
theorem gX6_event_X6_outside : GoodIn wsX6_event (va_wsS RX6 23 yX6_outside wsX6_outside) := goodIn_app (goodIn_of _ (by decide +kernel)) ggX6_event_X6_outside
set_option maxRecDepth 20000 in
theorem ggX6_event_X2_timeOf : GoodIn wsX6_event wsX2_timeOf := goodIn_r _ [13, 14, 15, 16, 17, 12, 18, 19, 20, 21, 22, 23, 38, 39, 40] (by decide +kernel) (by decide +kernel)
set_option maxRecDepth 20000 in
theorem gX6_event_X2_timeOf : GoodIn wsX6_event (wsV RX6 225 RX2 yX2_timeOf wsX2_timeOf) := goodIn_app (goodIn_of _ (by decide +kernel)) ggX6_event_X2_timeOf
set_option maxRecDepth 20000 in
theorem ggX6_event_X2_causeOf : GoodIn wsX6_event wsX2_causeOf := goodIn_r _ [27, 28, 15, 16, 17, 12, 18, 19, 20, 21, 22, 23, 38, 39, 40] (by decide +kernel) (by decide +kernel)
set_option maxRecDepth 20000 in
theorem gX6_event_X2_causeOf : GoodIn wsX6_event (wsV RX6 228 RX2 yX2_causeOf wsX2_causeOf) := goodIn_app (goodIn_of _ (by decide +kernel)) ggX6_event_X2_causeOf
theorem dX6_event_0 : decode cX6_event 0 = .ok (.iload_n 2, 1) := by decide +kernel
theorem dX6_event_1 : decode cX6_event 1 = .ok (.iconst 0, 1) := by decide +kernel
theorem dX6_event_2 : decode cX6_event 2 = .ok (.iconst 1, 1) := by decide +kernel
theorem dX6_event_3 : decode cX6_event 3 = .ok (.invokestatic 23, 3) := by decide +kernel
theorem dX6_event_6 : decode cX6_event 6 = .ok (.ifCond .eq 13, 3) := by decide +kernel
theorem dX6_event_9 : decode cX6_event 9 = .ok (.new 29, 3) := by decide +kernel
theorem dX6_event_12 : decode cX6_event 12 = .ok (.dup, 1) := by decide +kernel
theorem dX6_event_13 : decode cX6_event 13 = .ok (.ldc 223, 2) := by decide +kernel
theorem dX6_event_15 : decode cX6_event 15 = .ok (.invokespecial 33, 3) := by decide +kernel
theorem dX6_event_18 : decode cX6_event 18 = .ok (.athrow, 1) := by decide +kernel
theorem dX6_event_19 : decode cX6_event 19 = .ok (.iload_n 2, 1) := by decide +kernel
theorem dX6_event_20 : decode cX6_event 20 = .ok (.ifCond .ne 17, 3) := by decide +kernel
theorem dX6_event_23 : decode cX6_event 23 = .ok (.aload_n 0, 1) := by decide +kernel
theorem dX6_event_24 : decode cX6_event 24 = .ok (.getfield 10, 3) := by decide +kernel
theorem dX6_event_27 : decode cX6_event 27 = .ok (.getfield 216, 3) := by decide +kernel
theorem dX6_event_30 : decode cX6_event 30 = .ok (.iload_n 1, 1) := by decide +kernel
theorem dX6_event_31 : decode cX6_event 31 = .ok (.invokevirtual 225, 3) := by decide +kernel
theorem dX6_event_34 : decode cX6_event 34 = .ok (.goto 14, 3) := by decide +kernel
theorem dX6_event_37 : decode cX6_event 37 = .ok (.aload_n 0, 1) := by decide +kernel
theorem dX6_event_38 : decode cX6_event 38 = .ok (.getfield 10, 3) := by decide +kernel
theorem dX6_event_41 : decode cX6_event 41 = .ok (.getfield 216, 3) := by decide +kernel
theorem dX6_event_44 : decode cX6_event 44 = .ok (.iload_n 1, 1) := by decide +kernel
theorem dX6_event_45 : decode cX6_event 45 = .ok (.invokevirtual 228, 3) := by decide +kernel
theorem dX6_event_48 : decode cX6_event 48 = .ok (.ireturn, 1) := by decide +kernel
set_option maxRecDepth 20000 in
theorem ggX6_islandTime_X6_badIsland : GoodIn wsX6_islandTime wsX6_badIsland := goodIn_r _ [11, 12, 13, 14, 15, 10, 16] (by decide +kernel) (by decide +kernel)
set_option maxRecDepth 20000 in
theorem gX6_islandTime_X6_badIsland : GoodIn wsX6_islandTime (va_wsS RX6 64 yX6_badIsland wsX6_badIsland) := goodIn_app (goodIn_of _ (by decide +kernel)) ggX6_islandTime_X6_badIsland
set_option maxRecDepth 20000 in
theorem ggX6_islandTime_X6_outside : GoodIn wsX6_islandTime wsX6_outside := goodIn_r _ [16] (by decide +kernel) (by decide +kernel)
set_option maxRecDepth 20000 in
theorem gX6_islandTime_X6_outside : GoodIn wsX6_islandTime (va_wsS RX6 23 yX6_outside wsX6_outside) := goodIn_app (goodIn_of _ (by decide +kernel)) ggX6_islandTime_X6_outside
set_option maxRecDepth 20000 in
theorem ggX6_islandTime_X6_ticksToDetect : GoodIn wsX6_islandTime wsX6_ticksToDetect := goodIn_r _ [20, 21, 5, 22, 23, 6, 7, 24, 25, 26, 27, 28, 29, 30, 31, 32, 33, 34, 35, 36, 37, 38, 39, 40, 41, 42, 43, 44, 45, 46, 47, 48, 49, 50, 51, 52, 53, 54, 55, 56, 57, 58, 59, 60, 61, 62, 63, 64, 65, 66, 67, 10, 68, 69, 70, 71, 72, 73, 74, 75, 76, 77, 78, 79, 80, 81, 82, 83, 84, 85, 86, 87, 88, 89, 90, 91, 92, 93, 94, 95, 96, 97, 98, 99, 100, 101, 102, 103, 104, 105, 106, 107, 108, 109, 110, 111, 112, 113, 114, 115, 116, 117, 118, 119, 120, 121, 122, 123, 124, 125, 126, 127, 128, 129, 130, 131, 132, 133, 134, 135, 136, 137, 138, 139, 140, 141, 142, 143, 144, 145, 146, 147, 148, 149, 150, 151, 152, 153, 154, 155, 156, 157, 158, 159, 160, 161, 162, 163, 164, 165, 15, 16, 166, 167, 168, 169, 170, 171, 172, 173, 174, 175, 176, 177, 178, 179, 180, 181, 182, 183, 184, 185, 186, 187, 188, 189, 190, 191, 192, 193, 194, 195, 196, 197, 198, 199, 200, 201, 202, 203, 204, 205, 206, 207, 208, 209, 210, 211, 212, 213, 214, 215, 216, 217, 218, 219, 220, 221, 222, 223, 224, 225, 240, 241, 242, 243, 244, 245, 246, 247, 248, 226, 227, 228, 229, 230, 231, 232, 233, 234, 235, 236, 237, 238, 239, 249, 250, 251, 252, 253, 254, 255, 256, 257, 258, 259, 260, 261, 262, 263, 264, 265] (by decide +kernel) (by decide +kernel)
set_option maxRecDepth 20000 in
theorem gX6_islandTime_X6_ticksToDetect : GoodIn wsX6_islandTime (wsV RX6 235 RX6 yX6_ticksToDetect wsX6_ticksToDetect) := goodIn_app (goodIn_of _ (by decide +kernel)) ggX6_islandTime_X6_ticksToDetect
theorem dX6_islandTime_0 : decode cX6_islandTime 0 = .ok (.iload_n 1, 1) := by decide +kernel
theorem dX6_islandTime_1 : decode cX6_islandTime 1 = .ok (.iload_n 2, 1) := by decide +kernel
theorem dX6_islandTime_2 : decode cX6_islandTime 2 = .ok (.iload_n 3, 1) := by decide +kernel
theorem dX6_islandTime_3 : decode cX6_islandTime 3 = .ok (.invokestatic 64, 3) := by decide +kernel
theorem dX6_islandTime_6 : decode cX6_islandTime 6 = .ok (.ifCond .ne 15, 3) := by decide +kernel
theorem dX6_islandTime_9 : decode cX6_islandTime 9 = .ok (.iload 4, 2) := by decide +kernel
theorem dX6_islandTime_11 : decode cX6_islandTime 11 = .ok (.iconst 1, 1) := by decide +kernel
theorem dX6_islandTime_12 : decode cX6_islandTime 12 = .ok (.sipush 2000, 3) := by decide +kernel
theorem dX6_islandTime_15 : decode cX6_islandTime 15 = .ok (.invokestatic 23, 3) := by decide +kernel
theorem dX6_islandTime_18 : decode cX6_islandTime 18 = .ok (.ifCond .eq 13, 3) := by decide +kernel
theorem dX6_islandTime_21 : decode cX6_islandTime 21 = .ok (.new 29, 3) := by decide +kernel
theorem dX6_islandTime_24 : decode cX6_islandTime 24 = .ok (.dup, 1) := by decide +kernel
theorem dX6_islandTime_25 : decode cX6_islandTime 25 = .ok (.ldc 231, 2) := by decide +kernel
theorem dX6_islandTime_27 : decode cX6_islandTime 27 = .ok (.invokespecial 33, 3) := by decide +kernel
theorem dX6_islandTime_30 : decode cX6_islandTime 30 = .ok (.athrow, 1) := by decide +kernel
theorem dX6_islandTime_31 : decode cX6_islandTime 31 = .ok (.aload_n 0, 1) := by decide +kernel
theorem dX6_islandTime_32 : decode cX6_islandTime 32 = .ok (.getfield 10, 3) := by decide +kernel
theorem dX6_islandTime_35 : decode cX6_islandTime 35 = .ok (.getfield 100, 3) := by decide +kernel
theorem dX6_islandTime_38 : decode cX6_islandTime 38 = .ok (.getfield 172, 3) := by decide +kernel
theorem dX6_islandTime_41 : decode cX6_islandTime 41 = .ok (.iconst 1, 1) := by decide +kernel
theorem dX6_islandTime_42 : decode cX6_islandTime 42 = .ok (.if_icmp .eq 13, 3) := by decide +kernel
theorem dX6_islandTime_45 : decode cX6_islandTime 45 = .ok (.new 149, 3) := by decide +kernel
theorem dX6_islandTime_48 : decode cX6_islandTime 48 = .ok (.dup, 1) := by decide +kernel
theorem dX6_islandTime_49 : decode cX6_islandTime 49 = .ok (.ldc 233, 2) := by decide +kernel
theorem dX6_islandTime_51 : decode cX6_islandTime 51 = .ok (.invokespecial 153, 3) := by decide +kernel
theorem dX6_islandTime_54 : decode cX6_islandTime 54 = .ok (.athrow, 1) := by decide +kernel
theorem dX6_islandTime_55 : decode cX6_islandTime 55 = .ok (.aload_n 0, 1) := by decide +kernel
theorem dX6_islandTime_56 : decode cX6_islandTime 56 = .ok (.iload_n 1, 1) := by decide +kernel
theorem dX6_islandTime_57 : decode cX6_islandTime 57 = .ok (.iload_n 2, 1) := by decide +kernel
theorem dX6_islandTime_58 : decode cX6_islandTime 58 = .ok (.iload_n 3, 1) := by decide +kernel
theorem dX6_islandTime_59 : decode cX6_islandTime 59 = .ok (.iload 4, 2) := by decide +kernel
theorem dX6_islandTime_61 : decode cX6_islandTime 61 = .ok (.invokevirtual 235, 3) := by decide +kernel
theorem dX6_islandTime_64 : decode cX6_islandTime 64 = .ok (.ireturn, 1) := by decide +kernel
set_option maxRecDepth 20000 in
theorem ggX6_undetected_X6_outside : GoodIn wsX6_undetected wsX6_outside := goodIn_r _ [14] (by decide +kernel) (by decide +kernel)
set_option maxRecDepth 20000 in
theorem gX6_undetected_X6_outside : GoodIn wsX6_undetected (va_wsS RX6 23 yX6_outside wsX6_outside) := goodIn_app (goodIn_of _ (by decide +kernel)) ggX6_undetected_X6_outside
set_option maxRecDepth 20000 in
theorem ggX6_undetected_X6_ticksToDetect : GoodIn wsX6_undetected wsX6_ticksToDetect := goodIn_r _ [18, 19, 5, 8, 20, 6, 7, 21, 22, 23, 24, 25, 26, 27, 28, 29, 30, 31, 32, 33, 34, 35, 36, 37, 38, 39, 40, 41, 42, 43, 44, 45, 46, 47, 48, 49, 50, 51, 52, 53, 54, 55, 56, 57, 58, 59, 60, 61, 62, 63, 64, 13, 65, 66, 67, 68, 69, 70, 71, 72, 73, 74, 75, 76, 77, 78, 79, 80, 81, 82, 83, 84, 85, 86, 87, 88, 89, 90, 91, 92, 93, 94, 95, 96, 97, 98, 99, 100, 101, 102, 103, 104, 105, 106, 107, 108, 109, 110, 111, 112, 113, 114, 115, 116, 117, 118, 119, 120, 121, 122, 123, 124, 125, 126, 127, 128, 129, 130, 131, 132, 133, 134, 135, 136, 137, 138, 139, 140, 141, 142, 143, 144, 145, 146, 147, 148, 149, 150, 151, 152, 153, 154, 155, 156, 157, 158, 159, 160, 161, 162, 12, 14, 163, 164, 165, 166, 167, 168, 169, 170, 171, 172, 173, 174, 175, 176, 177, 178, 179, 180, 181, 182, 183, 184, 185, 186, 187, 188, 189, 190, 191, 192, 193, 194, 195, 196, 197, 198, 199, 200, 201, 202, 203, 204, 205, 206, 207, 208, 209, 210, 211, 212, 213, 214, 215, 216, 217, 218, 219, 220, 221, 222, 237, 238, 239, 240, 241, 242, 243, 244, 245, 223, 224, 225, 226, 227, 228, 229, 230, 231, 232, 233, 234, 235, 236, 246, 247, 248, 249, 250, 251, 252, 253, 254, 255, 256, 257, 258, 259, 260, 261, 262] (by decide +kernel) (by decide +kernel)
set_option maxRecDepth 20000 in
theorem gX6_undetected_X6_ticksToDetect : GoodIn wsX6_undetected (wsV RX6 235 RX6 yX6_ticksToDetect wsX6_ticksToDetect) := goodIn_app (goodIn_of _ (by decide +kernel)) ggX6_undetected_X6_ticksToDetect
theorem dX6_undetected_0 : decode cX6_undetected 0 = .ok (.iload_n 1, 1) := by decide +kernel
theorem dX6_undetected_1 : decode cX6_undetected 1 = .ok (.iconst 1, 1) := by decide +kernel
theorem dX6_undetected_2 : decode cX6_undetected 2 = .ok (.sipush 5000, 3) := by decide +kernel
theorem dX6_undetected_5 : decode cX6_undetected 5 = .ok (.invokestatic 23, 3) := by decide +kernel
theorem dX6_undetected_8 : decode cX6_undetected 8 = .ok (.ifCond .ne 49, 3) := by decide +kernel
theorem dX6_undetected_11 : decode cX6_undetected 11 = .ok (.iload_n 2, 1) := by decide +kernel
theorem dX6_undetected_12 : decode cX6_undetected 12 = .ok (.iconst 1, 1) := by decide +kernel
theorem dX6_undetected_13 : decode cX6_undetected 13 = .ok (.sipush 500, 3) := by decide +kernel
theorem dX6_undetected_16 : decode cX6_undetected 16 = .ok (.invokestatic 23, 3) := by decide +kernel
theorem dX6_undetected_19 : decode cX6_undetected 19 = .ok (.ifCond .ne 38, 3) := by decide +kernel
theorem dX6_undetected_22 : decode cX6_undetected 22 = .ok (.iload_n 3, 1) := by decide +kernel
theorem dX6_undetected_23 : decode cX6_undetected 23 = .ok (.iconst 1, 1) := by decide +kernel
theorem dX6_undetected_24 : decode cX6_undetected 24 = .ok (.bipush 10, 2) := by decide +kernel
theorem dX6_undetected_26 : decode cX6_undetected 26 = .ok (.invokestatic 23, 3) := by decide +kernel
theorem dX6_undetected_29 : decode cX6_undetected 29 = .ok (.ifCond .ne 28, 3) := by decide +kernel
theorem dX6_undetected_32 : decode cX6_undetected 32 = .ok (.iload 4, 2) := by decide +kernel
theorem dX6_undetected_34 : decode cX6_undetected 34 = .ok (.iconst 1, 1) := by decide +kernel
theorem dX6_undetected_35 : decode cX6_undetected 35 = .ok (.sipush 500, 3) := by decide +kernel
theorem dX6_undetected_38 : decode cX6_undetected 38 = .ok (.invokestatic 23, 3) := by decide +kernel
theorem dX6_undetected_41 : decode cX6_undetected 41 = .ok (.ifCond .ne 16, 3) := by decide +kernel
theorem dX6_undetected_44 : decode cX6_undetected 44 = .ok (.iload_n 1, 1) := by decide +kernel
theorem dX6_undetected_45 : decode cX6_undetected 45 = .ok (.iload_n 3, 1) := by decide +kernel
theorem dX6_undetected_46 : decode cX6_undetected 46 = .ok (.iconst 1, 1) := by decide +kernel
theorem dX6_undetected_47 : decode cX6_undetected 47 = .ok (.isub, 1) := by decide +kernel
theorem dX6_undetected_48 : decode cX6_undetected 48 = .ok (.iload_n 2, 1) := by decide +kernel
theorem dX6_undetected_49 : decode cX6_undetected 49 = .ok (.imul, 1) := by decide +kernel
theorem dX6_undetected_50 : decode cX6_undetected 50 = .ok (.iadd, 1) := by decide +kernel
theorem dX6_undetected_51 : decode cX6_undetected 51 = .ok (.sipush 5000, 3) := by decide +kernel
theorem dX6_undetected_54 : decode cX6_undetected 54 = .ok (.if_icmp .le 13, 3) := by decide +kernel
theorem dX6_undetected_57 : decode cX6_undetected 57 = .ok (.new 29, 3) := by decide +kernel
theorem dX6_undetected_60 : decode cX6_undetected 60 = .ok (.dup, 1) := by decide +kernel
theorem dX6_undetected_61 : decode cX6_undetected 61 = .ok (.ldc 231, 2) := by decide +kernel
theorem dX6_undetected_63 : decode cX6_undetected 63 = .ok (.invokespecial 33, 3) := by decide +kernel
theorem dX6_undetected_66 : decode cX6_undetected 66 = .ok (.athrow, 1) := by decide +kernel
theorem dX6_undetected_67 : decode cX6_undetected 67 = .ok (.aload_n 0, 1) := by decide +kernel
theorem dX6_undetected_68 : decode cX6_undetected 68 = .ok (.getfield 10, 3) := by decide +kernel
theorem dX6_undetected_71 : decode cX6_undetected 71 = .ok (.getfield 100, 3) := by decide +kernel
theorem dX6_undetected_74 : decode cX6_undetected 74 = .ok (.getfield 172, 3) := by decide +kernel
theorem dX6_undetected_77 : decode cX6_undetected 77 = .ok (.iconst 1, 1) := by decide +kernel
theorem dX6_undetected_78 : decode cX6_undetected 78 = .ok (.if_icmp .eq 13, 3) := by decide +kernel
theorem dX6_undetected_81 : decode cX6_undetected 81 = .ok (.new 149, 3) := by decide +kernel
theorem dX6_undetected_84 : decode cX6_undetected 84 = .ok (.dup, 1) := by decide +kernel
theorem dX6_undetected_85 : decode cX6_undetected 85 = .ok (.ldc 233, 2) := by decide +kernel
theorem dX6_undetected_87 : decode cX6_undetected 87 = .ok (.invokespecial 153, 3) := by decide +kernel
theorem dX6_undetected_90 : decode cX6_undetected 90 = .ok (.athrow, 1) := by decide +kernel
theorem dX6_undetected_91 : decode cX6_undetected 91 = .ok (.iconst 0, 1) := by decide +kernel
theorem dX6_undetected_92 : decode cX6_undetected 92 = .ok (.istore 5, 2) := by decide +kernel
theorem dX6_undetected_94 : decode cX6_undetected 94 = .ok (.iconst 0, 1) := by decide +kernel
theorem dX6_undetected_95 : decode cX6_undetected 95 = .ok (.istore 6, 2) := by decide +kernel
theorem dX6_undetected_97 : decode cX6_undetected 97 = .ok (.iload 6, 2) := by decide +kernel
theorem dX6_undetected_99 : decode cX6_undetected 99 = .ok (.iload_n 3, 1) := by decide +kernel
theorem dX6_undetected_100 : decode cX6_undetected 100 = .ok (.if_icmp .ge 52, 3) := by decide +kernel
theorem dX6_undetected_103 : decode cX6_undetected 103 = .ok (.iload_n 1, 1) := by decide +kernel
theorem dX6_undetected_104 : decode cX6_undetected 104 = .ok (.iload 6, 2) := by decide +kernel
theorem dX6_undetected_106 : decode cX6_undetected 106 = .ok (.iload_n 2, 1) := by decide +kernel
theorem dX6_undetected_107 : decode cX6_undetected 107 = .ok (.imul, 1) := by decide +kernel
theorem dX6_undetected_108 : decode cX6_undetected 108 = .ok (.iadd, 1) := by decide +kernel
theorem dX6_undetected_109 : decode cX6_undetected 109 = .ok (.istore 7, 2) := by decide +kernel
theorem dX6_undetected_111 : decode cX6_undetected 111 = .ok (.aload_n 0, 1) := by decide +kernel
theorem dX6_undetected_112 : decode cX6_undetected 112 = .ok (.iload 7, 2) := by decide +kernel
theorem dX6_undetected_114 : decode cX6_undetected 114 = .ok (.aload_n 0, 1) := by decide +kernel
theorem dX6_undetected_115 : decode cX6_undetected 115 = .ok (.getfield 10, 3) := by decide +kernel
theorem dX6_undetected_118 : decode cX6_undetected 118 = .ok (.getfield 36, 3) := by decide +kernel
theorem dX6_undetected_121 : decode cX6_undetected 121 = .ok (.getfield 239, 3) := by decide +kernel
theorem dX6_undetected_124 : decode cX6_undetected 124 = .ok (.aload_n 0, 1) := by decide +kernel
theorem dX6_undetected_125 : decode cX6_undetected 125 = .ok (.getfield 10, 3) := by decide +kernel
theorem dX6_undetected_128 : decode cX6_undetected 128 = .ok (.getfield 36, 3) := by decide +kernel
theorem dX6_undetected_131 : decode cX6_undetected 131 = .ok (.getfield 242, 3) := by decide +kernel
theorem dX6_undetected_134 : decode cX6_undetected 134 = .ok (.iload 4, 2) := by decide +kernel
theorem dX6_undetected_136 : decode cX6_undetected 136 = .ok (.invokevirtual 235, 3) := by decide +kernel
theorem dX6_undetected_139 : decode cX6_undetected 139 = .ok (.iconst (-1), 1) := by decide +kernel
theorem dX6_undetected_140 : decode cX6_undetected 140 = .ok (.if_icmp .ne 6, 3) := by decide +kernel
theorem dX6_undetected_143 : decode cX6_undetected 143 = .ok (.iinc 5 1, 3) := by decide +kernel
theorem dX6_undetected_146 : decode cX6_undetected 146 = .ok (.iinc 6 1, 3) := by decide +kernel
theorem dX6_undetected_149 : decode cX6_undetected 149 = .ok (.goto (-52), 3) := by decide +kernel
theorem dX6_undetected_152 : decode cX6_undetected 152 = .ok (.iload 5, 2) := by decide +kernel
theorem dX6_undetected_154 : decode cX6_undetected 154 = .ok (.ireturn, 1) := by decide +kernel
set_option maxRecDepth 20000 in
theorem ggX6_relockTime_X6_outside : GoodIn wsX6_relockTime wsX6_outside := goodIn_r _ [13] (by decide +kernel) (by decide +kernel)
set_option maxRecDepth 20000 in
theorem gX6_relockTime_X6_outside : GoodIn wsX6_relockTime (va_wsS RX6 23 yX6_outside wsX6_outside) := goodIn_app (goodIn_of _ (by decide +kernel)) ggX6_relockTime_X6_outside
set_option maxRecDepth 20000 in
theorem ggX6_relockTime_X5_takeFrom : GoodIn wsX6_relockTime wsX5_takeFrom := goodIn_r _ [18, 19, 20, 21, 22, 23, 24, 25, 26, 27, 28, 29, 30, 31, 32, 33, 34, 35, 36, 37, 38, 39, 40, 41, 42, 43, 44, 45, 46, 47, 48, 49, 50, 51, 52, 53, 54, 55, 56, 57, 12, 58, 59, 60, 61, 62, 63, 64, 65, 66, 67, 68, 69, 70, 71, 72, 73, 74, 75, 76, 77, 78, 79, 80, 81, 82, 83, 84, 85, 86, 87, 88, 89, 90, 91, 92, 93, 94, 95, 96, 97, 98, 99, 100, 101, 102, 103, 211, 212, 213, 214, 215, 216, 226, 227, 228, 229, 230, 231, 232, 233, 234, 217, 218, 219, 220, 221, 222, 223, 224, 225, 235, 236, 237, 238, 239, 240, 241, 242, 243, 244, 245, 246, 247, 248, 249, 250, 251, 252, 253, 254, 255, 256] (by decide +kernel) (by decide +kernel)
set_option maxRecDepth 20000 in
theorem gX6_relockTime_X5_takeFrom : GoodIn wsX6_relockTime (wsV RX6 245 RX5 yX5_takeFrom wsX5_takeFrom) := goodIn_app (goodIn_of _ (by decide +kernel)) ggX6_relockTime_X5_takeFrom
set_option maxRecDepth 20000 in
theorem ggX6_relockTime_X1_turn : GoodIn wsX6_relockTime wsX1_turn := goodIn_r _ [107, 32, 108, 109, 110, 111, 112, 226, 227, 228, 229, 230, 231, 232, 233, 234] (by decide +kernel) (by decide +kernel)
set_option maxRecDepth 20000 in
theorem gX6_relockTime_X1_turn : GoodIn wsX6_relockTime (wsV RX6 53 RX1 yX1_turn wsX1_turn) := goodIn_app (goodIn_of _ (by decide +kernel)) ggX6_relockTime_X1_turn
set_option maxRecDepth 20000 in
theorem ggX6_relockTime_X5_tick : GoodIn wsX6_relockTime wsX5_tick := goodIn_r _ [116, 19, 20, 22, 117, 21, 118, 119, 120, 121, 122, 123, 124, 125, 70, 126, 82, 127, 83, 128, 129, 130, 28, 131, 33, 34, 30, 35, 31, 132, 133, 134, 135, 36, 136, 60, 61, 62, 137, 138, 139, 140, 37, 38, 141, 12, 142, 143, 144, 59, 145, 146, 147, 148, 105, 106, 107, 32, 108, 109, 110, 111, 112, 149, 150, 151, 46, 152, 48, 49, 153, 154, 50, 51, 52, 53, 55, 155, 11, 13, 156, 157, 158, 159, 56, 160, 161, 162, 17, 163, 23, 164, 165, 166, 167, 54, 168, 169, 170, 171, 172, 24, 173, 174, 175, 99, 176, 101, 102, 103, 177, 178, 179, 180, 89, 181, 91, 92, 93, 95, 94, 182, 183, 184, 185, 186, 187, 188, 73, 76, 74, 189, 190, 191, 192, 193, 194, 195, 196, 197, 198, 78, 79, 80, 81, 199, 200, 201, 202, 203, 204, 205, 206, 84, 72, 85, 211, 212, 213, 214, 215, 216, 235, 236, 237, 238, 239, 240, 241, 242, 243, 244, 245, 246, 247, 248, 217, 218, 219, 220, 221, 222, 223, 224, 225, 226, 227, 228, 229, 230, 231, 232, 233, 234, 254, 255, 256, 249, 250, 251, 252, 253] (by decide +kernel) (by decide +kernel)
set_option maxRecDepth 20000 in
theorem gX6_relockTime_X5_tick : GoodIn wsX6_relockTime (wsV RX6 166 RX5 yX5_tick wsX5_tick) := goodIn_app (goodIn_of _ (by decide +kernel)) ggX6_relockTime_X5_tick
set_option maxRecDepth 20000 in
theorem ggX6_relockTime_X3_holdsLock : GoodIn wsX6_relockTime wsX3_holdsLock := goodIn_r _ [167, 55, 54, 217, 218, 219, 220, 221, 222, 223, 224, 225] (by decide +kernel) (by decide +kernel)
set_option maxRecDepth 20000 in
theorem gX6_relockTime_X3_holdsLock : GoodIn wsX6_relockTime (wsV RX6 175 RX3 yX3_holdsLock wsX3_holdsLock) := goodIn_app (goodIn_of _ (by decide +kernel)) ggX6_relockTime_X3_holdsLock
theorem dX6_relockTime_0 : decode cX6_relockTime 0 = .ok (.iload_n 1, 1) := by decide +kernel
theorem dX6_relockTime_1 : decode cX6_relockTime 1 = .ok (.ldc 49, 2) := by decide +kernel
theorem dX6_relockTime_3 : decode cX6_relockTime 3 = .ok (.ldc 50, 2) := by decide +kernel
theorem dX6_relockTime_5 : decode cX6_relockTime 5 = .ok (.invokestatic 23, 3) := by decide +kernel
theorem dX6_relockTime_8 : decode cX6_relockTime 8 = .ok (.ifCond .ne 14, 3) := by decide +kernel
theorem dX6_relockTime_11 : decode cX6_relockTime 11 = .ok (.iload_n 2, 1) := by decide +kernel
theorem dX6_relockTime_12 : decode cX6_relockTime 12 = .ok (.iconst 1, 1) := by decide +kernel
theorem dX6_relockTime_13 : decode cX6_relockTime 13 = .ok (.sipush 2000, 3) := by decide +kernel
theorem dX6_relockTime_16 : decode cX6_relockTime 16 = .ok (.invokestatic 23, 3) := by decide +kernel
theorem dX6_relockTime_19 : decode cX6_relockTime 19 = .ok (.ifCond .eq 13, 3) := by decide +kernel
theorem dX6_relockTime_22 : decode cX6_relockTime 22 = .ok (.new 29, 3) := by decide +kernel
theorem dX6_relockTime_25 : decode cX6_relockTime 25 = .ok (.dup, 1) := by decide +kernel
theorem dX6_relockTime_26 : decode cX6_relockTime 26 = .ok (.ldc 231, 2) := by decide +kernel
theorem dX6_relockTime_28 : decode cX6_relockTime 28 = .ok (.invokespecial 33, 3) := by decide +kernel
theorem dX6_relockTime_31 : decode cX6_relockTime 31 = .ok (.athrow, 1) := by decide +kernel
theorem dX6_relockTime_32 : decode cX6_relockTime 32 = .ok (.aload_n 0, 1) := by decide +kernel
theorem dX6_relockTime_33 : decode cX6_relockTime 33 = .ok (.getfield 16, 3) := by decide +kernel
theorem dX6_relockTime_36 : decode cX6_relockTime 36 = .ok (.aload_n 0, 1) := by decide +kernel
theorem dX6_relockTime_37 : decode cX6_relockTime 37 = .ok (.getfield 10, 3) := by decide +kernel
theorem dX6_relockTime_40 : decode cX6_relockTime 40 = .ok (.invokevirtual 245, 3) := by decide +kernel
theorem dX6_relockTime_43 : decode cX6_relockTime 43 = .ok (.aload_n 0, 1) := by decide +kernel
theorem dX6_relockTime_44 : decode cX6_relockTime 44 = .ok (.getfield 16, 3) := by decide +kernel
theorem dX6_relockTime_47 : decode cX6_relockTime 47 = .ok (.getfield 36, 3) := by decide +kernel
theorem dX6_relockTime_50 : decode cX6_relockTime 50 = .ok (.iload_n 1, 1) := by decide +kernel
theorem dX6_relockTime_51 : decode cX6_relockTime 51 = .ok (.invokevirtual 53, 3) := by decide +kernel
theorem dX6_relockTime_54 : decode cX6_relockTime 54 = .ok (.aload_n 0, 1) := by decide +kernel
theorem dX6_relockTime_55 : decode cX6_relockTime 55 = .ok (.getfield 16, 3) := by decide +kernel
theorem dX6_relockTime_58 : decode cX6_relockTime 58 = .ok (.getfield 75, 3) := by decide +kernel
theorem dX6_relockTime_61 : decode cX6_relockTime 61 = .ok (.iconst 0, 1) := by decide +kernel
theorem dX6_relockTime_62 : decode cX6_relockTime 62 = .ok (.putfield 189, 3) := by decide +kernel
theorem dX6_relockTime_65 : decode cX6_relockTime 65 = .ok (.iconst 1, 1) := by decide +kernel
theorem dX6_relockTime_66 : decode cX6_relockTime 66 = .ok (.istore_n 3, 1) := by decide +kernel
theorem dX6_relockTime_67 : decode cX6_relockTime 67 = .ok (.iload_n 3, 1) := by decide +kernel
theorem dX6_relockTime_68 : decode cX6_relockTime 68 = .ok (.iload_n 2, 1) := by decide +kernel
theorem dX6_relockTime_69 : decode cX6_relockTime 69 = .ok (.if_icmp .gt 31, 3) := by decide +kernel
theorem dX6_relockTime_72 : decode cX6_relockTime 72 = .ok (.aload_n 0, 1) := by decide +kernel
theorem dX6_relockTime_73 : decode cX6_relockTime 73 = .ok (.getfield 16, 3) := by decide +kernel
theorem dX6_relockTime_76 : decode cX6_relockTime 76 = .ok (.invokevirtual 166, 3) := by decide +kernel
theorem dX6_relockTime_79 : decode cX6_relockTime 79 = .ok (.aload_n 0, 1) := by decide +kernel
theorem dX6_relockTime_80 : decode cX6_relockTime 80 = .ok (.getfield 16, 3) := by decide +kernel
theorem dX6_relockTime_83 : decode cX6_relockTime 83 = .ok (.getfield 75, 3) := by decide +kernel
theorem dX6_relockTime_86 : decode cX6_relockTime 86 = .ok (.invokevirtual 175, 3) := by decide +kernel
theorem dX6_relockTime_89 : decode cX6_relockTime 89 = .ok (.ifCond .eq 5, 3) := by decide +kernel
theorem dX6_relockTime_92 : decode cX6_relockTime 92 = .ok (.iload_n 3, 1) := by decide +kernel
theorem dX6_relockTime_93 : decode cX6_relockTime 93 = .ok (.ireturn, 1) := by decide +kernel
theorem dX6_relockTime_94 : decode cX6_relockTime 94 = .ok (.iinc 3 1, 3) := by decide +kernel
theorem dX6_relockTime_97 : decode cX6_relockTime 97 = .ok (.goto (-30), 3) := by decide +kernel
theorem dX6_relockTime_100 : decode cX6_relockTime 100 = .ok (.iconst (-1), 1) := by decide +kernel
theorem dX6_relockTime_101 : decode cX6_relockTime 101 = .ok (.ireturn, 1) := by decide +kernel
set_option maxRecDepth 20000 in
theorem ggX6_save_X6_outside : GoodIn wsX6_save wsX6_outside := goodIn_r _ [11] (by decide +kernel) (by decide +kernel)
set_option maxRecDepth 20000 in
theorem gX6_save_X6_outside : GoodIn wsX6_save (va_wsS RX6 23 yX6_outside wsX6_outside) := goodIn_app (goodIn_of _ (by decide +kernel)) ggX6_save_X6_outside
set_option maxRecDepth 20000 in
theorem ggX6_save_X5_init : GoodIn wsX6_save wsX5_init := goodIn_r _ [13, 14, 15, 16, 17, 18, 19, 20, 21, 22, 23, 24, 25, 26, 27, 28, 29, 30, 31, 32, 33, 34, 35, 36, 37, 38, 39, 40, 41, 42, 43, 44, 45, 46, 47, 48, 49, 50, 51, 52, 53, 54, 55, 56, 57, 58, 59, 60, 61, 62, 63, 64, 65, 66, 67, 68, 69, 70, 71, 72, 73, 74, 75, 76, 77, 78, 79, 80, 81, 82, 83, 84, 85, 86, 87, 88, 89, 90, 91, 92, 93, 94, 95, 96, 97, 98, 140, 141, 142, 143, 144, 145, 146, 147, 148, 149, 150, 151, 152, 153, 154, 155, 156, 157, 158, 159, 160, 161, 162, 163, 164, 165, 166, 167, 168, 169, 170, 171, 172, 173, 174, 175, 176, 177, 178, 179, 180, 181, 182, 183, 184, 185] (by decide +kernel) (by decide +kernel)
set_option maxRecDepth 20000 in
theorem gX6_save_X5_init_n9 : GoodIn wsX6_save (wsX5_init) := ggX6_save_X5_init
set_option maxRecDepth 20000 in
theorem ggX6_save_X5_takeFrom : GoodIn wsX6_save wsX5_takeFrom := goodIn_r _ [102, 17, 21, 25, 29, 33, 37, 103, 104, 105, 20, 106, 41, 43, 44, 45, 46, 47, 48, 49, 50, 107, 108, 109, 110, 111, 112, 113, 24, 114, 55, 57, 58, 59, 60, 61, 62, 63, 65, 115, 10, 116, 117, 118, 119, 120, 121, 122, 123, 124, 125, 126, 127, 28, 128, 69, 70, 71, 72, 73, 74, 75, 76, 78, 80, 81, 82, 83, 84, 129, 130, 131, 32, 132, 88, 89, 90, 91, 92, 133, 134, 135, 36, 136, 96, 97, 98, 140, 141, 142, 143, 144, 145, 146, 147, 148, 149, 150, 151, 152, 153, 154, 155, 156, 157, 158, 159, 160, 161, 162, 163, 164, 165, 166, 167, 168, 169, 170, 171, 172, 173, 174, 175, 176, 177, 178, 179, 180, 181, 182, 183, 184, 185] (by decide +kernel) (by decide +kernel)
set_option maxRecDepth 20000 in
theorem gX6_save_X5_takeFrom : GoodIn wsX6_save (wsV RX6 245 RX5 yX5_takeFrom wsX5_takeFrom) := goodIn_app (goodIn_of _ (by decide +kernel)) ggX6_save_X5_takeFrom
theorem dX6_save_0 : decode cX6_save 0 = .ok (.iload_n 1, 1) := by decide +kernel
theorem dX6_save_1 : decode cX6_save 1 = .ok (.iconst 0, 1) := by decide +kernel
theorem dX6_save_2 : decode cX6_save 2 = .ok (.iconst 1, 1) := by decide +kernel
theorem dX6_save_3 : decode cX6_save 3 = .ok (.invokestatic 23, 3) := by decide +kernel
theorem dX6_save_6 : decode cX6_save 6 = .ok (.ifCond .eq 13, 3) := by decide +kernel
theorem dX6_save_9 : decode cX6_save 9 = .ok (.new 29, 3) := by decide +kernel
theorem dX6_save_12 : decode cX6_save 12 = .ok (.dup, 1) := by decide +kernel
theorem dX6_save_13 : decode cX6_save 13 = .ok (.ldc 249, 2) := by decide +kernel
theorem dX6_save_15 : decode cX6_save 15 = .ok (.invokespecial 33, 3) := by decide +kernel
theorem dX6_save_18 : decode cX6_save 18 = .ok (.athrow, 1) := by decide +kernel
theorem dX6_save_19 : decode cX6_save 19 = .ok (.aload_n 0, 1) := by decide +kernel
theorem dX6_save_20 : decode cX6_save 20 = .ok (.getfield 19, 3) := by decide +kernel
theorem dX6_save_23 : decode cX6_save 23 = .ok (.iload_n 1, 1) := by decide +kernel
theorem dX6_save_24 : decode cX6_save 24 = .ok (.aaload, 1) := by decide +kernel
theorem dX6_save_25 : decode cX6_save 25 = .ok (.astore_n 2, 1) := by decide +kernel
theorem dX6_save_26 : decode cX6_save 26 = .ok (.aload_n 2, 1) := by decide +kernel
theorem dX6_save_27 : decode cX6_save 27 = .ok (.ifnonnull 18, 3) := by decide +kernel
theorem dX6_save_30 : decode cX6_save 30 = .ok (.new 7, 3) := by decide +kernel
theorem dX6_save_33 : decode cX6_save 33 = .ok (.dup, 1) := by decide +kernel
theorem dX6_save_34 : decode cX6_save 34 = .ok (.invokespecial 9, 3) := by decide +kernel
theorem dX6_save_37 : decode cX6_save 37 = .ok (.astore_n 2, 1) := by decide +kernel
theorem dX6_save_38 : decode cX6_save 38 = .ok (.aload_n 0, 1) := by decide +kernel
theorem dX6_save_39 : decode cX6_save 39 = .ok (.getfield 19, 3) := by decide +kernel
theorem dX6_save_42 : decode cX6_save 42 = .ok (.iload_n 1, 1) := by decide +kernel
theorem dX6_save_43 : decode cX6_save 43 = .ok (.aload_n 2, 1) := by decide +kernel
theorem dX6_save_44 : decode cX6_save 44 = .ok (.aastore, 1) := by decide +kernel
theorem dX6_save_45 : decode cX6_save 45 = .ok (.aload_n 2, 1) := by decide +kernel
theorem dX6_save_46 : decode cX6_save 46 = .ok (.aload_n 0, 1) := by decide +kernel
theorem dX6_save_47 : decode cX6_save 47 = .ok (.getfield 10, 3) := by decide +kernel
theorem dX6_save_50 : decode cX6_save 50 = .ok (.invokevirtual 245, 3) := by decide +kernel
theorem dX6_save_53 : decode cX6_save 53 = .ok (.return_, 1) := by decide +kernel
set_option maxRecDepth 20000 in
theorem ggX6_restore_X6_outside : GoodIn wsX6_restore wsX6_outside := goodIn_r _ [10] (by decide +kernel) (by decide +kernel)
set_option maxRecDepth 20000 in
theorem gX6_restore_X6_outside : GoodIn wsX6_restore (va_wsS RX6 23 yX6_outside wsX6_outside) := goodIn_app (goodIn_of _ (by decide +kernel)) ggX6_restore_X6_outside
set_option maxRecDepth 20000 in
theorem ggX6_restore_X5_takeFrom : GoodIn wsX6_restore wsX5_takeFrom := goodIn_r _ [15, 16, 17, 18, 19, 20, 21, 22, 23, 24, 25, 26, 27, 28, 29, 30, 31, 32, 33, 34, 35, 36, 37, 38, 39, 40, 41, 42, 43, 44, 45, 46, 47, 48, 49, 50, 51, 52, 53, 54, 9, 55, 56, 57, 58, 59, 60, 61, 62, 63, 64, 65, 66, 67, 68, 69, 70, 71, 72, 73, 74, 75, 76, 77, 78, 79, 80, 81, 82, 83, 84, 85, 86, 87, 88, 89, 90, 91, 92, 93, 94, 95, 96, 97, 98, 99, 100, 104, 105, 106, 107, 108, 109, 110, 111, 112, 113, 114, 115, 116, 117, 118, 119, 120, 121, 122, 123, 124, 125, 126, 127, 128, 129, 130, 131, 132, 133, 134, 135, 136, 137, 138, 139, 140, 141, 142, 143, 144, 145, 146, 147, 148, 149] (by decide +kernel) (by decide +kernel)
set_option maxRecDepth 20000 in
theorem gX6_restore_X5_takeFrom : GoodIn wsX6_restore (wsV RX6 245 RX5 yX5_takeFrom wsX5_takeFrom) := goodIn_app (goodIn_of _ (by decide +kernel)) ggX6_restore_X5_takeFrom
theorem dX6_restore_0 : decode cX6_restore 0 = .ok (.iload_n 1, 1) := by decide +kernel
theorem dX6_restore_1 : decode cX6_restore 1 = .ok (.iconst 0, 1) := by decide +kernel
theorem dX6_restore_2 : decode cX6_restore 2 = .ok (.iconst 1, 1) := by decide +kernel
theorem dX6_restore_3 : decode cX6_restore 3 = .ok (.invokestatic 23, 3) := by decide +kernel
theorem dX6_restore_6 : decode cX6_restore 6 = .ok (.ifCond .eq 13, 3) := by decide +kernel
theorem dX6_restore_9 : decode cX6_restore 9 = .ok (.new 29, 3) := by decide +kernel
theorem dX6_restore_12 : decode cX6_restore 12 = .ok (.dup, 1) := by decide +kernel
theorem dX6_restore_13 : decode cX6_restore 13 = .ok (.ldc 249, 2) := by decide +kernel
theorem dX6_restore_15 : decode cX6_restore 15 = .ok (.invokespecial 33, 3) := by decide +kernel
theorem dX6_restore_18 : decode cX6_restore 18 = .ok (.athrow, 1) := by decide +kernel
theorem dX6_restore_19 : decode cX6_restore 19 = .ok (.aload_n 0, 1) := by decide +kernel
theorem dX6_restore_20 : decode cX6_restore 20 = .ok (.getfield 19, 3) := by decide +kernel
theorem dX6_restore_23 : decode cX6_restore 23 = .ok (.iload_n 1, 1) := by decide +kernel
theorem dX6_restore_24 : decode cX6_restore 24 = .ok (.aaload, 1) := by decide +kernel
theorem dX6_restore_25 : decode cX6_restore 25 = .ok (.astore_n 2, 1) := by decide +kernel
theorem dX6_restore_26 : decode cX6_restore 26 = .ok (.aload_n 2, 1) := by decide +kernel
theorem dX6_restore_27 : decode cX6_restore 27 = .ok (.ifnonnull 13, 3) := by decide +kernel
theorem dX6_restore_30 : decode cX6_restore 30 = .ok (.new 149, 3) := by decide +kernel
theorem dX6_restore_33 : decode cX6_restore 33 = .ok (.dup, 1) := by decide +kernel
theorem dX6_restore_34 : decode cX6_restore 34 = .ok (.ldc 251, 2) := by decide +kernel
theorem dX6_restore_36 : decode cX6_restore 36 = .ok (.invokespecial 153, 3) := by decide +kernel
theorem dX6_restore_39 : decode cX6_restore 39 = .ok (.athrow, 1) := by decide +kernel
theorem dX6_restore_40 : decode cX6_restore 40 = .ok (.aload_n 0, 1) := by decide +kernel
theorem dX6_restore_41 : decode cX6_restore 41 = .ok (.getfield 10, 3) := by decide +kernel
theorem dX6_restore_44 : decode cX6_restore 44 = .ok (.aload_n 2, 1) := by decide +kernel
theorem dX6_restore_45 : decode cX6_restore 45 = .ok (.invokevirtual 245, 3) := by decide +kernel
theorem dX6_restore_48 : decode cX6_restore 48 = .ok (.return_, 1) := by decide +kernel
set_option maxRecDepth 20000 in
theorem ggX6_ticksToDetect_X5_takeFrom : GoodIn wsX6_ticksToDetect wsX5_takeFrom := goodIn_r _ [11, 12, 13, 14, 15, 16, 17, 18, 19, 20, 21, 22, 23, 24, 25, 26, 27, 28, 29, 30, 31, 32, 33, 34, 35, 36, 37, 38, 39, 40, 41, 42, 43, 44, 45, 46, 47, 48, 49, 50, 51, 52, 53, 54, 55, 56, 57, 58, 59, 60, 61, 62, 63, 64, 65, 66, 67, 68, 69, 70, 71, 72, 73, 74, 75, 76, 77, 78, 79, 80, 81, 82, 83, 84, 85, 86, 87, 88, 89, 90, 91, 92, 93, 94, 95, 96, 97, 206, 207, 208, 209, 210, 211, 212, 213, 214, 215, 216, 217, 218, 219, 220, 235, 236, 237, 238, 239, 240, 241, 242, 243, 221, 222, 223, 224, 225, 226, 227, 228, 229, 230, 231, 232, 233, 234, 244, 245, 246, 247, 248, 249, 250, 251] (by decide +kernel) (by decide +kernel)
set_option maxRecDepth 20000 in
theorem gX6_ticksToDetect_X5_takeFrom : GoodIn wsX6_ticksToDetect (wsV RX6 245 RX5 yX5_takeFrom wsX5_takeFrom) := goodIn_app (goodIn_of _ (by decide +kernel)) ggX6_ticksToDetect_X5_takeFrom
set_option maxRecDepth 20000 in
theorem ggX6_ticksToDetect_X1_becomeIsland : GoodIn wsX6_ticksToDetect wsX1_becomeIsland := goodIn_r _ [35, 29, 30, 31, 212, 213, 214, 215, 216, 217, 218, 219, 220] (by decide +kernel) (by decide +kernel)
set_option maxRecDepth 20000 in
theorem gX6_ticksToDetect_X1_becomeIsland : GoodIn wsX6_ticksToDetect (wsV RX6 69 RX1 yX1_becomeIsland wsX1_becomeIsland) := goodIn_app (goodIn_of _ (by decide +kernel)) ggX6_ticksToDetect_X1_becomeIsland
set_option maxRecDepth 20000 in
theorem ggX6_ticksToDetect_X5_tick : GoodIn wsX6_ticksToDetect wsX5_tick := goodIn_r _ [102, 12, 13, 15, 103, 14, 104, 105, 106, 107, 108, 109, 110, 111, 64, 112, 76, 113, 77, 114, 115, 116, 21, 117, 26, 27, 23, 28, 24, 118, 119, 120, 121, 29, 122, 54, 55, 56, 123, 124, 125, 126, 30, 31, 127, 51, 128, 129, 130, 53, 131, 132, 133, 134, 135, 136, 137, 25, 138, 139, 140, 141, 142, 143, 144, 145, 39, 146, 41, 42, 147, 148, 43, 44, 45, 46, 48, 149, 150, 151, 152, 153, 154, 155, 49, 156, 157, 158, 10, 159, 16, 160, 161, 162, 163, 47, 164, 165, 166, 167, 168, 17, 169, 170, 171, 93, 172, 95, 96, 97, 173, 174, 175, 176, 83, 177, 85, 86, 87, 89, 88, 178, 179, 180, 181, 182, 183, 184, 67, 70, 68, 185, 186, 187, 188, 189, 190, 191, 192, 193, 194, 72, 73, 74, 75, 195, 196, 197, 198, 199, 200, 201, 202, 78, 66, 79, 206, 207, 208, 209, 210, 211, 221, 222, 223, 224, 225, 226, 227, 228, 229, 230, 231, 232, 233, 234, 235, 236, 237, 238, 239, 240, 241, 242, 243, 212, 213, 214, 215, 216, 217, 218, 219, 220, 249, 250, 251, 244, 245, 246, 247, 248] (by decide +kernel) (by decide +kernel)
set_option maxRecDepth 20000 in
theorem gX6_ticksToDetect_X5_tick : GoodIn wsX6_ticksToDetect (wsV RX6 166 RX5 yX5_tick wsX5_tick) := goodIn_app (goodIn_of _ (by decide +kernel)) ggX6_ticksToDetect_X5_tick
theorem dX6_ticksToDetect_0 : decode cX6_ticksToDetect 0 = .ok (.aload_n 0, 1) := by decide +kernel
theorem dX6_ticksToDetect_1 : decode cX6_ticksToDetect 1 = .ok (.getfield 16, 3) := by decide +kernel
theorem dX6_ticksToDetect_4 : decode cX6_ticksToDetect 4 = .ok (.aload_n 0, 1) := by decide +kernel
theorem dX6_ticksToDetect_5 : decode cX6_ticksToDetect 5 = .ok (.getfield 10, 3) := by decide +kernel
theorem dX6_ticksToDetect_8 : decode cX6_ticksToDetect 8 = .ok (.invokevirtual 245, 3) := by decide +kernel
theorem dX6_ticksToDetect_11 : decode cX6_ticksToDetect 11 = .ok (.aload_n 0, 1) := by decide +kernel
theorem dX6_ticksToDetect_12 : decode cX6_ticksToDetect 12 = .ok (.getfield 16, 3) := by decide +kernel
theorem dX6_ticksToDetect_15 : decode cX6_ticksToDetect 15 = .ok (.getfield 36, 3) := by decide +kernel
theorem dX6_ticksToDetect_18 : decode cX6_ticksToDetect 18 = .ok (.iload_n 1, 1) := by decide +kernel
theorem dX6_ticksToDetect_19 : decode cX6_ticksToDetect 19 = .ok (.iload_n 2, 1) := by decide +kernel
theorem dX6_ticksToDetect_20 : decode cX6_ticksToDetect 20 = .ok (.iload_n 3, 1) := by decide +kernel
theorem dX6_ticksToDetect_21 : decode cX6_ticksToDetect 21 = .ok (.invokevirtual 69, 3) := by decide +kernel
theorem dX6_ticksToDetect_24 : decode cX6_ticksToDetect 24 = .ok (.aload_n 0, 1) := by decide +kernel
theorem dX6_ticksToDetect_25 : decode cX6_ticksToDetect 25 = .ok (.getfield 16, 3) := by decide +kernel
theorem dX6_ticksToDetect_28 : decode cX6_ticksToDetect 28 = .ok (.getfield 36, 3) := by decide +kernel
theorem dX6_ticksToDetect_31 : decode cX6_ticksToDetect 31 = .ok (.iconst 0, 1) := by decide +kernel
theorem dX6_ticksToDetect_32 : decode cX6_ticksToDetect 32 = .ok (.putfield 60, 3) := by decide +kernel
theorem dX6_ticksToDetect_35 : decode cX6_ticksToDetect 35 = .ok (.iconst 1, 1) := by decide +kernel
theorem dX6_ticksToDetect_36 : decode cX6_ticksToDetect 36 = .ok (.istore 5, 2) := by decide +kernel
theorem dX6_ticksToDetect_38 : decode cX6_ticksToDetect 38 = .ok (.iload 5, 2) := by decide +kernel
theorem dX6_ticksToDetect_40 : decode cX6_ticksToDetect 40 = .ok (.iload 4, 2) := by decide +kernel
theorem dX6_ticksToDetect_42 : decode cX6_ticksToDetect 42 = .ok (.if_icmp .gt 33, 3) := by decide +kernel
theorem dX6_ticksToDetect_45 : decode cX6_ticksToDetect 45 = .ok (.aload_n 0, 1) := by decide +kernel
theorem dX6_ticksToDetect_46 : decode cX6_ticksToDetect 46 = .ok (.getfield 16, 3) := by decide +kernel
theorem dX6_ticksToDetect_49 : decode cX6_ticksToDetect 49 = .ok (.invokevirtual 166, 3) := by decide +kernel
theorem dX6_ticksToDetect_52 : decode cX6_ticksToDetect 52 = .ok (.aload_n 0, 1) := by decide +kernel
theorem dX6_ticksToDetect_53 : decode cX6_ticksToDetect 53 = .ok (.getfield 16, 3) := by decide +kernel
theorem dX6_ticksToDetect_56 : decode cX6_ticksToDetect 56 = .ok (.getfield 100, 3) := by decide +kernel
theorem dX6_ticksToDetect_59 : decode cX6_ticksToDetect 59 = .ok (.getfield 172, 3) := by decide +kernel
theorem dX6_ticksToDetect_62 : decode cX6_ticksToDetect 62 = .ok (.iconst 1, 1) := by decide +kernel
theorem dX6_ticksToDetect_63 : decode cX6_ticksToDetect 63 = .ok (.if_icmp .eq 6, 3) := by decide +kernel
theorem dX6_ticksToDetect_66 : decode cX6_ticksToDetect 66 = .ok (.iload 5, 2) := by decide +kernel
theorem dX6_ticksToDetect_68 : decode cX6_ticksToDetect 68 = .ok (.ireturn, 1) := by decide +kernel
theorem dX6_ticksToDetect_69 : decode cX6_ticksToDetect 69 = .ok (.iinc 5 1, 3) := by decide +kernel
theorem dX6_ticksToDetect_72 : decode cX6_ticksToDetect 72 = .ok (.goto (-34), 3) := by decide +kernel
theorem dX6_ticksToDetect_75 : decode cX6_ticksToDetect 75 = .ok (.iconst (-1), 1) := by decide +kernel
theorem dX6_ticksToDetect_76 : decode cX6_ticksToDetect 76 = .ok (.ireturn, 1) := by decide +kernel
set_option maxRecDepth 20000 in
theorem ggX6_badIsland_X6_outside : GoodIn wsX6_badIsland wsX6_outside := goodIn_r _ [6] (by decide +kernel) (by decide +kernel)
set_option maxRecDepth 20000 in
theorem gX6_badIsland_X6_outside : GoodIn wsX6_badIsland (va_wsS RX6 23 yX6_outside wsX6_outside) := goodIn_app (goodIn_of _ (by decide +kernel)) ggX6_badIsland_X6_outside
theorem dX6_badIsland_0 : decode cX6_badIsland 0 = .ok (.iload_n 0, 1) := by decide +kernel
theorem dX6_badIsland_1 : decode cX6_badIsland 1 = .ok (.iconst 1, 1) := by decide +kernel
theorem dX6_badIsland_2 : decode cX6_badIsland 2 = .ok (.sipush 5000, 3) := by decide +kernel
theorem dX6_badIsland_5 : decode cX6_badIsland 5 = .ok (.invokestatic 23, 3) := by decide +kernel
theorem dX6_badIsland_8 : decode cX6_badIsland 8 = .ok (.ifCond .ne 24, 3) := by decide +kernel
theorem dX6_badIsland_11 : decode cX6_badIsland 11 = .ok (.iload_n 1, 1) := by decide +kernel
theorem dX6_badIsland_12 : decode cX6_badIsland 12 = .ok (.ldc 27, 2) := by decide +kernel
theorem dX6_badIsland_14 : decode cX6_badIsland 14 = .ok (.ldc 28, 2) := by decide +kernel
theorem dX6_badIsland_16 : decode cX6_badIsland 16 = .ok (.invokestatic 23, 3) := by decide +kernel
theorem dX6_badIsland_19 : decode cX6_badIsland 19 = .ok (.ifCond .ne 13, 3) := by decide +kernel
theorem dX6_badIsland_22 : decode cX6_badIsland 22 = .ok (.iload_n 2, 1) := by decide +kernel
theorem dX6_badIsland_23 : decode cX6_badIsland 23 = .ok (.iconst 0, 1) := by decide +kernel
theorem dX6_badIsland_24 : decode cX6_badIsland 24 = .ok (.bipush 100, 2) := by decide +kernel
theorem dX6_badIsland_26 : decode cX6_badIsland 26 = .ok (.invokestatic 23, 3) := by decide +kernel
theorem dX6_badIsland_29 : decode cX6_badIsland 29 = .ok (.ifCond .eq 7, 3) := by decide +kernel
theorem dX6_badIsland_32 : decode cX6_badIsland 32 = .ok (.iconst 1, 1) := by decide +kernel
theorem dX6_badIsland_33 : decode cX6_badIsland 33 = .ok (.goto 4, 3) := by decide +kernel
theorem dX6_badIsland_36 : decode cX6_badIsland 36 = .ok (.iconst 0, 1) := by decide +kernel
theorem dX6_badIsland_37 : decode cX6_badIsland 37 = .ok (.ireturn, 1) := by decide +kernel
theorem dX6_outside_0 : decode cX6_outside 0 = .ok (.iload_n 0, 1) := by decide +kernel
theorem dX6_outside_1 : decode cX6_outside 1 = .ok (.iload_n 1, 1) := by decide +kernel
theorem dX6_outside_2 : decode cX6_outside 2 = .ok (.if_icmp .lt 8, 3) := by decide +kernel
theorem dX6_outside_5 : decode cX6_outside 5 = .ok (.iload_n 0, 1) := by decide +kernel
theorem dX6_outside_6 : decode cX6_outside 6 = .ok (.iload_n 2, 1) := by decide +kernel
theorem dX6_outside_7 : decode cX6_outside 7 = .ok (.if_icmp .le 7, 3) := by decide +kernel
theorem dX6_outside_10 : decode cX6_outside 10 = .ok (.iconst 1, 1) := by decide +kernel
theorem dX6_outside_11 : decode cX6_outside 11 = .ok (.goto 4, 3) := by decide +kernel
theorem dX6_outside_14 : decode cX6_outside 14 = .ok (.iconst 0, 1) := by decide +kernel
theorem dX6_outside_15 : decode cX6_outside 15 = .ok (.ireturn, 1) := by decide +kernel
theorem dX6_limitedFrequency_0 : decode cX6_limitedFrequency 0 = .ok (.ldc 96, 2) := by decide +kernel
theorem dX6_limitedFrequency_2 : decode cX6_limitedFrequency 2 = .ok (.iload_n 0, 1) := by decide +kernel
theorem dX6_limitedFrequency_3 : decode cX6_limitedFrequency 3 = .ok (.ldc 97, 2) := by decide +kernel
theorem dX6_limitedFrequency_5 : decode cX6_limitedFrequency 5 = .ok (.invokestatic 253, 3) := by decide +kernel
theorem dX6_limitedFrequency_8 : decode cX6_limitedFrequency 8 = .ok (.invokestatic 259, 3) := by decide +kernel
theorem dX6_limitedFrequency_11 : decode cX6_limitedFrequency 11 = .ok (.ireturn, 1) := by decide +kernel
theorem dX6_copyRow_0 : decode cX6_copyRow 0 = .ok (.aload_n 0, 1) := by decide +kernel
theorem dX6_copyRow_1 : decode cX6_copyRow 1 = .ok (.iconst 0, 1) := by decide +kernel
theorem dX6_copyRow_2 : decode cX6_copyRow 2 = .ok (.aload_n 1, 1) := by decide +kernel
theorem dX6_copyRow_3 : decode cX6_copyRow 3 = .ok (.iconst 0, 1) := by decide +kernel
theorem dX6_copyRow_4 : decode cX6_copyRow 4 = .ok (.aload_n 0, 1) := by decide +kernel
theorem dX6_copyRow_5 : decode cX6_copyRow 5 = .ok (.arraylength, 1) := by decide +kernel
theorem dX6_copyRow_6 : decode cX6_copyRow 6 = .ok (.aload_n 1, 1) := by decide +kernel
theorem dX6_copyRow_7 : decode cX6_copyRow 7 = .ok (.arraylength, 1) := by decide +kernel
theorem dX6_copyRow_8 : decode cX6_copyRow 8 = .ok (.invokestatic 253, 3) := by decide +kernel
theorem dX6_copyRow_11 : decode cX6_copyRow 11 = .ok (.invokestatic 262, 3) := by decide +kernel
theorem dX6_copyRow_14 : decode cX6_copyRow 14 = .ok (.return_, 1) := by decide +kernel
theorem dX7_init_0 : decode cX7_init 0 = .ok (.aload_n 0, 1) := by decide +kernel
theorem dX7_init_1 : decode cX7_init 1 = .ok (.invokespecial 1, 3) := by decide +kernel
theorem dX7_init_4 : decode cX7_init 4 = .ok (.aload_n 0, 1) := by decide +kernel
theorem dX7_init_5 : decode cX7_init 5 = .ok (.sipush 165, 3) := by decide +kernel
theorem dX7_init_8 : decode cX7_init 8 = .ok (.newarray .int, 2) := by decide +kernel
theorem dX7_init_10 : decode cX7_init 10 = .ok (.putfield 7, 3) := by decide +kernel
theorem dX7_init_13 : decode cX7_init 13 = .ok (.aload_n 0, 1) := by decide +kernel
theorem dX7_init_14 : decode cX7_init 14 = .ok (.sipush 165, 3) := by decide +kernel
theorem dX7_init_17 : decode cX7_init 17 = .ok (.newarray .int, 2) := by decide +kernel
theorem dX7_init_19 : decode cX7_init 19 = .ok (.putfield 13, 3) := by decide +kernel
theorem dX7_init_22 : decode cX7_init 22 = .ok (.aload_n 0, 1) := by decide +kernel
theorem dX7_init_23 : decode cX7_init 23 = .ok (.sipush 330, 3) := by decide +kernel
theorem dX7_init_26 : decode cX7_init 26 = .ok (.newarray .int, 2) := by decide +kernel
theorem dX7_init_28 : decode cX7_init 28 = .ok (.putfield 16, 3) := by decide +kernel
theorem dX7_init_31 : decode cX7_init 31 = .ok (.aload_n 0, 1) := by decide +kernel
theorem dX7_init_32 : decode cX7_init 32 = .ok (.iconst 2, 1) := by decide +kernel
theorem dX7_init_33 : decode cX7_init 33 = .ok (.newarray .long, 2) := by decide +kernel
theorem dX7_init_35 : decode cX7_init 35 = .ok (.putfield 19, 3) := by decide +kernel
theorem dX7_init_38 : decode cX7_init 38 = .ok (.aload_n 0, 1) := by decide +kernel
theorem dX7_init_39 : decode cX7_init 39 = .ok (.iconst 2, 1) := by decide +kernel
theorem dX7_init_40 : decode cX7_init 40 = .ok (.newarray .boolean, 2) := by decide +kernel
theorem dX7_init_42 : decode cX7_init 42 = .ok (.putfield 23, 3) := by decide +kernel
theorem dX7_init_45 : decode cX7_init 45 = .ok (.aload_n 0, 1) := by decide +kernel
theorem dX7_init_46 : decode cX7_init 46 = .ok (.getfield 7, 3) := by decide +kernel
theorem dX7_init_49 : decode cX7_init 49 = .ok (.iconst 1, 1) := by decide +kernel
theorem dX7_init_50 : decode cX7_init 50 = .ok (.sipush 230, 3) := by decide +kernel
theorem dX7_init_53 : decode cX7_init 53 = .ok (.iastore, 1) := by decide +kernel
theorem dX7_init_54 : decode cX7_init 54 = .ok (.aload_n 0, 1) := by decide +kernel
theorem dX7_init_55 : decode cX7_init 55 = .ok (.getfield 7, 3) := by decide +kernel
theorem dX7_init_58 : decode cX7_init 58 = .ok (.iconst 2, 1) := by decide +kernel
theorem dX7_init_59 : decode cX7_init 59 = .ok (.ldc 27, 2) := by decide +kernel
theorem dX7_init_61 : decode cX7_init 61 = .ok (.iastore, 1) := by decide +kernel
theorem dX7_init_62 : decode cX7_init 62 = .ok (.aload_n 0, 1) := by decide +kernel
theorem dX7_init_63 : decode cX7_init 63 = .ok (.getfield 7, 3) := by decide +kernel
theorem dX7_init_66 : decode cX7_init 66 = .ok (.bipush 10, 2) := by decide +kernel
theorem dX7_init_68 : decode cX7_init 68 = .ok (.iconst 1, 1) := by decide +kernel
theorem dX7_init_69 : decode cX7_init 69 = .ok (.iastore, 1) := by decide +kernel
theorem dX7_init_70 : decode cX7_init 70 = .ok (.aload_n 0, 1) := by decide +kernel
theorem dX7_init_71 : decode cX7_init 71 = .ok (.getfield 7, 3) := by decide +kernel
theorem dX7_init_74 : decode cX7_init 74 = .ok (.bipush 11, 2) := by decide +kernel
theorem dX7_init_76 : decode cX7_init 76 = .ok (.sipush 230, 3) := by decide +kernel
theorem dX7_init_79 : decode cX7_init 79 = .ok (.iastore, 1) := by decide +kernel
theorem dX7_init_80 : decode cX7_init 80 = .ok (.aload_n 0, 1) := by decide +kernel
theorem dX7_init_81 : decode cX7_init 81 = .ok (.getfield 7, 3) := by decide +kernel
theorem dX7_init_84 : decode cX7_init 84 = .ok (.bipush 12, 2) := by decide +kernel
theorem dX7_init_86 : decode cX7_init 86 = .ok (.ldc 27, 2) := by decide +kernel
theorem dX7_init_88 : decode cX7_init 88 = .ok (.iastore, 1) := by decide +kernel
theorem dX7_init_89 : decode cX7_init 89 = .ok (.aload_n 0, 1) := by decide +kernel
theorem dX7_init_90 : decode cX7_init 90 = .ok (.getfield 7, 3) := by decide +kernel
theorem dX7_init_93 : decode cX7_init 93 = .ok (.bipush 13, 2) := by decide +kernel
theorem dX7_init_95 : decode cX7_init 95 = .ok (.sipush 1000, 3) := by decide +kernel
theorem dX7_init_98 : decode cX7_init 98 = .ok (.iastore, 1) := by decide +kernel
theorem dX7_init_99 : decode cX7_init 99 = .ok (.aload_n 0, 1) := by decide +kernel
theorem dX7_init_100 : decode cX7_init 100 = .ok (.getfield 7, 3) := by decide +kernel
theorem dX7_init_103 : decode cX7_init 103 = .ok (.bipush 14, 2) := by decide +kernel
theorem dX7_init_105 : decode cX7_init 105 = .ok (.ldc 27, 2) := by decide +kernel
theorem dX7_init_107 : decode cX7_init 107 = .ok (.iastore, 1) := by decide +kernel
theorem dX7_init_108 : decode cX7_init 108 = .ok (.aload_n 0, 1) := by decide +kernel
theorem dX7_init_109 : decode cX7_init 109 = .ok (.getfield 7, 3) := by decide +kernel
theorem dX7_init_112 : decode cX7_init 112 = .ok (.bipush 15, 2) := by decide +kernel
theorem dX7_init_114 : decode cX7_init 114 = .ok (.bipush 10, 2) := by decide +kernel
theorem dX7_init_116 : decode cX7_init 116 = .ok (.iastore, 1) := by decide +kernel
theorem dX7_init_117 : decode cX7_init 117 = .ok (.aload_n 0, 1) := by decide +kernel
theorem dX7_init_118 : decode cX7_init 118 = .ok (.getfield 7, 3) := by decide +kernel
theorem dX7_init_121 : decode cX7_init 121 = .ok (.iconst 5, 1) := by decide +kernel
theorem dX7_init_122 : decode cX7_init 122 = .ok (.ldc 27, 2) := by decide +kernel
theorem dX7_init_124 : decode cX7_init 124 = .ok (.iastore, 1) := by decide +kernel
theorem dX7_init_125 : decode cX7_init 125 = .ok (.aload_n 0, 1) := by decide +kernel
theorem dX7_init_126 : decode cX7_init 126 = .ok (.getfield 7, 3) := by decide +kernel
theorem dX7_init_129 : decode cX7_init 129 = .ok (.bipush 16, 2) := by decide +kernel
theorem dX7_init_131 : decode cX7_init 131 = .ok (.sipush 200, 3) := by decide +kernel
theorem dX7_init_134 : decode cX7_init 134 = .ok (.iastore, 1) := by decide +kernel
theorem dX7_init_135 : decode cX7_init 135 = .ok (.aload_n 0, 1) := by decide +kernel
theorem dX7_init_136 : decode cX7_init 136 = .ok (.getfield 7, 3) := by decide +kernel
theorem dX7_init_139 : decode cX7_init 139 = .ok (.bipush 17, 2) := by decide +kernel
theorem dX7_init_141 : decode cX7_init 141 = .ok (.bipush 20, 2) := by decide +kernel
theorem dX7_init_143 : decode cX7_init 143 = .ok (.iastore, 1) := by decide +kernel
theorem dX7_init_144 : decode cX7_init 144 = .ok (.aload_n 0, 1) := by decide +kernel
theorem dX7_init_145 : decode cX7_init 145 = .ok (.getfield 7, 3) := by decide +kernel
theorem dX7_init_148 : decode cX7_init 148 = .ok (.bipush 18, 2) := by decide +kernel
theorem dX7_init_150 : decode cX7_init 150 = .ok (.sipush 5000, 3) := by decide +kernel
theorem dX7_init_153 : decode cX7_init 153 = .ok (.iastore, 1) := by decide +kernel
theorem dX7_init_154 : decode cX7_init 154 = .ok (.aload_n 0, 1) := by decide +kernel
theorem dX7_init_155 : decode cX7_init 155 = .ok (.getfield 7, 3) := by decide +kernel
theorem dX7_init_158 : decode cX7_init 158 = .ok (.bipush 19, 2) := by decide +kernel
theorem dX7_init_160 : decode cX7_init 160 = .ok (.bipush 100, 2) := by decide +kernel
theorem dX7_init_162 : decode cX7_init 162 = .ok (.iastore, 1) := by decide +kernel
theorem dX7_init_163 : decode cX7_init 163 = .ok (.aload_n 0, 1) := by decide +kernel
theorem dX7_init_164 : decode cX7_init 164 = .ok (.getfield 7, 3) := by decide +kernel
theorem dX7_init_167 : decode cX7_init 167 = .ok (.bipush 21, 2) := by decide +kernel
theorem dX7_init_169 : decode cX7_init 169 = .ok (.sipush 1000, 3) := by decide +kernel
theorem dX7_init_172 : decode cX7_init 172 = .ok (.iastore, 1) := by decide +kernel
theorem dX7_init_173 : decode cX7_init 173 = .ok (.aload_n 0, 1) := by decide +kernel
theorem dX7_init_174 : decode cX7_init 174 = .ok (.getfield 7, 3) := by decide +kernel
theorem dX7_init_177 : decode cX7_init 177 = .ok (.bipush 22, 2) := by decide +kernel
theorem dX7_init_179 : decode cX7_init 179 = .ok (.sipush 3000, 3) := by decide +kernel
theorem dX7_init_182 : decode cX7_init 182 = .ok (.iastore, 1) := by decide +kernel
theorem dX7_init_183 : decode cX7_init 183 = .ok (.aload_n 0, 1) := by decide +kernel
theorem dX7_init_184 : decode cX7_init 184 = .ok (.getfield 7, 3) := by decide +kernel
theorem dX7_init_187 : decode cX7_init 187 = .ok (.bipush 23, 2) := by decide +kernel
theorem dX7_init_189 : decode cX7_init 189 = .ok (.bipush 10, 2) := by decide +kernel
theorem dX7_init_191 : decode cX7_init 191 = .ok (.iastore, 1) := by decide +kernel
theorem dX7_init_192 : decode cX7_init 192 = .ok (.aload_n 0, 1) := by decide +kernel
theorem dX7_init_193 : decode cX7_init 193 = .ok (.getfield 7, 3) := by decide +kernel
theorem dX7_init_196 : decode cX7_init 196 = .ok (.bipush 24, 2) := by decide +kernel
theorem dX7_init_198 : decode cX7_init 198 = .ok (.sipush 207, 3) := by decide +kernel
theorem dX7_init_201 : decode cX7_init 201 = .ok (.iastore, 1) := by decide +kernel
theorem dX7_init_202 : decode cX7_init 202 = .ok (.aload_n 0, 1) := by decide +kernel
theorem dX7_init_203 : decode cX7_init 203 = .ok (.getfield 7, 3) := by decide +kernel
theorem dX7_init_206 : decode cX7_init 206 = .ok (.bipush 25, 2) := by decide +kernel
theorem dX7_init_208 : decode cX7_init 208 = .ok (.sipush 253, 3) := by decide +kernel
theorem dX7_init_211 : decode cX7_init 211 = .ok (.iastore, 1) := by decide +kernel
theorem dX7_init_212 : decode cX7_init 212 = .ok (.aload_n 0, 1) := by decide +kernel
theorem dX7_init_213 : decode cX7_init 213 = .ok (.getfield 7, 3) := by decide +kernel
theorem dX7_init_216 : decode cX7_init 216 = .ok (.bipush 26, 2) := by decide +kernel
theorem dX7_init_218 : decode cX7_init 218 = .ok (.ldc 28, 2) := by decide +kernel
theorem dX7_init_220 : decode cX7_init 220 = .ok (.iastore, 1) := by decide +kernel
theorem dX7_init_221 : decode cX7_init 221 = .ok (.aload_n 0, 1) := by decide +kernel
theorem dX7_init_222 : decode cX7_init 222 = .ok (.getfield 7, 3) := by decide +kernel
theorem dX7_init_225 : decode cX7_init 225 = .ok (.bipush 27, 2) := by decide +kernel
theorem dX7_init_227 : decode cX7_init 227 = .ok (.ldc 29, 2) := by decide +kernel
theorem dX7_init_229 : decode cX7_init 229 = .ok (.iastore, 1) := by decide +kernel
theorem dX7_init_230 : decode cX7_init 230 = .ok (.iconst 0, 1) := by decide +kernel
theorem dX7_init_231 : decode cX7_init 231 = .ok (.istore_n 1, 1) := by decide +kernel
theorem dX7_init_232 : decode cX7_init 232 = .ok (.iload_n 1, 1) := by decide +kernel
theorem dX7_init_233 : decode cX7_init 233 = .ok (.bipush 20, 2) := by decide +kernel
theorem dX7_init_235 : decode cX7_init 235 = .ok (.if_icmp .ge 20, 3) := by decide +kernel
theorem dX7_init_238 : decode cX7_init 238 = .ok (.aload_n 0, 1) := by decide +kernel
theorem dX7_init_239 : decode cX7_init 239 = .ok (.getfield 7, 3) := by decide +kernel
theorem dX7_init_242 : decode cX7_init 242 = .ok (.bipush 33, 2) := by decide +kernel
theorem dX7_init_244 : decode cX7_init 244 = .ok (.iload_n 1, 1) := by decide +kernel
theorem dX7_init_245 : decode cX7_init 245 = .ok (.iadd, 1) := by decide +kernel
theorem dX7_init_246 : decode cX7_init 246 = .ok (.ldc 27, 2) := by decide +kernel
theorem dX7_init_248 : decode cX7_init 248 = .ok (.iastore, 1) := by decide +kernel
theorem dX7_init_249 : decode cX7_init 249 = .ok (.iinc 1 1, 3) := by decide +kernel
theorem dX7_init_252 : decode cX7_init 252 = .ok (.goto (-20), 3) := by decide +kernel
theorem dX7_init_255 : decode cX7_init 255 = .ok (.return_, 1) := by decide +kernel
theorem dX7_thrown_0 : decode cX7_thrown 0 = .ok (.aload_n 0, 1) := by decide +kernel
theorem dX7_thrown_1 : decode cX7_thrown 1 = .ok (.getfield 30, 3) := by decide +kernel
theorem dX7_thrown_4 : decode cX7_thrown 4 = .ok (.ireturn, 1) := by decide +kernel
theorem dX7_in_0 : decode cX7_in 0 = .ok (.iload_n 0, 1) := by decide +kernel
theorem dX7_in_1 : decode cX7_in 1 = .ok (.iload_n 1, 1) := by decide +kernel
theorem dX7_in_2 : decode cX7_in 2 = .ok (.if_icmp .lt 12, 3) := by decide +kernel
theorem dX7_in_5 : decode cX7_in 5 = .ok (.iload_n 0, 1) := by decide +kernel
theorem dX7_in_6 : decode cX7_in 6 = .ok (.iload_n 2, 1) := by decide +kernel
theorem dX7_in_7 : decode cX7_in 7 = .ok (.if_icmp .gt 7, 3) := by decide +kernel
theorem dX7_in_10 : decode cX7_in 10 = .ok (.iconst 1, 1) := by decide +kernel
theorem dX7_in_11 : decode cX7_in 11 = .ok (.goto 4, 3) := by decide +kernel
theorem dX7_in_14 : decode cX7_in 14 = .ok (.iconst 0, 1) := by decide +kernel
theorem dX7_in_15 : decode cX7_in 15 = .ok (.ireturn, 1) := by decide +kernel
theorem dX7_round_0 : decode cX7_round 0 = .ok (.iload_n 0, 1) := by decide +kernel
theorem dX7_round_1 : decode cX7_round 1 = .ok (.ldc 34, 2) := by decide +kernel
theorem dX7_round_3 : decode cX7_round 3 = .ok (.irem, 1) := by decide +kernel
theorem dX7_round_4 : decode cX7_round 4 = .ok (.istore_n 1, 1) := by decide +kernel
theorem dX7_round_5 : decode cX7_round 5 = .ok (.iload_n 1, 1) := by decide +kernel
theorem dX7_round_6 : decode cX7_round 6 = .ok (.ifCond .ge 10, 3) := by decide +kernel
theorem dX7_round_9 : decode cX7_round 9 = .ok (.iload_n 1, 1) := by decide +kernel
theorem dX7_round_10 : decode cX7_round 10 = .ok (.ldc 34, 2) := by decide +kernel
theorem dX7_round_12 : decode cX7_round 12 = .ok (.iadd, 1) := by decide +kernel
theorem dX7_round_13 : decode cX7_round 13 = .ok (.goto 4, 3) := by decide +kernel
theorem dX7_round_16 : decode cX7_round 16 = .ok (.iload_n 1, 1) := by decide +kernel
theorem dX7_round_17 : decode cX7_round 17 = .ok (.ireturn, 1) := by decide +kernel
theorem dX7_limited_0 : decode cX7_limited 0 = .ok (.iload_n 0, 1) := by decide +kernel
theorem dX7_limited_1 : decode cX7_limited 1 = .ok (.iload_n 1, 1) := by decide +kernel
theorem dX7_limited_2 : decode cX7_limited 2 = .ok (.if_icmp .ge 7, 3) := by decide +kernel
theorem dX7_limited_5 : decode cX7_limited 5 = .ok (.iload_n 1, 1) := by decide +kernel
theorem dX7_limited_6 : decode cX7_limited 6 = .ok (.goto 13, 3) := by decide +kernel
theorem dX7_limited_9 : decode cX7_limited 9 = .ok (.iload_n 0, 1) := by decide +kernel
theorem dX7_limited_10 : decode cX7_limited 10 = .ok (.iload_n 2, 1) := by decide +kernel
theorem dX7_limited_11 : decode cX7_limited 11 = .ok (.if_icmp .le 7, 3) := by decide +kernel
theorem dX7_limited_14 : decode cX7_limited 14 = .ok (.iload_n 2, 1) := by decide +kernel
theorem dX7_limited_15 : decode cX7_limited 15 = .ok (.goto 4, 3) := by decide +kernel
theorem dX7_limited_18 : decode cX7_limited 18 = .ok (.iload_n 0, 1) := by decide +kernel
theorem dX7_limited_19 : decode cX7_limited 19 = .ok (.ireturn, 1) := by decide +kernel
set_option maxRecDepth 20000 in
theorem ggX7_setGrid_X7_in : GoodIn wsX7_setGrid wsX7_in := goodIn_r _ [8] (by decide +kernel) (by decide +kernel)
set_option maxRecDepth 20000 in
theorem gX7_setGrid_X7_in : GoodIn wsX7_setGrid (va_wsS RX7 35 yX7_in wsX7_in) := goodIn_app (goodIn_of _ (by decide +kernel)) ggX7_setGrid_X7_in
theorem dX7_setGrid_0 : decode cX7_setGrid 0 = .ok (.aload_n 0, 1) := by decide +kernel
theorem dX7_setGrid_1 : decode cX7_setGrid 1 = .ok (.iload_n 1, 1) := by decide +kernel
theorem dX7_setGrid_2 : decode cX7_setGrid 2 = .ok (.iconst 0, 1) := by decide +kernel
theorem dX7_setGrid_3 : decode cX7_setGrid 3 = .ok (.sipush 400, 3) := by decide +kernel
theorem dX7_setGrid_6 : decode cX7_setGrid 6 = .ok (.invokestatic 35, 3) := by decide +kernel
theorem dX7_setGrid_9 : decode cX7_setGrid 9 = .ok (.ifCond .eq 18, 3) := by decide +kernel
theorem dX7_setGrid_12 : decode cX7_setGrid 12 = .ok (.iload_n 2, 1) := by decide +kernel
theorem dX7_setGrid_13 : decode cX7_setGrid 13 = .ok (.ldc 39, 2) := by decide +kernel
theorem dX7_setGrid_15 : decode cX7_setGrid 15 = .ok (.ldc 40, 2) := by decide +kernel
theorem dX7_setGrid_17 : decode cX7_setGrid 17 = .ok (.invokestatic 35, 3) := by decide +kernel
theorem dX7_setGrid_20 : decode cX7_setGrid 20 = .ok (.ifCond .eq 7, 3) := by decide +kernel
theorem dX7_setGrid_23 : decode cX7_setGrid 23 = .ok (.iconst 0, 1) := by decide +kernel
theorem dX7_setGrid_24 : decode cX7_setGrid 24 = .ok (.goto 4, 3) := by decide +kernel
theorem dX7_setGrid_27 : decode cX7_setGrid 27 = .ok (.iconst 1, 1) := by decide +kernel
theorem dX7_setGrid_28 : decode cX7_setGrid 28 = .ok (.putfield 30, 3) := by decide +kernel
theorem dX7_setGrid_31 : decode cX7_setGrid 31 = .ok (.aload_n 0, 1) := by decide +kernel
theorem dX7_setGrid_32 : decode cX7_setGrid 32 = .ok (.getfield 30, 3) := by decide +kernel
theorem dX7_setGrid_35 : decode cX7_setGrid 35 = .ok (.ifCond .ne 19, 3) := by decide +kernel
theorem dX7_setGrid_38 : decode cX7_setGrid 38 = .ok (.aload_n 0, 1) := by decide +kernel
theorem dX7_setGrid_39 : decode cX7_setGrid 39 = .ok (.getfield 7, 3) := by decide +kernel
theorem dX7_setGrid_42 : decode cX7_setGrid 42 = .ok (.bipush 11, 2) := by decide +kernel
theorem dX7_setGrid_44 : decode cX7_setGrid 44 = .ok (.iload_n 1, 1) := by decide +kernel
theorem dX7_setGrid_45 : decode cX7_setGrid 45 = .ok (.iastore, 1) := by decide +kernel
theorem dX7_setGrid_46 : decode cX7_setGrid 46 = .ok (.aload_n 0, 1) := by decide +kernel
theorem dX7_setGrid_47 : decode cX7_setGrid 47 = .ok (.getfield 7, 3) := by decide +kernel
theorem dX7_setGrid_50 : decode cX7_setGrid 50 = .ok (.bipush 12, 2) := by decide +kernel
theorem dX7_setGrid_52 : decode cX7_setGrid 52 = .ok (.iload_n 2, 1) := by decide +kernel
theorem dX7_setGrid_53 : decode cX7_setGrid 53 = .ok (.iastore, 1) := by decide +kernel
theorem dX7_setGrid_54 : decode cX7_setGrid 54 = .ok (.return_, 1) := by decide +kernel
set_option maxRecDepth 20000 in
theorem ggX7_jump_X7_in : GoodIn wsX7_jump wsX7_in := goodIn_r _ [8] (by decide +kernel) (by decide +kernel)
set_option maxRecDepth 20000 in
theorem gX7_jump_X7_in : GoodIn wsX7_jump (va_wsS RX7 35 yX7_in wsX7_in) := goodIn_app (goodIn_of _ (by decide +kernel)) ggX7_jump_X7_in
set_option maxRecDepth 20000 in
theorem ggX7_jump_X7_round : GoodIn wsX7_jump wsX7_round := goodIn_r _ [11, 12] (by decide +kernel) (by decide +kernel)
set_option maxRecDepth 20000 in
theorem gX7_jump_X7_round : GoodIn wsX7_jump (va_wsS RX7 43 yX7_round wsX7_round) := goodIn_app (goodIn_of _ (by decide +kernel)) ggX7_jump_X7_round
theorem dX7_jump_0 : decode cX7_jump 0 = .ok (.aload_n 0, 1) := by decide +kernel
theorem dX7_jump_1 : decode cX7_jump 1 = .ok (.iload_n 1, 1) := by decide +kernel
theorem dX7_jump_2 : decode cX7_jump 2 = .ok (.ldc 41, 2) := by decide +kernel
theorem dX7_jump_4 : decode cX7_jump 4 = .ok (.ldc 42, 2) := by decide +kernel
theorem dX7_jump_6 : decode cX7_jump 6 = .ok (.invokestatic 35, 3) := by decide +kernel
theorem dX7_jump_9 : decode cX7_jump 9 = .ok (.ifCond .eq 7, 3) := by decide +kernel
theorem dX7_jump_12 : decode cX7_jump 12 = .ok (.iconst 0, 1) := by decide +kernel
theorem dX7_jump_13 : decode cX7_jump 13 = .ok (.goto 4, 3) := by decide +kernel
theorem dX7_jump_16 : decode cX7_jump 16 = .ok (.iconst 1, 1) := by decide +kernel
theorem dX7_jump_17 : decode cX7_jump 17 = .ok (.putfield 30, 3) := by decide +kernel
theorem dX7_jump_20 : decode cX7_jump 20 = .ok (.aload_n 0, 1) := by decide +kernel
theorem dX7_jump_21 : decode cX7_jump 21 = .ok (.getfield 30, 3) := by decide +kernel
theorem dX7_jump_24 : decode cX7_jump 24 = .ok (.ifCond .eq 5, 3) := by decide +kernel
theorem dX7_jump_27 : decode cX7_jump 27 = .ok (.iconst 0, 1) := by decide +kernel
theorem dX7_jump_28 : decode cX7_jump 28 = .ok (.ireturn, 1) := by decide +kernel
theorem dX7_jump_29 : decode cX7_jump 29 = .ok (.aload_n 0, 1) := by decide +kernel
theorem dX7_jump_30 : decode cX7_jump 30 = .ok (.getfield 7, 3) := by decide +kernel
theorem dX7_jump_33 : decode cX7_jump 33 = .ok (.iconst 3, 1) := by decide +kernel
theorem dX7_jump_34 : decode cX7_jump 34 = .ok (.aload_n 0, 1) := by decide +kernel
theorem dX7_jump_35 : decode cX7_jump 35 = .ok (.getfield 7, 3) := by decide +kernel
theorem dX7_jump_38 : decode cX7_jump 38 = .ok (.iconst 3, 1) := by decide +kernel
theorem dX7_jump_39 : decode cX7_jump 39 = .ok (.iaload, 1) := by decide +kernel
theorem dX7_jump_40 : decode cX7_jump 40 = .ok (.iload_n 1, 1) := by decide +kernel
theorem dX7_jump_41 : decode cX7_jump 41 = .ok (.iadd, 1) := by decide +kernel
theorem dX7_jump_42 : decode cX7_jump 42 = .ok (.invokestatic 43, 3) := by decide +kernel
theorem dX7_jump_45 : decode cX7_jump 45 = .ok (.iastore, 1) := by decide +kernel
theorem dX7_jump_46 : decode cX7_jump 46 = .ok (.aload_n 0, 1) := by decide +kernel
theorem dX7_jump_47 : decode cX7_jump 47 = .ok (.getfield 7, 3) := by decide +kernel
theorem dX7_jump_50 : decode cX7_jump 50 = .ok (.iconst 3, 1) := by decide +kernel
theorem dX7_jump_51 : decode cX7_jump 51 = .ok (.iaload, 1) := by decide +kernel
theorem dX7_jump_52 : decode cX7_jump 52 = .ok (.ireturn, 1) := by decide +kernel
theorem dX7_connect_0 : decode cX7_connect 0 = .ok (.aload_n 0, 1) := by decide +kernel
theorem dX7_connect_1 : decode cX7_connect 1 = .ok (.iconst 0, 1) := by decide +kernel
theorem dX7_connect_2 : decode cX7_connect 2 = .ok (.putfield 30, 3) := by decide +kernel
theorem dX7_connect_5 : decode cX7_connect 5 = .ok (.aload_n 0, 1) := by decide +kernel
theorem dX7_connect_6 : decode cX7_connect 6 = .ok (.getfield 7, 3) := by decide +kernel
theorem dX7_connect_9 : decode cX7_connect 9 = .ok (.bipush 10, 2) := by decide +kernel
theorem dX7_connect_11 : decode cX7_connect 11 = .ok (.iaload, 1) := by decide +kernel
theorem dX7_connect_12 : decode cX7_connect 12 = .ok (.iconst 1, 1) := by decide +kernel
theorem dX7_connect_13 : decode cX7_connect 13 = .ok (.if_icmp .ne 7, 3) := by decide +kernel
theorem dX7_connect_16 : decode cX7_connect 16 = .ok (.iconst 1, 1) := by decide +kernel
theorem dX7_connect_17 : decode cX7_connect 17 = .ok (.goto 4, 3) := by decide +kernel
theorem dX7_connect_20 : decode cX7_connect 20 = .ok (.iconst 0, 1) := by decide +kernel
theorem dX7_connect_21 : decode cX7_connect 21 = .ok (.istore_n 2, 1) := by decide +kernel
theorem dX7_connect_22 : decode cX7_connect 22 = .ok (.aload_n 0, 1) := by decide +kernel
theorem dX7_connect_23 : decode cX7_connect 23 = .ok (.getfield 7, 3) := by decide +kernel
theorem dX7_connect_26 : decode cX7_connect 26 = .ok (.bipush 10, 2) := by decide +kernel
theorem dX7_connect_28 : decode cX7_connect 28 = .ok (.iload_n 1, 1) := by decide +kernel
theorem dX7_connect_29 : decode cX7_connect 29 = .ok (.ifCond .eq 7, 3) := by decide +kernel
theorem dX7_connect_32 : decode cX7_connect 32 = .ok (.iconst 1, 1) := by decide +kernel
theorem dX7_connect_33 : decode cX7_connect 33 = .ok (.goto 4, 3) := by decide +kernel
theorem dX7_connect_36 : decode cX7_connect 36 = .ok (.iconst 0, 1) := by decide +kernel
theorem dX7_connect_37 : decode cX7_connect 37 = .ok (.iastore, 1) := by decide +kernel
theorem dX7_connect_38 : decode cX7_connect 38 = .ok (.iload_n 2, 1) := by decide +kernel
theorem dX7_connect_39 : decode cX7_connect 39 = .ok (.ireturn, 1) := by decide +kernel
set_option maxRecDepth 20000 in
theorem ggX7_isIsland_X7_in : GoodIn wsX7_isIsland wsX7_in := goodIn_r _ [6] (by decide +kernel) (by decide +kernel)
set_option maxRecDepth 20000 in
theorem gX7_isIsland_X7_in : GoodIn wsX7_isIsland (va_wsS RX7 35 yX7_in wsX7_in) := goodIn_app (goodIn_of _ (by decide +kernel)) ggX7_isIsland_X7_in
theorem dX7_isIsland_0 : decode cX7_isIsland 0 = .ok (.iload_n 0, 1) := by decide +kernel
theorem dX7_isIsland_1 : decode cX7_isIsland 1 = .ok (.iconst 1, 1) := by decide +kernel
theorem dX7_isIsland_2 : decode cX7_isIsland 2 = .ok (.sipush 5000, 3) := by decide +kernel
theorem dX7_isIsland_5 : decode cX7_isIsland 5 = .ok (.invokestatic 35, 3) := by decide +kernel
theorem dX7_isIsland_8 : decode cX7_isIsland 8 = .ok (.ifCond .eq 28, 3) := by decide +kernel
theorem dX7_isIsland_11 : decode cX7_isIsland 11 = .ok (.iload_n 1, 1) := by decide +kernel
theorem dX7_isIsland_12 : decode cX7_isIsland 12 = .ok (.ldc 39, 2) := by decide +kernel
theorem dX7_isIsland_14 : decode cX7_isIsland 14 = .ok (.ldc 40, 2) := by decide +kernel
theorem dX7_isIsland_16 : decode cX7_isIsland 16 = .ok (.invokestatic 35, 3) := by decide +kernel
theorem dX7_isIsland_19 : decode cX7_isIsland 19 = .ok (.ifCond .eq 17, 3) := by decide +kernel
theorem dX7_isIsland_22 : decode cX7_isIsland 22 = .ok (.iload_n 2, 1) := by decide +kernel
theorem dX7_isIsland_23 : decode cX7_isIsland 23 = .ok (.iconst 0, 1) := by decide +kernel
theorem dX7_isIsland_24 : decode cX7_isIsland 24 = .ok (.bipush 100, 2) := by decide +kernel
theorem dX7_isIsland_26 : decode cX7_isIsland 26 = .ok (.invokestatic 35, 3) := by decide +kernel
theorem dX7_isIsland_29 : decode cX7_isIsland 29 = .ok (.ifCond .eq 7, 3) := by decide +kernel
theorem dX7_isIsland_32 : decode cX7_isIsland 32 = .ok (.iconst 1, 1) := by decide +kernel
theorem dX7_isIsland_33 : decode cX7_isIsland 33 = .ok (.goto 4, 3) := by decide +kernel
theorem dX7_isIsland_36 : decode cX7_isIsland 36 = .ok (.iconst 0, 1) := by decide +kernel
theorem dX7_isIsland_37 : decode cX7_isIsland 37 = .ok (.ireturn, 1) := by decide +kernel
theorem dX7_becomeIsland_0 : decode cX7_becomeIsland 0 = .ok (.aload_n 0, 1) := by decide +kernel
theorem dX7_becomeIsland_1 : decode cX7_becomeIsland 1 = .ok (.getfield 7, 3) := by decide +kernel
theorem dX7_becomeIsland_4 : decode cX7_becomeIsland 4 = .ok (.bipush 13, 2) := by decide +kernel
theorem dX7_becomeIsland_6 : decode cX7_becomeIsland 6 = .ok (.iload_n 1, 1) := by decide +kernel
theorem dX7_becomeIsland_7 : decode cX7_becomeIsland 7 = .ok (.iastore, 1) := by decide +kernel
theorem dX7_becomeIsland_8 : decode cX7_becomeIsland 8 = .ok (.aload_n 0, 1) := by decide +kernel
theorem dX7_becomeIsland_9 : decode cX7_becomeIsland 9 = .ok (.getfield 7, 3) := by decide +kernel
theorem dX7_becomeIsland_12 : decode cX7_becomeIsland 12 = .ok (.bipush 14, 2) := by decide +kernel
theorem dX7_becomeIsland_14 : decode cX7_becomeIsland 14 = .ok (.iload_n 2, 1) := by decide +kernel
theorem dX7_becomeIsland_15 : decode cX7_becomeIsland 15 = .ok (.iastore, 1) := by decide +kernel
theorem dX7_becomeIsland_16 : decode cX7_becomeIsland 16 = .ok (.aload_n 0, 1) := by decide +kernel
theorem dX7_becomeIsland_17 : decode cX7_becomeIsland 17 = .ok (.getfield 7, 3) := by decide +kernel
theorem dX7_becomeIsland_20 : decode cX7_becomeIsland 20 = .ok (.bipush 15, 2) := by decide +kernel
theorem dX7_becomeIsland_22 : decode cX7_becomeIsland 22 = .ok (.iload_n 3, 1) := by decide +kernel
theorem dX7_becomeIsland_23 : decode cX7_becomeIsland 23 = .ok (.iastore, 1) := by decide +kernel
theorem dX7_becomeIsland_24 : decode cX7_becomeIsland 24 = .ok (.return_, 1) := by decide +kernel
set_option maxRecDepth 20000 in
theorem ggX7_setLoad_X7_isIsland : GoodIn wsX7_setLoad wsX7_isIsland := goodIn_r _ [5, 6, 7, 8, 9, 4, 10] (by decide +kernel) (by decide +kernel)
set_option maxRecDepth 20000 in
theorem gX7_setLoad_X7_isIsland : GoodIn wsX7_setLoad (va_wsS RX7 47 yX7_isIsland wsX7_isIsland) := goodIn_app (goodIn_of _ (by decide +kernel)) ggX7_setLoad_X7_isIsland
set_option maxRecDepth 20000 in
theorem ggX7_setLoad_X7_becomeIsland : GoodIn wsX7_setLoad wsX7_becomeIsland := goodIn_r _ [14, 15, 16, 17, 18, 19, 20, 21, 22] (by decide +kernel) (by decide +kernel)
set_option maxRecDepth 20000 in
theorem gX7_setLoad_X7_becomeIsland : GoodIn wsX7_setLoad (wsV RX7 50 RX7 yX7_becomeIsland wsX7_becomeIsland) := goodIn_app (goodIn_of _ (by decide +kernel)) ggX7_setLoad_X7_becomeIsland
theorem dX7_setLoad_0 : decode cX7_setLoad 0 = .ok (.aload_n 0, 1) := by decide +kernel
theorem dX7_setLoad_1 : decode cX7_setLoad 1 = .ok (.iload_n 1, 1) := by decide +kernel
theorem dX7_setLoad_2 : decode cX7_setLoad 2 = .ok (.iload_n 2, 1) := by decide +kernel
theorem dX7_setLoad_3 : decode cX7_setLoad 3 = .ok (.iload_n 3, 1) := by decide +kernel
theorem dX7_setLoad_4 : decode cX7_setLoad 4 = .ok (.invokestatic 47, 3) := by decide +kernel
theorem dX7_setLoad_7 : decode cX7_setLoad 7 = .ok (.ifCond .eq 7, 3) := by decide +kernel
theorem dX7_setLoad_10 : decode cX7_setLoad 10 = .ok (.iconst 0, 1) := by decide +kernel
theorem dX7_setLoad_11 : decode cX7_setLoad 11 = .ok (.goto 4, 3) := by decide +kernel
theorem dX7_setLoad_14 : decode cX7_setLoad 14 = .ok (.iconst 1, 1) := by decide +kernel
theorem dX7_setLoad_15 : decode cX7_setLoad 15 = .ok (.putfield 30, 3) := by decide +kernel
theorem dX7_setLoad_18 : decode cX7_setLoad 18 = .ok (.aload_n 0, 1) := by decide +kernel
theorem dX7_setLoad_19 : decode cX7_setLoad 19 = .ok (.getfield 30, 3) := by decide +kernel
theorem dX7_setLoad_22 : decode cX7_setLoad 22 = .ok (.ifCond .ne 10, 3) := by decide +kernel
theorem dX7_setLoad_25 : decode cX7_setLoad 25 = .ok (.aload_n 0, 1) := by decide +kernel
theorem dX7_setLoad_26 : decode cX7_setLoad 26 = .ok (.iload_n 1, 1) := by decide +kernel
theorem dX7_setLoad_27 : decode cX7_setLoad 27 = .ok (.iload_n 2, 1) := by decide +kernel
theorem dX7_setLoad_28 : decode cX7_setLoad 28 = .ok (.iload_n 3, 1) := by decide +kernel
theorem dX7_setLoad_29 : decode cX7_setLoad 29 = .ok (.invokevirtual 50, 3) := by decide +kernel
theorem dX7_setLoad_32 : decode cX7_setLoad 32 = .ok (.return_, 1) := by decide +kernel
set_option maxRecDepth 20000 in
theorem ggX7_setLoop_X7_in : GoodIn wsX7_setLoop wsX7_in := goodIn_r _ [6] (by decide +kernel) (by decide +kernel)
set_option maxRecDepth 20000 in
theorem gX7_setLoop_X7_in : GoodIn wsX7_setLoop (va_wsS RX7 35 yX7_in wsX7_in) := goodIn_app (goodIn_of _ (by decide +kernel)) ggX7_setLoop_X7_in
theorem dX7_setLoop_0 : decode cX7_setLoop 0 = .ok (.aload_n 0, 1) := by decide +kernel
theorem dX7_setLoop_1 : decode cX7_setLoop 1 = .ok (.iload_n 1, 1) := by decide +kernel
theorem dX7_setLoop_2 : decode cX7_setLoop 2 = .ok (.iconst 1, 1) := by decide +kernel
theorem dX7_setLoop_3 : decode cX7_setLoop 3 = .ok (.sipush 1000, 3) := by decide +kernel
theorem dX7_setLoop_6 : decode cX7_setLoop 6 = .ok (.invokestatic 35, 3) := by decide +kernel
theorem dX7_setLoop_9 : decode cX7_setLoop 9 = .ok (.ifCond .eq 18, 3) := by decide +kernel
theorem dX7_setLoop_12 : decode cX7_setLoop 12 = .ok (.iload_n 2, 1) := by decide +kernel
theorem dX7_setLoop_13 : decode cX7_setLoop 13 = .ok (.iconst 0, 1) := by decide +kernel
theorem dX7_setLoop_14 : decode cX7_setLoop 14 = .ok (.sipush 500, 3) := by decide +kernel
theorem dX7_setLoop_17 : decode cX7_setLoop 17 = .ok (.invokestatic 35, 3) := by decide +kernel
theorem dX7_setLoop_20 : decode cX7_setLoop 20 = .ok (.ifCond .eq 7, 3) := by decide +kernel
theorem dX7_setLoop_23 : decode cX7_setLoop 23 = .ok (.iconst 0, 1) := by decide +kernel
theorem dX7_setLoop_24 : decode cX7_setLoop 24 = .ok (.goto 4, 3) := by decide +kernel
theorem dX7_setLoop_27 : decode cX7_setLoop 27 = .ok (.iconst 1, 1) := by decide +kernel
theorem dX7_setLoop_28 : decode cX7_setLoop 28 = .ok (.putfield 30, 3) := by decide +kernel
theorem dX7_setLoop_31 : decode cX7_setLoop 31 = .ok (.aload_n 0, 1) := by decide +kernel
theorem dX7_setLoop_32 : decode cX7_setLoop 32 = .ok (.getfield 30, 3) := by decide +kernel
theorem dX7_setLoop_35 : decode cX7_setLoop 35 = .ok (.ifCond .ne 19, 3) := by decide +kernel
theorem dX7_setLoop_38 : decode cX7_setLoop 38 = .ok (.aload_n 0, 1) := by decide +kernel
theorem dX7_setLoop_39 : decode cX7_setLoop 39 = .ok (.getfield 7, 3) := by decide +kernel
theorem dX7_setLoop_42 : decode cX7_setLoop 42 = .ok (.bipush 16, 2) := by decide +kernel
theorem dX7_setLoop_44 : decode cX7_setLoop 44 = .ok (.iload_n 1, 1) := by decide +kernel
theorem dX7_setLoop_45 : decode cX7_setLoop 45 = .ok (.iastore, 1) := by decide +kernel
theorem dX7_setLoop_46 : decode cX7_setLoop 46 = .ok (.aload_n 0, 1) := by decide +kernel
theorem dX7_setLoop_47 : decode cX7_setLoop 47 = .ok (.getfield 7, 3) := by decide +kernel
theorem dX7_setLoop_50 : decode cX7_setLoop 50 = .ok (.bipush 17, 2) := by decide +kernel
theorem dX7_setLoop_52 : decode cX7_setLoop 52 = .ok (.iload_n 2, 1) := by decide +kernel
theorem dX7_setLoop_53 : decode cX7_setLoop 53 = .ok (.iastore, 1) := by decide +kernel
theorem dX7_setLoop_54 : decode cX7_setLoop 54 = .ok (.return_, 1) := by decide +kernel
set_option maxRecDepth 20000 in
theorem ggX7_setLock_X7_in : GoodIn wsX7_setLock wsX7_in := goodIn_r _ [7] (by decide +kernel) (by decide +kernel)
set_option maxRecDepth 20000 in
theorem gX7_setLock_X7_in : GoodIn wsX7_setLock (va_wsS RX7 35 yX7_in wsX7_in) := goodIn_app (goodIn_of _ (by decide +kernel)) ggX7_setLock_X7_in
theorem dX7_setLock_0 : decode cX7_setLock 0 = .ok (.aload_n 0, 1) := by decide +kernel
theorem dX7_setLock_1 : decode cX7_setLock 1 = .ok (.iload_n 1, 1) := by decide +kernel
theorem dX7_setLock_2 : decode cX7_setLock 2 = .ok (.bipush 100, 2) := by decide +kernel
theorem dX7_setLock_4 : decode cX7_setLock 4 = .ok (.ldc 54, 2) := by decide +kernel
theorem dX7_setLock_6 : decode cX7_setLock 6 = .ok (.invokestatic 35, 3) := by decide +kernel
theorem dX7_setLock_9 : decode cX7_setLock 9 = .ok (.ifCond .eq 18, 3) := by decide +kernel
theorem dX7_setLock_12 : decode cX7_setLock 12 = .ok (.iload_n 2, 1) := by decide +kernel
theorem dX7_setLock_13 : decode cX7_setLock 13 = .ok (.iconst 1, 1) := by decide +kernel
theorem dX7_setLock_14 : decode cX7_setLock 14 = .ok (.sipush 500, 3) := by decide +kernel
theorem dX7_setLock_17 : decode cX7_setLock 17 = .ok (.invokestatic 35, 3) := by decide +kernel
theorem dX7_setLock_20 : decode cX7_setLock 20 = .ok (.ifCond .eq 7, 3) := by decide +kernel
theorem dX7_setLock_23 : decode cX7_setLock 23 = .ok (.iconst 0, 1) := by decide +kernel
theorem dX7_setLock_24 : decode cX7_setLock 24 = .ok (.goto 4, 3) := by decide +kernel
theorem dX7_setLock_27 : decode cX7_setLock 27 = .ok (.iconst 1, 1) := by decide +kernel
theorem dX7_setLock_28 : decode cX7_setLock 28 = .ok (.putfield 30, 3) := by decide +kernel
theorem dX7_setLock_31 : decode cX7_setLock 31 = .ok (.aload_n 0, 1) := by decide +kernel
theorem dX7_setLock_32 : decode cX7_setLock 32 = .ok (.getfield 30, 3) := by decide +kernel
theorem dX7_setLock_35 : decode cX7_setLock 35 = .ok (.ifCond .ne 19, 3) := by decide +kernel
theorem dX7_setLock_38 : decode cX7_setLock 38 = .ok (.aload_n 0, 1) := by decide +kernel
theorem dX7_setLock_39 : decode cX7_setLock 39 = .ok (.getfield 7, 3) := by decide +kernel
theorem dX7_setLock_42 : decode cX7_setLock 42 = .ok (.bipush 18, 2) := by decide +kernel
theorem dX7_setLock_44 : decode cX7_setLock 44 = .ok (.iload_n 1, 1) := by decide +kernel
theorem dX7_setLock_45 : decode cX7_setLock 45 = .ok (.iastore, 1) := by decide +kernel
theorem dX7_setLock_46 : decode cX7_setLock 46 = .ok (.aload_n 0, 1) := by decide +kernel
theorem dX7_setLock_47 : decode cX7_setLock 47 = .ok (.getfield 7, 3) := by decide +kernel
theorem dX7_setLock_50 : decode cX7_setLock 50 = .ok (.bipush 19, 2) := by decide +kernel
theorem dX7_setLock_52 : decode cX7_setLock 52 = .ok (.iload_n 2, 1) := by decide +kernel
theorem dX7_setLock_53 : decode cX7_setLock 53 = .ok (.iastore, 1) := by decide +kernel
theorem dX7_setLock_54 : decode cX7_setLock 54 = .ok (.return_, 1) := by decide +kernel
set_option maxRecDepth 20000 in
theorem ggX7_setWindow_X7_in : GoodIn wsX7_setWindow wsX7_in := goodIn_r _ [8] (by decide +kernel) (by decide +kernel)
set_option maxRecDepth 20000 in
theorem gX7_setWindow_X7_in : GoodIn wsX7_setWindow (va_wsS RX7 35 yX7_in wsX7_in) := goodIn_app (goodIn_of _ (by decide +kernel)) ggX7_setWindow_X7_in
theorem dX7_setWindow_0 : decode cX7_setWindow 0 = .ok (.iload_n 1, 1) := by decide +kernel
theorem dX7_setWindow_1 : decode cX7_setWindow 1 = .ok (.iconst 0, 1) := by decide +kernel
theorem dX7_setWindow_2 : decode cX7_setWindow 2 = .ok (.sipush 400, 3) := by decide +kernel
theorem dX7_setWindow_5 : decode cX7_setWindow 5 = .ok (.invokestatic 35, 3) := by decide +kernel
theorem dX7_setWindow_8 : decode cX7_setWindow 8 = .ok (.ifCond .eq 40, 3) := by decide +kernel
theorem dX7_setWindow_11 : decode cX7_setWindow 11 = .ok (.iload_n 2, 1) := by decide +kernel
theorem dX7_setWindow_12 : decode cX7_setWindow 12 = .ok (.iload_n 1, 1) := by decide +kernel
theorem dX7_setWindow_13 : decode cX7_setWindow 13 = .ok (.sipush 400, 3) := by decide +kernel
theorem dX7_setWindow_16 : decode cX7_setWindow 16 = .ok (.invokestatic 35, 3) := by decide +kernel
theorem dX7_setWindow_19 : decode cX7_setWindow 19 = .ok (.ifCond .eq 29, 3) := by decide +kernel
theorem dX7_setWindow_22 : decode cX7_setWindow 22 = .ok (.iload_n 3, 1) := by decide +kernel
theorem dX7_setWindow_23 : decode cX7_setWindow 23 = .ok (.ldc 55, 2) := by decide +kernel
theorem dX7_setWindow_25 : decode cX7_setWindow 25 = .ok (.ldc 56, 2) := by decide +kernel
theorem dX7_setWindow_27 : decode cX7_setWindow 27 = .ok (.invokestatic 35, 3) := by decide +kernel
theorem dX7_setWindow_30 : decode cX7_setWindow 30 = .ok (.ifCond .eq 18, 3) := by decide +kernel
theorem dX7_setWindow_33 : decode cX7_setWindow 33 = .ok (.iload 4, 2) := by decide +kernel
theorem dX7_setWindow_35 : decode cX7_setWindow 35 = .ok (.iload_n 3, 1) := by decide +kernel
theorem dX7_setWindow_36 : decode cX7_setWindow 36 = .ok (.ldc 56, 2) := by decide +kernel
theorem dX7_setWindow_38 : decode cX7_setWindow 38 = .ok (.invokestatic 35, 3) := by decide +kernel
theorem dX7_setWindow_41 : decode cX7_setWindow 41 = .ok (.ifCond .eq 7, 3) := by decide +kernel
theorem dX7_setWindow_44 : decode cX7_setWindow 44 = .ok (.iconst 1, 1) := by decide +kernel
theorem dX7_setWindow_45 : decode cX7_setWindow 45 = .ok (.goto 4, 3) := by decide +kernel
theorem dX7_setWindow_48 : decode cX7_setWindow 48 = .ok (.iconst 0, 1) := by decide +kernel
theorem dX7_setWindow_49 : decode cX7_setWindow 49 = .ok (.istore 5, 2) := by decide +kernel
theorem dX7_setWindow_51 : decode cX7_setWindow 51 = .ok (.aload_n 0, 1) := by decide +kernel
theorem dX7_setWindow_52 : decode cX7_setWindow 52 = .ok (.iload 5, 2) := by decide +kernel
theorem dX7_setWindow_54 : decode cX7_setWindow 54 = .ok (.ifCond .eq 7, 3) := by decide +kernel
theorem dX7_setWindow_57 : decode cX7_setWindow 57 = .ok (.iconst 0, 1) := by decide +kernel
theorem dX7_setWindow_58 : decode cX7_setWindow 58 = .ok (.goto 4, 3) := by decide +kernel
theorem dX7_setWindow_61 : decode cX7_setWindow 61 = .ok (.iconst 1, 1) := by decide +kernel
theorem dX7_setWindow_62 : decode cX7_setWindow 62 = .ok (.putfield 30, 3) := by decide +kernel
theorem dX7_setWindow_65 : decode cX7_setWindow 65 = .ok (.iload 5, 2) := by decide +kernel
theorem dX7_setWindow_67 : decode cX7_setWindow 67 = .ok (.ifCond .eq 36, 3) := by decide +kernel
theorem dX7_setWindow_70 : decode cX7_setWindow 70 = .ok (.aload_n 0, 1) := by decide +kernel
theorem dX7_setWindow_71 : decode cX7_setWindow 71 = .ok (.getfield 7, 3) := by decide +kernel
theorem dX7_setWindow_74 : decode cX7_setWindow 74 = .ok (.bipush 24, 2) := by decide +kernel
theorem dX7_setWindow_76 : decode cX7_setWindow 76 = .ok (.iload_n 1, 1) := by decide +kernel
theorem dX7_setWindow_77 : decode cX7_setWindow 77 = .ok (.iastore, 1) := by decide +kernel
theorem dX7_setWindow_78 : decode cX7_setWindow 78 = .ok (.aload_n 0, 1) := by decide +kernel
theorem dX7_setWindow_79 : decode cX7_setWindow 79 = .ok (.getfield 7, 3) := by decide +kernel
theorem dX7_setWindow_82 : decode cX7_setWindow 82 = .ok (.bipush 25, 2) := by decide +kernel
theorem dX7_setWindow_84 : decode cX7_setWindow 84 = .ok (.iload_n 2, 1) := by decide +kernel
theorem dX7_setWindow_85 : decode cX7_setWindow 85 = .ok (.iastore, 1) := by decide +kernel
theorem dX7_setWindow_86 : decode cX7_setWindow 86 = .ok (.aload_n 0, 1) := by decide +kernel
theorem dX7_setWindow_87 : decode cX7_setWindow 87 = .ok (.getfield 7, 3) := by decide +kernel
theorem dX7_setWindow_90 : decode cX7_setWindow 90 = .ok (.bipush 26, 2) := by decide +kernel
theorem dX7_setWindow_92 : decode cX7_setWindow 92 = .ok (.iload_n 3, 1) := by decide +kernel
theorem dX7_setWindow_93 : decode cX7_setWindow 93 = .ok (.iastore, 1) := by decide +kernel
theorem dX7_setWindow_94 : decode cX7_setWindow 94 = .ok (.aload_n 0, 1) := by decide +kernel
theorem dX7_setWindow_95 : decode cX7_setWindow 95 = .ok (.getfield 7, 3) := by decide +kernel
theorem dX7_setWindow_98 : decode cX7_setWindow 98 = .ok (.bipush 27, 2) := by decide +kernel
theorem dX7_setWindow_100 : decode cX7_setWindow 100 = .ok (.iload 4, 2) := by decide +kernel
theorem dX7_setWindow_102 : decode cX7_setWindow 102 = .ok (.iastore, 1) := by decide +kernel
theorem dX7_setWindow_103 : decode cX7_setWindow 103 = .ok (.return_, 1) := by decide +kernel
set_option maxRecDepth 20000 in
theorem ggX7_setPower_X7_in : GoodIn wsX7_setPower wsX7_in := goodIn_r _ [6] (by decide +kernel) (by decide +kernel)
set_option maxRecDepth 20000 in
theorem gX7_setPower_X7_in : GoodIn wsX7_setPower (va_wsS RX7 35 yX7_in wsX7_in) := goodIn_app (goodIn_of _ (by decide +kernel)) ggX7_setPower_X7_in
theorem dX7_setPower_0 : decode cX7_setPower 0 = .ok (.aload_n 0, 1) := by decide +kernel
theorem dX7_setPower_1 : decode cX7_setPower 1 = .ok (.iload_n 1, 1) := by decide +kernel
theorem dX7_setPower_2 : decode cX7_setPower 2 = .ok (.iconst 1, 1) := by decide +kernel
theorem dX7_setPower_3 : decode cX7_setPower 3 = .ok (.sipush 10000, 3) := by decide +kernel
theorem dX7_setPower_6 : decode cX7_setPower 6 = .ok (.invokestatic 35, 3) := by decide +kernel
theorem dX7_setPower_9 : decode cX7_setPower 9 = .ok (.ifCond .eq 29, 3) := by decide +kernel
theorem dX7_setPower_12 : decode cX7_setPower 12 = .ok (.iload_n 2, 1) := by decide +kernel
theorem dX7_setPower_13 : decode cX7_setPower 13 = .ok (.iconst 1, 1) := by decide +kernel
theorem dX7_setPower_14 : decode cX7_setPower 14 = .ok (.sipush 5000, 3) := by decide +kernel
theorem dX7_setPower_17 : decode cX7_setPower 17 = .ok (.invokestatic 35, 3) := by decide +kernel
theorem dX7_setPower_20 : decode cX7_setPower 20 = .ok (.ifCond .eq 18, 3) := by decide +kernel
theorem dX7_setPower_23 : decode cX7_setPower 23 = .ok (.iload_n 3, 1) := by decide +kernel
theorem dX7_setPower_24 : decode cX7_setPower 24 = .ok (.iconst 1, 1) := by decide +kernel
theorem dX7_setPower_25 : decode cX7_setPower 25 = .ok (.sipush 5000, 3) := by decide +kernel
theorem dX7_setPower_28 : decode cX7_setPower 28 = .ok (.invokestatic 35, 3) := by decide +kernel
theorem dX7_setPower_31 : decode cX7_setPower 31 = .ok (.ifCond .eq 7, 3) := by decide +kernel
theorem dX7_setPower_34 : decode cX7_setPower 34 = .ok (.iconst 0, 1) := by decide +kernel
theorem dX7_setPower_35 : decode cX7_setPower 35 = .ok (.goto 4, 3) := by decide +kernel
theorem dX7_setPower_38 : decode cX7_setPower 38 = .ok (.iconst 1, 1) := by decide +kernel
theorem dX7_setPower_39 : decode cX7_setPower 39 = .ok (.putfield 30, 3) := by decide +kernel
theorem dX7_setPower_42 : decode cX7_setPower 42 = .ok (.aload_n 0, 1) := by decide +kernel
theorem dX7_setPower_43 : decode cX7_setPower 43 = .ok (.getfield 30, 3) := by decide +kernel
theorem dX7_setPower_46 : decode cX7_setPower 46 = .ok (.ifCond .ne 27, 3) := by decide +kernel
theorem dX7_setPower_49 : decode cX7_setPower 49 = .ok (.aload_n 0, 1) := by decide +kernel
theorem dX7_setPower_50 : decode cX7_setPower 50 = .ok (.getfield 7, 3) := by decide +kernel
theorem dX7_setPower_53 : decode cX7_setPower 53 = .ok (.bipush 22, 2) := by decide +kernel
theorem dX7_setPower_55 : decode cX7_setPower 55 = .ok (.iload_n 1, 1) := by decide +kernel
theorem dX7_setPower_56 : decode cX7_setPower 56 = .ok (.iastore, 1) := by decide +kernel
theorem dX7_setPower_57 : decode cX7_setPower 57 = .ok (.aload_n 0, 1) := by decide +kernel
theorem dX7_setPower_58 : decode cX7_setPower 58 = .ok (.getfield 7, 3) := by decide +kernel
theorem dX7_setPower_61 : decode cX7_setPower 61 = .ok (.bipush 23, 2) := by decide +kernel
theorem dX7_setPower_63 : decode cX7_setPower 63 = .ok (.iload_n 2, 1) := by decide +kernel
theorem dX7_setPower_64 : decode cX7_setPower 64 = .ok (.iastore, 1) := by decide +kernel
theorem dX7_setPower_65 : decode cX7_setPower 65 = .ok (.aload_n 0, 1) := by decide +kernel
theorem dX7_setPower_66 : decode cX7_setPower 66 = .ok (.getfield 7, 3) := by decide +kernel
theorem dX7_setPower_69 : decode cX7_setPower 69 = .ok (.bipush 21, 2) := by decide +kernel
theorem dX7_setPower_71 : decode cX7_setPower 71 = .ok (.iload_n 3, 1) := by decide +kernel
theorem dX7_setPower_72 : decode cX7_setPower 72 = .ok (.iastore, 1) := by decide +kernel
theorem dX7_setPower_73 : decode cX7_setPower 73 = .ok (.return_, 1) := by decide +kernel
set_option maxRecDepth 20000 in
theorem ggX7_setDrift_X7_in : GoodIn wsX7_setDrift wsX7_in := goodIn_r _ [6] (by decide +kernel) (by decide +kernel)
set_option maxRecDepth 20000 in
theorem gX7_setDrift_X7_in : GoodIn wsX7_setDrift (va_wsS RX7 35 yX7_in wsX7_in) := goodIn_app (goodIn_of _ (by decide +kernel)) ggX7_setDrift_X7_in
theorem dX7_setDrift_0 : decode cX7_setDrift 0 = .ok (.aload_n 0, 1) := by decide +kernel
theorem dX7_setDrift_1 : decode cX7_setDrift 1 = .ok (.iload_n 1, 1) := by decide +kernel
theorem dX7_setDrift_2 : decode cX7_setDrift 2 = .ok (.sipush (-500), 3) := by decide +kernel
theorem dX7_setDrift_5 : decode cX7_setDrift 5 = .ok (.sipush 500, 3) := by decide +kernel
theorem dX7_setDrift_8 : decode cX7_setDrift 8 = .ok (.invokestatic 35, 3) := by decide +kernel
theorem dX7_setDrift_11 : decode cX7_setDrift 11 = .ok (.ifCond .eq 17, 3) := by decide +kernel
theorem dX7_setDrift_14 : decode cX7_setDrift 14 = .ok (.iload_n 2, 1) := by decide +kernel
theorem dX7_setDrift_15 : decode cX7_setDrift 15 = .ok (.iconst 0, 1) := by decide +kernel
theorem dX7_setDrift_16 : decode cX7_setDrift 16 = .ok (.bipush 100, 2) := by decide +kernel
theorem dX7_setDrift_18 : decode cX7_setDrift 18 = .ok (.invokestatic 35, 3) := by decide +kernel
theorem dX7_setDrift_21 : decode cX7_setDrift 21 = .ok (.ifCond .eq 7, 3) := by decide +kernel
theorem dX7_setDrift_24 : decode cX7_setDrift 24 = .ok (.iconst 0, 1) := by decide +kernel
theorem dX7_setDrift_25 : decode cX7_setDrift 25 = .ok (.goto 4, 3) := by decide +kernel
theorem dX7_setDrift_28 : decode cX7_setDrift 28 = .ok (.iconst 1, 1) := by decide +kernel
theorem dX7_setDrift_29 : decode cX7_setDrift 29 = .ok (.putfield 30, 3) := by decide +kernel
theorem dX7_setDrift_32 : decode cX7_setDrift 32 = .ok (.aload_n 0, 1) := by decide +kernel
theorem dX7_setDrift_33 : decode cX7_setDrift 33 = .ok (.getfield 30, 3) := by decide +kernel
theorem dX7_setDrift_36 : decode cX7_setDrift 36 = .ok (.ifCond .ne 19, 3) := by decide +kernel
theorem dX7_setDrift_39 : decode cX7_setDrift 39 = .ok (.aload_n 0, 1) := by decide +kernel
theorem dX7_setDrift_40 : decode cX7_setDrift 40 = .ok (.getfield 7, 3) := by decide +kernel
theorem dX7_setDrift_43 : decode cX7_setDrift 43 = .ok (.bipush 28, 2) := by decide +kernel
theorem dX7_setDrift_45 : decode cX7_setDrift 45 = .ok (.iload_n 1, 1) := by decide +kernel
theorem dX7_setDrift_46 : decode cX7_setDrift 46 = .ok (.iastore, 1) := by decide +kernel
theorem dX7_setDrift_47 : decode cX7_setDrift 47 = .ok (.aload_n 0, 1) := by decide +kernel
theorem dX7_setDrift_48 : decode cX7_setDrift 48 = .ok (.getfield 7, 3) := by decide +kernel
theorem dX7_setDrift_51 : decode cX7_setDrift 51 = .ok (.bipush 29, 2) := by decide +kernel
theorem dX7_setDrift_53 : decode cX7_setDrift 53 = .ok (.iload_n 2, 1) := by decide +kernel
theorem dX7_setDrift_54 : decode cX7_setDrift 54 = .ok (.iastore, 1) := by decide +kernel
theorem dX7_setDrift_55 : decode cX7_setDrift 55 = .ok (.return_, 1) := by decide +kernel
set_option maxRecDepth 20000 in
theorem ggX7_addRule_X7_in : GoodIn wsX7_addRule wsX7_in := goodIn_r _ [7] (by decide +kernel) (by decide +kernel)
set_option maxRecDepth 20000 in
theorem gX7_addRule_X7_in : GoodIn wsX7_addRule (va_wsS RX7 35 yX7_in wsX7_in) := goodIn_app (goodIn_of _ (by decide +kernel)) ggX7_addRule_X7_in
theorem dX7_addRule_0 : decode cX7_addRule 0 = .ok (.aload_n 0, 1) := by decide +kernel
theorem dX7_addRule_1 : decode cX7_addRule 1 = .ok (.iload_n 1, 1) := by decide +kernel
theorem dX7_addRule_2 : decode cX7_addRule 2 = .ok (.iconst 0, 1) := by decide +kernel
theorem dX7_addRule_3 : decode cX7_addRule 3 = .ok (.iconst 4, 1) := by decide +kernel
theorem dX7_addRule_4 : decode cX7_addRule 4 = .ok (.invokestatic 35, 3) := by decide +kernel
theorem dX7_addRule_7 : decode cX7_addRule 7 = .ok (.ifCond .eq 24, 3) := by decide +kernel
theorem dX7_addRule_10 : decode cX7_addRule 10 = .ok (.iload_n 2, 1) := by decide +kernel
theorem dX7_addRule_11 : decode cX7_addRule 11 = .ok (.iconst 0, 1) := by decide +kernel
theorem dX7_addRule_12 : decode cX7_addRule 12 = .ok (.ldc 56, 2) := by decide +kernel
theorem dX7_addRule_14 : decode cX7_addRule 14 = .ok (.invokestatic 35, 3) := by decide +kernel
theorem dX7_addRule_17 : decode cX7_addRule 17 = .ok (.ifCond .eq 14, 3) := by decide +kernel
theorem dX7_addRule_20 : decode cX7_addRule 20 = .ok (.iload_n 3, 1) := by decide +kernel
theorem dX7_addRule_21 : decode cX7_addRule 21 = .ok (.iconst 1, 1) := by decide +kernel
theorem dX7_addRule_22 : decode cX7_addRule 22 = .ok (.sipush 10000, 3) := by decide +kernel
theorem dX7_addRule_25 : decode cX7_addRule 25 = .ok (.invokestatic 35, 3) := by decide +kernel
theorem dX7_addRule_28 : decode cX7_addRule 28 = .ok (.ifCond .ne 7, 3) := by decide +kernel
theorem dX7_addRule_31 : decode cX7_addRule 31 = .ok (.iconst 1, 1) := by decide +kernel
theorem dX7_addRule_32 : decode cX7_addRule 32 = .ok (.goto 20, 3) := by decide +kernel
theorem dX7_addRule_35 : decode cX7_addRule 35 = .ok (.aload_n 0, 1) := by decide +kernel
theorem dX7_addRule_36 : decode cX7_addRule 36 = .ok (.getfield 7, 3) := by decide +kernel
theorem dX7_addRule_39 : decode cX7_addRule 39 = .ok (.bipush 30, 2) := by decide +kernel
theorem dX7_addRule_41 : decode cX7_addRule 41 = .ok (.iaload, 1) := by decide +kernel
theorem dX7_addRule_42 : decode cX7_addRule 42 = .ok (.bipush 8, 2) := by decide +kernel
theorem dX7_addRule_44 : decode cX7_addRule 44 = .ok (.if_icmp .ne 7, 3) := by decide +kernel
theorem dX7_addRule_47 : decode cX7_addRule 47 = .ok (.iconst 2, 1) := by decide +kernel
theorem dX7_addRule_48 : decode cX7_addRule 48 = .ok (.goto 4, 3) := by decide +kernel
theorem dX7_addRule_51 : decode cX7_addRule 51 = .ok (.iconst 0, 1) := by decide +kernel
theorem dX7_addRule_52 : decode cX7_addRule 52 = .ok (.putfield 30, 3) := by decide +kernel
theorem dX7_addRule_55 : decode cX7_addRule 55 = .ok (.aload_n 0, 1) := by decide +kernel
theorem dX7_addRule_56 : decode cX7_addRule 56 = .ok (.getfield 30, 3) := by decide +kernel
theorem dX7_addRule_59 : decode cX7_addRule 59 = .ok (.ifCond .eq 5, 3) := by decide +kernel
theorem dX7_addRule_62 : decode cX7_addRule 62 = .ok (.iconst 0, 1) := by decide +kernel
theorem dX7_addRule_63 : decode cX7_addRule 63 = .ok (.ireturn, 1) := by decide +kernel
theorem dX7_addRule_64 : decode cX7_addRule 64 = .ok (.aload_n 0, 1) := by decide +kernel
theorem dX7_addRule_65 : decode cX7_addRule 65 = .ok (.getfield 7, 3) := by decide +kernel
theorem dX7_addRule_68 : decode cX7_addRule 68 = .ok (.bipush 30, 2) := by decide +kernel
theorem dX7_addRule_70 : decode cX7_addRule 70 = .ok (.iaload, 1) := by decide +kernel
theorem dX7_addRule_71 : decode cX7_addRule 71 = .ok (.istore 4, 2) := by decide +kernel
theorem dX7_addRule_73 : decode cX7_addRule 73 = .ok (.aload_n 0, 1) := by decide +kernel
theorem dX7_addRule_74 : decode cX7_addRule 74 = .ok (.getfield 7, 3) := by decide +kernel
theorem dX7_addRule_77 : decode cX7_addRule 77 = .ok (.bipush 53, 2) := by decide +kernel
theorem dX7_addRule_79 : decode cX7_addRule 79 = .ok (.iload 4, 2) := by decide +kernel
theorem dX7_addRule_81 : decode cX7_addRule 81 = .ok (.iadd, 1) := by decide +kernel
theorem dX7_addRule_82 : decode cX7_addRule 82 = .ok (.iload_n 1, 1) := by decide +kernel
theorem dX7_addRule_83 : decode cX7_addRule 83 = .ok (.iastore, 1) := by decide +kernel
theorem dX7_addRule_84 : decode cX7_addRule 84 = .ok (.aload_n 0, 1) := by decide +kernel
theorem dX7_addRule_85 : decode cX7_addRule 85 = .ok (.getfield 7, 3) := by decide +kernel
theorem dX7_addRule_88 : decode cX7_addRule 88 = .ok (.bipush 61, 2) := by decide +kernel
theorem dX7_addRule_90 : decode cX7_addRule 90 = .ok (.iload 4, 2) := by decide +kernel
theorem dX7_addRule_92 : decode cX7_addRule 92 = .ok (.iadd, 1) := by decide +kernel
theorem dX7_addRule_93 : decode cX7_addRule 93 = .ok (.iload_n 2, 1) := by decide +kernel
theorem dX7_addRule_94 : decode cX7_addRule 94 = .ok (.iastore, 1) := by decide +kernel
theorem dX7_addRule_95 : decode cX7_addRule 95 = .ok (.aload_n 0, 1) := by decide +kernel
theorem dX7_addRule_96 : decode cX7_addRule 96 = .ok (.getfield 7, 3) := by decide +kernel
theorem dX7_addRule_99 : decode cX7_addRule 99 = .ok (.bipush 69, 2) := by decide +kernel
theorem dX7_addRule_101 : decode cX7_addRule 101 = .ok (.iload 4, 2) := by decide +kernel
theorem dX7_addRule_103 : decode cX7_addRule 103 = .ok (.iadd, 1) := by decide +kernel
theorem dX7_addRule_104 : decode cX7_addRule 104 = .ok (.iload_n 3, 1) := by decide +kernel
theorem dX7_addRule_105 : decode cX7_addRule 105 = .ok (.iastore, 1) := by decide +kernel
theorem dX7_addRule_106 : decode cX7_addRule 106 = .ok (.aload_n 0, 1) := by decide +kernel
theorem dX7_addRule_107 : decode cX7_addRule 107 = .ok (.getfield 7, 3) := by decide +kernel
theorem dX7_addRule_110 : decode cX7_addRule 110 = .ok (.bipush 77, 2) := by decide +kernel
theorem dX7_addRule_112 : decode cX7_addRule 112 = .ok (.iload 4, 2) := by decide +kernel
theorem dX7_addRule_114 : decode cX7_addRule 114 = .ok (.iadd, 1) := by decide +kernel
theorem dX7_addRule_115 : decode cX7_addRule 115 = .ok (.iconst 0, 1) := by decide +kernel
theorem dX7_addRule_116 : decode cX7_addRule 116 = .ok (.iastore, 1) := by decide +kernel
theorem dX7_addRule_117 : decode cX7_addRule 117 = .ok (.aload_n 0, 1) := by decide +kernel
theorem dX7_addRule_118 : decode cX7_addRule 118 = .ok (.getfield 7, 3) := by decide +kernel
theorem dX7_addRule_121 : decode cX7_addRule 121 = .ok (.bipush 30, 2) := by decide +kernel
theorem dX7_addRule_123 : decode cX7_addRule 123 = .ok (.dup2, 1) := by decide +kernel
theorem dX7_addRule_124 : decode cX7_addRule 124 = .ok (.iaload, 1) := by decide +kernel
theorem dX7_addRule_125 : decode cX7_addRule 125 = .ok (.iconst 1, 1) := by decide +kernel
theorem dX7_addRule_126 : decode cX7_addRule 126 = .ok (.iadd, 1) := by decide +kernel
theorem dX7_addRule_127 : decode cX7_addRule 127 = .ok (.iastore, 1) := by decide +kernel
theorem dX7_addRule_128 : decode cX7_addRule 128 = .ok (.iload 4, 2) := by decide +kernel
theorem dX7_addRule_130 : decode cX7_addRule 130 = .ok (.ireturn, 1) := by decide +kernel
theorem dX7_clearRules_0 : decode cX7_clearRules 0 = .ok (.aload_n 0, 1) := by decide +kernel
theorem dX7_clearRules_1 : decode cX7_clearRules 1 = .ok (.iconst 0, 1) := by decide +kernel
theorem dX7_clearRules_2 : decode cX7_clearRules 2 = .ok (.putfield 30, 3) := by decide +kernel
theorem dX7_clearRules_5 : decode cX7_clearRules 5 = .ok (.aload_n 0, 1) := by decide +kernel
theorem dX7_clearRules_6 : decode cX7_clearRules 6 = .ok (.getfield 7, 3) := by decide +kernel
theorem dX7_clearRules_9 : decode cX7_clearRules 9 = .ok (.bipush 30, 2) := by decide +kernel
theorem dX7_clearRules_11 : decode cX7_clearRules 11 = .ok (.iaload, 1) := by decide +kernel
theorem dX7_clearRules_12 : decode cX7_clearRules 12 = .ok (.istore_n 1, 1) := by decide +kernel
theorem dX7_clearRules_13 : decode cX7_clearRules 13 = .ok (.aload_n 0, 1) := by decide +kernel
theorem dX7_clearRules_14 : decode cX7_clearRules 14 = .ok (.getfield 7, 3) := by decide +kernel
theorem dX7_clearRules_17 : decode cX7_clearRules 17 = .ok (.bipush 30, 2) := by decide +kernel
theorem dX7_clearRules_19 : decode cX7_clearRules 19 = .ok (.iconst 0, 1) := by decide +kernel
theorem dX7_clearRules_20 : decode cX7_clearRules 20 = .ok (.iastore, 1) := by decide +kernel
theorem dX7_clearRules_21 : decode cX7_clearRules 21 = .ok (.iload_n 1, 1) := by decide +kernel
theorem dX7_clearRules_22 : decode cX7_clearRules 22 = .ok (.ireturn, 1) := by decide +kernel
theorem dX7_note_0 : decode cX7_note 0 = .ok (.aload_n 0, 1) := by decide +kernel
theorem dX7_note_1 : decode cX7_note 1 = .ok (.getfield 7, 3) := by decide +kernel
theorem dX7_note_4 : decode cX7_note 4 = .ok (.bipush 85, 2) := by decide +kernel
theorem dX7_note_6 : decode cX7_note 6 = .ok (.aload_n 0, 1) := by decide +kernel
theorem dX7_note_7 : decode cX7_note 7 = .ok (.getfield 7, 3) := by decide +kernel
theorem dX7_note_10 : decode cX7_note 10 = .ok (.bipush 32, 2) := by decide +kernel
theorem dX7_note_12 : decode cX7_note 12 = .ok (.iaload, 1) := by decide +kernel
theorem dX7_note_13 : decode cX7_note 13 = .ok (.bipush 40, 2) := by decide +kernel
theorem dX7_note_15 : decode cX7_note 15 = .ok (.irem, 1) := by decide +kernel
theorem dX7_note_16 : decode cX7_note 16 = .ok (.iadd, 1) := by decide +kernel
theorem dX7_note_17 : decode cX7_note 17 = .ok (.aload_n 0, 1) := by decide +kernel
theorem dX7_note_18 : decode cX7_note 18 = .ok (.getfield 7, 3) := by decide +kernel
theorem dX7_note_21 : decode cX7_note 21 = .ok (.iconst 0, 1) := by decide +kernel
theorem dX7_note_22 : decode cX7_note 22 = .ok (.iaload, 1) := by decide +kernel
theorem dX7_note_23 : decode cX7_note 23 = .ok (.iastore, 1) := by decide +kernel
theorem dX7_note_24 : decode cX7_note 24 = .ok (.aload_n 0, 1) := by decide +kernel
theorem dX7_note_25 : decode cX7_note 25 = .ok (.getfield 7, 3) := by decide +kernel
theorem dX7_note_28 : decode cX7_note 28 = .ok (.bipush 125, 2) := by decide +kernel
theorem dX7_note_30 : decode cX7_note 30 = .ok (.aload_n 0, 1) := by decide +kernel
theorem dX7_note_31 : decode cX7_note 31 = .ok (.getfield 7, 3) := by decide +kernel
theorem dX7_note_34 : decode cX7_note 34 = .ok (.bipush 32, 2) := by decide +kernel
theorem dX7_note_36 : decode cX7_note 36 = .ok (.iaload, 1) := by decide +kernel
theorem dX7_note_37 : decode cX7_note 37 = .ok (.bipush 40, 2) := by decide +kernel
theorem dX7_note_39 : decode cX7_note 39 = .ok (.irem, 1) := by decide +kernel
theorem dX7_note_40 : decode cX7_note 40 = .ok (.iadd, 1) := by decide +kernel
theorem dX7_note_41 : decode cX7_note 41 = .ok (.iload_n 1, 1) := by decide +kernel
theorem dX7_note_42 : decode cX7_note 42 = .ok (.iastore, 1) := by decide +kernel
theorem dX7_note_43 : decode cX7_note 43 = .ok (.aload_n 0, 1) := by decide +kernel
theorem dX7_note_44 : decode cX7_note 44 = .ok (.getfield 7, 3) := by decide +kernel
theorem dX7_note_47 : decode cX7_note 47 = .ok (.bipush 32, 2) := by decide +kernel
theorem dX7_note_49 : decode cX7_note 49 = .ok (.dup2, 1) := by decide +kernel
theorem dX7_note_50 : decode cX7_note 50 = .ok (.iaload, 1) := by decide +kernel
theorem dX7_note_51 : decode cX7_note 51 = .ok (.iconst 1, 1) := by decide +kernel
theorem dX7_note_52 : decode cX7_note 52 = .ok (.iadd, 1) := by decide +kernel
theorem dX7_note_53 : decode cX7_note 53 = .ok (.iastore, 1) := by decide +kernel
theorem dX7_note_54 : decode cX7_note 54 = .ok (.return_, 1) := by decide +kernel
theorem dX7_start_0 : decode cX7_start 0 = .ok (.aload_n 0, 1) := by decide +kernel
theorem dX7_start_1 : decode cX7_start 1 = .ok (.iconst 0, 1) := by decide +kernel
theorem dX7_start_2 : decode cX7_start 2 = .ok (.putfield 30, 3) := by decide +kernel
theorem dX7_start_5 : decode cX7_start 5 = .ok (.aload_n 0, 1) := by decide +kernel
theorem dX7_start_6 : decode cX7_start 6 = .ok (.getfield 7, 3) := by decide +kernel
theorem dX7_start_9 : decode cX7_start 9 = .ok (.bipush 20, 2) := by decide +kernel
theorem dX7_start_11 : decode cX7_start 11 = .ok (.iaload, 1) := by decide +kernel
theorem dX7_start_12 : decode cX7_start 12 = .ok (.iconst 2, 1) := by decide +kernel
theorem dX7_start_13 : decode cX7_start 13 = .ok (.if_icmp .ne 7, 3) := by decide +kernel
theorem dX7_start_16 : decode cX7_start 16 = .ok (.iconst 1, 1) := by decide +kernel
theorem dX7_start_17 : decode cX7_start 17 = .ok (.goto 4, 3) := by decide +kernel
theorem dX7_start_20 : decode cX7_start 20 = .ok (.iconst 0, 1) := by decide +kernel
theorem dX7_start_21 : decode cX7_start 21 = .ok (.istore_n 1, 1) := by decide +kernel
theorem dX7_start_22 : decode cX7_start 22 = .ok (.iload_n 1, 1) := by decide +kernel
theorem dX7_start_23 : decode cX7_start 23 = .ok (.ifCond .eq 19, 3) := by decide +kernel
theorem dX7_start_26 : decode cX7_start 26 = .ok (.aload_n 0, 1) := by decide +kernel
theorem dX7_start_27 : decode cX7_start 27 = .ok (.getfield 7, 3) := by decide +kernel
theorem dX7_start_30 : decode cX7_start 30 = .ok (.bipush 20, 2) := by decide +kernel
theorem dX7_start_32 : decode cX7_start 32 = .ok (.iconst 0, 1) := by decide +kernel
theorem dX7_start_33 : decode cX7_start 33 = .ok (.iastore, 1) := by decide +kernel
theorem dX7_start_34 : decode cX7_start 34 = .ok (.aload_n 0, 1) := by decide +kernel
theorem dX7_start_35 : decode cX7_start 35 = .ok (.getfield 7, 3) := by decide +kernel
theorem dX7_start_38 : decode cX7_start 38 = .ok (.bipush 8, 2) := by decide +kernel
theorem dX7_start_40 : decode cX7_start 40 = .ok (.iconst 0, 1) := by decide +kernel
theorem dX7_start_41 : decode cX7_start 41 = .ok (.iastore, 1) := by decide +kernel
theorem dX7_start_42 : decode cX7_start 42 = .ok (.iload_n 1, 1) := by decide +kernel
theorem dX7_start_43 : decode cX7_start 43 = .ok (.ireturn, 1) := by decide +kernel
set_option maxRecDepth 20000 in
theorem ggX7_stop_X7_note : GoodIn wsX7_stop wsX7_note := goodIn_r _ [7, 2, 8, 9, 10, 11, 12, 13, 14] (by decide +kernel) (by decide +kernel)
set_option maxRecDepth 20000 in
theorem gX7_stop_X7_note : GoodIn wsX7_stop (wsV RX7 57 RX7 yX7_note wsX7_note) := goodIn_app (goodIn_of _ (by decide +kernel)) ggX7_stop_X7_note
theorem dX7_stop_0 : decode cX7_stop 0 = .ok (.aload_n 0, 1) := by decide +kernel
theorem dX7_stop_1 : decode cX7_stop 1 = .ok (.iconst 0, 1) := by decide +kernel
theorem dX7_stop_2 : decode cX7_stop 2 = .ok (.putfield 30, 3) := by decide +kernel
theorem dX7_stop_5 : decode cX7_stop 5 = .ok (.aload_n 0, 1) := by decide +kernel
theorem dX7_stop_6 : decode cX7_stop 6 = .ok (.getfield 7, 3) := by decide +kernel
theorem dX7_stop_9 : decode cX7_stop 9 = .ok (.bipush 20, 2) := by decide +kernel
