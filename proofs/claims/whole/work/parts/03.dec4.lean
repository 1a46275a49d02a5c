theorem dX7_restore_81 : decode cX7_restore 81 = .ok (.return_, 1) := by decide +kernel
theorem dJ9_floorMod_7cf53_0 : decode cJ9_floorMod_7cf53 0 = .ok (.iload_n 0, 1) := by decide +kernel
theorem dJ9_floorMod_7cf53_1 : decode cJ9_floorMod_7cf53 1 = .ok (.iload_n 1, 1) := by decide +kernel
theorem dJ9_floorMod_7cf53_2 : decode cJ9_floorMod_7cf53 2 = .ok (.irem, 1) := by decide +kernel
theorem dJ9_floorMod_7cf53_3 : decode cJ9_floorMod_7cf53 3 = .ok (.istore_n 2, 1) := by decide +kernel
theorem dJ9_floorMod_7cf53_4 : decode cJ9_floorMod_7cf53 4 = .ok (.iload_n 0, 1) := by decide +kernel
theorem dJ9_floorMod_7cf53_5 : decode cJ9_floorMod_7cf53 5 = .ok (.iload_n 1, 1) := by decide +kernel
theorem dJ9_floorMod_7cf53_6 : decode cJ9_floorMod_7cf53 6 = .ok (.ixor, 1) := by decide +kernel
theorem dJ9_floorMod_7cf53_7 : decode cJ9_floorMod_7cf53 7 = .ok (.ifCond .ge 11, 3) := by decide +kernel
theorem dJ9_floorMod_7cf53_10 : decode cJ9_floorMod_7cf53 10 = .ok (.iload_n 2, 1) := by decide +kernel
theorem dJ9_floorMod_7cf53_11 : decode cJ9_floorMod_7cf53 11 = .ok (.ifCond .eq 7, 3) := by decide +kernel
theorem dJ9_floorMod_7cf53_14 : decode cJ9_floorMod_7cf53 14 = .ok (.iload_n 2, 1) := by decide +kernel
theorem dJ9_floorMod_7cf53_15 : decode cJ9_floorMod_7cf53 15 = .ok (.iload_n 1, 1) := by decide +kernel
theorem dJ9_floorMod_7cf53_16 : decode cJ9_floorMod_7cf53 16 = .ok (.iadd, 1) := by decide +kernel
theorem dJ9_floorMod_7cf53_17 : decode cJ9_floorMod_7cf53 17 = .ok (.ireturn, 1) := by decide +kernel
theorem dJ9_floorMod_7cf53_18 : decode cJ9_floorMod_7cf53 18 = .ok (.iload_n 2, 1) := by decide +kernel
theorem dJ9_floorMod_7cf53_19 : decode cJ9_floorMod_7cf53 19 = .ok (.ireturn, 1) := by decide +kernel
theorem dJ9_max_7cf53_0 : decode cJ9_max_7cf53 0 = .ok (.iload_n 0, 1) := by decide +kernel
theorem dJ9_max_7cf53_1 : decode cJ9_max_7cf53 1 = .ok (.iload_n 1, 1) := by decide +kernel
theorem dJ9_max_7cf53_2 : decode cJ9_max_7cf53 2 = .ok (.if_icmp .lt 7, 3) := by decide +kernel
theorem dJ9_max_7cf53_5 : decode cJ9_max_7cf53 5 = .ok (.iload_n 0, 1) := by decide +kernel
theorem dJ9_max_7cf53_6 : decode cJ9_max_7cf53 6 = .ok (.goto 4, 3) := by decide +kernel
theorem dJ9_max_7cf53_9 : decode cJ9_max_7cf53 9 = .ok (.iload_n 1, 1) := by decide +kernel
theorem dJ9_max_7cf53_10 : decode cJ9_max_7cf53 10 = .ok (.ireturn, 1) := by decide +kernel
theorem dJ9_min_7cf53_0 : decode cJ9_min_7cf53 0 = .ok (.iload_n 0, 1) := by decide +kernel
theorem dJ9_min_7cf53_1 : decode cJ9_min_7cf53 1 = .ok (.iload_n 1, 1) := by decide +kernel
theorem dJ9_min_7cf53_2 : decode cJ9_min_7cf53 2 = .ok (.if_icmp .gt 7, 3) := by decide +kernel
theorem dJ9_min_7cf53_5 : decode cJ9_min_7cf53 5 = .ok (.iload_n 0, 1) := by decide +kernel
theorem dJ9_min_7cf53_6 : decode cJ9_min_7cf53 6 = .ok (.goto 4, 3) := by decide +kernel
theorem dJ9_min_7cf53_9 : decode cJ9_min_7cf53 9 = .ok (.iload_n 1, 1) := by decide +kernel
theorem dJ9_min_7cf53_10 : decode cJ9_min_7cf53 10 = .ok (.ireturn, 1) := by decide +kernel
set_option maxRecDepth 20000 in
theorem ggL_setGrid_X6_setGrid : GoodIn wsL_setGrid wsX6_setGrid := goodIn_ca (goodIn_r _ [6, 7, 8, 9, 10, 11, 12, 13, 14, 15, 16, 5, 17, 18, 19, 20, 21, 22, 23, 24, 25, 26, 27, 28, 29, 30, 31, 32, 33, 34, 35] (by decide +kernel) (by decide +kernel)) (goodIn_sub (fun _ h => List.mem_cons_of_mem _ (List.mem_append_right _ h)) (by decide +kernel))
set_option maxRecDepth 20000 in
theorem gL_setGrid_X6_setGrid : GoodIn wsL_setGrid (wsV RL 7 RX6 yX6_setGrid wsX6_setGrid) := goodIn_app (goodIn_of _ (by decide +kernel)) ggL_setGrid_X6_setGrid
theorem dL_setGrid_0 : decode cL_setGrid 0 = .ok (.aload_n 0, 1) := by decide +kernel
theorem dL_setGrid_1 : decode cL_setGrid 1 = .ok (.iload_n 1, 1) := by decide +kernel
theorem dL_setGrid_2 : decode cL_setGrid 2 = .ok (.iload_n 2, 1) := by decide +kernel
theorem dL_setGrid_3 : decode cL_setGrid 3 = .ok (.invokevirtual 7, 3) := by decide +kernel
theorem dL_setGrid_6 : decode cL_setGrid 6 = .ok (.goto 6, 3) := by decide +kernel
theorem dL_setGrid_9 : decode cL_setGrid 9 = .ok (.astore_n 3, 1) := by decide +kernel
theorem dL_setGrid_10 : decode cL_setGrid 10 = .ok (.iconst 1, 1) := by decide +kernel
theorem dL_setGrid_11 : decode cL_setGrid 11 = .ok (.ireturn, 1) := by decide +kernel
theorem dL_setGrid_12 : decode cL_setGrid 12 = .ok (.iconst 0, 1) := by decide +kernel
theorem dL_setGrid_13 : decode cL_setGrid 13 = .ok (.ireturn, 1) := by decide +kernel
set_option maxRecDepth 20000 in
theorem ggL_jump_X6_jump : GoodIn wsL_jump wsX6_jump := goodIn_ca (goodIn_r _ [6, 7, 8, 9, 10, 11, 12, 13, 14, 15, 5, 16, 17, 18, 19, 20, 21, 22, 23, 24, 25, 26, 27, 28, 29, 30, 31, 32, 33, 34, 35, 36, 37, 38, 39, 40, 41, 42, 43, 44, 45] (by decide +kernel) (by decide +kernel)) (goodIn_sub (fun _ h => List.mem_cons_of_mem _ (List.mem_append_right _ h)) (by decide +kernel))
set_option maxRecDepth 20000 in
theorem gL_jump_X6_jump : GoodIn wsL_jump (wsV RL 15 RX6 yX6_jump wsX6_jump) := goodIn_app (goodIn_of _ (by decide +kernel)) ggL_jump_X6_jump
theorem dL_jump_0 : decode cL_jump 0 = .ok (.aload_n 2, 1) := by decide +kernel
theorem dL_jump_1 : decode cL_jump 1 = .ok (.iconst 0, 1) := by decide +kernel
theorem dL_jump_2 : decode cL_jump 2 = .ok (.aload_n 0, 1) := by decide +kernel
theorem dL_jump_3 : decode cL_jump 3 = .ok (.iload_n 1, 1) := by decide +kernel
theorem dL_jump_4 : decode cL_jump 4 = .ok (.invokevirtual 15, 3) := by decide +kernel
theorem dL_jump_7 : decode cL_jump 7 = .ok (.i2l, 1) := by decide +kernel
theorem dL_jump_8 : decode cL_jump 8 = .ok (.lastore, 1) := by decide +kernel
theorem dL_jump_9 : decode cL_jump 9 = .ok (.goto 6, 3) := by decide +kernel
theorem dL_jump_12 : decode cL_jump 12 = .ok (.astore_n 3, 1) := by decide +kernel
theorem dL_jump_13 : decode cL_jump 13 = .ok (.iconst 1, 1) := by decide +kernel
theorem dL_jump_14 : decode cL_jump 14 = .ok (.ireturn, 1) := by decide +kernel
theorem dL_jump_15 : decode cL_jump 15 = .ok (.iconst 0, 1) := by decide +kernel
theorem dL_jump_16 : decode cL_jump 16 = .ok (.ireturn, 1) := by decide +kernel
set_option maxRecDepth 20000 in
theorem ggL_setLoad_X6_setLoad : GoodIn wsL_setLoad wsX6_setLoad := goodIn_ca (goodIn_r _ [6, 7, 8, 9, 10, 11, 12, 5, 13, 14, 15, 16, 17, 18, 19, 20, 21, 22, 23, 24, 25, 26, 27, 28, 29, 30, 31, 32, 33, 34, 35, 36, 37, 38, 39, 40, 41, 42, 43, 44] (by decide +kernel) (by decide +kernel)) (goodIn_sub (fun _ h => List.mem_cons_of_mem _ (List.mem_append_right _ h)) (by decide +kernel))
set_option maxRecDepth 20000 in
theorem gL_setLoad_X6_setLoad : GoodIn wsL_setLoad (wsV RL 19 RX6 yX6_setLoad wsX6_setLoad) := goodIn_app (goodIn_of _ (by decide +kernel)) ggL_setLoad_X6_setLoad
theorem dL_setLoad_0 : decode cL_setLoad 0 = .ok (.aload_n 0, 1) := by decide +kernel
theorem dL_setLoad_1 : decode cL_setLoad 1 = .ok (.iload_n 1, 1) := by decide +kernel
theorem dL_setLoad_2 : decode cL_setLoad 2 = .ok (.iload_n 2, 1) := by decide +kernel
theorem dL_setLoad_3 : decode cL_setLoad 3 = .ok (.iload_n 3, 1) := by decide +kernel
theorem dL_setLoad_4 : decode cL_setLoad 4 = .ok (.invokevirtual 19, 3) := by decide +kernel
theorem dL_setLoad_7 : decode cL_setLoad 7 = .ok (.goto 7, 3) := by decide +kernel
theorem dL_setLoad_10 : decode cL_setLoad 10 = .ok (.astore 4, 2) := by decide +kernel
theorem dL_setLoad_12 : decode cL_setLoad 12 = .ok (.iconst 1, 1) := by decide +kernel
theorem dL_setLoad_13 : decode cL_setLoad 13 = .ok (.ireturn, 1) := by decide +kernel
theorem dL_setLoad_14 : decode cL_setLoad 14 = .ok (.iconst 0, 1) := by decide +kernel
theorem dL_setLoad_15 : decode cL_setLoad 15 = .ok (.ireturn, 1) := by decide +kernel
set_option maxRecDepth 20000 in
theorem ggL_setLoop_X6_setLoop : GoodIn wsL_setLoop wsX6_setLoop := goodIn_ca (goodIn_r _ [6, 7, 8, 9, 10, 11, 12, 13, 14, 5, 15, 16, 17, 18, 19, 20, 21, 22, 23, 24, 25, 26, 27, 28, 29, 30, 31, 32, 33] (by decide +kernel) (by decide +kernel)) (goodIn_sub (fun _ h => List.mem_cons_of_mem _ (List.mem_append_right _ h)) (by decide +kernel))
set_option maxRecDepth 20000 in
theorem gL_setLoop_X6_setLoop : GoodIn wsL_setLoop (wsV RL 23 RX6 yX6_setLoop wsX6_setLoop) := goodIn_app (goodIn_of _ (by decide +kernel)) ggL_setLoop_X6_setLoop
theorem dL_setLoop_0 : decode cL_setLoop 0 = .ok (.aload_n 0, 1) := by decide +kernel
theorem dL_setLoop_1 : decode cL_setLoop 1 = .ok (.iload_n 1, 1) := by decide +kernel
theorem dL_setLoop_2 : decode cL_setLoop 2 = .ok (.iload_n 2, 1) := by decide +kernel
theorem dL_setLoop_3 : decode cL_setLoop 3 = .ok (.invokevirtual 23, 3) := by decide +kernel
theorem dL_setLoop_6 : decode cL_setLoop 6 = .ok (.goto 6, 3) := by decide +kernel
theorem dL_setLoop_9 : decode cL_setLoop 9 = .ok (.astore_n 3, 1) := by decide +kernel
theorem dL_setLoop_10 : decode cL_setLoop 10 = .ok (.iconst 1, 1) := by decide +kernel
theorem dL_setLoop_11 : decode cL_setLoop 11 = .ok (.ireturn, 1) := by decide +kernel
theorem dL_setLoop_12 : decode cL_setLoop 12 = .ok (.iconst 0, 1) := by decide +kernel
theorem dL_setLoop_13 : decode cL_setLoop 13 = .ok (.ireturn, 1) := by decide +kernel
set_option maxRecDepth 20000 in
theorem ggL_setLock_X6_setLock : GoodIn wsL_setLock wsX6_setLock := goodIn_ca (goodIn_r _ [6, 7, 8, 9, 10, 11, 12, 13, 14, 15, 5, 16, 17, 18, 19, 20, 21, 22, 23, 24, 25, 26, 27, 28, 29, 30, 31, 32, 33, 34] (by decide +kernel) (by decide +kernel)) (goodIn_sub (fun _ h => List.mem_cons_of_mem _ (List.mem_append_right _ h)) (by decide +kernel))
set_option maxRecDepth 20000 in
theorem gL_setLock_X6_setLock : GoodIn wsL_setLock (wsV RL 26 RX6 yX6_setLock wsX6_setLock) := goodIn_app (goodIn_of _ (by decide +kernel)) ggL_setLock_X6_setLock
theorem dL_setLock_0 : decode cL_setLock 0 = .ok (.aload_n 0, 1) := by decide +kernel
theorem dL_setLock_1 : decode cL_setLock 1 = .ok (.iload_n 1, 1) := by decide +kernel
theorem dL_setLock_2 : decode cL_setLock 2 = .ok (.iload_n 2, 1) := by decide +kernel
theorem dL_setLock_3 : decode cL_setLock 3 = .ok (.invokevirtual 26, 3) := by decide +kernel
theorem dL_setLock_6 : decode cL_setLock 6 = .ok (.goto 6, 3) := by decide +kernel
theorem dL_setLock_9 : decode cL_setLock 9 = .ok (.astore_n 3, 1) := by decide +kernel
theorem dL_setLock_10 : decode cL_setLock 10 = .ok (.iconst 1, 1) := by decide +kernel
theorem dL_setLock_11 : decode cL_setLock 11 = .ok (.ireturn, 1) := by decide +kernel
theorem dL_setLock_12 : decode cL_setLock 12 = .ok (.iconst 0, 1) := by decide +kernel
theorem dL_setLock_13 : decode cL_setLock 13 = .ok (.ireturn, 1) := by decide +kernel
set_option maxRecDepth 20000 in
theorem ggL_setWindow_X6_setWindow : GoodIn wsL_setWindow wsX6_setWindow := goodIn_ca (goodIn_r _ [6, 7, 8, 9, 10, 11, 12, 13, 14, 15, 16, 17, 18, 5, 19, 20, 21, 22, 23, 24, 25, 26, 27, 28, 29, 30, 31, 32, 33, 34, 35, 36, 37, 38, 39, 40, 41, 42] (by decide +kernel) (by decide +kernel)) (goodIn_sub (fun _ h => List.mem_cons_of_mem _ (List.mem_append_right _ h)) (by decide +kernel))
set_option maxRecDepth 20000 in
theorem gL_setWindow_X6_setWindow : GoodIn wsL_setWindow (wsV RL 29 RX6 yX6_setWindow wsX6_setWindow) := goodIn_app (goodIn_of _ (by decide +kernel)) ggL_setWindow_X6_setWindow
theorem dL_setWindow_0 : decode cL_setWindow 0 = .ok (.aload_n 0, 1) := by decide +kernel
theorem dL_setWindow_1 : decode cL_setWindow 1 = .ok (.iload_n 1, 1) := by decide +kernel
theorem dL_setWindow_2 : decode cL_setWindow 2 = .ok (.iload_n 2, 1) := by decide +kernel
theorem dL_setWindow_3 : decode cL_setWindow 3 = .ok (.iload_n 3, 1) := by decide +kernel
theorem dL_setWindow_4 : decode cL_setWindow 4 = .ok (.iload 4, 2) := by decide +kernel
theorem dL_setWindow_6 : decode cL_setWindow 6 = .ok (.invokevirtual 29, 3) := by decide +kernel
theorem dL_setWindow_9 : decode cL_setWindow 9 = .ok (.goto 7, 3) := by decide +kernel
theorem dL_setWindow_12 : decode cL_setWindow 12 = .ok (.astore 5, 2) := by decide +kernel
theorem dL_setWindow_14 : decode cL_setWindow 14 = .ok (.iconst 1, 1) := by decide +kernel
theorem dL_setWindow_15 : decode cL_setWindow 15 = .ok (.ireturn, 1) := by decide +kernel
theorem dL_setWindow_16 : decode cL_setWindow 16 = .ok (.iconst 0, 1) := by decide +kernel
theorem dL_setWindow_17 : decode cL_setWindow 17 = .ok (.ireturn, 1) := by decide +kernel
set_option maxRecDepth 20000 in
theorem ggL_setPower_X6_setPower : GoodIn wsL_setPower wsX6_setPower := goodIn_ca (goodIn_r _ [6, 7, 8, 9, 10, 11, 12, 13, 14, 15, 5, 16, 17, 18, 19, 20, 21, 22, 23, 24, 25, 26, 27, 28, 29, 30, 31, 32, 33, 34, 35, 36, 37, 38, 39] (by decide +kernel) (by decide +kernel)) (goodIn_sub (fun _ h => List.mem_cons_of_mem _ (List.mem_append_right _ h)) (by decide +kernel))
set_option maxRecDepth 20000 in
theorem gL_setPower_X6_setPower : GoodIn wsL_setPower (wsV RL 33 RX6 yX6_setPower wsX6_setPower) := goodIn_app (goodIn_of _ (by decide +kernel)) ggL_setPower_X6_setPower
theorem dL_setPower_0 : decode cL_setPower 0 = .ok (.aload_n 0, 1) := by decide +kernel
theorem dL_setPower_1 : decode cL_setPower 1 = .ok (.iload_n 1, 1) := by decide +kernel
theorem dL_setPower_2 : decode cL_setPower 2 = .ok (.iload_n 2, 1) := by decide +kernel
theorem dL_setPower_3 : decode cL_setPower 3 = .ok (.iload_n 3, 1) := by decide +kernel
theorem dL_setPower_4 : decode cL_setPower 4 = .ok (.invokevirtual 33, 3) := by decide +kernel
theorem dL_setPower_7 : decode cL_setPower 7 = .ok (.goto 7, 3) := by decide +kernel
theorem dL_setPower_10 : decode cL_setPower 10 = .ok (.astore 4, 2) := by decide +kernel
theorem dL_setPower_12 : decode cL_setPower 12 = .ok (.iconst 1, 1) := by decide +kernel
theorem dL_setPower_13 : decode cL_setPower 13 = .ok (.ireturn, 1) := by decide +kernel
theorem dL_setPower_14 : decode cL_setPower 14 = .ok (.iconst 0, 1) := by decide +kernel
theorem dL_setPower_15 : decode cL_setPower 15 = .ok (.ireturn, 1) := by decide +kernel
set_option maxRecDepth 20000 in
theorem ggL_setDrift_X6_setDrift : GoodIn wsL_setDrift wsX6_setDrift := goodIn_ca (goodIn_r _ [6, 7, 8, 9, 10, 11, 12, 13, 14, 5, 15, 16, 17, 18, 19, 20, 21, 22, 23, 24, 25, 26, 27, 28, 29, 30, 31, 32, 33, 34, 35, 36, 37, 38] (by decide +kernel) (by decide +kernel)) (goodIn_sub (fun _ h => List.mem_cons_of_mem _ (List.mem_append_right _ h)) (by decide +kernel))
set_option maxRecDepth 20000 in
theorem gL_setDrift_X6_setDrift : GoodIn wsL_setDrift (wsV RL 36 RX6 yX6_setDrift wsX6_setDrift) := goodIn_app (goodIn_of _ (by decide +kernel)) ggL_setDrift_X6_setDrift
theorem dL_setDrift_0 : decode cL_setDrift 0 = .ok (.aload_n 0, 1) := by decide +kernel
theorem dL_setDrift_1 : decode cL_setDrift 1 = .ok (.iload_n 1, 1) := by decide +kernel
theorem dL_setDrift_2 : decode cL_setDrift 2 = .ok (.iload_n 2, 1) := by decide +kernel
theorem dL_setDrift_3 : decode cL_setDrift 3 = .ok (.invokevirtual 36, 3) := by decide +kernel
theorem dL_setDrift_6 : decode cL_setDrift 6 = .ok (.goto 6, 3) := by decide +kernel
theorem dL_setDrift_9 : decode cL_setDrift 9 = .ok (.astore_n 3, 1) := by decide +kernel
theorem dL_setDrift_10 : decode cL_setDrift 10 = .ok (.iconst 1, 1) := by decide +kernel
theorem dL_setDrift_11 : decode cL_setDrift 11 = .ok (.ireturn, 1) := by decide +kernel
theorem dL_setDrift_12 : decode cL_setDrift 12 = .ok (.iconst 0, 1) := by decide +kernel
theorem dL_setDrift_13 : decode cL_setDrift 13 = .ok (.ireturn, 1) := by decide +kernel
set_option maxRecDepth 20000 in
theorem ggL_addRule_X6_addRule : GoodIn wsL_addRule wsX6_addRule := goodIn_ca (goodIn_ca (goodIn_r _ [7, 8, 9, 10, 11, 12, 13, 14, 15, 16, 6, 17, 18, 19, 20, 21, 22, 23, 24, 25, 26, 27, 28, 29, 30, 31, 32, 33, 34, 35, 36, 37, 38, 39, 40, 41] (by decide +kernel) (by decide +kernel)) (goodIn_sub (fun _ h => List.mem_cons_of_mem _ (List.mem_append_left _ (List.mem_append_right _ h))) (by decide +kernel))) (goodIn_sub (fun _ h => List.mem_cons_of_mem _ (List.mem_append_right _ h)) (by decide +kernel))
set_option maxRecDepth 20000 in
theorem gL_addRule_X6_addRule : GoodIn wsL_addRule (wsV RL 39 RX6 yX6_addRule wsX6_addRule) := goodIn_app (goodIn_of _ (by decide +kernel)) ggL_addRule_X6_addRule
theorem dL_addRule_0 : decode cL_addRule 0 = .ok (.aload 4, 2) := by decide +kernel
theorem dL_addRule_2 : decode cL_addRule 2 = .ok (.iconst 0, 1) := by decide +kernel
theorem dL_addRule_3 : decode cL_addRule 3 = .ok (.aload_n 0, 1) := by decide +kernel
theorem dL_addRule_4 : decode cL_addRule 4 = .ok (.iload_n 1, 1) := by decide +kernel
theorem dL_addRule_5 : decode cL_addRule 5 = .ok (.iload_n 2, 1) := by decide +kernel
theorem dL_addRule_6 : decode cL_addRule 6 = .ok (.iload_n 3, 1) := by decide +kernel
theorem dL_addRule_7 : decode cL_addRule 7 = .ok (.invokevirtual 39, 3) := by decide +kernel
theorem dL_addRule_10 : decode cL_addRule 10 = .ok (.i2l, 1) := by decide +kernel
theorem dL_addRule_11 : decode cL_addRule 11 = .ok (.lastore, 1) := by decide +kernel
theorem dL_addRule_12 : decode cL_addRule 12 = .ok (.goto 11, 3) := by decide +kernel
theorem dL_addRule_15 : decode cL_addRule 15 = .ok (.astore 5, 2) := by decide +kernel
theorem dL_addRule_17 : decode cL_addRule 17 = .ok (.iconst 1, 1) := by decide +kernel
theorem dL_addRule_18 : decode cL_addRule 18 = .ok (.ireturn, 1) := by decide +kernel
theorem dL_addRule_19 : decode cL_addRule 19 = .ok (.astore 5, 2) := by decide +kernel
theorem dL_addRule_21 : decode cL_addRule 21 = .ok (.iconst 2, 1) := by decide +kernel
theorem dL_addRule_22 : decode cL_addRule 22 = .ok (.ireturn, 1) := by decide +kernel
theorem dL_addRule_23 : decode cL_addRule 23 = .ok (.iconst 0, 1) := by decide +kernel
theorem dL_addRule_24 : decode cL_addRule 24 = .ok (.ireturn, 1) := by decide +kernel
set_option maxRecDepth 20000 in
theorem ggL_advance_X6_advance : GoodIn wsL_advance wsX6_advance := goodIn_ca (goodIn_r _ [6, 7, 8, 9, 10, 11, 12, 5, 13, 14, 15, 16, 17, 18, 19, 20, 21, 22, 23, 24, 25, 26, 27, 28, 29, 30, 31, 32, 33, 34, 35, 36, 37, 38, 39, 40, 41, 42, 43, 44, 45, 46, 47, 48, 49, 50, 51, 52, 53, 54, 55, 56, 57, 58, 59, 60, 61, 62, 63, 64, 65, 66, 67, 68, 69, 70, 71, 72, 73, 74, 75, 76, 77, 78, 79, 80, 81, 82, 83, 84, 85, 86, 87, 88, 89, 90, 91, 92, 93, 94, 95, 96, 97, 98, 99, 100, 101, 102, 103, 104, 105, 106, 107, 108, 109, 110, 111, 112, 113, 114, 115, 116, 117, 118, 119, 120, 121, 122, 123, 124, 125, 126, 127, 128, 129, 130, 131, 132, 133, 134, 135, 136, 137, 138, 139, 140, 141, 142, 143, 144, 145, 146, 147, 148, 149, 150, 151, 152, 153, 154, 155, 156, 157, 158, 159, 160, 161, 162, 163, 164, 165, 166, 167, 168, 169, 170, 171, 172, 173, 174, 175, 176, 177, 178, 179, 180, 181, 182, 183, 184, 185, 186, 187, 188, 189, 190, 191, 192, 193, 194, 195, 196, 197, 198, 199, 200, 201, 202, 203, 204, 205, 206, 207, 208, 209, 210, 211, 212, 213, 214, 215, 216, 217, 218] (by decide +kernel) (by decide +kernel)) (goodIn_sub (fun _ h => List.mem_cons_of_mem _ (List.mem_append_right _ h)) (by decide +kernel))
set_option maxRecDepth 20000 in
theorem gL_advance_X6_advance : GoodIn wsL_advance (wsV RL 45 RX6 yX6_advance wsX6_advance) := goodIn_app (goodIn_of _ (by decide +kernel)) ggL_advance_X6_advance
theorem dL_advance_0 : decode cL_advance 0 = .ok (.aload_n 2, 1) := by decide +kernel
theorem dL_advance_1 : decode cL_advance 1 = .ok (.iconst 0, 1) := by decide +kernel
theorem dL_advance_2 : decode cL_advance 2 = .ok (.aload_n 0, 1) := by decide +kernel
theorem dL_advance_3 : decode cL_advance 3 = .ok (.iload_n 1, 1) := by decide +kernel
theorem dL_advance_4 : decode cL_advance 4 = .ok (.invokevirtual 45, 3) := by decide +kernel
theorem dL_advance_7 : decode cL_advance 7 = .ok (.i2l, 1) := by decide +kernel
theorem dL_advance_8 : decode cL_advance 8 = .ok (.lastore, 1) := by decide +kernel
theorem dL_advance_9 : decode cL_advance 9 = .ok (.goto 6, 3) := by decide +kernel
theorem dL_advance_12 : decode cL_advance 12 = .ok (.astore_n 3, 1) := by decide +kernel
theorem dL_advance_13 : decode cL_advance 13 = .ok (.iconst 1, 1) := by decide +kernel
theorem dL_advance_14 : decode cL_advance 14 = .ok (.ireturn, 1) := by decide +kernel
theorem dL_advance_15 : decode cL_advance 15 = .ok (.iconst 0, 1) := by decide +kernel
theorem dL_advance_16 : decode cL_advance 16 = .ok (.ireturn, 1) := by decide +kernel
set_option maxRecDepth 20000 in
theorem ggL_measure_X6_measure : GoodIn wsL_measure wsX6_measure := goodIn_ca (goodIn_r _ [6, 7, 8, 9, 10, 11, 12, 13, 14, 15, 16, 17, 18, 19, 20, 21, 22, 23, 24, 25, 26, 27, 28, 29, 30, 31, 32, 33, 34, 35, 36, 37, 38, 39, 40, 41, 42, 43, 44, 45, 46, 47, 48, 49, 50, 51, 52, 53, 54, 55, 56, 57, 58, 59, 60, 61, 62, 63] (by decide +kernel) (by decide +kernel)) (goodIn_sub (fun _ h => List.mem_cons_of_mem _ (List.mem_append_right _ h)) (by decide +kernel))
set_option maxRecDepth 20000 in
theorem gL_measure_X6_measure : GoodIn wsL_measure (wsV RL 48 RX6 yX6_measure wsX6_measure) := goodIn_app (goodIn_of _ (by decide +kernel)) ggL_measure_X6_measure
theorem dL_measure_0 : decode cL_measure 0 = .ok (.aload_n 2, 1) := by decide +kernel
theorem dL_measure_1 : decode cL_measure 1 = .ok (.iconst 0, 1) := by decide +kernel
theorem dL_measure_2 : decode cL_measure 2 = .ok (.aload_n 0, 1) := by decide +kernel
theorem dL_measure_3 : decode cL_measure 3 = .ok (.iload_n 1, 1) := by decide +kernel
theorem dL_measure_4 : decode cL_measure 4 = .ok (.invokevirtual 48, 3) := by decide +kernel
theorem dL_measure_7 : decode cL_measure 7 = .ok (.i2l, 1) := by decide +kernel
theorem dL_measure_8 : decode cL_measure 8 = .ok (.lastore, 1) := by decide +kernel
theorem dL_measure_9 : decode cL_measure 9 = .ok (.goto 6, 3) := by decide +kernel
theorem dL_measure_12 : decode cL_measure 12 = .ok (.astore_n 3, 1) := by decide +kernel
theorem dL_measure_13 : decode cL_measure 13 = .ok (.iconst 1, 1) := by decide +kernel
theorem dL_measure_14 : decode cL_measure 14 = .ok (.ireturn, 1) := by decide +kernel
theorem dL_measure_15 : decode cL_measure 15 = .ok (.iconst 0, 1) := by decide +kernel
theorem dL_measure_16 : decode cL_measure 16 = .ok (.ireturn, 1) := by decide +kernel
set_option maxRecDepth 20000 in
theorem ggL_violations_X6_violations : GoodIn wsL_violations wsX6_violations := goodIn_ca (goodIn_r _ [6, 7, 8, 9, 10, 11, 12, 13, 14, 15, 16, 17, 18, 19, 20, 21, 22, 23, 24, 25, 26, 27, 28, 29, 30, 31] (by decide +kernel) (by decide +kernel)) (goodIn_sub (fun _ h => List.mem_cons_of_mem _ (List.mem_append_right _ h)) (by decide +kernel))
set_option maxRecDepth 20000 in
theorem gL_violations_X6_violations : GoodIn wsL_violations (wsV RL 51 RX6 yX6_violations wsX6_violations) := goodIn_app (goodIn_of _ (by decide +kernel)) ggL_violations_X6_violations
theorem dL_violations_0 : decode cL_violations 0 = .ok (.aload_n 2, 1) := by decide +kernel
theorem dL_violations_1 : decode cL_violations 1 = .ok (.iconst 0, 1) := by decide +kernel
theorem dL_violations_2 : decode cL_violations 2 = .ok (.aload_n 0, 1) := by decide +kernel
theorem dL_violations_3 : decode cL_violations 3 = .ok (.iload_n 1, 1) := by decide +kernel
theorem dL_violations_4 : decode cL_violations 4 = .ok (.invokevirtual 51, 3) := by decide +kernel
theorem dL_violations_7 : decode cL_violations 7 = .ok (.i2l, 1) := by decide +kernel
theorem dL_violations_8 : decode cL_violations 8 = .ok (.lastore, 1) := by decide +kernel
theorem dL_violations_9 : decode cL_violations 9 = .ok (.goto 6, 3) := by decide +kernel
theorem dL_violations_12 : decode cL_violations 12 = .ok (.astore_n 3, 1) := by decide +kernel
theorem dL_violations_13 : decode cL_violations 13 = .ok (.iconst 1, 1) := by decide +kernel
theorem dL_violations_14 : decode cL_violations 14 = .ok (.ireturn, 1) := by decide +kernel
theorem dL_violations_15 : decode cL_violations 15 = .ok (.iconst 0, 1) := by decide +kernel
theorem dL_violations_16 : decode cL_violations 16 = .ok (.ireturn, 1) := by decide +kernel
set_option maxRecDepth 20000 in
theorem ggL_event_X6_event : GoodIn wsL_event wsX6_event := goodIn_ca (goodIn_r _ [6, 7, 8, 9, 10, 11, 12, 5, 13, 14, 15, 16, 17, 18, 19, 20, 21, 22, 23, 24, 25, 26, 27, 28, 29, 30, 31, 32, 33, 34, 35, 36, 37, 38, 39, 40, 41, 42, 43, 44, 45] (by decide +kernel) (by decide +kernel)) (goodIn_sub (fun _ h => List.mem_cons_of_mem _ (List.mem_append_right _ h)) (by decide +kernel))
set_option maxRecDepth 20000 in
theorem gL_event_X6_event : GoodIn wsL_event (wsV RL 56 RX6 yX6_event wsX6_event) := goodIn_app (goodIn_of _ (by decide +kernel)) ggL_event_X6_event
theorem dL_event_0 : decode cL_event 0 = .ok (.aload_n 3, 1) := by decide +kernel
theorem dL_event_1 : decode cL_event 1 = .ok (.iconst 0, 1) := by decide +kernel
theorem dL_event_2 : decode cL_event 2 = .ok (.aload_n 0, 1) := by decide +kernel
theorem dL_event_3 : decode cL_event 3 = .ok (.iload_n 1, 1) := by decide +kernel
theorem dL_event_4 : decode cL_event 4 = .ok (.iload_n 2, 1) := by decide +kernel
theorem dL_event_5 : decode cL_event 5 = .ok (.invokevirtual 56, 3) := by decide +kernel
theorem dL_event_8 : decode cL_event 8 = .ok (.i2l, 1) := by decide +kernel
theorem dL_event_9 : decode cL_event 9 = .ok (.lastore, 1) := by decide +kernel
theorem dL_event_10 : decode cL_event 10 = .ok (.goto 7, 3) := by decide +kernel
theorem dL_event_13 : decode cL_event 13 = .ok (.astore 4, 2) := by decide +kernel
theorem dL_event_15 : decode cL_event 15 = .ok (.iconst 1, 1) := by decide +kernel
theorem dL_event_16 : decode cL_event 16 = .ok (.ireturn, 1) := by decide +kernel
theorem dL_event_17 : decode cL_event 17 = .ok (.iconst 0, 1) := by decide +kernel
theorem dL_event_18 : decode cL_event 18 = .ok (.ireturn, 1) := by decide +kernel
set_option maxRecDepth 20000 in
theorem ggL_islandTime_X6_islandTime : GoodIn wsL_islandTime wsX6_islandTime := goodIn_ca (goodIn_ca (goodIn_r _ [7, 8, 9, 10, 11, 12, 13, 14, 15, 16, 6, 17, 18, 19, 20, 21, 22, 23, 24, 25, 26, 27, 28, 29, 30, 31, 32, 33, 34, 35, 36, 37, 38, 39, 40, 41, 42, 43, 44, 45, 46, 47, 48, 49, 50, 51, 52, 53, 54, 55, 56, 57, 58, 59, 60, 61, 62, 63, 64, 65, 66, 67, 68, 69, 70, 71, 72, 73, 74, 75, 76, 77, 78, 79, 80, 81, 82, 83, 84, 85, 86, 87, 88, 89, 90, 91, 92, 93, 94, 95, 96, 97, 98, 99, 100, 101, 102, 103, 104, 105, 106, 107, 108, 109, 110, 111, 112, 113, 114, 115, 116, 117, 118, 119, 120, 121, 122, 123, 124, 125, 126, 127, 128, 129, 130, 131, 132, 133, 134, 135, 136, 137, 138, 139, 140, 141, 142, 143, 144, 145, 146, 147, 148, 149, 150, 151, 152, 153, 154, 155, 156, 157, 158, 159, 160, 161, 162, 163, 164, 165, 166, 167, 168, 169, 170, 171, 172, 173, 174, 175, 176, 177, 178, 179, 180, 181, 182, 183, 184, 185, 186, 187, 188, 189, 190, 191, 192, 193, 194, 195, 196, 197, 198, 199, 200, 201, 202, 203, 204, 205, 206, 207, 208, 209, 210, 211, 212, 213, 214, 215, 216, 217, 218, 219, 220, 221, 222, 223, 224, 225, 226, 227, 228, 229, 230, 231, 232, 233, 234, 235, 236, 237, 238, 239, 240, 241, 242, 243, 244, 245, 246, 247, 248, 249, 250, 251, 252, 253, 254, 255, 256, 257, 258, 259, 260, 261, 262, 263, 264, 265, 266, 267, 268, 269, 270, 271] (by decide +kernel) (by decide +kernel)) (goodIn_sub (fun _ h => List.mem_cons_of_mem _ (List.mem_append_left _ (List.mem_append_right _ h))) (by decide +kernel))) (goodIn_sub (fun _ h => List.mem_cons_of_mem _ (List.mem_append_right _ h)) (by decide +kernel))
set_option maxRecDepth 20000 in
theorem gL_islandTime_X6_islandTime : GoodIn wsL_islandTime (wsV RL 60 RX6 yX6_islandTime wsX6_islandTime) := goodIn_app (goodIn_of _ (by decide +kernel)) ggL_islandTime_X6_islandTime
theorem dL_islandTime_0 : decode cL_islandTime 0 = .ok (.aload 5, 2) := by decide +kernel
theorem dL_islandTime_2 : decode cL_islandTime 2 = .ok (.iconst 0, 1) := by decide +kernel
theorem dL_islandTime_3 : decode cL_islandTime 3 = .ok (.aload_n 0, 1) := by decide +kernel
theorem dL_islandTime_4 : decode cL_islandTime 4 = .ok (.iload_n 1, 1) := by decide +kernel
theorem dL_islandTime_5 : decode cL_islandTime 5 = .ok (.iload_n 2, 1) := by decide +kernel
theorem dL_islandTime_6 : decode cL_islandTime 6 = .ok (.iload_n 3, 1) := by decide +kernel
theorem dL_islandTime_7 : decode cL_islandTime 7 = .ok (.iload 4, 2) := by decide +kernel
theorem dL_islandTime_9 : decode cL_islandTime 9 = .ok (.invokevirtual 60, 3) := by decide +kernel
theorem dL_islandTime_12 : decode cL_islandTime 12 = .ok (.i2l, 1) := by decide +kernel
theorem dL_islandTime_13 : decode cL_islandTime 13 = .ok (.lastore, 1) := by decide +kernel
theorem dL_islandTime_14 : decode cL_islandTime 14 = .ok (.goto 11, 3) := by decide +kernel
theorem dL_islandTime_17 : decode cL_islandTime 17 = .ok (.astore 6, 2) := by decide +kernel
theorem dL_islandTime_19 : decode cL_islandTime 19 = .ok (.iconst 1, 1) := by decide +kernel
theorem dL_islandTime_20 : decode cL_islandTime 20 = .ok (.ireturn, 1) := by decide +kernel
theorem dL_islandTime_21 : decode cL_islandTime 21 = .ok (.astore 6, 2) := by decide +kernel
theorem dL_islandTime_23 : decode cL_islandTime 23 = .ok (.iconst 2, 1) := by decide +kernel
theorem dL_islandTime_24 : decode cL_islandTime 24 = .ok (.ireturn, 1) := by decide +kernel
theorem dL_islandTime_25 : decode cL_islandTime 25 = .ok (.iconst 0, 1) := by decide +kernel
theorem dL_islandTime_26 : decode cL_islandTime 26 = .ok (.ireturn, 1) := by decide +kernel
set_option maxRecDepth 20000 in
theorem ggL_undetected_X6_undetected : GoodIn wsL_undetected wsX6_undetected := goodIn_ca (goodIn_ca (goodIn_r _ [7, 8, 9, 10, 11, 12, 13, 14, 15, 16, 17, 18, 19, 6, 20, 21, 22, 23, 24, 25, 26, 27, 28, 29, 30, 31, 32, 33, 34, 35, 36, 37, 38, 39, 40, 41, 42, 43, 44, 45, 46, 47, 48, 49, 50, 51, 52, 53, 54, 55, 56, 57, 58, 59, 60, 61, 62, 63, 64, 65, 66, 67, 68, 69, 70, 71, 72, 73, 74, 75, 76, 77, 78, 79, 80, 81, 82, 83, 84, 85, 86, 87, 88, 89, 90, 91, 92, 93, 94, 95, 96, 97, 98, 99, 100, 101, 102, 103, 104, 105, 106, 107, 108, 109, 110, 111, 112, 113, 114, 115, 116, 117, 118, 119, 120, 121, 122, 123, 124, 125, 126, 127, 128, 129, 130, 131, 132, 133, 134, 135, 136, 137, 138, 139, 140, 141, 142, 143, 144, 145, 146, 147, 148, 149, 150, 151, 152, 153, 154, 155, 156, 157, 158, 159, 160, 161, 162, 163, 164, 165, 166, 167, 168, 169, 170, 171, 172, 173, 174, 175, 176, 177, 178, 179, 180, 181, 182, 183, 184, 185, 186, 187, 188, 189, 190, 191, 192, 193, 194, 195, 196, 197, 198, 199, 200, 201, 202, 203, 204, 205, 206, 207, 208, 209, 210, 211, 212, 213, 214, 215, 216, 217, 218, 219, 220, 221, 222, 223, 224, 225, 226, 227, 228, 229, 230, 231, 232, 233, 234, 235, 236, 237, 238, 239, 240, 241, 242, 243, 244, 245, 246, 247, 248, 249, 250, 251, 252, 253, 254, 255, 256, 257, 258, 259, 260, 261, 262, 263, 264, 265, 266, 267, 268] (by decide +kernel) (by decide +kernel)) (goodIn_sub (fun _ h => List.mem_cons_of_mem _ (List.mem_append_left _ (List.mem_append_right _ h))) (by decide +kernel))) (goodIn_sub (fun _ h => List.mem_cons_of_mem _ (List.mem_append_right _ h)) (by decide +kernel))
set_option maxRecDepth 20000 in
theorem gL_undetected_X6_undetected : GoodIn wsL_undetected (wsV RL 64 RX6 yX6_undetected wsX6_undetected) := goodIn_app (goodIn_of _ (by decide +kernel)) ggL_undetected_X6_undetected
theorem dL_undetected_0 : decode cL_undetected 0 = .ok (.aload 5, 2) := by decide +kernel
theorem dL_undetected_2 : decode cL_undetected 2 = .ok (.iconst 0, 1) := by decide +kernel
theorem dL_undetected_3 : decode cL_undetected 3 = .ok (.aload_n 0, 1) := by decide +kernel
theorem dL_undetected_4 : decode cL_undetected 4 = .ok (.iload_n 1, 1) := by decide +kernel
theorem dL_undetected_5 : decode cL_undetected 5 = .ok (.iload_n 2, 1) := by decide +kernel
theorem dL_undetected_6 : decode cL_undetected 6 = .ok (.iload_n 3, 1) := by decide +kernel
theorem dL_undetected_7 : decode cL_undetected 7 = .ok (.iload 4, 2) := by decide +kernel
theorem dL_undetected_9 : decode cL_undetected 9 = .ok (.invokevirtual 64, 3) := by decide +kernel
theorem dL_undetected_12 : decode cL_undetected 12 = .ok (.i2l, 1) := by decide +kernel
theorem dL_undetected_13 : decode cL_undetected 13 = .ok (.lastore, 1) := by decide +kernel
theorem dL_undetected_14 : decode cL_undetected 14 = .ok (.goto 11, 3) := by decide +kernel
theorem dL_undetected_17 : decode cL_undetected 17 = .ok (.astore 6, 2) := by decide +kernel
theorem dL_undetected_19 : decode cL_undetected 19 = .ok (.iconst 1, 1) := by decide +kernel
theorem dL_undetected_20 : decode cL_undetected 20 = .ok (.ireturn, 1) := by decide +kernel
theorem dL_undetected_21 : decode cL_undetected 21 = .ok (.astore 6, 2) := by decide +kernel
theorem dL_undetected_23 : decode cL_undetected 23 = .ok (.iconst 2, 1) := by decide +kernel
theorem dL_undetected_24 : decode cL_undetected 24 = .ok (.ireturn, 1) := by decide +kernel
theorem dL_undetected_25 : decode cL_undetected 25 = .ok (.iconst 0, 1) := by decide +kernel
theorem dL_undetected_26 : decode cL_undetected 26 = .ok (.ireturn, 1) := by decide +kernel
set_option maxRecDepth 20000 in
theorem ggL_relockTime_X6_relockTime : GoodIn wsL_relockTime wsX6_relockTime := goodIn_ca (goodIn_r _ [6, 7, 8, 9, 10, 11, 12, 13, 14, 15, 16, 17, 5, 18, 19, 20, 21, 22, 23, 24, 25, 26, 27, 28, 29, 30, 31, 32, 33, 34, 35, 36, 37, 38, 39, 40, 41, 42, 43, 44, 45, 46, 47, 48, 49, 50, 51, 52, 53, 54, 55, 56, 57, 58, 59, 60, 61, 62, 63, 64, 65, 66, 67, 68, 69, 70, 71, 72, 73, 74, 75, 76, 77, 78, 79, 80, 81, 82, 83, 84, 85, 86, 87, 88, 89, 90, 91, 92, 93, 94, 95, 96, 97, 98, 99, 100, 101, 102, 103, 104, 105, 106, 107, 108, 109, 110, 111, 112, 113, 114, 115, 116, 117, 118, 119, 120, 121, 122, 123, 124, 125, 126, 127, 128, 129, 130, 131, 132, 133, 134, 135, 136, 137, 138, 139, 140, 141, 142, 143, 144, 145, 146, 147, 148, 149, 150, 151, 152, 153, 154, 155, 156, 157, 158, 159, 160, 161, 162, 163, 164, 165, 166, 167, 168, 169, 170, 171, 172, 173, 174, 175, 176, 177, 178, 179, 180, 181, 182, 183, 184, 185, 186, 187, 188, 189, 190, 191, 192, 193, 194, 195, 196, 197, 198, 199, 200, 201, 202, 203, 204, 205, 206, 207, 208, 209, 210, 211, 212, 213, 214, 215, 216, 217, 218, 219, 220, 221, 222, 223, 224, 225, 226, 227, 228, 229, 230, 231, 232, 233, 234, 235, 236, 237, 238, 239, 240, 241, 242, 243, 244, 245, 246, 247, 248, 249, 250, 251, 252, 253, 254, 255, 256, 257, 258, 259, 260, 261] (by decide +kernel) (by decide +kernel)) (goodIn_sub (fun _ h => List.mem_cons_of_mem _ (List.mem_append_right _ h)) (by decide +kernel))
set_option maxRecDepth 20000 in
theorem gL_relockTime_X6_relockTime : GoodIn wsL_relockTime (wsV RL 67 RX6 yX6_relockTime wsX6_relockTime) := goodIn_app (goodIn_of _ (by decide +kernel)) ggL_relockTime_X6_relockTime
theorem dL_relockTime_0 : decode cL_relockTime 0 = .ok (.aload_n 3, 1) := by decide +kernel
theorem dL_relockTime_1 : decode cL_relockTime 1 = .ok (.iconst 0, 1) := by decide +kernel
theorem dL_relockTime_2 : decode cL_relockTime 2 = .ok (.aload_n 0, 1) := by decide +kernel
theorem dL_relockTime_3 : decode cL_relockTime 3 = .ok (.iload_n 1, 1) := by decide +kernel
theorem dL_relockTime_4 : decode cL_relockTime 4 = .ok (.iload_n 2, 1) := by decide +kernel
theorem dL_relockTime_5 : decode cL_relockTime 5 = .ok (.invokevirtual 67, 3) := by decide +kernel
theorem dL_relockTime_8 : decode cL_relockTime 8 = .ok (.i2l, 1) := by decide +kernel
theorem dL_relockTime_9 : decode cL_relockTime 9 = .ok (.lastore, 1) := by decide +kernel
theorem dL_relockTime_10 : decode cL_relockTime 10 = .ok (.goto 7, 3) := by decide +kernel
theorem dL_relockTime_13 : decode cL_relockTime 13 = .ok (.astore 4, 2) := by decide +kernel
theorem dL_relockTime_15 : decode cL_relockTime 15 = .ok (.iconst 1, 1) := by decide +kernel
theorem dL_relockTime_16 : decode cL_relockTime 16 = .ok (.ireturn, 1) := by decide +kernel
theorem dL_relockTime_17 : decode cL_relockTime 17 = .ok (.iconst 0, 1) := by decide +kernel
theorem dL_relockTime_18 : decode cL_relockTime 18 = .ok (.ireturn, 1) := by decide +kernel
set_option maxRecDepth 20000 in
theorem ggL_save_X6_save : GoodIn wsL_save wsX6_save := goodIn_ca (goodIn_r _ [6, 7, 8, 9, 10, 11, 12, 13, 14, 15, 5, 16, 17, 18, 19, 20, 21, 22, 23, 24, 25, 26, 27, 28, 29, 30, 31, 32, 33, 34, 35, 36, 37, 38, 39, 40, 41, 42, 43, 44, 45, 46, 47, 48, 49, 50, 51, 52, 53, 54, 55, 56, 57, 58, 59, 60, 61, 62, 63, 64, 65, 66, 67, 68, 69, 70, 71, 72, 73, 74, 75, 76, 77, 78, 79, 80, 81, 82, 83, 84, 85, 86, 87, 88, 89, 90, 91, 92, 93, 94, 95, 96, 97, 98, 99, 100, 101, 102, 103, 104, 105, 106, 107, 108, 109, 110, 111, 112, 113, 114, 115, 116, 117, 118, 119, 120, 121, 122, 123, 124, 125, 126, 127, 128, 129, 130, 131, 132, 133, 134, 135, 136, 137, 138, 139, 140, 141, 142, 143, 144, 145, 146, 147, 148, 149, 150, 151, 152, 153, 154, 155, 156, 157, 158, 159, 160, 161, 162, 163, 164, 165, 166, 167, 168, 169, 170, 171, 172, 173, 174, 175, 176, 177, 178, 179, 180, 181, 182, 183, 184, 185, 186, 187, 188, 189, 190] (by decide +kernel) (by decide +kernel)) (goodIn_sub (fun _ h => List.mem_cons_of_mem _ (List.mem_append_right _ h)) (by decide +kernel))
set_option maxRecDepth 20000 in
theorem gL_save_X6_save : GoodIn wsL_save (wsV RL 70 RX6 yX6_save wsX6_save) := goodIn_app (goodIn_of _ (by decide +kernel)) ggL_save_X6_save
theorem dL_save_0 : decode cL_save 0 = .ok (.aload_n 0, 1) := by decide +kernel
theorem dL_save_1 : decode cL_save 1 = .ok (.iload_n 1, 1) := by decide +kernel
theorem dL_save_2 : decode cL_save 2 = .ok (.invokevirtual 70, 3) := by decide +kernel
theorem dL_save_5 : decode cL_save 5 = .ok (.goto 6, 3) := by decide +kernel
theorem dL_save_8 : decode cL_save 8 = .ok (.astore_n 2, 1) := by decide +kernel
theorem dL_save_9 : decode cL_save 9 = .ok (.iconst 1, 1) := by decide +kernel
theorem dL_save_10 : decode cL_save 10 = .ok (.ireturn, 1) := by decide +kernel
theorem dL_save_11 : decode cL_save 11 = .ok (.iconst 0, 1) := by decide +kernel
theorem dL_save_12 : decode cL_save 12 = .ok (.ireturn, 1) := by decide +kernel
set_option maxRecDepth 20000 in
theorem ggL_restore_X6_restore : GoodIn wsL_restore wsX6_restore := goodIn_ca (goodIn_ca (goodIn_r _ [7, 8, 9, 10, 11, 12, 13, 14, 15, 6, 16, 17, 18, 19, 20, 21, 22, 23, 24, 25, 26, 27, 28, 29, 30, 31, 32, 33, 34, 35, 36, 37, 38, 39, 40, 41, 42, 43, 44, 45, 46, 47, 48, 49, 50, 51, 52, 53, 54, 55, 56, 57, 58, 59, 60, 61, 62, 63, 64, 65, 66, 67, 68, 69, 70, 71, 72, 73, 74, 75, 76, 77, 78, 79, 80, 81, 82, 83, 84, 85, 86, 87, 88, 89, 90, 91, 92, 93, 94, 95, 96, 97, 98, 99, 100, 101, 102, 103, 104, 105, 106, 107, 108, 109, 110, 111, 112, 113, 114, 115, 116, 117, 118, 119, 120, 121, 122, 123, 124, 125, 126, 127, 128, 129, 130, 131, 132, 133, 134, 135, 136, 137, 138, 139, 140, 141, 142, 143, 144, 145, 146, 147, 148, 149, 150, 151, 152, 153, 154, 155] (by decide +kernel) (by decide +kernel)) (goodIn_sub (fun _ h => List.mem_cons_of_mem _ (List.mem_append_left _ (List.mem_append_right _ h))) (by decide +kernel))) (goodIn_sub (fun _ h => List.mem_cons_of_mem _ (List.mem_append_right _ h)) (by decide +kernel))
set_option maxRecDepth 20000 in
theorem gL_restore_X6_restore : GoodIn wsL_restore (wsV RL 74 RX6 yX6_restore wsX6_restore) := goodIn_app (goodIn_of _ (by decide +kernel)) ggL_restore_X6_restore
theorem dL_restore_0 : decode cL_restore 0 = .ok (.aload_n 0, 1) := by decide +kernel
theorem dL_restore_1 : decode cL_restore 1 = .ok (.iload_n 1, 1) := by decide +kernel
theorem dL_restore_2 : decode cL_restore 2 = .ok (.invokevirtual 74, 3) := by decide +kernel
theorem dL_restore_5 : decode cL_restore 5 = .ok (.goto 9, 3) := by decide +kernel
theorem dL_restore_8 : decode cL_restore 8 = .ok (.astore_n 2, 1) := by decide +kernel
theorem dL_restore_9 : decode cL_restore 9 = .ok (.iconst 1, 1) := by decide +kernel
theorem dL_restore_10 : decode cL_restore 10 = .ok (.ireturn, 1) := by decide +kernel
theorem dL_restore_11 : decode cL_restore 11 = .ok (.astore_n 2, 1) := by decide +kernel
theorem dL_restore_12 : decode cL_restore 12 = .ok (.iconst 2, 1) := by decide +kernel
theorem dL_restore_13 : decode cL_restore 13 = .ok (.ireturn, 1) := by decide +kernel
theorem dL_restore_14 : decode cL_restore 14 = .ok (.iconst 0, 1) := by decide +kernel
theorem dL_restore_15 : decode cL_restore 15 = .ok (.ireturn, 1) := by decide +kernel
set_option maxRecDepth 20000 in
theorem ggL_law_X6_init : GoodIn wsL_law wsX6_init := goodIn_r _ [9, 10, 11, 12, 13, 14, 15, 16, 17, 18, 19, 20, 21, 22, 23, 24, 25, 26, 27, 28, 29, 30, 31, 32, 33, 34, 35, 36, 37, 38, 39, 40, 41, 42, 43, 44, 45, 46, 47, 48, 49, 50, 51, 52, 53, 54, 55, 56, 57, 58, 59, 60, 61, 62, 63, 64, 65, 66, 67, 68, 69, 70, 71, 72, 73, 74, 75, 76, 77, 78, 79, 80, 81, 82, 83, 84, 85, 86, 87, 88, 89, 90, 91, 92, 93, 94, 95, 96, 97, 98, 99, 100, 101, 102, 103, 709, 710, 711, 712, 713, 714, 699, 700, 701, 715, 716, 717, 718, 719, 720, 721, 722, 723, 724, 725, 726, 727, 728, 729, 730, 731, 732, 733, 734, 735, 736, 737, 738, 739, 740, 741, 742, 743, 744, 745, 746, 747, 748, 749, 750, 751, 752, 753, 754] (by decide +kernel) (by decide +kernel)
set_option maxRecDepth 20000 in
theorem gL_law_X6_init : GoodIn wsL_law (wsX6_init) := ggL_law_X6_init
set_option maxRecDepth 20000 in
theorem ggL_law_X7_init : GoodIn wsL_law wsX7_init := goodIn_r _ [106, 107, 11, 12, 69, 108, 109, 110, 6, 111, 112, 113, 114, 115, 116, 702, 703, 704, 705, 706, 707, 708] (by decide +kernel) (by decide +kernel)
set_option maxRecDepth 20000 in
theorem gL_law_X7_init : GoodIn wsL_law (wsX7_init) := ggL_law_X7_init
set_option maxRecDepth 20000 in
theorem ggL_law_L_setGrid : GoodIn wsL_law wsL_setGrid := goodIn_ca (goodIn_r _ [120, 121, 122, 123, 124, 2, 125, 126, 127, 128, 129, 16, 130, 131, 132, 133, 134, 135, 699, 700, 701, 709, 710, 711, 712, 713, 714, 715, 716, 717, 718, 719, 720, 721, 722, 723] (by decide +kernel) (by decide +kernel)) (goodIn_sub (fun _ h => List.mem_append_left _ (List.mem_append_left _ (List.mem_append_right _ h))) (by decide +kernel))
set_option maxRecDepth 20000 in
theorem gL_law_L_setGrid : GoodIn wsL_law (va_wsS RL 81 yL_setGrid wsL_setGrid) := goodIn_app (goodIn_of _ (by decide +kernel)) ggL_law_L_setGrid
set_option maxRecDepth 20000 in
theorem ggL_law_X7_setGrid : GoodIn wsL_law wsX7_setGrid := goodIn_r _ [139, 140, 141, 142, 108, 143, 144, 5, 145, 702, 703, 704, 705, 706, 707, 708] (by decide +kernel) (by decide +kernel)
set_option maxRecDepth 20000 in
theorem gL_law_X7_setGrid : GoodIn wsL_law (wsV RL 86 RX7 yX7_setGrid wsX7_setGrid) := goodIn_app (goodIn_of _ (by decide +kernel)) ggL_law_X7_setGrid
set_option maxRecDepth 20000 in
theorem ggL_law_X7_thrown : GoodIn wsL_law wsX7_thrown := goodIn_r _ [149, 142, 702, 703, 704, 705, 706, 707, 708] (by decide +kernel) (by decide +kernel)
set_option maxRecDepth 20000 in
theorem gL_law_X7_thrown : GoodIn wsL_law (wsV RL 87 RX7 yX7_thrown wsX7_thrown) := goodIn_app (goodIn_of _ (by decide +kernel)) ggL_law_X7_thrown
set_option maxRecDepth 20000 in
theorem ggL_law_L_jump : GoodIn wsL_law wsL_jump := goodIn_ca (goodIn_r _ [152, 121, 153, 154, 155, 2, 156, 126, 127, 157, 158, 16, 130, 159, 133, 134, 135, 160, 161, 162, 25, 163, 49, 164, 165, 166, 167, 168, 699, 700, 701, 709, 710, 711, 712, 713, 714, 715, 716, 717, 718, 719, 720, 721, 722, 723] (by decide +kernel) (by decide +kernel)) (goodIn_sub (fun _ h => List.mem_append_left _ (List.mem_append_left _ (List.mem_append_right _ h))) (by decide +kernel))
set_option maxRecDepth 20000 in
theorem gL_law_L_jump : GoodIn wsL_law (va_wsS RL 91 yL_jump wsL_jump) := goodIn_app (goodIn_of _ (by decide +kernel)) ggL_law_L_jump
set_option maxRecDepth 20000 in
theorem ggL_law_X7_jump : GoodIn wsL_law wsX7_jump := goodIn_r _ [172, 173, 174, 142, 108, 143, 144, 5, 145, 175, 176, 177, 178, 702, 703, 704, 705, 706, 707, 708] (by decide +kernel) (by decide +kernel)
set_option maxRecDepth 20000 in
theorem gL_law_X7_jump : GoodIn wsL_law (wsV RL 94 RX7 yX7_jump wsX7_jump) := goodIn_app (goodIn_of _ (by decide +kernel)) ggL_law_X7_jump
set_option maxRecDepth 20000 in
theorem ggL_law_X6_connect : GoodIn wsL_law wsX6_connect := goodIn_r _ [182, 16, 130, 183, 699, 700, 701, 709, 710, 711, 712, 713, 714, 715, 716, 717, 718, 719, 720, 721, 722, 723] (by decide +kernel) (by decide +kernel)
set_option maxRecDepth 20000 in
theorem gL_law_X6_connect : GoodIn wsL_law (wsV RL 95 RX6 yX6_connect wsX6_connect) := goodIn_app (goodIn_of _ (by decide +kernel)) ggL_law_X6_connect
set_option maxRecDepth 20000 in
theorem ggL_law_X7_connect : GoodIn wsL_law wsX7_connect := goodIn_r _ [187, 142, 108, 702, 703, 704, 705, 706, 707, 708] (by decide +kernel) (by decide +kernel)
set_option maxRecDepth 20000 in
theorem gL_law_X7_connect : GoodIn wsL_law (wsV RL 99 RX7 yX7_connect wsX7_connect) := goodIn_app (goodIn_of _ (by decide +kernel)) ggL_law_X7_connect
set_option maxRecDepth 20000 in
theorem ggL_law_L_setLoad : GoodIn wsL_law wsL_setLoad := goodIn_ca (goodIn_r _ [190, 121, 191, 192, 193, 2, 194, 126, 127, 16, 130, 195, 196, 197, 128, 129, 133, 134, 135, 198, 199, 200, 25, 201, 53, 54, 55, 699, 700, 701, 709, 710, 711, 712, 713, 714, 715, 716, 717, 718, 719, 720, 721, 722, 723] (by decide +kernel) (by decide +kernel)) (goodIn_sub (fun _ h => List.mem_append_left _ (List.mem_append_left _ (List.mem_append_right _ h))) (by decide +kernel))
set_option maxRecDepth 20000 in
theorem gL_law_L_setLoad : GoodIn wsL_law (va_wsS RL 100 yL_setLoad wsL_setLoad) := goodIn_app (goodIn_of _ (by decide +kernel)) ggL_law_L_setLoad
set_option maxRecDepth 20000 in
theorem ggL_law_X7_setLoad : GoodIn wsL_law wsX7_setLoad := goodIn_r _ [205, 142, 206, 207, 5, 208, 140, 141, 143, 144, 145, 209, 210, 211, 212, 108, 702, 703, 704, 705, 706, 707, 708] (by decide +kernel) (by decide +kernel)
set_option maxRecDepth 20000 in
theorem gL_law_X7_setLoad : GoodIn wsL_law (wsV RL 103 RX7 yX7_setLoad wsX7_setLoad) := goodIn_app (goodIn_of _ (by decide +kernel)) ggL_law_X7_setLoad
set_option maxRecDepth 20000 in
theorem ggL_law_L_setLoop : GoodIn wsL_law wsL_setLoop := goodIn_ca (goodIn_r _ [215, 121, 216, 217, 218, 2, 219, 126, 127, 16, 220, 221, 222, 133, 134, 135, 699, 700, 701, 709, 710, 711, 712, 713, 714, 724, 725, 726, 727, 728, 729, 730, 731, 732] (by decide +kernel) (by decide +kernel)) (goodIn_sub (fun _ h => List.mem_append_left _ (List.mem_append_left _ (List.mem_append_right _ h))) (by decide +kernel))
set_option maxRecDepth 20000 in
theorem gL_law_L_setLoop : GoodIn wsL_law (va_wsS RL 104 yL_setLoop wsL_setLoop) := goodIn_app (goodIn_of _ (by decide +kernel)) ggL_law_L_setLoop
set_option maxRecDepth 20000 in
theorem ggL_law_X7_setLoop : GoodIn wsL_law wsX7_setLoop := goodIn_r _ [226, 142, 108, 143, 144, 5, 145, 702, 703, 704, 705, 706, 707, 708] (by decide +kernel) (by decide +kernel)
set_option maxRecDepth 20000 in
theorem gL_law_X7_setLoop : GoodIn wsL_law (wsV RL 106 RX7 yX7_setLoop wsX7_setLoop) := goodIn_app (goodIn_of _ (by decide +kernel)) ggL_law_X7_setLoop
set_option maxRecDepth 20000 in
theorem ggL_law_L_setLock : GoodIn wsL_law wsL_setLock := goodIn_ca (goodIn_r _ [229, 121, 230, 231, 232, 2, 233, 126, 127, 234, 16, 220, 235, 236, 133, 134, 135, 699, 700, 701, 709, 710, 711, 712, 713, 714, 724, 725, 726, 727, 728, 729, 730, 731, 732] (by decide +kernel) (by decide +kernel)) (goodIn_sub (fun _ h => List.mem_append_left _ (List.mem_append_left _ (List.mem_append_right _ h))) (by decide +kernel))
set_option maxRecDepth 20000 in
theorem gL_law_L_setLock : GoodIn wsL_law (va_wsS RL 107 yL_setLock wsL_setLock) := goodIn_app (goodIn_of _ (by decide +kernel)) ggL_law_L_setLock
set_option maxRecDepth 20000 in
theorem ggL_law_X7_setLock : GoodIn wsL_law wsX7_setLock := goodIn_r _ [240, 241, 142, 108, 143, 144, 5, 145, 702, 703, 704, 705, 706, 707, 708] (by decide +kernel) (by decide +kernel)
set_option maxRecDepth 20000 in
theorem gL_law_X7_setLock : GoodIn wsL_law (wsV RL 109 RX7 yX7_setLock wsX7_setLock) := goodIn_app (goodIn_of _ (by decide +kernel)) ggL_law_X7_setLock
set_option maxRecDepth 20000 in
theorem ggL_law_L_setWindow : GoodIn wsL_law wsL_setWindow := goodIn_ca (goodIn_r _ [244, 121, 245, 246, 247, 2, 248, 126, 127, 249, 250, 16, 251, 252, 253, 254, 255, 133, 134, 135, 699, 700, 701, 709, 710, 711, 712, 713, 714, 733, 734, 735, 736, 737, 738, 739, 740, 741, 742, 743, 744, 745, 746] (by decide +kernel) (by decide +kernel)) (goodIn_sub (fun _ h => List.mem_append_left _ (List.mem_append_left _ (List.mem_append_right _ h))) (by decide +kernel))
set_option maxRecDepth 20000 in
theorem gL_law_L_setWindow : GoodIn wsL_law (va_wsS RL 110 yL_setWindow wsL_setWindow) := goodIn_app (goodIn_of _ (by decide +kernel)) ggL_law_L_setWindow
set_option maxRecDepth 20000 in
theorem ggL_law_X7_setWindow : GoodIn wsL_law wsX7_setWindow := goodIn_r _ [259, 260, 261, 142, 108, 143, 144, 5, 145, 702, 703, 704, 705, 706, 707, 708] (by decide +kernel) (by decide +kernel)
set_option maxRecDepth 20000 in
theorem gL_law_X7_setWindow : GoodIn wsL_law (wsV RL 113 RX7 yX7_setWindow wsX7_setWindow) := goodIn_app (goodIn_of _ (by decide +kernel)) ggL_law_X7_setWindow
set_option maxRecDepth 20000 in
theorem ggL_law_L_setPower : GoodIn wsL_law wsL_setPower := goodIn_ca (goodIn_r _ [264, 121, 265, 266, 267, 2, 268, 126, 127, 16, 251, 269, 270, 271, 133, 134, 135, 699, 700, 701, 709, 710, 711, 712, 713, 714, 733, 734, 735, 736, 737, 738, 739, 740, 741, 742, 743, 744, 745, 746] (by decide +kernel) (by decide +kernel)) (goodIn_sub (fun _ h => List.mem_append_left _ (List.mem_append_left _ (List.mem_append_right _ h))) (by decide +kernel))
set_option maxRecDepth 20000 in
theorem gL_law_L_setPower : GoodIn wsL_law (va_wsS RL 114 yL_setPower wsL_setPower) := goodIn_app (goodIn_of _ (by decide +kernel)) ggL_law_L_setPower
set_option maxRecDepth 20000 in
theorem ggL_law_X7_setPower : GoodIn wsL_law wsX7_setPower := goodIn_r _ [275, 142, 108, 143, 144, 5, 145, 702, 703, 704, 705, 706, 707, 708] (by decide +kernel) (by decide +kernel)
set_option maxRecDepth 20000 in
theorem gL_law_X7_setPower : GoodIn wsL_law (wsV RL 116 RX7 yX7_setPower wsX7_setPower) := goodIn_app (goodIn_of _ (by decide +kernel)) ggL_law_X7_setPower
set_option maxRecDepth 20000 in
theorem ggL_law_L_setDrift : GoodIn wsL_law wsL_setDrift := goodIn_ca (goodIn_r _ [278, 121, 279, 280, 281, 2, 282, 126, 127, 16, 251, 283, 284, 133, 134, 135, 699, 700, 701, 709, 710, 711, 712, 713, 714, 733, 734, 735, 736, 737, 738, 739, 740, 741, 742, 743, 744, 745, 746] (by decide +kernel) (by decide +kernel)) (goodIn_sub (fun _ h => List.mem_append_left _ (List.mem_append_left _ (List.mem_append_right _ h))) (by decide +kernel))
set_option maxRecDepth 20000 in
theorem gL_law_L_setDrift : GoodIn wsL_law (va_wsS RL 117 yL_setDrift wsL_setDrift) := goodIn_app (goodIn_of _ (by decide +kernel)) ggL_law_L_setDrift
set_option maxRecDepth 20000 in
theorem ggL_law_X7_setDrift : GoodIn wsL_law wsX7_setDrift := goodIn_r _ [288, 142, 108, 143, 144, 5, 145, 702, 703, 704, 705, 706, 707, 708] (by decide +kernel) (by decide +kernel)
set_option maxRecDepth 20000 in
theorem gL_law_X7_setDrift : GoodIn wsL_law (wsV RL 119 RX7 yX7_setDrift wsX7_setDrift) := goodIn_app (goodIn_of _ (by decide +kernel)) ggL_law_X7_setDrift
set_option maxRecDepth 20000 in
theorem ggL_law_L_addRule : GoodIn wsL_law wsL_addRule := goodIn_ca (goodIn_ca (goodIn_r _ [291, 121, 292, 293, 294, 295, 2, 296, 126, 127, 297, 298, 250, 16, 299, 133, 134, 135, 300, 301, 302, 37, 303, 93, 94, 95, 96, 97, 699, 700, 701, 709, 710, 711, 712, 713, 714, 747, 748, 749, 750, 751] (by decide +kernel) (by decide +kernel)) (goodIn_sub (fun _ h => List.mem_append_left _ (List.mem_append_left _ (List.mem_append_right _ h))) (by decide +kernel))) (goodIn_sub (fun _ h => List.mem_append_left _ (List.mem_append_right _ h)) (by decide +kernel))
set_option maxRecDepth 20000 in
theorem gL_law_L_addRule : GoodIn wsL_law (va_wsS RL 120 yL_addRule wsL_addRule) := goodIn_app (goodIn_of _ (by decide +kernel)) ggL_law_L_addRule
set_option maxRecDepth 20000 in
theorem ggL_law_X7_addRule : GoodIn wsL_law wsX7_addRule := goodIn_r _ [307, 261, 108, 142, 143, 144, 5, 145, 702, 703, 704, 705, 706, 707, 708] (by decide +kernel) (by decide +kernel)
set_option maxRecDepth 20000 in
theorem gL_law_X7_addRule : GoodIn wsL_law (wsV RL 123 RX7 yX7_addRule wsX7_addRule) := goodIn_app (goodIn_of _ (by decide +kernel)) ggL_law_X7_addRule
set_option maxRecDepth 20000 in
theorem ggL_law_X6_clearRules : GoodIn wsL_law wsX6_clearRules := goodIn_r _ [311, 16, 299, 312, 699, 700, 701, 709, 710, 711, 712, 713, 714, 747, 748, 749, 750, 751] (by decide +kernel) (by decide +kernel)
set_option maxRecDepth 20000 in
theorem gL_law_X6_clearRules : GoodIn wsL_law (wsV RL 124 RX6 yX6_clearRules wsX6_clearRules) := goodIn_app (goodIn_of _ (by decide +kernel)) ggL_law_X6_clearRules
set_option maxRecDepth 20000 in
theorem ggL_law_X7_clearRules : GoodIn wsL_law wsX7_clearRules := goodIn_r _ [316, 142, 108, 702, 703, 704, 705, 706, 707, 708] (by decide +kernel) (by decide +kernel)
set_option maxRecDepth 20000 in
theorem gL_law_X7_clearRules : GoodIn wsL_law (wsV RL 127 RX7 yX7_clearRules wsX7_clearRules) := goodIn_app (goodIn_of _ (by decide +kernel)) ggL_law_X7_clearRules
set_option maxRecDepth 20000 in
theorem ggL_law_X6_start : GoodIn wsL_law wsX6_start := goodIn_r _ [320, 16, 251, 321, 322, 323, 33, 324, 74, 79, 699, 700, 701, 709, 710, 711, 712, 713, 714, 733, 734, 735, 736, 737, 738, 739, 740, 741, 742, 743, 744, 745, 746] (by decide +kernel) (by decide +kernel)
set_option maxRecDepth 20000 in
theorem gL_law_X6_start : GoodIn wsL_law (wsV RL 128 RX6 yX6_start wsX6_start) := goodIn_app (goodIn_of _ (by decide +kernel)) ggL_law_X6_start
set_option maxRecDepth 20000 in
theorem ggL_law_X7_start : GoodIn wsL_law wsX7_start := goodIn_r _ [328, 142, 108, 702, 703, 704, 705, 706, 707, 708] (by decide +kernel) (by decide +kernel)
set_option maxRecDepth 20000 in
theorem gL_law_X7_start : GoodIn wsL_law (wsV RL 132 RX7 yX7_start wsX7_start) := goodIn_app (goodIn_of _ (by decide +kernel)) ggL_law_X7_start
set_option maxRecDepth 20000 in
theorem ggL_law_X6_stop : GoodIn wsL_law wsX6_stop := goodIn_r _ [332, 16, 333, 334, 335, 15, 336, 34, 337, 42, 22, 338, 339, 340, 341, 41, 342, 101, 102, 103, 343, 166, 167, 168, 699, 700, 701, 709, 710, 711, 712, 713, 714, 733, 734, 735, 736, 737, 738, 739, 740, 741, 742, 743, 744, 745, 746, 752, 753, 754] (by decide +kernel) (by decide +kernel)
set_option maxRecDepth 20000 in
theorem gL_law_X6_stop : GoodIn wsL_law (wsV RL 133 RX6 yX6_stop wsX6_stop) := goodIn_app (goodIn_of _ (by decide +kernel)) ggL_law_X6_stop
set_option maxRecDepth 20000 in
theorem ggL_law_X7_stop : GoodIn wsL_law wsX7_stop := goodIn_r _ [347, 142, 108, 348, 349, 350, 5, 351, 702, 703, 704, 705, 706, 707, 708] (by decide +kernel) (by decide +kernel)
set_option maxRecDepth 20000 in
theorem gL_law_X7_stop : GoodIn wsL_law (wsV RL 136 RX7 yX7_stop wsX7_stop) := goodIn_app (goodIn_of _ (by decide +kernel)) ggL_law_X7_stop
set_option maxRecDepth 20000 in
theorem ggL_law_L_advance : GoodIn wsL_law wsL_advance := goodIn_ca (goodIn_r _ [354, 121, 355, 356, 357, 2, 358, 126, 127, 16, 359, 133, 134, 135, 360, 361, 362, 15, 363, 22, 26, 34, 338, 30, 364, 365, 366, 367, 337, 368, 369, 370, 33, 371, 86, 372, 87, 373, 374, 375, 25, 376, 50, 51, 46, 52, 48, 377, 378, 379, 380, 53, 381, 382, 383, 384, 385, 386, 387, 388, 54, 55, 389, 390, 249, 250, 391, 392, 393, 394, 395, 161, 162, 163, 49, 164, 165, 166, 167, 168, 396, 397, 398, 29, 399, 60, 62, 400, 401, 63, 64, 65, 66, 68, 402, 403, 404, 405, 406, 70, 407, 408, 409, 410, 38, 411, 412, 413, 414, 67, 415, 416, 417, 418, 419, 42, 339, 340, 341, 41, 342, 101, 102, 103, 343, 420, 421, 422, 37, 423, 93, 94, 95, 97, 96, 424, 425, 426, 427, 428, 429, 430, 75, 78, 76, 431, 432, 433, 434, 435, 436, 437, 438, 439, 440, 80, 81, 83, 85, 441, 442, 443, 444, 445, 446, 447, 448, 88, 74, 89, 699, 700, 701, 709, 710, 711, 712, 713, 714, 733, 734, 735, 736, 737, 738, 739, 740, 741, 742, 743, 744, 745, 746, 724, 725, 726, 727, 728, 729, 730, 731, 732, 715, 716, 717, 718, 719, 720, 721, 722, 723, 752, 753, 754, 747, 748, 749, 750, 751] (by decide +kernel) (by decide +kernel)) (goodIn_sub (fun _ h => List.mem_append_left _ (List.mem_append_left _ (List.mem_append_right _ h))) (by decide +kernel))
set_option maxRecDepth 20000 in
theorem gL_law_L_advance : GoodIn wsL_law (va_wsS RL 137 yL_advance wsL_advance) := goodIn_app (goodIn_of _ (by decide +kernel)) ggL_law_L_advance
set_option maxRecDepth 20000 in
theorem ggL_law_X7_advance : GoodIn wsL_law wsX7_advance := goodIn_r _ [452, 142, 453, 108, 143, 144, 5, 145, 454, 455, 456, 457, 458, 459, 460, 461, 114, 260, 261, 462, 463, 464, 175, 176, 177, 178, 465, 466, 467, 468, 174, 469, 470, 471, 472, 473, 474, 475, 476, 477, 478, 479, 480, 348, 349, 350, 351, 481, 482, 483, 484, 485, 486, 487, 488, 702, 703, 704, 705, 706, 707, 708] (by decide +kernel) (by decide +kernel)
set_option maxRecDepth 20000 in
theorem gL_law_X7_advance : GoodIn wsL_law (wsV RL 139 RX7 yX7_advance wsX7_advance) := goodIn_app (goodIn_of _ (by decide +kernel)) ggL_law_X7_advance
set_option maxRecDepth 20000 in
theorem ggL_law_X6_state : GoodIn wsL_law wsX6_state := goodIn_r _ [492, 16, 251, 493, 699, 700, 701, 709, 710, 711, 712, 713, 714, 733, 734, 735, 736, 737, 738, 739, 740, 741, 742, 743, 744, 745, 746] (by decide +kernel) (by decide +kernel)
set_option maxRecDepth 20000 in
theorem gL_law_X6_state : GoodIn wsL_law (wsV RL 140 RX6 yX6_state wsX6_state) := goodIn_app (goodIn_of _ (by decide +kernel)) ggL_law_X6_state
set_option maxRecDepth 20000 in
theorem ggL_law_X7_state : GoodIn wsL_law wsX7_state := goodIn_r _ [497, 142, 108, 702, 703, 704, 705, 706, 707, 708] (by decide +kernel) (by decide +kernel)
set_option maxRecDepth 20000 in
theorem gL_law_X7_state : GoodIn wsL_law (wsV RL 143 RX7 yX7_state wsX7_state) := goodIn_app (goodIn_of _ (by decide +kernel)) ggL_law_X7_state
set_option maxRecDepth 20000 in
theorem ggL_law_X6_isLocked : GoodIn wsL_law wsX6_isLocked := goodIn_r _ [501, 16, 220, 502, 412, 413, 29, 414, 68, 67, 699, 700, 701, 709, 710, 711, 712, 713, 714, 724, 725, 726, 727, 728, 729, 730, 731, 732] (by decide +kernel) (by decide +kernel)
set_option maxRecDepth 20000 in
theorem gL_law_X6_isLocked : GoodIn wsL_law (wsV RL 144 RX6 yX6_isLocked wsX6_isLocked) := goodIn_app (goodIn_of _ (by decide +kernel)) ggL_law_X6_isLocked
set_option maxRecDepth 20000 in
theorem ggL_law_X7_isLocked : GoodIn wsL_law wsX7_isLocked := goodIn_r _ [506, 142, 473, 474, 475, 5, 476, 108, 702, 703, 704, 705, 706, 707, 708] (by decide +kernel) (by decide +kernel)
set_option maxRecDepth 20000 in
theorem gL_law_X7_isLocked : GoodIn wsL_law (wsV RL 147 RX7 yX7_isLocked wsX7_isLocked) := goodIn_app (goodIn_of _ (by decide +kernel)) ggL_law_X7_isLocked
set_option maxRecDepth 20000 in
theorem ggL_law_L_measure : GoodIn wsL_law wsL_measure := goodIn_ca (goodIn_r _ [509, 121, 510, 511, 512, 2, 513, 126, 127, 16, 359, 130, 514, 515, 159, 220, 516, 517, 518, 519, 251, 520, 521, 699, 700, 701, 709, 710, 711, 712, 713, 714, 715, 716, 717, 718, 719, 720, 721, 722, 723, 724, 725, 726, 727, 728, 729, 730, 731, 732, 733, 734, 735, 736, 737, 738, 739, 740, 741, 742, 743, 744, 745, 746] (by decide +kernel) (by decide +kernel)) (goodIn_sub (fun _ h => List.mem_append_left _ (List.mem_append_left _ (List.mem_append_right _ h))) (by decide +kernel))
set_option maxRecDepth 20000 in
theorem gL_law_L_measure : GoodIn wsL_law (va_wsS RL 148 yL_measure wsL_measure) := goodIn_app (goodIn_of _ (by decide +kernel)) ggL_law_L_measure
set_option maxRecDepth 20000 in
theorem ggL_law_X7_measure : GoodIn wsL_law wsX7_measure := goodIn_r _ [525, 142, 108, 143, 144, 5, 145, 702, 703, 704, 705, 706, 707, 708] (by decide +kernel) (by decide +kernel)
set_option maxRecDepth 20000 in
theorem gL_law_X7_measure : GoodIn wsL_law (wsV RL 150 RX7 yX7_measure wsX7_measure) := goodIn_app (goodIn_of _ (by decide +kernel)) ggL_law_X7_measure
set_option maxRecDepth 20000 in
theorem ggL_law_L_violations : GoodIn wsL_law wsL_violations := goodIn_ca (goodIn_r _ [528, 529, 530, 531, 532, 2, 533, 534, 535, 16, 299, 536, 537, 538, 37, 539, 93, 97, 699, 700, 701, 709, 710, 711, 712, 713, 714, 747, 748, 749, 750, 751] (by decide +kernel) (by decide +kernel)) (goodIn_sub (fun _ h => List.mem_append_right _ h) (by decide +kernel))
set_option maxRecDepth 20000 in
theorem gL_law_L_violations : GoodIn wsL_law (va_wsS RL 151 yL_violations wsL_violations) := goodIn_app (goodIn_of _ (by decide +kernel)) ggL_law_L_violations
set_option maxRecDepth 20000 in
theorem ggL_law_X7_violations : GoodIn wsL_law wsX7_violations := goodIn_r _ [543, 108, 142, 143, 144, 5, 145, 702, 703, 704, 705, 706, 707, 708] (by decide +kernel) (by decide +kernel)
set_option maxRecDepth 20000 in
theorem gL_law_X7_violations : GoodIn wsL_law (wsV RL 153 RX7 yX7_violations wsX7_violations) := goodIn_app (goodIn_of _ (by decide +kernel)) ggL_law_X7_violations
set_option maxRecDepth 20000 in
theorem ggL_law_X6_energy : GoodIn wsL_law wsX6_energy := goodIn_r _ [547, 16, 251, 548, 699, 700, 701, 709, 710, 711, 712, 713, 714, 733, 734, 735, 736, 737, 738, 739, 740, 741, 742, 743, 744, 745, 746] (by decide +kernel) (by decide +kernel)
set_option maxRecDepth 20000 in
theorem gL_law_X6_energy : GoodIn wsL_law (wsV RL 154 RX6 yX6_energy wsX6_energy) := goodIn_app (goodIn_of _ (by decide +kernel)) ggL_law_X6_energy
set_option maxRecDepth 20000 in
theorem ggL_law_X7_energy : GoodIn wsL_law wsX7_energy := goodIn_r _ [552, 142, 453, 702, 703, 704, 705, 706, 707, 708] (by decide +kernel) (by decide +kernel)
set_option maxRecDepth 20000 in
theorem gL_law_X7_energy : GoodIn wsL_law (wsV RL 158 RX7 yX7_energy wsX7_energy) := goodIn_app (goodIn_of _ (by decide +kernel)) ggL_law_X7_energy
set_option maxRecDepth 20000 in
theorem ggL_law_X6_availability : GoodIn wsL_law wsX6_availability := goodIn_r _ [556, 16, 359, 251, 557, 699, 700, 701, 709, 710, 711, 712, 713, 714, 733, 734, 735, 736, 737, 738, 739, 740, 741, 742, 743, 744, 745, 746] (by decide +kernel) (by decide +kernel)
set_option maxRecDepth 20000 in
theorem gL_law_X6_availability : GoodIn wsL_law (wsV RL 159 RX6 yX6_availability wsX6_availability) := goodIn_app (goodIn_of _ (by decide +kernel)) ggL_law_X6_availability
set_option maxRecDepth 20000 in
theorem ggL_law_X7_availability : GoodIn wsL_law wsX7_availability := goodIn_r _ [561, 142, 108, 702, 703, 704, 705, 706, 707, 708] (by decide +kernel) (by decide +kernel)
set_option maxRecDepth 20000 in
theorem gL_law_X7_availability : GoodIn wsL_law (wsV RL 163 RX7 yX7_availability wsX7_availability) := goodIn_app (goodIn_of _ (by decide +kernel)) ggL_law_X7_availability
set_option maxRecDepth 20000 in
theorem ggL_law_X6_events : GoodIn wsL_law wsX6_events := goodIn_r _ [565, 16, 566, 567, 699, 700, 701, 709, 710, 711, 712, 713, 714, 752, 753, 754] (by decide +kernel) (by decide +kernel)
set_option maxRecDepth 20000 in
theorem gL_law_X6_events : GoodIn wsL_law (wsV RL 164 RX6 yX6_events wsX6_events) := goodIn_app (goodIn_of _ (by decide +kernel)) ggL_law_X6_events
set_option maxRecDepth 20000 in
theorem ggL_law_X7_events : GoodIn wsL_law wsX7_events := goodIn_r _ [571, 142, 108, 702, 703, 704, 705, 706, 707, 708] (by decide +kernel) (by decide +kernel)
set_option maxRecDepth 20000 in
theorem gL_law_X7_events : GoodIn wsL_law (wsV RL 167 RX7 yX7_events wsX7_events) := goodIn_app (goodIn_of _ (by decide +kernel)) ggL_law_X7_events
set_option maxRecDepth 20000 in
theorem ggL_law_L_event : GoodIn wsL_law wsL_event := goodIn_ca (goodIn_r _ [574, 121, 575, 576, 577, 2, 578, 126, 127, 16, 566, 133, 134, 135, 579, 580, 581, 41, 582, 102, 583, 584, 585, 586, 101, 343, 166, 167, 168, 587, 588, 589, 590, 103, 699, 700, 701, 709, 710, 711, 712, 713, 714, 752, 753, 754] (by decide +kernel) (by decide +kernel)) (goodIn_sub (fun _ h => List.mem_append_left _ (List.mem_append_left _ (List.mem_append_right _ h))) (by decide +kernel))
set_option maxRecDepth 20000 in
theorem gL_law_L_event : GoodIn wsL_law (va_wsS RL 168 yL_event wsL_event) := goodIn_app (goodIn_of _ (by decide +kernel)) ggL_law_L_event
set_option maxRecDepth 20000 in
theorem ggL_law_X7_event : GoodIn wsL_law wsX7_event := goodIn_r _ [594, 142, 108, 143, 144, 5, 145, 702, 703, 704, 705, 706, 707, 708] (by decide +kernel) (by decide +kernel)
set_option maxRecDepth 20000 in
theorem gL_law_X7_event : GoodIn wsL_law (wsV RL 171 RX7 yX7_event wsX7_event) := goodIn_app (goodIn_of _ (by decide +kernel)) ggL_law_X7_event
set_option maxRecDepth 20000 in
theorem ggL_law_L_islandTime : GoodIn wsL_law wsL_islandTime := goodIn_ca (goodIn_ca (goodIn_r _ [597, 121, 292, 598, 599, 600, 2, 601, 126, 127, 297, 298, 16, 251, 493, 195, 196, 197, 128, 129, 133, 134, 135, 602, 603, 604, 605, 17, 130, 183, 606, 607, 608, 15, 609, 22, 26, 30, 34, 38, 42, 610, 611, 612, 25, 613, 46, 48, 49, 50, 51, 52, 53, 54, 55, 614, 199, 200, 201, 615, 616, 617, 29, 618, 60, 62, 63, 64, 65, 66, 67, 68, 70, 619, 620, 391, 382, 383, 384, 621, 622, 623, 624, 625, 626, 627, 33, 628, 74, 75, 76, 77, 78, 79, 80, 81, 83, 85, 86, 87, 88, 89, 629, 630, 631, 37, 632, 93, 94, 95, 96, 97, 633, 634, 635, 41, 636, 101, 102, 103, 198, 360, 361, 362, 363, 338, 364, 365, 366, 367, 337, 368, 369, 370, 371, 372, 373, 374, 375, 376, 377, 378, 379, 380, 381, 385, 386, 387, 388, 389, 390, 249, 250, 392, 393, 394, 395, 161, 162, 163, 164, 165, 166, 167, 168, 396, 397, 398, 399, 400, 401, 402, 403, 404, 405, 406, 407, 408, 409, 410, 411, 412, 413, 414, 415, 416, 417, 418, 419, 339, 340, 341, 342, 343, 420, 421, 422, 423, 424, 425, 426, 427, 428, 429, 430, 431, 432, 433, 434, 435, 436, 437, 438, 439, 440, 441, 442, 443, 444, 445, 446, 447, 448, 699, 700, 701, 709, 710, 711, 712, 713, 714, 733, 734, 735, 736, 737, 738, 739, 740, 741, 742, 743, 744, 745, 746, 715, 716, 717, 718, 719, 720, 721, 722, 723, 724, 725, 726, 727, 728, 729, 730, 731, 732, 747, 748, 749, 750, 751, 752, 753, 754] (by decide +kernel) (by decide +kernel)) (goodIn_sub (fun _ h => List.mem_append_left _ (List.mem_append_left _ (List.mem_append_right _ h))) (by decide +kernel))) (goodIn_sub (fun _ h => List.mem_append_left _ (List.mem_append_right _ h)) (by decide +kernel))
set_option maxRecDepth 20000 in
theorem gL_law_L_islandTime : GoodIn wsL_law (va_wsS RL 172 yL_islandTime wsL_islandTime) := goodIn_app (goodIn_of _ (by decide +kernel)) ggL_law_L_islandTime
set_option maxRecDepth 20000 in
theorem ggL_law_X7_islandTime : GoodIn wsL_law wsX7_islandTime := goodIn_r _ [640, 108, 142, 206, 207, 5, 208, 140, 141, 143, 144, 145, 641, 642, 643, 644, 645, 646, 647, 648, 109, 209, 210, 211, 212, 454, 455, 456, 457, 458, 459, 460, 461, 114, 260, 261, 462, 463, 464, 175, 176, 177, 178, 465, 466, 467, 468, 174, 469, 470, 471, 472, 473, 474, 475, 476, 477, 478, 479, 480, 348, 349, 350, 351, 481, 482, 483, 484, 485, 486, 487, 488, 649, 650, 651, 652, 702, 703, 704, 705, 706, 707, 708] (by decide +kernel) (by decide +kernel)
set_option maxRecDepth 20000 in
theorem gL_law_X7_islandTime : GoodIn wsL_law (wsV RL 175 RX7 yX7_islandTime wsX7_islandTime) := goodIn_app (goodIn_of _ (by decide +kernel)) ggL_law_X7_islandTime
set_option maxRecDepth 20000 in
theorem ggL_law_L_undetected : GoodIn wsL_law wsL_undetected := goodIn_ca (goodIn_ca (goodIn_r _ [655, 121, 292, 656, 657, 658, 2, 659, 126, 127, 297, 298, 16, 251, 493, 130, 660, 661, 133, 134, 135, 602, 603, 604, 605, 17, 183, 606, 607, 608, 15, 609, 22, 26, 30, 34, 38, 42, 610, 611, 612, 25, 613, 46, 48, 49, 50, 51, 52, 53, 54, 55, 614, 199, 200, 201, 615, 616, 617, 29, 618, 60, 62, 63, 64, 65, 66, 67, 68, 70, 619, 620, 391, 382, 383, 384, 621, 622, 623, 624, 625, 626, 627, 33, 628, 74, 75, 76, 77, 78, 79, 80, 81, 83, 85, 86, 87, 88, 89, 629, 630, 631, 37, 632, 93, 94, 95, 96, 97, 633, 634, 635, 41, 636, 101, 102, 103, 198, 360, 361, 362, 363, 338, 364, 365, 366, 367, 337, 368, 369, 370, 371, 372, 373, 374, 375, 376, 377, 378, 379, 380, 381, 385, 386, 387, 388, 389, 390, 249, 250, 392, 393, 394, 395, 161, 162, 163, 164, 165, 166, 167, 168, 396, 397, 398, 399, 400, 401, 402, 403, 404, 405, 406, 407, 408, 409, 410, 411, 412, 413, 414, 415, 416, 417, 418, 419, 339, 340, 341, 342, 343, 420, 421, 422, 423, 424, 425, 426, 427, 428, 429, 430, 431, 432, 433, 434, 435, 436, 437, 438, 439, 440, 441, 442, 443, 444, 445, 446, 447, 448, 699, 700, 701, 709, 710, 711, 712, 713, 714, 733, 734, 735, 736, 737, 738, 739, 740, 741, 742, 743, 744, 745, 746, 715, 716, 717, 718, 719, 720, 721, 722, 723, 724, 725, 726, 727, 728, 729, 730, 731, 732, 747, 748, 749, 750, 751, 752, 753, 754] (by decide +kernel) (by decide +kernel)) (goodIn_sub (fun _ h => List.mem_append_left _ (List.mem_append_left _ (List.mem_append_right _ h))) (by decide +kernel))) (goodIn_sub (fun _ h => List.mem_append_left _ (List.mem_append_right _ h)) (by decide +kernel))
set_option maxRecDepth 20000 in
theorem gL_law_L_undetected : GoodIn wsL_law (va_wsS RL 176 yL_undetected wsL_undetected) := goodIn_app (goodIn_of _ (by decide +kernel)) ggL_law_L_undetected
set_option maxRecDepth 20000 in
theorem ggL_law_X7_undetected : GoodIn wsL_law wsX7_undetected := goodIn_r _ [665, 108, 142, 143, 144, 5, 145, 641, 642, 643, 644, 645, 646, 647, 648, 109, 209, 210, 211, 212, 454, 455, 456, 457, 458, 459, 460, 461, 114, 260, 261, 462, 463, 464, 175, 176, 177, 178, 465, 466, 467, 468, 174, 469, 470, 471, 472, 473, 474, 475, 476, 477, 478, 479, 480, 348, 349, 350, 351, 481, 482, 483, 484, 485, 486, 487, 488, 649, 650, 651, 652, 702, 703, 704, 705, 706, 707, 708] (by decide +kernel) (by decide +kernel)
set_option maxRecDepth 20000 in
theorem gL_law_X7_undetected : GoodIn wsL_law (wsV RL 178 RX7 yX7_undetected wsX7_undetected) := goodIn_app (goodIn_of _ (by decide +kernel)) ggL_law_X7_undetected
set_option maxRecDepth 20000 in
theorem ggL_law_L_relockTime : GoodIn wsL_law wsL_relockTime := goodIn_ca (goodIn_r _ [668, 121, 669, 670, 671, 2, 672, 126, 127, 157, 158, 17, 16, 130, 220, 519, 133, 134, 135, 606, 607, 608, 15, 609, 22, 26, 30, 34, 38, 42, 610, 611, 612, 25, 613, 46, 48, 49, 50, 51, 52, 53, 54, 55, 614, 199, 200, 201, 615, 616, 617, 29, 618, 60, 62, 63, 64, 65, 66, 67, 68, 70, 619, 620, 391, 382, 383, 384, 621, 622, 623, 624, 625, 626, 627, 33, 628, 74, 75, 76, 77, 78, 79, 80, 81, 83, 85, 86, 87, 88, 89, 629, 630, 631, 37, 632, 93, 94, 95, 96, 97, 633, 634, 635, 41, 636, 101, 102, 103, 160, 161, 162, 163, 164, 165, 166, 167, 168, 360, 361, 362, 363, 338, 364, 365, 366, 367, 337, 368, 369, 370, 371, 372, 373, 374, 375, 376, 377, 378, 379, 380, 381, 385, 386, 387, 388, 389, 390, 249, 250, 392, 393, 394, 395, 396, 397, 398, 399, 400, 401, 402, 403, 404, 405, 406, 407, 408, 409, 410, 411, 412, 413, 414, 415, 416, 417, 418, 419, 339, 340, 341, 342, 343, 420, 421, 422, 423, 424, 425, 426, 427, 428, 429, 430, 431, 432, 433, 434, 435, 436, 437, 438, 439, 440, 441, 442, 443, 444, 445, 446, 447, 448, 502, 699, 700, 701, 709, 710, 711, 712, 713, 714, 724, 725, 726, 727, 728, 729, 730, 731, 732, 715, 716, 717, 718, 719, 720, 721, 722, 723, 733, 734, 735, 736, 737, 738, 739, 740, 741, 742, 743, 744, 745, 746, 747, 748, 749, 750, 751, 752, 753, 754] (by decide +kernel) (by decide +kernel)) (goodIn_sub (fun _ h => List.mem_append_left _ (List.mem_append_left _ (List.mem_append_right _ h))) (by decide +kernel))
set_option maxRecDepth 20000 in
theorem gL_law_L_relockTime : GoodIn wsL_law (va_wsS RL 179 yL_relockTime wsL_relockTime) := goodIn_app (goodIn_of _ (by decide +kernel)) ggL_law_L_relockTime
set_option maxRecDepth 20000 in
theorem ggL_law_X7_relockTime : GoodIn wsL_law wsX7_relockTime := goodIn_r _ [676, 173, 174, 142, 108, 143, 144, 5, 145, 645, 646, 647, 648, 109, 175, 176, 177, 178, 473, 474, 475, 476, 454, 455, 456, 457, 458, 459, 460, 461, 114, 260, 261, 462, 463, 464, 465, 466, 467, 468, 469, 470, 471, 472, 477, 478, 479, 480, 348, 349, 350, 351, 481, 482, 483, 484, 485, 486, 487, 488, 649, 650, 651, 652, 702, 703, 704, 705, 706, 707, 708] (by decide +kernel) (by decide +kernel)
set_option maxRecDepth 20000 in
theorem gL_law_X7_relockTime : GoodIn wsL_law (wsV RL 181 RX7 yX7_relockTime wsX7_relockTime) := goodIn_app (goodIn_of _ (by decide +kernel)) ggL_law_X7_relockTime
set_option maxRecDepth 20000 in
theorem ggL_law_L_save : GoodIn wsL_law wsL_save := goodIn_ca (goodIn_r _ [679, 121, 680, 681, 682, 2, 683, 126, 127, 18, 13, 14, 15, 16, 133, 134, 135, 19, 20, 21, 11, 12, 22, 23, 24, 25, 26, 27, 28, 29, 30, 31, 32, 33, 34, 35, 36, 37, 38, 39, 40, 41, 42, 43, 44, 45, 46, 47, 48, 49, 50, 51, 52, 53, 54, 55, 56, 57, 58, 59, 60, 61, 62, 63, 64, 65, 66, 67, 68, 69, 70, 71, 72, 73, 74, 75, 76, 77, 78, 79, 80, 81, 82, 83, 84, 85, 86, 87, 88, 89, 90, 91, 92, 93, 94, 95, 96, 97, 98, 99, 100, 101, 102, 103, 606, 607, 608, 609, 610, 611, 612, 613, 614, 199, 200, 201, 615, 616, 617, 618, 619, 620, 391, 382, 383, 384, 621, 622, 623, 624, 625, 626, 627, 628, 629, 630, 631, 632, 633, 634, 635, 636, 699, 700, 701, 709, 710, 711, 712, 713, 714, 715, 716, 717, 718, 719, 720, 721, 722, 723, 724, 725, 726, 727, 728, 729, 730, 731, 732, 733, 734, 735, 736, 737, 738, 739, 740, 741, 742, 743, 744, 745, 746, 747, 748, 749, 750, 751, 752, 753, 754] (by decide +kernel) (by decide +kernel)) (goodIn_sub (fun _ h => List.mem_append_left _ (List.mem_append_left _ (List.mem_append_right _ h))) (by decide +kernel))
set_option maxRecDepth 20000 in
theorem gL_law_L_save : GoodIn wsL_law (va_wsS RL 182 yL_save wsL_save) := goodIn_app (goodIn_of _ (by decide +kernel)) ggL_law_L_save
set_option maxRecDepth 20000 in
theorem ggL_law_X7_save : GoodIn wsL_law wsX7_save := goodIn_r _ [687, 142, 110, 108, 111, 453, 113, 143, 144, 5, 145, 702, 703, 704, 705, 706, 707, 708] (by decide +kernel) (by decide +kernel)
set_option maxRecDepth 20000 in
theorem gL_law_X7_save : GoodIn wsL_law (wsV RL 185 RX7 yX7_save wsX7_save) := goodIn_app (goodIn_of _ (by decide +kernel)) ggL_law_X7_save
set_option maxRecDepth 20000 in
theorem ggL_law_L_restore : GoodIn wsL_law wsL_restore := goodIn_ca (goodIn_ca (goodIn_r _ [690, 121, 292, 691, 692, 693, 2, 694, 126, 127, 297, 298, 18, 16, 133, 134, 135, 606, 607, 608, 15, 609, 22, 26, 30, 34, 38, 42, 610, 611, 612, 25, 613, 46, 48, 49, 50, 51, 52, 53, 54, 55, 614, 199, 200, 201, 615, 616, 617, 29, 618, 60, 62, 63, 64, 65, 66, 67, 68, 70, 619, 620, 391, 382, 383, 384, 621, 622, 623, 624, 625, 626, 627, 33, 628, 74, 75, 76, 77, 78, 79, 80, 81, 83, 85, 86, 87, 88, 89, 629, 630, 631, 37, 632, 93, 94, 95, 96, 97, 633, 634, 635, 41, 636, 101, 102, 103, 699, 700, 701, 709, 710, 711, 712, 713, 714, 715, 716, 717, 718, 719, 720, 721, 722, 723, 724, 725, 726, 727, 728, 729, 730, 731, 732, 733, 734, 735, 736, 737, 738, 739, 740, 741, 742, 743, 744, 745, 746, 747, 748, 749, 750, 751, 752, 753, 754] (by decide +kernel) (by decide +kernel)) (goodIn_sub (fun _ h => List.mem_append_left _ (List.mem_append_left _ (List.mem_append_right _ h))) (by decide +kernel))) (goodIn_sub (fun _ h => List.mem_append_left _ (List.mem_append_right _ h)) (by decide +kernel))
set_option maxRecDepth 20000 in
theorem gL_law_L_restore : GoodIn wsL_law (va_wsS RL 186 yL_restore wsL_restore) := goodIn_app (goodIn_of _ (by decide +kernel)) ggL_law_L_restore
set_option maxRecDepth 20000 in
theorem ggL_law_X7_restore : GoodIn wsL_law wsX7_restore := goodIn_r _ [698, 113, 142, 108, 110, 111, 453, 143, 144, 5, 145, 702, 703, 704, 705, 706, 707, 708] (by decide +kernel) (by decide +kernel)
set_option maxRecDepth 20000 in
theorem gL_law_X7_restore : GoodIn wsL_law (wsV RL 188 RX7 yX7_restore wsX7_restore) := goodIn_app (goodIn_of _ (by decide +kernel)) ggL_law_X7_restore
theorem dL_law_0 : decode cL_law 0 = .ok (.new 8, 3) := by decide +kernel
theorem dL_law_3 : decode cL_law 3 = .ok (.dup, 1) := by decide +kernel
theorem dL_law_4 : decode cL_law 4 = .ok (.invokespecial 77, 3) := by decide +kernel
theorem dL_law_7 : decode cL_law 7 = .ok (.astore_n 1, 1) := by decide +kernel
theorem dL_law_8 : decode cL_law 8 = .ok (.new 78, 3) := by decide +kernel
theorem dL_law_11 : decode cL_law 11 = .ok (.dup, 1) := by decide +kernel
theorem dL_law_12 : decode cL_law 12 = .ok (.invokespecial 80, 3) := by decide +kernel
theorem dL_law_15 : decode cL_law 15 = .ok (.astore_n 2, 1) := by decide +kernel
theorem dL_law_16 : decode cL_law 16 = .ok (.iconst 1, 1) := by decide +kernel
theorem dL_law_17 : decode cL_law 17 = .ok (.newarray .long, 2) := by decide +kernel
theorem dL_law_19 : decode cL_law 19 = .ok (.astore_n 3, 1) := by decide +kernel
theorem dL_law_20 : decode cL_law 20 = .ok (.iconst 0, 1) := by decide +kernel
theorem dL_law_21 : decode cL_law 21 = .ok (.istore 4, 2) := by decide +kernel
theorem dL_law_23 : decode cL_law 23 = .ok (.iload 4, 2) := by decide +kernel
theorem dL_law_25 : decode cL_law 25 = .ok (.aload_n 0, 1) := by decide +kernel
theorem dL_law_26 : decode cL_law 26 = .ok (.arraylength, 1) := by decide +kernel
theorem dL_law_27 : decode cL_law 27 = .ok (.iconst 5, 1) := by decide +kernel
theorem dL_law_28 : decode cL_law 28 = .ok (.isub, 1) := by decide +kernel
theorem dL_law_29 : decode cL_law 29 = .ok (.if_icmp .gt 1391, 3) := by decide +kernel
theorem dL_law_32 : decode cL_law 32 = .ok (.aload_n 0, 1) := by decide +kernel
theorem dL_law_33 : decode cL_law 33 = .ok (.iload 4, 2) := by decide +kernel
theorem dL_law_35 : decode cL_law 35 = .ok (.iaload, 1) := by decide +kernel
theorem dL_law_36 : decode cL_law 36 = .ok (.bipush 31, 2) := by decide +kernel
theorem dL_law_38 : decode cL_law 38 = .ok (.iand, 1) := by decide +kernel
theorem dL_law_39 : decode cL_law 39 = .ok (.tableswitch 1375 0 26 #[121, 169, 225, 266, 326, 374, 422, 494, 554, 602, 682, 695, 708, 721, 777, 790, 803, 859, 915, 929, 970, 983, 1051, 1143, 1235, 1303, 1339], 121) := by decide +kernel
theorem dL_law_160 : decode cL_law 160 = .ok (.aload_n 1, 1) := by decide +kernel
theorem dL_law_161 : decode cL_law 161 = .ok (.aload_n 0, 1) := by decide +kernel
theorem dL_law_162 : decode cL_law 162 = .ok (.iload 4, 2) := by decide +kernel
theorem dL_law_164 : decode cL_law 164 = .ok (.iconst 1, 1) := by decide +kernel
theorem dL_law_165 : decode cL_law 165 = .ok (.iadd, 1) := by decide +kernel
theorem dL_law_166 : decode cL_law 166 = .ok (.iaload, 1) := by decide +kernel
theorem dL_law_167 : decode cL_law 167 = .ok (.aload_n 0, 1) := by decide +kernel
theorem dL_law_168 : decode cL_law 168 = .ok (.iload 4, 2) := by decide +kernel
theorem dL_law_170 : decode cL_law 170 = .ok (.iconst 2, 1) := by decide +kernel
theorem dL_law_171 : decode cL_law 171 = .ok (.iadd, 1) := by decide +kernel
theorem dL_law_172 : decode cL_law 172 = .ok (.iaload, 1) := by decide +kernel
theorem dL_law_173 : decode cL_law 173 = .ok (.invokestatic 81, 3) := by decide +kernel
theorem dL_law_176 : decode cL_law 176 = .ok (.istore 5, 2) := by decide +kernel
theorem dL_law_178 : decode cL_law 178 = .ok (.aload_n 2, 1) := by decide +kernel
theorem dL_law_179 : decode cL_law 179 = .ok (.aload_n 0, 1) := by decide +kernel
theorem dL_law_180 : decode cL_law 180 = .ok (.iload 4, 2) := by decide +kernel
theorem dL_law_182 : decode cL_law 182 = .ok (.iconst 1, 1) := by decide +kernel
theorem dL_law_183 : decode cL_law 183 = .ok (.iadd, 1) := by decide +kernel
theorem dL_law_184 : decode cL_law 184 = .ok (.iaload, 1) := by decide +kernel
theorem dL_law_185 : decode cL_law 185 = .ok (.aload_n 0, 1) := by decide +kernel
theorem dL_law_186 : decode cL_law 186 = .ok (.iload 4, 2) := by decide +kernel
theorem dL_law_188 : decode cL_law 188 = .ok (.iconst 2, 1) := by decide +kernel
theorem dL_law_189 : decode cL_law 189 = .ok (.iadd, 1) := by decide +kernel
theorem dL_law_190 : decode cL_law 190 = .ok (.iaload, 1) := by decide +kernel
theorem dL_law_191 : decode cL_law 191 = .ok (.invokevirtual 86, 3) := by decide +kernel
theorem dL_law_194 : decode cL_law 194 = .ok (.aload_n 2, 1) := by decide +kernel
theorem dL_law_195 : decode cL_law 195 = .ok (.invokevirtual 87, 3) := by decide +kernel
theorem dL_law_198 : decode cL_law 198 = .ok (.iload 5, 2) := by decide +kernel
theorem dL_law_200 : decode cL_law 200 = .ok (.if_icmp .eq 5, 3) := by decide +kernel
theorem dL_law_203 : decode cL_law 203 = .ok (.iconst 0, 1) := by decide +kernel
theorem dL_law_204 : decode cL_law 204 = .ok (.ireturn, 1) := by decide +kernel
theorem dL_law_205 : decode cL_law 205 = .ok (.goto 1209, 3) := by decide +kernel
theorem dL_law_208 : decode cL_law 208 = .ok (.aload_n 1, 1) := by decide +kernel
theorem dL_law_209 : decode cL_law 209 = .ok (.aload_n 0, 1) := by decide +kernel
theorem dL_law_210 : decode cL_law 210 = .ok (.iload 4, 2) := by decide +kernel
theorem dL_law_212 : decode cL_law 212 = .ok (.iconst 1, 1) := by decide +kernel
theorem dL_law_213 : decode cL_law 213 = .ok (.iadd, 1) := by decide +kernel
theorem dL_law_214 : decode cL_law 214 = .ok (.iaload, 1) := by decide +kernel
theorem dL_law_215 : decode cL_law 215 = .ok (.aload_n 3, 1) := by decide +kernel
theorem dL_law_216 : decode cL_law 216 = .ok (.invokestatic 91, 3) := by decide +kernel
theorem dL_law_219 : decode cL_law 219 = .ok (.istore 5, 2) := by decide +kernel
theorem dL_law_221 : decode cL_law 221 = .ok (.aload_n 2, 1) := by decide +kernel
theorem dL_law_222 : decode cL_law 222 = .ok (.aload_n 0, 1) := by decide +kernel
theorem dL_law_223 : decode cL_law 223 = .ok (.iload 4, 2) := by decide +kernel
theorem dL_law_225 : decode cL_law 225 = .ok (.iconst 1, 1) := by decide +kernel
theorem dL_law_226 : decode cL_law 226 = .ok (.iadd, 1) := by decide +kernel
theorem dL_law_227 : decode cL_law 227 = .ok (.iaload, 1) := by decide +kernel
theorem dL_law_228 : decode cL_law 228 = .ok (.invokevirtual 94, 3) := by decide +kernel
theorem dL_law_231 : decode cL_law 231 = .ok (.istore 6, 2) := by decide +kernel
theorem dL_law_233 : decode cL_law 233 = .ok (.aload_n 2, 1) := by decide +kernel
theorem dL_law_234 : decode cL_law 234 = .ok (.invokevirtual 87, 3) := by decide +kernel
theorem dL_law_237 : decode cL_law 237 = .ok (.iload 5, 2) := by decide +kernel
theorem dL_law_239 : decode cL_law 239 = .ok (.if_icmp .eq 5, 3) := by decide +kernel
theorem dL_law_242 : decode cL_law 242 = .ok (.iconst 0, 1) := by decide +kernel
theorem dL_law_243 : decode cL_law 243 = .ok (.ireturn, 1) := by decide +kernel
theorem dL_law_244 : decode cL_law 244 = .ok (.iload 5, 2) := by decide +kernel
theorem dL_law_246 : decode cL_law 246 = .ok (.ifCond .ne 15, 3) := by decide +kernel
theorem dL_law_249 : decode cL_law 249 = .ok (.aload_n 3, 1) := by decide +kernel
theorem dL_law_250 : decode cL_law 250 = .ok (.iconst 0, 1) := by decide +kernel
theorem dL_law_251 : decode cL_law 251 = .ok (.laload, 1) := by decide +kernel
theorem dL_law_252 : decode cL_law 252 = .ok (.iload 6, 2) := by decide +kernel
theorem dL_law_254 : decode cL_law 254 = .ok (.i2l, 1) := by decide +kernel
theorem dL_law_255 : decode cL_law 255 = .ok (.lcmp, 1) := by decide +kernel
theorem dL_law_256 : decode cL_law 256 = .ok (.ifCond .eq 5, 3) := by decide +kernel
theorem dL_law_259 : decode cL_law 259 = .ok (.iconst 0, 1) := by decide +kernel
theorem dL_law_260 : decode cL_law 260 = .ok (.ireturn, 1) := by decide +kernel
theorem dL_law_261 : decode cL_law 261 = .ok (.goto 1153, 3) := by decide +kernel
theorem dL_law_264 : decode cL_law 264 = .ok (.aload_n 1, 1) := by decide +kernel
theorem dL_law_265 : decode cL_law 265 = .ok (.aload_n 0, 1) := by decide +kernel
theorem dL_law_266 : decode cL_law 266 = .ok (.iload 4, 2) := by decide +kernel
theorem dL_law_268 : decode cL_law 268 = .ok (.iconst 1, 1) := by decide +kernel
theorem dL_law_269 : decode cL_law 269 = .ok (.iadd, 1) := by decide +kernel
theorem dL_law_270 : decode cL_law 270 = .ok (.iaload, 1) := by decide +kernel
theorem dL_law_271 : decode cL_law 271 = .ok (.ifCond .eq 7, 3) := by decide +kernel
theorem dL_law_274 : decode cL_law 274 = .ok (.iconst 1, 1) := by decide +kernel
theorem dL_law_275 : decode cL_law 275 = .ok (.goto 4, 3) := by decide +kernel
theorem dL_law_278 : decode cL_law 278 = .ok (.iconst 0, 1) := by decide +kernel
theorem dL_law_279 : decode cL_law 279 = .ok (.invokevirtual 95, 3) := by decide +kernel
theorem dL_law_282 : decode cL_law 282 = .ok (.aload_n 2, 1) := by decide +kernel
theorem dL_law_283 : decode cL_law 283 = .ok (.aload_n 0, 1) := by decide +kernel
theorem dL_law_284 : decode cL_law 284 = .ok (.iload 4, 2) := by decide +kernel
theorem dL_law_286 : decode cL_law 286 = .ok (.iconst 1, 1) := by decide +kernel
theorem dL_law_287 : decode cL_law 287 = .ok (.iadd, 1) := by decide +kernel
theorem dL_law_288 : decode cL_law 288 = .ok (.iaload, 1) := by decide +kernel
theorem dL_law_289 : decode cL_law 289 = .ok (.ifCond .eq 7, 3) := by decide +kernel
theorem dL_law_292 : decode cL_law 292 = .ok (.iconst 1, 1) := by decide +kernel
theorem dL_law_293 : decode cL_law 293 = .ok (.goto 4, 3) := by decide +kernel
theorem dL_law_296 : decode cL_law 296 = .ok (.iconst 0, 1) := by decide +kernel
theorem dL_law_297 : decode cL_law 297 = .ok (.invokevirtual 99, 3) := by decide +kernel
theorem dL_law_300 : decode cL_law 300 = .ok (.if_icmp .eq 1114, 3) := by decide +kernel
theorem dL_law_303 : decode cL_law 303 = .ok (.iconst 0, 1) := by decide +kernel
theorem dL_law_304 : decode cL_law 304 = .ok (.ireturn, 1) := by decide +kernel
theorem dL_law_305 : decode cL_law 305 = .ok (.aload_n 1, 1) := by decide +kernel
theorem dL_law_306 : decode cL_law 306 = .ok (.aload_n 0, 1) := by decide +kernel
theorem dL_law_307 : decode cL_law 307 = .ok (.iload 4, 2) := by decide +kernel
theorem dL_law_309 : decode cL_law 309 = .ok (.iconst 1, 1) := by decide +kernel
theorem dL_law_310 : decode cL_law 310 = .ok (.iadd, 1) := by decide +kernel
theorem dL_law_311 : decode cL_law 311 = .ok (.iaload, 1) := by decide +kernel
theorem dL_law_312 : decode cL_law 312 = .ok (.aload_n 0, 1) := by decide +kernel
theorem dL_law_313 : decode cL_law 313 = .ok (.iload 4, 2) := by decide +kernel
theorem dL_law_315 : decode cL_law 315 = .ok (.iconst 2, 1) := by decide +kernel
theorem dL_law_316 : decode cL_law 316 = .ok (.iadd, 1) := by decide +kernel
theorem dL_law_317 : decode cL_law 317 = .ok (.iaload, 1) := by decide +kernel
theorem dL_law_318 : decode cL_law 318 = .ok (.aload_n 0, 1) := by decide +kernel
theorem dL_law_319 : decode cL_law 319 = .ok (.iload 4, 2) := by decide +kernel
theorem dL_law_321 : decode cL_law 321 = .ok (.iconst 3, 1) := by decide +kernel
theorem dL_law_322 : decode cL_law 322 = .ok (.iadd, 1) := by decide +kernel
theorem dL_law_323 : decode cL_law 323 = .ok (.iaload, 1) := by decide +kernel
theorem dL_law_324 : decode cL_law 324 = .ok (.invokestatic 100, 3) := by decide +kernel
theorem dL_law_327 : decode cL_law 327 = .ok (.istore 5, 2) := by decide +kernel
theorem dL_law_329 : decode cL_law 329 = .ok (.aload_n 2, 1) := by decide +kernel
theorem dL_law_330 : decode cL_law 330 = .ok (.aload_n 0, 1) := by decide +kernel
theorem dL_law_331 : decode cL_law 331 = .ok (.iload 4, 2) := by decide +kernel
theorem dL_law_333 : decode cL_law 333 = .ok (.iconst 1, 1) := by decide +kernel
theorem dL_law_334 : decode cL_law 334 = .ok (.iadd, 1) := by decide +kernel
theorem dL_law_335 : decode cL_law 335 = .ok (.iaload, 1) := by decide +kernel
theorem dL_law_336 : decode cL_law 336 = .ok (.aload_n 0, 1) := by decide +kernel
theorem dL_law_337 : decode cL_law 337 = .ok (.iload 4, 2) := by decide +kernel
theorem dL_law_339 : decode cL_law 339 = .ok (.iconst 2, 1) := by decide +kernel
theorem dL_law_340 : decode cL_law 340 = .ok (.iadd, 1) := by decide +kernel
