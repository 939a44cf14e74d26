/-! Nettle: what is asked of the survey -/
theorem dX7_surveyed_0 : decode cX7_surveyed 0 = .ok (.aload_n 0, 1) := by decide +kernel
theorem dX7_surveyed_1 : decode cX7_surveyed 1 = .ok (.getfield 24, 3) := by decide +kernel
set_option maxRecDepth 20000 in
theorem ggX7_surveyed_X4_refresh : GoodIn wsX7_surveyed wsX4_refresh := goodIn_r _ [6, 7, 8, 9, 10, 11, 12, 13, 5, 14, 15, 16, 17, 18, 19, 20, 21, 22, 23, 24, 25, 26, 27, 28, 29, 30, 31, 32, 33, 34, 35, 36, 37, 38, 39, 40, 49, 50, 51, 52, 53, 54, 55, 56, 57, 58, 59, 60] (by decide +kernel) (by decide +kernel)
set_option maxRecDepth 20000 in
theorem gX7_surveyed_X4_refresh : GoodIn wsX7_surveyed (wsV RX7 377 RX4 yX4_refresh wsX4_refresh) := goodIn_app (goodIn_of _ (by decide +kernel)) ggX7_surveyed_X4_refresh
theorem dX7_surveyed_4 : decode cX7_surveyed 4 = .ok (.invokevirtual 377, 3) := by decide +kernel
theorem dX7_surveyed_7 : decode cX7_surveyed 7 = .ok (.aload_n 0, 1) := by decide +kernel
theorem dX7_surveyed_8 : decode cX7_surveyed 8 = .ok (.getfield 24, 3) := by decide +kernel
theorem dX7_surveyed_11 : decode cX7_surveyed 11 = .ok (.areturn, 1) := by decide +kernel
theorem dX7_decides_0 : decode cX7_decides 0 = .ok (.aload_n 0, 1) := by decide +kernel
theorem dX7_decides_1 : decode cX7_decides 1 = .ok (.iload_n 1, 1) := by decide +kernel
set_option maxRecDepth 20000 in
theorem ggX7_decides_X7_needRule : GoodIn wsX7_decides wsX7_needRule := goodIn_ca (goodIn_r _ [5, 6, 7, 8, 9, 69, 70, 71, 72, 73, 74, 75, 76, 77, 78, 79] (by decide +kernel) (by decide +kernel)) (goodIn_sub (fun _ h => List.mem_cons_of_mem _ (List.mem_append_right _ h)) (by decide +kernel))
set_option maxRecDepth 20000 in
theorem gX7_decides_X7_needRule : GoodIn wsX7_decides (wsV RX7 87 RX7 yX7_needRule wsX7_needRule) := goodIn_app (goodIn_of _ (by decide +kernel)) ggX7_decides_X7_needRule
theorem dX7_decides_2 : decode cX7_decides 2 = .ok (.invokevirtual 87, 3) := by decide +kernel
theorem dX7_decides_5 : decode cX7_decides 5 = .ok (.aload_n 0, 1) := by decide +kernel
set_option maxRecDepth 20000 in
theorem ggX7_decides_X7_surveyed : GoodIn wsX7_decides wsX7_surveyed := goodIn_r _ [13, 14, 15, 16, 17, 18, 19, 20, 21, 22, 23, 24, 25, 26, 27, 28, 29, 30, 31, 32, 33, 34, 35, 36, 37, 38, 39, 40, 41, 42, 43, 44, 45, 46, 47, 48, 49, 50, 51, 52, 53, 69, 70, 71, 72, 73, 74, 75, 76, 80, 81, 82, 83, 84, 77, 78, 79, 85, 86, 87, 88] (by decide +kernel) (by decide +kernel)
set_option maxRecDepth 20000 in
theorem gX7_decides_X7_surveyed : GoodIn wsX7_decides (wsV RX7 149 RX7 yX7_surveyed wsX7_surveyed) := goodIn_app (goodIn_of _ (by decide +kernel)) ggX7_decides_X7_surveyed
theorem dX7_decides_6 : decode cX7_decides 6 = .ok (.invokevirtual 149, 3) := by decide +kernel
theorem dX7_decides_9 : decode cX7_decides 9 = .ok (.iload_n 1, 1) := by decide +kernel
set_option maxRecDepth 20000 in
theorem ggX7_decides_X4_amountOf : GoodIn wsX7_decides wsX4_amountOf := goodIn_r _ [57, 28, 23, 58, 59, 60, 47, 61, 49, 62, 63, 64, 65, 66, 67, 68, 24, 25, 26, 18, 27, 29, 80, 81, 82, 83, 84, 77, 78, 79, 85, 86, 87, 88] (by decide +kernel) (by decide +kernel)
set_option maxRecDepth 20000 in
theorem gX7_decides_X4_amountOf : GoodIn wsX7_decides (wsV RX7 153 RX4 yX4_amountOf wsX4_amountOf) := goodIn_app (goodIn_of _ (by decide +kernel)) ggX7_decides_X4_amountOf
theorem dX7_decides_10 : decode cX7_decides 10 = .ok (.invokevirtual 153, 3) := by decide +kernel
theorem dX7_decides_13 : decode cX7_decides 13 = .ok (.ireturn, 1) := by decide +kernel
theorem dX7_allowed_0 : decode cX7_allowed 0 = .ok (.aload_n 0, 1) := by decide +kernel
set_option maxRecDepth 20000 in
theorem ggX7_allowed_X7_surveyed : GoodIn wsX7_allowed wsX7_surveyed := goodIn_r _ [5, 6, 7, 8, 9, 10, 11, 12, 13, 14, 15, 16, 17, 18, 19, 20, 21, 22, 23, 24, 25, 26, 27, 28, 29, 30, 31, 32, 33, 34, 35, 36, 37, 38, 39, 40, 41, 42, 43, 44, 45, 68, 69, 70, 71, 72, 73, 74, 75, 76, 77, 78, 79, 80, 81, 82, 83, 84, 85, 86, 87] (by decide +kernel) (by decide +kernel)
set_option maxRecDepth 20000 in
theorem gX7_allowed_X7_surveyed : GoodIn wsX7_allowed (wsV RX7 149 RX7 yX7_surveyed wsX7_surveyed) := goodIn_app (goodIn_of _ (by decide +kernel)) ggX7_allowed_X7_surveyed
theorem dX7_allowed_1 : decode cX7_allowed 1 = .ok (.invokevirtual 149, 3) := by decide +kernel
theorem dX7_allowed_4 : decode cX7_allowed 4 = .ok (.sipush 255, 3) := by decide +kernel
set_option maxRecDepth 20000 in
theorem ggX7_allowed_X4_amountAllowed : GoodIn wsX7_allowed wsX4_amountAllowed := goodIn_r _ [49, 20, 15, 50, 51, 52, 39, 53, 41, 54, 55, 56, 57, 58, 59, 60, 16, 17, 18, 10, 19, 21, 61, 62, 63, 64, 65, 66, 67, 37, 38, 40, 76, 77, 78, 79, 80, 81, 82, 83, 84, 85, 86, 87] (by decide +kernel) (by decide +kernel)
set_option maxRecDepth 20000 in
theorem gX7_allowed_X4_amountAllowed : GoodIn wsX7_allowed (wsV RX7 156 RX4 yX4_amountAllowed wsX4_amountAllowed) := goodIn_app (goodIn_of _ (by decide +kernel)) ggX7_allowed_X4_amountAllowed
theorem dX7_allowed_7 : decode cX7_allowed 7 = .ok (.invokevirtual 156, 3) := by decide +kernel
theorem dX7_allowed_10 : decode cX7_allowed 10 = .ok (.ireturn, 1) := by decide +kernel
theorem dX7_allowedWithout_0 : decode cX7_allowedWithout 0 = .ok (.aload_n 0, 1) := by decide +kernel
theorem dX7_allowedWithout_1 : decode cX7_allowedWithout 1 = .ok (.iload_n 1, 1) := by decide +kernel
set_option maxRecDepth 20000 in
theorem ggX7_allowedWithout_X7_needRule : GoodIn wsX7_allowedWithout wsX7_needRule := goodIn_ca (goodIn_r _ [5, 6, 7, 8, 9, 76, 77, 78, 79, 80, 81, 82, 83, 84, 85, 86] (by decide +kernel) (by decide +kernel)) (goodIn_sub (fun _ h => List.mem_cons_of_mem _ (List.mem_append_right _ h)) (by decide +kernel))
set_option maxRecDepth 20000 in
theorem gX7_allowedWithout_X7_needRule : GoodIn wsX7_allowedWithout (wsV RX7 87 RX7 yX7_needRule wsX7_needRule) := goodIn_app (goodIn_of _ (by decide +kernel)) ggX7_allowedWithout_X7_needRule
theorem dX7_allowedWithout_2 : decode cX7_allowedWithout 2 = .ok (.invokevirtual 87, 3) := by decide +kernel
theorem dX7_allowedWithout_5 : decode cX7_allowedWithout 5 = .ok (.aload_n 0, 1) := by decide +kernel
set_option maxRecDepth 20000 in
theorem ggX7_allowedWithout_X7_surveyed : GoodIn wsX7_allowedWithout wsX7_surveyed := goodIn_r _ [13, 14, 15, 16, 17, 18, 19, 20, 21, 22, 23, 24, 25, 26, 27, 28, 29, 30, 31, 32, 33, 34, 35, 36, 37, 38, 39, 40, 41, 42, 43, 44, 45, 46, 47, 48, 49, 50, 51, 52, 53, 76, 77, 78, 79, 80, 81, 82, 83, 87, 88, 89, 90, 91, 84, 85, 86, 92, 93, 94, 95] (by decide +kernel) (by decide +kernel)
set_option maxRecDepth 20000 in
theorem gX7_allowedWithout_X7_surveyed : GoodIn wsX7_allowedWithout (wsV RX7 149 RX7 yX7_surveyed wsX7_surveyed) := goodIn_app (goodIn_of _ (by decide +kernel)) ggX7_allowedWithout_X7_surveyed
theorem dX7_allowedWithout_6 : decode cX7_allowedWithout 6 = .ok (.invokevirtual 149, 3) := by decide +kernel
theorem dX7_allowedWithout_9 : decode cX7_allowedWithout 9 = .ok (.sipush 255, 3) := by decide +kernel
theorem dX7_allowedWithout_12 : decode cX7_allowedWithout 12 = .ok (.iconst 1, 1) := by decide +kernel
theorem dX7_allowedWithout_13 : decode cX7_allowedWithout 13 = .ok (.iload_n 1, 1) := by decide +kernel
theorem dX7_allowedWithout_14 : decode cX7_allowedWithout 14 = .ok (.ishl, 1) := by decide +kernel
theorem dX7_allowedWithout_15 : decode cX7_allowedWithout 15 = .ok (.isub, 1) := by decide +kernel
set_option maxRecDepth 20000 in
theorem ggX7_allowedWithout_X4_amountAllowed : GoodIn wsX7_allowedWithout wsX4_amountAllowed := goodIn_r _ [57, 28, 23, 58, 59, 60, 47, 61, 49, 62, 63, 64, 65, 66, 67, 68, 24, 25, 26, 18, 27, 29, 69, 70, 71, 72, 73, 74, 75, 45, 46, 48, 87, 88, 89, 90, 91, 84, 85, 86, 92, 93, 94, 95] (by decide +kernel) (by decide +kernel)
set_option maxRecDepth 20000 in
theorem gX7_allowedWithout_X4_amountAllowed : GoodIn wsX7_allowedWithout (wsV RX7 156 RX4 yX4_amountAllowed wsX4_amountAllowed) := goodIn_app (goodIn_of _ (by decide +kernel)) ggX7_allowedWithout_X4_amountAllowed
theorem dX7_allowedWithout_16 : decode cX7_allowedWithout 16 = .ok (.invokevirtual 156, 3) := by decide +kernel
theorem dX7_allowedWithout_19 : decode cX7_allowedWithout 19 = .ok (.ireturn, 1) := by decide +kernel
theorem dX7_changedByMove_0 : decode cX7_changedByMove 0 = .ok (.aload_n 0, 1) := by decide +kernel
theorem dX7_changedByMove_1 : decode cX7_changedByMove 1 = .ok (.iload_n 1, 1) := by decide +kernel
set_option maxRecDepth 20000 in
theorem ggX7_changedByMove_X7_needRule : GoodIn wsX7_changedByMove wsX7_needRule := goodIn_ca (goodIn_r _ [5, 6, 7, 8, 9, 80, 81, 82, 83, 84, 85, 86, 87, 88, 89, 90] (by decide +kernel) (by decide +kernel)) (goodIn_sub (fun _ h => List.mem_cons_of_mem _ (List.mem_append_right _ h)) (by decide +kernel))
set_option maxRecDepth 20000 in
theorem gX7_changedByMove_X7_needRule : GoodIn wsX7_changedByMove (wsV RX7 87 RX7 yX7_needRule wsX7_needRule) := goodIn_app (goodIn_of _ (by decide +kernel)) ggX7_changedByMove_X7_needRule
theorem dX7_changedByMove_2 : decode cX7_changedByMove 2 = .ok (.invokevirtual 87, 3) := by decide +kernel
theorem dX7_changedByMove_5 : decode cX7_changedByMove 5 = .ok (.aload_n 0, 1) := by decide +kernel
theorem dX7_changedByMove_6 : decode cX7_changedByMove 6 = .ok (.iload_n 2, 1) := by decide +kernel
theorem dX7_changedByMove_7 : decode cX7_changedByMove 7 = .ok (.invokevirtual 87, 3) := by decide +kernel
theorem dX7_changedByMove_10 : decode cX7_changedByMove 10 = .ok (.aload_n 0, 1) := by decide +kernel
set_option maxRecDepth 20000 in
theorem ggX7_changedByMove_X7_surveyed : GoodIn wsX7_changedByMove wsX7_surveyed := goodIn_r _ [13, 14, 15, 16, 17, 18, 19, 20, 21, 22, 23, 24, 25, 26, 27, 28, 29, 30, 31, 32, 33, 34, 35, 36, 37, 38, 39, 40, 41, 42, 43, 44, 45, 46, 47, 48, 49, 50, 51, 52, 53, 80, 81, 82, 83, 84, 85, 86, 87, 91, 92, 93, 94, 95, 88, 89, 90, 96, 97, 98, 99] (by decide +kernel) (by decide +kernel)
set_option maxRecDepth 20000 in
theorem gX7_changedByMove_X7_surveyed : GoodIn wsX7_changedByMove (wsV RX7 149 RX7 yX7_surveyed wsX7_surveyed) := goodIn_app (goodIn_of _ (by decide +kernel)) ggX7_changedByMove_X7_surveyed
theorem dX7_changedByMove_11 : decode cX7_changedByMove 11 = .ok (.invokevirtual 149, 3) := by decide +kernel
theorem dX7_changedByMove_14 : decode cX7_changedByMove 14 = .ok (.iload_n 1, 1) := by decide +kernel
theorem dX7_changedByMove_15 : decode cX7_changedByMove 15 = .ok (.iload_n 2, 1) := by decide +kernel
set_option maxRecDepth 20000 in
theorem ggX7_changedByMove_X4_amountMoved : GoodIn wsX7_changedByMove wsX4_amountMoved := goodIn_r _ [57, 28, 23, 58, 59, 60, 47, 61, 49, 62, 63, 64, 65, 66, 67, 68, 24, 25, 26, 18, 27, 29, 69, 70, 71, 72, 73, 74, 75, 45, 46, 48, 76, 77, 78, 79, 91, 92, 93, 94, 95, 88, 89, 90, 96, 97, 98, 99] (by decide +kernel) (by decide +kernel)
set_option maxRecDepth 20000 in
theorem gX7_changedByMove_X4_amountMoved : GoodIn wsX7_changedByMove (wsV RX7 289 RX4 yX4_amountMoved wsX4_amountMoved) := goodIn_app (goodIn_of _ (by decide +kernel)) ggX7_changedByMove_X4_amountMoved
theorem dX7_changedByMove_16 : decode cX7_changedByMove 16 = .ok (.invokevirtual 289, 3) := by decide +kernel
theorem dX7_changedByMove_19 : decode cX7_changedByMove 19 = .ok (.ireturn, 1) := by decide +kernel
theorem dX7_state_0 : decode cX7_state 0 = .ok (.aload_n 0, 1) := by decide +kernel
theorem dX7_state_1 : decode cX7_state 1 = .ok (.iload_n 1, 1) := by decide +kernel
set_option maxRecDepth 20000 in
theorem ggX7_state_X7_needRule : GoodIn wsX7_state wsX7_needRule := goodIn_ca (goodIn_r _ [8, 9, 10, 1, 11, 97, 98, 99, 100, 101, 102, 103, 104, 105, 106, 107] (by decide +kernel) (by decide +kernel)) (goodIn_sub (fun _ h => List.mem_cons_of_mem _ (List.mem_append_right _ h)) (by decide +kernel))
set_option maxRecDepth 20000 in
theorem gX7_state_X7_needRule : GoodIn wsX7_state (wsV RX7 87 RX7 yX7_needRule wsX7_needRule) := goodIn_app (goodIn_of _ (by decide +kernel)) ggX7_state_X7_needRule
theorem dX7_state_2 : decode cX7_state 2 = .ok (.invokevirtual 87, 3) := by decide +kernel
theorem dX7_state_5 : decode cX7_state 5 = .ok (.aload_n 0, 1) := by decide +kernel
set_option maxRecDepth 20000 in
theorem ggX7_state_X7_surveyed : GoodIn wsX7_state wsX7_surveyed := goodIn_r _ [15, 16, 17, 18, 19, 20, 21, 22, 23, 24, 25, 26, 27, 28, 29, 30, 31, 32, 33, 34, 35, 36, 37, 38, 39, 40, 41, 42, 43, 44, 45, 46, 47, 48, 49, 50, 51, 52, 53, 54, 55, 97, 98, 99, 100, 101, 102, 103, 104, 112, 113, 114, 115, 116, 105, 106, 107, 108, 109, 110, 111] (by decide +kernel) (by decide +kernel)
set_option maxRecDepth 20000 in
theorem gX7_state_X7_surveyed : GoodIn wsX7_state (wsV RX7 149 RX7 yX7_surveyed wsX7_surveyed) := goodIn_app (goodIn_of _ (by decide +kernel)) ggX7_state_X7_surveyed
theorem dX7_state_6 : decode cX7_state 6 = .ok (.invokevirtual 149, 3) := by decide +kernel
theorem dX7_state_9 : decode cX7_state 9 = .ok (.iload_n 1, 1) := by decide +kernel
set_option maxRecDepth 20000 in
theorem ggX7_state_X4_isDead : GoodIn wsX7_state wsX4_isDead := goodIn_r _ [59, 60, 61, 62, 20, 63, 30, 25, 64, 65, 66, 49, 67, 51, 68, 69, 70, 71, 72, 73, 74, 26, 27, 28, 29, 31, 112, 113, 114, 115, 116, 105, 106, 107, 108, 109, 110, 111] (by decide +kernel) (by decide +kernel)
set_option maxRecDepth 20000 in
theorem gX7_state_X4_isDead : GoodIn wsX7_state (wsV RX7 159 RX4 yX4_isDead wsX4_isDead) := goodIn_app (goodIn_of _ (by decide +kernel)) ggX7_state_X4_isDead
theorem dX7_state_10 : decode cX7_state 10 = .ok (.invokevirtual 159, 3) := by decide +kernel
theorem dX7_state_13 : decode cX7_state 13 = .ok (.ifCond .ne 20, 3) := by decide +kernel
theorem dX7_state_33 : decode cX7_state 33 = .ok (.aload_n 0, 1) := by decide +kernel
theorem dX7_state_34 : decode cX7_state 34 = .ok (.getfield 10, 3) := by decide +kernel
theorem dX7_state_37 : decode cX7_state 37 = .ok (.iload_n 1, 1) := by decide +kernel
set_option maxRecDepth 20000 in
theorem ggX7_state_X6_firstCover : GoodIn wsX7_state wsX6_firstCover := goodIn_r _ [90, 68, 69, 70, 71, 72, 73, 74, 91, 92, 93, 94, 95, 96, 105, 106, 107, 108, 109, 110, 111] (by decide +kernel) (by decide +kernel)
set_option maxRecDepth 20000 in
theorem gX7_state_X6_firstCover : GoodIn wsX7_state (wsV RX7 166 RX6 yX6_firstCover wsX6_firstCover) := goodIn_app (goodIn_of _ (by decide +kernel)) ggX7_state_X6_firstCover
theorem dX7_state_38 : decode cX7_state 38 = .ok (.invokevirtual 166, 3) := by decide +kernel
theorem dX7_state_41 : decode cX7_state 41 = .ok (.istore_n 2, 1) := by decide +kernel
theorem dX7_state_42 : decode cX7_state 42 = .ok (.iload_n 2, 1) := by decide +kernel
theorem dX7_state_43 : decode cX7_state 43 = .ok (.ifCond .ge 5, 3) := by decide +kernel
theorem dX7_state_48 : decode cX7_state 48 = .ok (.aload_n 0, 1) := by decide +kernel
theorem dX7_state_49 : decode cX7_state 49 = .ok (.getfield 10, 3) := by decide +kernel
theorem dX7_state_52 : decode cX7_state 52 = .ok (.getfield 104, 3) := by decide +kernel
theorem dX7_state_55 : decode cX7_state 55 = .ok (.iload_n 2, 1) := by decide +kernel
theorem dX7_state_56 : decode cX7_state 56 = .ok (.aaload, 1) := by decide +kernel
theorem dX7_state_57 : decode cX7_state 57 = .ok (.getfield 120, 3) := by decide +kernel
theorem dX7_state_60 : decode cX7_state 60 = .ok (.aload_n 0, 1) := by decide +kernel
theorem dX7_state_61 : decode cX7_state 61 = .ok (.getfield 10, 3) := by decide +kernel
theorem dX7_state_64 : decode cX7_state 64 = .ok (.getfield 104, 3) := by decide +kernel
theorem dX7_state_67 : decode cX7_state 67 = .ok (.iload_n 1, 1) := by decide +kernel
theorem dX7_state_68 : decode cX7_state 68 = .ok (.aaload, 1) := by decide +kernel
theorem dX7_state_69 : decode cX7_state 69 = .ok (.getfield 120, 3) := by decide +kernel
theorem dX7_state_72 : decode cX7_state 72 = .ok (.if_icmp .ne 7, 3) := by decide +kernel
theorem dX7_state_79 : decode cX7_state 79 = .ok (.iconst 2, 1) := by decide +kernel
theorem dX7_state_80 : decode cX7_state 80 = .ok (.ireturn, 1) := by decide +kernel
theorem dX7_state_75 : decode cX7_state 75 = .ok (.iconst 1, 1) := by decide +kernel
theorem dX7_state_76 : decode cX7_state 76 = .ok (.goto 4, 3) := by decide +kernel
theorem dX7_state_46 : decode cX7_state 46 = .ok (.iconst 3, 1) := by decide +kernel
theorem dX7_state_47 : decode cX7_state 47 = .ok (.ireturn, 1) := by decide +kernel
theorem dX7_state_16 : decode cX7_state 16 = .ok (.aload_n 0, 1) := by decide +kernel
theorem dX7_state_17 : decode cX7_state 17 = .ok (.invokevirtual 149, 3) := by decide +kernel
theorem dX7_state_20 : decode cX7_state 20 = .ok (.iload_n 1, 1) := by decide +kernel
set_option maxRecDepth 20000 in
theorem ggX7_state_X4_isNeedless : GoodIn wsX7_state wsX4_isNeedless := goodIn_r _ [78, 30, 36, 25, 79, 70, 71, 72, 73, 74, 64, 65, 66, 49, 67, 51, 68, 69, 26, 27, 28, 20, 29, 31, 80, 81, 82, 83, 84, 85, 86, 47, 48, 50, 112, 113, 114, 115, 116, 105, 106, 107, 108, 109, 110, 111] (by decide +kernel) (by decide +kernel)
set_option maxRecDepth 20000 in
theorem gX7_state_X4_isNeedless : GoodIn wsX7_state (wsV RX7 163 RX4 yX4_isNeedless wsX4_isNeedless) := goodIn_app (goodIn_of _ (by decide +kernel)) ggX7_state_X4_isNeedless
theorem dX7_state_21 : decode cX7_state 21 = .ok (.invokevirtual 163, 3) := by decide +kernel
theorem dX7_state_24 : decode cX7_state 24 = .ok (.ifCond .eq 7, 3) := by decide +kernel
theorem dX7_state_31 : decode cX7_state 31 = .ok (.iconst 0, 1) := by decide +kernel
theorem dX7_state_32 : decode cX7_state 32 = .ok (.ireturn, 1) := by decide +kernel
theorem dX7_state_27 : decode cX7_state 27 = .ok (.iconst 4, 1) := by decide +kernel
theorem dX7_state_28 : decode cX7_state 28 = .ok (.goto 4, 3) := by decide +kernel
/-- the survey's state; that it is made, nothing else changed -/
def zKS (X : Nat → Nat → Int) : Prop := X 53 4 = 0 ∨ (X 53 4 = 1 ∧ zSv X X)
def zSd (X Y : Nat → Nat → Int) : Prop := (X 53 4 = 1 → Y = X) ∧ (∀ c : Nat, c ≠ 53 → c ≠ 54 → c ≠ 55 → c ≠ 56 → Y c = X c) ∧ Y 53 4 = 1 ∧ zSv X Y
theorem zSd.we {X Y : Nat → Nat → Int} (h : zSd X Y) : zWe X Y := fun c hc => h.2.1 c (by omega) (by omega) (by omega) (by omega)
theorem zSd.sv {X Y : Nat → Nat → Int} (h : zSd X Y) (hV : zV X) : zSv Y Y := fun u hu => by
  rw [h.we.m hV]
  exact h.2.2.2 u (by rw [h.we.n (Or.inl rfl : zIsW 0)] at hu; exact hu)
theorem zSd.ks {X Y : Nat → Nat → Int} (h : zSd X Y) (hV : zV X) : zKS Y := Or.inr ⟨h.2.2.1, h.sv hV⟩
theorem zSd.again {X Y Z : Nat → Nat → Int} (h : zSd X Y) (h2 : zSd Y Z) : Z = Y := h2.1 h.2.2.1
/-- how many PACKETS a RULE decides; how many are allowed by those of a set -/
noncomputable def zDc (X : Nat → Nat → Int) (q : Nat) : Int := zm X (zPdc X q)
noncomputable def zAll (X : Nat → Nat → Int) (pr : Nat) : Int := zm X (fun m => zAl X 0 (m &&& (zDec X 0 &&& pr)))
theorem zWe.pdc {X Y : Nat → Nat → Int} (h : zWe X Y) (hV : zV X) (q m : Nat) : zPdc Y q m ↔ zPdc X q m := by
  unfold zPdc
  rw [h.dec hV (Or.inl rfl : zIsW 0)]
theorem zWe.dc {X Y : Nat → Nat → Int} (h : zWe X Y) (hV : zV X) (q : Nat) : zDc Y q = zDc X q := by
  unfold zDc
  rw [h.m hV]
  exact zm_congr fun m _ => h.pdc hV q m
theorem zWe.all {X Y : Nat → Nat → Int} (h : zWe X Y) (hV : zV X) (pr : Nat) : zAll Y pr = zAll X pr := by
  unfold zAll
  rw [h.m hV, h.dec hV (Or.inl rfl : zIsW 0)]
  exact zm_congr fun m _ => h.al hV (Or.inl rfl : zIsW 0) _
theorem zWe.cvr {X Y : Nat → Nat → Int} (h : zWe X Y) (hV : zV X) {q j : Nat} (hq : q < 8) (hj : j < 8) : zCvr Y 0 q j ↔ zCvr X 0 q j := by
  have h0 : zIsW 0 := Or.inl rfl
  have c1 := h.cell hV h0 hq
  have c2 := h.cell hV h0 hj
  unfold zCvr zCov
  rw [h.r h0, h.r h0, c1.2.1, c1.2.2, c2.1, c2.2.1, c2.2.2]
theorem zWe.isC {X Y : Nat → Nat → Int} (h : zWe X Y) (hV : zV X) {q : Nat} (hq : q < 8) {w : Int} (hw : w < q) : zIsC Y 0 q w ↔ zIsC X 0 q w := by
  unfold zIsC
  constructor
  · rintro (⟨k, e, h1, h2⟩ | ⟨e, h2⟩)
    · exact Or.inl ⟨k, e, (h.cvr hV hq (by omega)).mp h1, fun j hj z => h2 j hj ((h.cvr hV hq (by omega)).mpr z)⟩
    · exact Or.inr ⟨e, fun j hj z => h2 j hj ((h.cvr hV hq (by omega)).mpr z)⟩
  · rintro (⟨k, e, h1, h2⟩ | ⟨e, h2⟩)
    · exact Or.inl ⟨k, e, (h.cvr hV hq (by omega)).mpr h1, fun j hj z => h2 j hj ((h.cvr hV hq (by omega)).mp z)⟩
    · exact Or.inr ⟨e, fun j hj z => h2 j hj ((h.cvr hV hq (by omega)).mp z)⟩
theorem zIsC.uniq {X : Nat → Nat → Int} {q : Nat} {w w' : Int} (h : zIsC X 0 q w) (h' : zIsC X 0 q w') (hw : w < q) (hw' : w' < q) : w = w' := by
  rcases h with ⟨k, e, h1, h2⟩ | ⟨e, h2⟩ <;> rcases h' with ⟨k', e', h1', h2'⟩ | ⟨e', h2'⟩
  · rcases Nat.lt_trichotomy k k' with z | z | z
    · exact absurd h1 (h2' k z)
    · omega
    · exact absurd h1' (h2 k' z)
  · exact absurd h1 (h2' k (by omega))
  · exact absurd h1' (h2 k' (by omega))
  · omega
/-- by which RULE it is covered; its state -/
noncomputable def zCvF (X : Nat → Nat → Int) (q : Nat) : Int := Classical.epsilon (fun w : Int => w < q ∧ zIsC X 0 q w)
theorem zIsC.f {X : Nat → Nat → Int} {q : Nat} {w : Int} (h : zIsC X 0 q w) (hw : w < q) : w = zCvF X q := by
  have h2 : zCvF X q < q ∧ zIsC X 0 q (zCvF X q) := Classical.epsilon_spec (p := fun w : Int => w < q ∧ zIsC X 0 q w) ⟨w, hw, h⟩
  exact h.uniq h2.2 hw h2.1
theorem zWe.cvf {X Y : Nat → Nat → Int} (h : zWe X Y) (hV : zV X) {q : Nat} (hq : q < 8) : zCvF Y q = zCvF X q := by
  unfold zCvF
  congr 1
  funext w
  apply propext
  exact ⟨fun z => ⟨z.1, (h.isC hV hq z.1).mp z.2⟩, fun z => ⟨z.1, (h.isC hV hq z.1).mpr z.2⟩⟩
def zNm (X : Nat → Nat → Int) (q : Nat) : Prop := X (zr X 0 q) 0 ≠ 2 ∧ ∀ j : Nat, j < 2 ^ zN X 0 → 0 < zm X (fun m => m = j) → (zAl X 0 (j &&& zDec X 0) ↔ zAl X 0 (j &&& zDel (zDec X 0) q))
theorem zNl_iff {X Y : Nat → Nat → Int} (h : zWe X Y) (hV : zV X) (hS : zSv X Y) {q : Nat} (hq : q < 8) : zNl Y q ↔ zNm X q := by
  have h0 : zIsW 0 := Or.inl rfl
  unfold zNl zNm
  rw [h.n h0, h.r h0, (h.cell hV h0 hq).1, h.dec hV h0]
  constructor
  · rintro ⟨a, b⟩
    refine ⟨a, fun j hj hz => ?_⟩
    have h1 := b j hj (by rw [hS j hj]; exact hz)
    rw [h.al hV h0, h.al hV h0] at h1
    exact h1
  · rintro ⟨a, b⟩
    refine ⟨a, fun j hj hz => ?_⟩
    rw [h.al hV h0, h.al hV h0]
    exact b j hj (by rw [← hS j hj]; exact hz)
noncomputable def zSt (X : Nat → Nat → Int) (q : Nat) : Int := if zDc X q = 0 then (if zCvF X q < 0 then 3 else if X (zr X 0 (zCvF X q).toNat) 0 = X (zr X 0 q) 0 then 1 else 2) else if zB (zNm X q) = true then 4 else 0
theorem zWe.nm {X Y : Nat → Nat → Int} (h : zWe X Y) (hV : zV X) {q : Nat} (hq : q < 8) : zNm Y q ↔ zNm X q := by
  have h0 : zIsW 0 := Or.inl rfl
  unfold zNm
  rw [h.n h0, h.r h0, (h.cell hV h0 hq).1, h.dec hV h0]
  constructor
  · rintro ⟨a, b⟩
    refine ⟨a, fun j hj hz => ?_⟩
    have h1 := b j hj (by rw [h.m hV]; exact hz)
    rw [h.al hV h0, h.al hV h0] at h1
    exact h1
  · rintro ⟨a, b⟩
    refine ⟨a, fun j hj hz => ?_⟩
    rw [h.al hV h0, h.al hV h0]
    exact b j hj (by rw [h.m hV] at hz; exact hz)
theorem zWe.st {X Y : Nat → Nat → Int} (h : zWe X Y) (hV : zV X) {q : Nat} (hq : q < 8) : zSt Y q = zSt X q := by
  have h0 : zIsW 0 := Or.inl rfl
  unfold zSt
  rw [h.dc hV, h.cvf hV hq, h.r h0, h.r h0, (h.cell hV h0 hq).1, zB_congr (h.nm hV hq)]
  by_cases hd : zDc X q = 0
  · rw [if_pos hd, if_pos hd]
    by_cases hc : zCvF X q < 0
    · rw [if_pos hc, if_pos hc]
    · have hk : (zCvF X q).toNat < 8 := by
        by_cases he : ∃ w : Int, w < q ∧ zIsC X 0 q w
        · have h2 : zCvF X q < q ∧ zIsC X 0 q (zCvF X q) := Classical.epsilon_spec (p := fun w : Int => w < q ∧ zIsC X 0 q w) he
          omega
        · exact absurd hc (by
            have hex : ∃ w : Int, w < q ∧ zIsC X 0 q w := by
              have key : ∀ n : Nat, n ≤ q → (∃ w : Int, w < n ∧ zIsC X 0 q w) ∨ ∀ j : Nat, j < n → ¬ zCvr X 0 q j := by
                intro n
                induction n with
                | zero => intro _; exact Or.inr fun j hj => by omega
                | succ n ih =>
                  intro hn
                  rcases ih (by omega) with ⟨w, hw, hi⟩ | hi
                  · exact Or.inl ⟨w, by omega, hi⟩
                  · by_cases hc : zCvr X 0 q n
                    · exact Or.inl ⟨(n : Int), by omega, Or.inl ⟨n, rfl, hc, hi⟩⟩
                    · refine Or.inr fun j hj => ?_
                      by_cases e : j = n
                      · rw [e]; exact hc
                      · exact hi j (by omega)
              rcases key q (Nat.le_refl q) with h3 | h3
              · exact h3
              · exact ⟨-1, by omega, Or.inr ⟨rfl, h3⟩⟩
            exact absurd hex he)
      rw [if_neg hc, if_neg hc, (h.cell hV h0 hk).1]
  · rw [if_neg hd, if_neg hd]
theorem zAll_full {X : Nat → Nat → Int} (hV : zV X) : zDec X 0 &&& 255 = zDec X 0 := by
  have h := zDec_lt hV (Or.inl rfl : zIsW 0)
  have e := Nat.and_two_pow_sub_one_eq_mod (zDec X 0) 8
  rw [show (255 : Nat) = 2 ^ 8 - 1 from rfl, e]
  exact Nat.mod_eq_of_lt h

set_option maxHeartbeats 4000000 in
set_option maxRecDepth 100000 in
/-- surveyed -/
theorem c_X7_surveyed (l : Launch) (G : zG) (ad : Nat → Nat) (X : Nat → Nat → Int) (hV : zV X) (hKs : zKS X) : zR l G yX7_surveyed wsX7_surveyed { frames := 3, cells := 0, slots := 0, locals := 71 } (zpic G ad X) [.ref (ad 52)] (za G ad 53 (fun Y => zSd X Y)) 0 0 := by
  refine zR_of (cc := cX7_surveyed) (maxL := 1) (rt := (some (.object "Nettle$Survey"))) (by decide) rfl (Nat.le_of_ble_eq_true rfl) ?_
  intro p e s m below meth c A ls hx hb hml hr hts hown hlocks hin0 hA hE hP hD hS hl
  have hl : lv_has ls 1 [(0, .ref (ad 52))] := hl
  have hown : s.vm.findClass RX7 = some m.cls := hown
  have hw7 : ∀ w ∈ u_ws RX7 TX7 8, w ∈ wsX7_surveyed := by decide +kernel
  have hf24 := hts (.fieldLink RX7 24 "Nettle" "survey" "LNettle$Survey;") (by decide +kernel)
  refine lv_aload_n hx hb dX7_surveyed_0 rfl (lv_at hl 0 rfl) ?_
  refine va_get (D := G.1) (ci := 7) (v := .ref (ad 53)) (C := RX7) (T := TX7) (N := 8) hx hb hts hw7 hown hE.1 hP 52 p_52 rfl 2 (by decide) hf24 (fun _ h9 => h9) rfl dX7_surveyed_1 ?_
  refine zcall (wr := []) (va_runV (As := []) (rest := []) ⟨hx, hb, hml, hown, hts⟩ (c_X4_refresh l G ad X hV hKs s.heap.size) (cwV 0 hts gX7_surveyed_X4_refresh rfl rfl rfl (by decide +kernel) ⟨Nat.le_of_ble_eq_true rfl, Nat.le_of_ble_eq_true rfl⟩) (zPreV (wr := []) (wc := zpic G ad X) (q0 := 53) (ci := 4) (q := (RX4, TX4, 5)) hP hD hE hS hA rfl p_53) rfl rfl hl.1 rfl (lv_room (Nat.le_of_ble_eq_true rfl)) dX7_surveyed_4 ⟨Nat.le_of_ble_eq_true rfl, Nat.le_of_ble_eq_true rfl⟩) hP hD hS hA (fun _ _ H locs hf hP hD hS => ?_)
  obtain ⟨X1, rfl, hX1, rfl⟩ := hf
  have hP : va_P G.1 vwCl (zpic G ad X1) H := hP
  have hD : va_D A (zpic G ad X1) := hD
  refine W.eq (g2 := F0 m 7 ls []) rfl ?_
  refine lv_aload_n hx hb dX7_surveyed_7 rfl (lv_at hl 0 rfl) ?_
  refine va_get (D := G.1) (ci := 7) (v := .ref (ad 53)) (C := RX7) (T := TX7) (N := 8) hx hb hts hw7 hown hE.1 hP 52 p_52 rfl 2 (by decide) hf24 (fun _ h9 => h9) rfl dX7_surveyed_8 ?_
  exact zend_a hx hb hr hlocks (Or.inl ⟨_, rfl⟩) hP hD hS (Nat.le_of_ble_eq_true rfl) (Nat.le_of_ble_eq_true rfl) dX7_surveyed_11 ⟨_, rfl, hX1, rfl⟩

set_option maxHeartbeats 4000000 in
set_option maxRecDepth 100000 in
/-- decides -/
theorem c_X7_decides (l : Launch) (G : zG) (ad : Nat → Nat) (X : Nat → Nat → Int) (q : Nat) (hV : zV X) (hKs : zKS X) (hq : q < zN X 0) : zR l G yX7_decides wsX7_decides { frames := 4, cells := 0, slots := 0, locals := 91 } (zpic G ad X) [.ref (ad 52), .int (zi (q : Int))] (zu G ad (fun w Y => w = zDc X q ∧ zSd X Y)) 0 0 := by
  refine zR_of (cc := cX7_decides) (maxL := 2) (rt := (some .int)) (by decide) rfl (Nat.le_of_ble_eq_true rfl) ?_
  intro p e s m below meth c A ls hx hb hml hr hts hown hlocks hin0 hA hE hP hD hS hl
  have hl : lv_has ls 2 [(0, .ref (ad 52)), (1, .int (zi (q : Int)))] := hl
  have hown : s.vm.findClass RX7 = some m.cls := hown
  have hn := hV.n (Or.inl rfl : zIsW 0)
  refine lv_aload_n hx hb dX7_decides_0 rfl (lv_at hl 0 rfl) ?_
  refine lv_iload_n hx hb dX7_decides_1 rfl (lv_at hl 1 rfl) ?_
  refine zcall (wr := []) (va_runV (As := [.int (zi (q : Int))]) (rest := []) ⟨hx, hb, hml, hown, hts⟩ (c_X7_needRule l G ad X q hV (by omega) s.heap.size) (cwV 1 hts gX7_decides_X7_needRule rfl rfl rfl (by decide +kernel) ⟨Nat.le_of_ble_eq_true rfl, Nat.le_of_ble_eq_true rfl⟩) (zPreV (wr := []) (wc := zpic G ad X) (q0 := 52) (ci := 7) (q := (RX7, TX7, 8)) hP hD hE hS hA rfl p_52) rfl rfl hl.1 rfl (lv_room (Nat.le_of_ble_eq_true rfl)) dX7_decides_2 ⟨Nat.le_of_ble_eq_true rfl, Nat.le_of_ble_eq_true rfl⟩) hP hD hS hA (fun _ _ H locs hf hP hD hS => ?_)
  obtain ⟨rfl, rfl⟩ := hf
  have hP : va_P G.1 vwCl (zpic G ad X) H := hP
  have hD : va_D A (zpic G ad X) := hD
  refine W.eq (g2 := F0 m 5 ls []) rfl ?_
  refine lv_aload_n hx hb dX7_decides_5 rfl (lv_at hl 0 rfl) ?_
  refine zcall (wr := []) (va_runV (As := []) (rest := []) ⟨hx, hb, hml, hown, hts⟩ (c_X7_surveyed l G ad X hV (by omega) H.size) (cwV 0 hts gX7_decides_X7_surveyed rfl rfl rfl (by decide +kernel) ⟨Nat.le_of_ble_eq_true rfl, Nat.le_of_ble_eq_true rfl⟩) (zPreV (wr := []) (wc := zpic G ad X) (q0 := 52) (ci := 7) (q := (RX7, TX7, 8)) hP hD hE hS hA rfl p_52) rfl rfl hl.1 rfl (lv_room (Nat.le_of_ble_eq_true rfl)) dX7_decides_6 ⟨Nat.le_of_ble_eq_true rfl, Nat.le_of_ble_eq_true rfl⟩) hP hD hS hA (fun _ _ H locs hf hP hD hS => ?_)
  obtain ⟨X1, rfl, hX1, rfl⟩ := hf
  have hP : va_P G.1 vwCl (zpic G ad X1) H := hP
  have hD : va_D A (zpic G ad X1) := hD
  refine W.eq (g2 := F0 m 9 ls [.ref (ad 53)]) rfl ?_
  have hw1 : zWe X X1 := hX1.we
  have hV1 : zV X1 := hw1.v hV
  have hn1 : zN X1 0 = zN X 0 := hw1.n (Or.inl rfl : zIsW 0)
  have hsv1 : zSv X1 X1 := hX1.sv hV
  refine lv_iload_n hx hb dX7_decides_9 rfl (lv_at hl 1 rfl) ?_
  refine zcall (wr := []) (va_runV (As := [.int (zi (q : Int))]) (rest := []) ⟨hx, hb, hml, hown, hts⟩ (c_X4_amountOf l G ad X1 q hV1 hsv1 (by omega) H.size) (cwV 1 hts gX7_decides_X4_amountOf rfl rfl rfl (by decide +kernel) ⟨Nat.le_of_ble_eq_true rfl, Nat.le_of_ble_eq_true rfl⟩) (zPreV (wr := []) (wc := zpic G ad X1) (q0 := 53) (ci := 4) (q := (RX4, TX4, 5)) hP hD hE hS hA rfl p_53) rfl rfl hl.1 rfl (lv_room (Nat.le_of_ble_eq_true rfl)) dX7_decides_10 ⟨Nat.le_of_ble_eq_true rfl, Nat.le_of_ble_eq_true rfl⟩) hP hD hS hA (fun _ _ H locs hf hP hD hS => ?_)
  obtain ⟨v1, rfl, hv1, rfl⟩ := hf
  have hP : va_P G.1 vwCl (zpic G ad X1) H := hP
  have hD : va_D A (zpic G ad X1) := hD
  refine W.eq (g2 := F0 m 13 ls [.int (zi v1)]) rfl ?_
  exact zend_i hx hb hr hlocks hP hD hS (Nat.le_of_ble_eq_true rfl) (Nat.le_of_ble_eq_true rfl) dX7_decides_13 ⟨_, _, rfl, ⟨hv1.trans (hw1.dc hV q), hX1⟩, rfl⟩

set_option maxHeartbeats 4000000 in
set_option maxRecDepth 100000 in
/-- allowed -/
theorem c_X7_allowed (l : Launch) (G : zG) (ad : Nat → Nat) (X : Nat → Nat → Int) (hV : zV X) (hKs : zKS X) : zR l G yX7_allowed wsX7_allowed { frames := 4, cells := 0, slots := 0, locals := 91 } (zpic G ad X) [.ref (ad 52)] (zu G ad (fun w Y => w = zAll X 255 ∧ zSd X Y)) 0 0 := by
  refine zR_of (cc := cX7_allowed) (maxL := 1) (rt := (some .int)) (by decide) rfl (Nat.le_of_ble_eq_true rfl) ?_
  intro p e s m below meth c A ls hx hb hml hr hts hown hlocks hin0 hA hE hP hD hS hl
  have hl : lv_has ls 1 [(0, .ref (ad 52))] := hl
  have hown : s.vm.findClass RX7 = some m.cls := hown
  have hn := hV.n (Or.inl rfl : zIsW 0)
  refine lv_aload_n hx hb dX7_allowed_0 rfl (lv_at hl 0 rfl) ?_
  refine zcall (wr := []) (va_runV (As := []) (rest := []) ⟨hx, hb, hml, hown, hts⟩ (c_X7_surveyed l G ad X hV (by omega) s.heap.size) (cwV 0 hts gX7_allowed_X7_surveyed rfl rfl rfl (by decide +kernel) ⟨Nat.le_of_ble_eq_true rfl, Nat.le_of_ble_eq_true rfl⟩) (zPreV (wr := []) (wc := zpic G ad X) (q0 := 52) (ci := 7) (q := (RX7, TX7, 8)) hP hD hE hS hA rfl p_52) rfl rfl hl.1 rfl (lv_room (Nat.le_of_ble_eq_true rfl)) dX7_allowed_1 ⟨Nat.le_of_ble_eq_true rfl, Nat.le_of_ble_eq_true rfl⟩) hP hD hS hA (fun _ _ H locs hf hP hD hS => ?_)
  obtain ⟨X1, rfl, hX1, rfl⟩ := hf
  have hP : va_P G.1 vwCl (zpic G ad X1) H := hP
  have hD : va_D A (zpic G ad X1) := hD
  refine W.eq (g2 := F0 m 4 ls [.ref (ad 53)]) rfl ?_
  have hw1 : zWe X X1 := hX1.we
  have hV1 : zV X1 := hw1.v hV
  have hn1 : zN X1 0 = zN X 0 := hw1.n (Or.inl rfl : zIsW 0)
  have hsv1 : zSv X1 X1 := hX1.sv hV
  refine lv_sipush (v := zi 255) hx hb dX7_allowed_4 (by decide +kernel) ?_
  refine zti (v := zi ((255 : Nat) : Int)) rfl ?_
  refine zcall (wr := []) (va_runV (As := [.int (zi ((255 : Nat) : Int))]) (rest := []) ⟨hx, hb, hml, hown, hts⟩ (c_X4_amountAllowed l G ad X1 (255 : Nat) hV1 hsv1 (by omega) H.size) (cwV 1 hts gX7_allowed_X4_amountAllowed rfl rfl rfl (by decide +kernel) ⟨Nat.le_of_ble_eq_true rfl, Nat.le_of_ble_eq_true rfl⟩) (zPreV (wr := []) (wc := zpic G ad X1) (q0 := 53) (ci := 4) (q := (RX4, TX4, 5)) hP hD hE hS hA rfl p_53) rfl rfl hl.1 rfl (lv_room (Nat.le_of_ble_eq_true rfl)) dX7_allowed_7 ⟨Nat.le_of_ble_eq_true rfl, Nat.le_of_ble_eq_true rfl⟩) hP hD hS hA (fun _ _ H locs hf hP hD hS => ?_)
  obtain ⟨v1, rfl, hv1, rfl⟩ := hf
  have hP : va_P G.1 vwCl (zpic G ad X1) H := hP
  have hD : va_D A (zpic G ad X1) := hD
  refine W.eq (g2 := F0 m 10 ls [.int (zi v1)]) rfl ?_
  exact zend_i hx hb hr hlocks hP hD hS (Nat.le_of_ble_eq_true rfl) (Nat.le_of_ble_eq_true rfl) dX7_allowed_10 ⟨_, _, rfl, ⟨hv1.trans (hw1.all hV 255), hX1⟩, rfl⟩

set_option maxHeartbeats 4000000 in
set_option maxRecDepth 100000 in
/-- allowedWithout -/
theorem c_X7_allowedWithout (l : Launch) (G : zG) (ad : Nat → Nat) (X : Nat → Nat → Int) (q : Nat) (hV : zV X) (hKs : zKS X) (hq : q < zN X 0) : zR l G yX7_allowedWithout wsX7_allowedWithout { frames := 4, cells := 0, slots := 0, locals := 91 } (zpic G ad X) [.ref (ad 52), .int (zi (q : Int))] (zu G ad (fun w Y => w = zAll X (255 - 2 ^ q) ∧ zSd X Y)) 0 0 := by
  refine zR_of (cc := cX7_allowedWithout) (maxL := 2) (rt := (some .int)) (by decide) rfl (Nat.le_of_ble_eq_true rfl) ?_
  intro p e s m below meth c A ls hx hb hml hr hts hown hlocks hin0 hA hE hP hD hS hl
  have hl : lv_has ls 2 [(0, .ref (ad 52)), (1, .int (zi (q : Int)))] := hl
  have hown : s.vm.findClass RX7 = some m.cls := hown
  have hn := hV.n (Or.inl rfl : zIsW 0)
  refine lv_aload_n hx hb dX7_allowedWithout_0 rfl (lv_at hl 0 rfl) ?_
  refine lv_iload_n hx hb dX7_allowedWithout_1 rfl (lv_at hl 1 rfl) ?_
  refine zcall (wr := []) (va_runV (As := [.int (zi (q : Int))]) (rest := []) ⟨hx, hb, hml, hown, hts⟩ (c_X7_needRule l G ad X q hV (by omega) s.heap.size) (cwV 1 hts gX7_allowedWithout_X7_needRule rfl rfl rfl (by decide +kernel) ⟨Nat.le_of_ble_eq_true rfl, Nat.le_of_ble_eq_true rfl⟩) (zPreV (wr := []) (wc := zpic G ad X) (q0 := 52) (ci := 7) (q := (RX7, TX7, 8)) hP hD hE hS hA rfl p_52) rfl rfl hl.1 rfl (lv_room (Nat.le_of_ble_eq_true rfl)) dX7_allowedWithout_2 ⟨Nat.le_of_ble_eq_true rfl, Nat.le_of_ble_eq_true rfl⟩) hP hD hS hA (fun _ _ H locs hf hP hD hS => ?_)
  obtain ⟨rfl, rfl⟩ := hf
  have hP : va_P G.1 vwCl (zpic G ad X) H := hP
  have hD : va_D A (zpic G ad X) := hD
  refine W.eq (g2 := F0 m 5 ls []) rfl ?_
  refine lv_aload_n hx hb dX7_allowedWithout_5 rfl (lv_at hl 0 rfl) ?_
  refine zcall (wr := []) (va_runV (As := []) (rest := []) ⟨hx, hb, hml, hown, hts⟩ (c_X7_surveyed l G ad X hV (by omega) H.size) (cwV 0 hts gX7_allowedWithout_X7_surveyed rfl rfl rfl (by decide +kernel) ⟨Nat.le_of_ble_eq_true rfl, Nat.le_of_ble_eq_true rfl⟩) (zPreV (wr := []) (wc := zpic G ad X) (q0 := 52) (ci := 7) (q := (RX7, TX7, 8)) hP hD hE hS hA rfl p_52) rfl rfl hl.1 rfl (lv_room (Nat.le_of_ble_eq_true rfl)) dX7_allowedWithout_6 ⟨Nat.le_of_ble_eq_true rfl, Nat.le_of_ble_eq_true rfl⟩) hP hD hS hA (fun _ _ H locs hf hP hD hS => ?_)
  obtain ⟨X1, rfl, hX1, rfl⟩ := hf
  have hP : va_P G.1 vwCl (zpic G ad X1) H := hP
  have hD : va_D A (zpic G ad X1) := hD
  refine W.eq (g2 := F0 m 9 ls [.ref (ad 53)]) rfl ?_
  have hw1 : zWe X X1 := hX1.we
  have hV1 : zV X1 := hw1.v hV
  have hn1 : zN X1 0 = zN X 0 := hw1.n (Or.inl rfl : zIsW 0)
  have hsv1 : zSv X1 X1 := hX1.sv hV
  refine lv_sipush (v := zi 255) hx hb dX7_allowedWithout_9 (by decide +kernel) ?_
  refine lv_iconst (v := zi 1) hx hb dX7_allowedWithout_12 rfl ?_
  refine lv_iload_n hx hb dX7_allowedWithout_13 rfl (lv_at hl 1 rfl) ?_
  refine lv_ishl hx hb dX7_allowedWithout_14 (zti (v := zi ((2 ^ q : Nat) : Int)) (zi_shl1 (by omega)) ?_)
  refine lv_isub hx hb dX7_allowedWithout_15 (zti (v := zi (255 - ((2 ^ q : Nat) : Int))) (zi_sub _ _) ?_)
  have hq2 : 2 ^ q < 256 := Nat.lt_of_lt_of_le (z2_lt (show q < 8 by omega)) (by decide)
  refine zti (v := zi ((255 - 2 ^ q : Nat) : Int)) (congrArg zi (by omega)) ?_
  refine zcall (wr := []) (va_runV (As := [.int (zi ((255 - 2 ^ q : Nat) : Int))]) (rest := []) ⟨hx, hb, hml, hown, hts⟩ (c_X4_amountAllowed l G ad X1 (255 - 2 ^ q : Nat) hV1 hsv1 (Nat.lt_of_le_of_lt (Nat.sub_le _ _) (by decide)) H.size) (cwV 1 hts gX7_allowedWithout_X4_amountAllowed rfl rfl rfl (by decide +kernel) ⟨Nat.le_of_ble_eq_true rfl, Nat.le_of_ble_eq_true rfl⟩) (zPreV (wr := []) (wc := zpic G ad X1) (q0 := 53) (ci := 4) (q := (RX4, TX4, 5)) hP hD hE hS hA rfl p_53) rfl rfl hl.1 rfl (lv_room (Nat.le_of_ble_eq_true rfl)) dX7_allowedWithout_16 ⟨Nat.le_of_ble_eq_true rfl, Nat.le_of_ble_eq_true rfl⟩) hP hD hS hA (fun _ _ H locs hf hP hD hS => ?_)
  obtain ⟨v1, rfl, hv1, rfl⟩ := hf
  have hP : va_P G.1 vwCl (zpic G ad X1) H := hP
  have hD : va_D A (zpic G ad X1) := hD
  refine W.eq (g2 := F0 m 19 ls [.int (zi v1)]) rfl ?_
  exact zend_i hx hb hr hlocks hP hD hS (Nat.le_of_ble_eq_true rfl) (Nat.le_of_ble_eq_true rfl) dX7_allowedWithout_19 ⟨_, _, rfl, ⟨hv1.trans (hw1.all hV _), hX1⟩, rfl⟩

set_option maxHeartbeats 4000000 in
set_option maxRecDepth 100000 in
/-- changedByMove -/
theorem c_X7_changedByMove (l : Launch) (G : zG) (ad : Nat → Nat) (X : Nat → Nat → Int) (q : Nat) (hV : zV X) (hKs : zKS X) (hq : q < zN X 0) : zR l G yX7_changedByMove wsX7_changedByMove { frames := 4, cells := 0, slots := 0, locals := 95 } (zpic G ad X) [.ref (ad 52), .int (zi (q : Int)), .int (zi (q : Int))] (zu G ad (fun w Y => w = 0 ∧ zSd X Y)) 0 0 := by
  refine zR_of (cc := cX7_changedByMove) (maxL := 3) (rt := (some .int)) (by decide) rfl (Nat.le_of_ble_eq_true rfl) ?_
  intro p e s m below meth c A ls hx hb hml hr hts hown hlocks hin0 hA hE hP hD hS hl
  have hl : lv_has ls 3 [(0, .ref (ad 52)), (1, .int (zi (q : Int))), (2, .int (zi (q : Int)))] := hl
  have hown : s.vm.findClass RX7 = some m.cls := hown
  have hn := hV.n (Or.inl rfl : zIsW 0)
  refine lv_aload_n hx hb dX7_changedByMove_0 rfl (lv_at hl 0 rfl) ?_
  refine lv_iload_n hx hb dX7_changedByMove_1 rfl (lv_at hl 1 rfl) ?_
  refine zcall (wr := []) (va_runV (As := [.int (zi (q : Int))]) (rest := []) ⟨hx, hb, hml, hown, hts⟩ (c_X7_needRule l G ad X q hV (by omega) s.heap.size) (cwV 1 hts gX7_changedByMove_X7_needRule rfl rfl rfl (by decide +kernel) ⟨Nat.le_of_ble_eq_true rfl, Nat.le_of_ble_eq_true rfl⟩) (zPreV (wr := []) (wc := zpic G ad X) (q0 := 52) (ci := 7) (q := (RX7, TX7, 8)) hP hD hE hS hA rfl p_52) rfl rfl hl.1 rfl (lv_room (Nat.le_of_ble_eq_true rfl)) dX7_changedByMove_2 ⟨Nat.le_of_ble_eq_true rfl, Nat.le_of_ble_eq_true rfl⟩) hP hD hS hA (fun _ _ H locs hf hP hD hS => ?_)
  obtain ⟨rfl, rfl⟩ := hf
  have hP : va_P G.1 vwCl (zpic G ad X) H := hP
  have hD : va_D A (zpic G ad X) := hD
  refine W.eq (g2 := F0 m 5 ls []) rfl ?_
  refine lv_aload_n hx hb dX7_changedByMove_5 rfl (lv_at hl 0 rfl) ?_
  refine lv_iload_n hx hb dX7_changedByMove_6 rfl (lv_at hl 2 rfl) ?_
  refine zcall (wr := []) (va_runV (As := [.int (zi (q : Int))]) (rest := []) ⟨hx, hb, hml, hown, hts⟩ (c_X7_needRule l G ad X q hV (by omega) H.size) (cwV 1 hts gX7_changedByMove_X7_needRule rfl rfl rfl (by decide +kernel) ⟨Nat.le_of_ble_eq_true rfl, Nat.le_of_ble_eq_true rfl⟩) (zPreV (wr := []) (wc := zpic G ad X) (q0 := 52) (ci := 7) (q := (RX7, TX7, 8)) hP hD hE hS hA rfl p_52) rfl rfl hl.1 rfl (lv_room (Nat.le_of_ble_eq_true rfl)) dX7_changedByMove_7 ⟨Nat.le_of_ble_eq_true rfl, Nat.le_of_ble_eq_true rfl⟩) hP hD hS hA (fun _ _ H locs hf hP hD hS => ?_)
  obtain ⟨rfl, rfl⟩ := hf
  have hP : va_P G.1 vwCl (zpic G ad X) H := hP
  have hD : va_D A (zpic G ad X) := hD
  refine W.eq (g2 := F0 m 10 ls []) rfl ?_
  refine lv_aload_n hx hb dX7_changedByMove_10 rfl (lv_at hl 0 rfl) ?_
  refine zcall (wr := []) (va_runV (As := []) (rest := []) ⟨hx, hb, hml, hown, hts⟩ (c_X7_surveyed l G ad X hV (by omega) H.size) (cwV 0 hts gX7_changedByMove_X7_surveyed rfl rfl rfl (by decide +kernel) ⟨Nat.le_of_ble_eq_true rfl, Nat.le_of_ble_eq_true rfl⟩) (zPreV (wr := []) (wc := zpic G ad X) (q0 := 52) (ci := 7) (q := (RX7, TX7, 8)) hP hD hE hS hA rfl p_52) rfl rfl hl.1 rfl (lv_room (Nat.le_of_ble_eq_true rfl)) dX7_changedByMove_11 ⟨Nat.le_of_ble_eq_true rfl, Nat.le_of_ble_eq_true rfl⟩) hP hD hS hA (fun _ _ H locs hf hP hD hS => ?_)
  obtain ⟨X1, rfl, hX1, rfl⟩ := hf
  have hP : va_P G.1 vwCl (zpic G ad X1) H := hP
  have hD : va_D A (zpic G ad X1) := hD
  refine W.eq (g2 := F0 m 14 ls [.ref (ad 53)]) rfl ?_
  have hw1 : zWe X X1 := hX1.we
  have hV1 : zV X1 := hw1.v hV
  have hn1 : zN X1 0 = zN X 0 := hw1.n (Or.inl rfl : zIsW 0)
  have hsv1 : zSv X1 X1 := hX1.sv hV
  refine lv_iload_n hx hb dX7_changedByMove_14 rfl (lv_at hl 1 rfl) ?_
  refine lv_iload_n hx hb dX7_changedByMove_15 rfl (lv_at hl 2 rfl) ?_
  refine zcall (wr := []) (va_runV (As := [.int (zi (q : Int)), .int (zi (q : Int))]) (rest := []) ⟨hx, hb, hml, hown, hts⟩ (c_X4_amountMoved l G ad X1 q hV1 (by omega) H.size) (cwV 2 hts gX7_changedByMove_X4_amountMoved rfl rfl rfl (by decide +kernel) ⟨Nat.le_of_ble_eq_true rfl, Nat.le_of_ble_eq_true rfl⟩) (zPreV (wr := []) (wc := zpic G ad X1) (q0 := 53) (ci := 4) (q := (RX4, TX4, 5)) hP hD hE hS hA rfl p_53) rfl rfl hl.1 rfl (lv_room (Nat.le_of_ble_eq_true rfl)) dX7_changedByMove_16 ⟨Nat.le_of_ble_eq_true rfl, Nat.le_of_ble_eq_true rfl⟩) hP hD hS hA (fun _ _ H locs hf hP hD hS => ?_)
  obtain ⟨v1, rfl, hv1, rfl⟩ := hf
  have hP : va_P G.1 vwCl (zpic G ad X1) H := hP
  have hD : va_D A (zpic G ad X1) := hD
  refine W.eq (g2 := F0 m 19 ls [.int (zi v1)]) rfl ?_
  exact zend_i hx hb hr hlocks hP hD hS (Nat.le_of_ble_eq_true rfl) (Nat.le_of_ble_eq_true rfl) dX7_changedByMove_19 ⟨_, _, rfl, ⟨hv1, hX1⟩, rfl⟩

set_option maxHeartbeats 4000000 in
set_option maxRecDepth 100000 in
/-- state -/
theorem c_X7_state (l : Launch) (G : zG) (ad : Nat → Nat) (X : Nat → Nat → Int) (q : Nat) (hV : zV X) (hKs : zKS X) (hq : q < zN X 0) : zR l G yX7_state wsX7_state { frames := 4, cells := 0, slots := 0, locals := 91 } (zpic G ad X) [.ref (ad 52), .int (zi (q : Int))] (zu G ad (fun w Y => w = zSt X q ∧ zSd X Y)) 0 0 := by
  refine zR_of (cc := cX7_state) (maxL := 3) (rt := (some .int)) (by decide) rfl (Nat.le_of_ble_eq_true rfl) ?_
  intro p e s m below meth c A ls hx hb hml hr hts hown hlocks hin0 hA hE hP hD hS hl
  have hl : lv_has ls 3 [(0, .ref (ad 52)), (1, .int (zi (q : Int)))] := hl
  have hown : s.vm.findClass RX7 = some m.cls := hown
  have hn := hV.n (Or.inl rfl : zIsW 0)
  have hw7 : ∀ w ∈ u_ws RX7 TX7 8, w ∈ wsX7_state := by decide +kernel
  have hf10 := hts (.fieldLink RX7 10 "Nettle" "wall" "LNettle$Wall;") (by decide +kernel)
  have hw6 : ∀ w ∈ u_ws RX6 TX6 3, w ∈ wsX7_state := by decide +kernel
  have hf104 := hts (.fieldLink RX7 104 "Nettle$Wall" "rows" "[LNettle$Rule;") (by decide +kernel)
  have hw3 : ∀ w ∈ u_ws RX3 TX3 4, w ∈ wsX7_state := by decide +kernel
  have hf120 := hts (.fieldLink RX7 120 "Nettle$Rule" "verdict" "I") (by decide +kernel)
  refine lv_aload_n hx hb dX7_state_0 rfl (lv_at hl 0 rfl) ?_
  refine lv_iload_n hx hb dX7_state_1 rfl (lv_at hl 1 rfl) ?_
  refine zcall (wr := []) (va_runV (As := [.int (zi (q : Int))]) (rest := []) ⟨hx, hb, hml, hown, hts⟩ (c_X7_needRule l G ad X q hV (by omega) s.heap.size) (cwV 1 hts gX7_state_X7_needRule rfl rfl rfl (by decide +kernel) ⟨Nat.le_of_ble_eq_true rfl, Nat.le_of_ble_eq_true rfl⟩) (zPreV (wr := []) (wc := zpic G ad X) (q0 := 52) (ci := 7) (q := (RX7, TX7, 8)) hP hD hE hS hA rfl p_52) rfl rfl hl.1 rfl (lv_room (Nat.le_of_ble_eq_true rfl)) dX7_state_2 ⟨Nat.le_of_ble_eq_true rfl, Nat.le_of_ble_eq_true rfl⟩) hP hD hS hA (fun _ _ H locs hf hP hD hS => ?_)
  obtain ⟨rfl, rfl⟩ := hf
  have hP : va_P G.1 vwCl (zpic G ad X) H := hP
  have hD : va_D A (zpic G ad X) := hD
  refine W.eq (g2 := F0 m 5 ls []) rfl ?_
  refine lv_aload_n hx hb dX7_state_5 rfl (lv_at hl 0 rfl) ?_
  refine zcall (wr := []) (va_runV (As := []) (rest := []) ⟨hx, hb, hml, hown, hts⟩ (c_X7_surveyed l G ad X hV (by omega) H.size) (cwV 0 hts gX7_state_X7_surveyed rfl rfl rfl (by decide +kernel) ⟨Nat.le_of_ble_eq_true rfl, Nat.le_of_ble_eq_true rfl⟩) (zPreV (wr := []) (wc := zpic G ad X) (q0 := 52) (ci := 7) (q := (RX7, TX7, 8)) hP hD hE hS hA rfl p_52) rfl rfl hl.1 rfl (lv_room (Nat.le_of_ble_eq_true rfl)) dX7_state_6 ⟨Nat.le_of_ble_eq_true rfl, Nat.le_of_ble_eq_true rfl⟩) hP hD hS hA (fun _ _ H locs hf hP hD hS => ?_)
  obtain ⟨X1, rfl, hX1, rfl⟩ := hf
  have hP : va_P G.1 vwCl (zpic G ad X1) H := hP
  have hD : va_D A (zpic G ad X1) := hD
  refine W.eq (g2 := F0 m 9 ls [.ref (ad 53)]) rfl ?_
  have hw1 : zWe X X1 := hX1.we
  have hV1 : zV X1 := hw1.v hV
  have hn1 : zN X1 0 = zN X 0 := hw1.n (Or.inl rfl : zIsW 0)
  have hsv1 : zSv X1 X1 := hX1.sv hV
  refine lv_iload_n hx hb dX7_state_9 rfl (lv_at hl 1 rfl) ?_
  refine zcall (wr := []) (va_runV (As := [.int (zi (q : Int))]) (rest := []) ⟨hx, hb, hml, hown, hts⟩ (c_X4_isDead l G ad X1 q hV1 hsv1 (by omega) H.size) (cwV 1 hts gX7_state_X4_isDead rfl rfl rfl (by decide +kernel) ⟨Nat.le_of_ble_eq_true rfl, Nat.le_of_ble_eq_true rfl⟩) (zPreV (wr := []) (wc := zpic G ad X1) (q0 := 53) (ci := 4) (q := (RX4, TX4, 5)) hP hD hE hS hA rfl p_53) rfl rfl hl.1 rfl (lv_room (Nat.le_of_ble_eq_true rfl)) dX7_state_10 ⟨Nat.le_of_ble_eq_true rfl, Nat.le_of_ble_eq_true rfl⟩) hP hD hS hA (fun _ _ H locs hf hP hD hS => ?_)
  obtain ⟨v1, rfl, hv1, rfl⟩ := hf
  have hP : va_P G.1 vwCl (zpic G ad X1) H := hP
  have hD : va_D A (zpic G ad X1) := hD
  refine W.eq (g2 := F0 m 13 ls [.int (zi v1)]) rfl ?_
  refine z0_ne (tgt := 33) hx hb dX7_state_13 (by decide) (by omega) (fun h13 => ?_) (fun h13 => ?_)
  · have hdz : zDc X q = 0 := by rw [← hw1.dc hV q]; rcases hv1 with h | h; exact h.2; omega
    refine lv_aload_n hx hb dX7_state_33 rfl (lv_at hl 0 rfl) ?_
    refine va_get (D := G.1) (ci := 7) (v := .ref (ad 0)) (C := RX7) (T := TX7) (N := 8) hx hb hts hw7 hown hE.1 hP 52 p_52 rfl 0 (by decide) hf10 (fun _ h9 => h9) rfl dX7_state_34 ?_
    refine lv_iload_n hx hb dX7_state_37 rfl (lv_at hl 1 rfl) ?_
    refine zcall (wr := []) (va_runV (As := [.int (zi (q : Int))]) (rest := []) ⟨hx, hb, hml, hown, hts⟩ (c_X6_firstCover l G ad X1 0 q hV1 (Or.inl rfl) (by omega) H.size) (cwV 1 hts gX7_state_X6_firstCover rfl rfl rfl (by decide +kernel) ⟨Nat.le_of_ble_eq_true rfl, Nat.le_of_ble_eq_true rfl⟩) (zPreV (wr := []) (wc := zpic G ad X1) (q0 := 0) (ci := 6) (q := (RX6, TX6, 3)) hP hD hE hS hA rfl (p_w (Or.inl rfl))) rfl rfl hl.1 rfl (lv_room (Nat.le_of_ble_eq_true rfl)) dX7_state_38 ⟨Nat.le_of_ble_eq_true rfl, Nat.le_of_ble_eq_true rfl⟩) hP hD hS hA (fun _ _ H locs hf hP hD hS => ?_)
    obtain ⟨v2, rfl, hv2, rfl⟩ := hf
    have hP : va_P G.1 vwCl (zpic G ad X1) H := hP
    have hD : va_D A (zpic G ad X1) := hD
    refine W.eq (g2 := F0 m 41 ls [.int (zi v2)]) rfl ?_
    have ec : v2 = zCvF X q := ((hw1.isC hV (by omega) hv2.2.1).mp hv2.2.2).f hv2.2.1
    refine lv_istore_n (lv' := [(2, .int (zi v2)), (0, .ref (ad 52)), (1, .int (zi (q : Int)))]) hx hb dX7_state_41 rfl hl (by decide) rfl (fun ls hl => ?_)
    refine lv_iload_n hx hb dX7_state_42 rfl (lv_at hl 0 rfl) ?_
    refine z0_ge (tgt := 48) hx hb dX7_state_43 (by decide) (by omega) (fun h43 => ?_) (fun h43 => ?_)
    · obtain ⟨k, rfl⟩ : ∃ k : Nat, v2 = (k : Int) := ⟨v2.toNat, by omega⟩
      have ek : ((k : Int)).toNat = k := Int.toNat_natCast k
      have ev1 : X (zr X 0 k) 0 = X1 (zr X1 0 k) 0 := by rw [hw1.r (Or.inl rfl : zIsW 0), (hw1.cell hV (Or.inl rfl : zIsW 0) (show k < 8 by omega)).1]
      have ev2 : X (zr X 0 q) 0 = X1 (zr X1 0 q) 0 := by rw [hw1.r (Or.inl rfl : zIsW 0), (hw1.cell hV (Or.inl rfl : zIsW 0) (show q < 8 by omega)).1]
      have hk4 := hV1.r4 (hV1.isR (Or.inl rfl : zIsW 0) (show k < 8 by omega))
      have hq4 := hV1.r4 (hV1.isR (Or.inl rfl : zIsW 0) (show q < 8 by omega))
      refine lv_aload_n hx hb dX7_state_48 rfl (lv_at hl 1 rfl) ?_
      refine va_get (D := G.1) (ci := 7) (v := .ref (ad 0)) (C := RX7) (T := TX7) (N := 8) hx hb hts hw7 hown hE.1 hP 52 p_52 rfl 0 (by decide) hf10 (fun _ h9 => h9) rfl dX7_state_49 ?_
      refine va_get (D := G.1) (ci := 6) (v := .ref (ad 1)) (C := RX6) (T := TX6) (N := 3) hx hb hts hw6 hown hE.1 hP 0 (p_w (Or.inl rfl)) rfl 0 (by decide) hf104 (fun _ h9 => h9) rfl dX7_state_52 ?_
      refine lv_iload_n hx hb dX7_state_55 rfl (lv_at hl 0 rfl) ?_
      refine zqld hx hb hE hP (Or.inl rfl) k rfl (by omega) dX7_state_56 ?_
      have hR1 : zIsR (zr X1 0 k) := hV1.isR (Or.inl rfl) (by omega)
      refine va_get (D := G.1) (ci := 3) (v := .int (zi (X1 (zr X1 0 k) 0))) (C := RX3) (T := TX3) (N := 4) hx hb hts hw3 hown hE.1 hP (zr X1 0 k) (p_r hR1) rfl 0 (by decide) hf120 (fun _ h9 => h9) rfl dX7_state_57 ?_
      refine lv_aload_n hx hb dX7_state_60 rfl (lv_at hl 1 rfl) ?_
      refine va_get (D := G.1) (ci := 7) (v := .ref (ad 0)) (C := RX7) (T := TX7) (N := 8) hx hb hts hw7 hown hE.1 hP 52 p_52 rfl 0 (by decide) hf10 (fun _ h9 => h9) rfl dX7_state_61 ?_
      refine va_get (D := G.1) (ci := 6) (v := .ref (ad 1)) (C := RX6) (T := TX6) (N := 3) hx hb hts hw6 hown hE.1 hP 0 (p_w (Or.inl rfl)) rfl 0 (by decide) hf104 (fun _ h9 => h9) rfl dX7_state_64 ?_
      refine lv_iload_n hx hb dX7_state_67 rfl (lv_at hl 2 rfl) ?_
      refine zqld hx hb hE hP (Or.inl rfl) q rfl (by omega) dX7_state_68 ?_
      have hR2 : zIsR (zr X1 0 q) := hV1.isR (Or.inl rfl) (by omega)
      refine va_get (D := G.1) (ci := 3) (v := .int (zi (X1 (zr X1 0 q) 0))) (C := RX3) (T := TX3) (N := 4) hx hb hts hw3 hown hE.1 hP (zr X1 0 q) (p_r hR2) rfl 0 (by decide) hf120 (fun _ h9 => h9) rfl dX7_state_69 ?_
      refine zc_ne (tgt := 79) hx hb dX7_state_72 (by decide) (by omega) (by omega) (fun h72 => ?_) (fun h72 => ?_)
      · refine lv_iconst (v := zi 2) hx hb dX7_state_79 rfl ?_
        exact zend_i hx hb hr hlocks hP hD hS (Nat.le_of_ble_eq_true rfl) (Nat.le_of_ble_eq_true rfl) dX7_state_80 ⟨_, _, rfl, ⟨by unfold zSt; rw [if_pos hdz, if_neg (by omega), ← ec, ek, ev1, ev2, if_neg h72], hX1⟩, rfl⟩
      · refine lv_iconst (v := zi 1) hx hb dX7_state_75 rfl ?_
        refine lv_goto (tgt := 80) hx hb dX7_state_76 (by decide) ?_
        exact zend_i hx hb hr hlocks hP hD hS (Nat.le_of_ble_eq_true rfl) (Nat.le_of_ble_eq_true rfl) dX7_state_80 ⟨_, _, rfl, ⟨by unfold zSt; rw [if_pos hdz, if_neg (by omega), ← ec, ek, ev1, ev2, if_pos h72], hX1⟩, rfl⟩
    · refine lv_iconst (v := zi 3) hx hb dX7_state_46 rfl ?_
      exact zend_i hx hb hr hlocks hP hD hS (Nat.le_of_ble_eq_true rfl) (Nat.le_of_ble_eq_true rfl) dX7_state_47 ⟨_, _, rfl, ⟨by unfold zSt; rw [if_pos hdz, if_pos (by omega)], hX1⟩, rfl⟩
  · have hdz : ¬ zDc X q = 0 := by rw [← hw1.dc hV q]; rcases hv1 with h | h; omega; exact h.2
    refine lv_aload_n hx hb dX7_state_16 rfl (lv_at hl 0 rfl) ?_
    refine zcall (wr := []) (va_runV (As := []) (rest := []) ⟨hx, hb, hml, hown, hts⟩ (c_X7_surveyed l G ad X1 hV1 (hX1.ks hV) H.size) (cwV 0 hts gX7_state_X7_surveyed rfl rfl rfl (by decide +kernel) ⟨Nat.le_of_ble_eq_true rfl, Nat.le_of_ble_eq_true rfl⟩) (zPreV (wr := []) (wc := zpic G ad X1) (q0 := 52) (ci := 7) (q := (RX7, TX7, 8)) hP hD hE hS hA rfl p_52) rfl rfl hl.1 rfl (lv_room (Nat.le_of_ble_eq_true rfl)) dX7_state_17 ⟨Nat.le_of_ble_eq_true rfl, Nat.le_of_ble_eq_true rfl⟩) hP hD hS hA (fun _ _ H locs hf hP hD hS => ?_)
    obtain ⟨X2, rfl, hX2, rfl⟩ := hf
    have hP : va_P G.1 vwCl (zpic G ad X2) H := hP
    have hD : va_D A (zpic G ad X2) := hD
    refine W.eq (g2 := F0 m 20 ls [.ref (ad 53)]) rfl ?_
    have eX : X2 = X1 := hX1.again hX2
    rw [eX] at hP hD
    refine lv_iload_n hx hb dX7_state_20 rfl (lv_at hl 1 rfl) ?_
    refine zcall (wr := []) (va_runV (As := [.int (zi (q : Int))]) (rest := []) ⟨hx, hb, hml, hown, hts⟩ (c_X4_isNeedless l G ad X1 q hV1 hsv1 (by omega) H.size) (cwV 1 hts gX7_state_X4_isNeedless rfl rfl rfl (by decide +kernel) ⟨Nat.le_of_ble_eq_true rfl, Nat.le_of_ble_eq_true rfl⟩) (zPreV (wr := []) (wc := zpic G ad X1) (q0 := 53) (ci := 4) (q := (RX4, TX4, 5)) hP hD hE hS hA rfl p_53) rfl rfl hl.1 rfl (lv_room (Nat.le_of_ble_eq_true rfl)) dX7_state_21 ⟨Nat.le_of_ble_eq_true rfl, Nat.le_of_ble_eq_true rfl⟩) hP hD hS hA (fun _ _ H locs hf hP hD hS => ?_)
    obtain ⟨v2, rfl, hv2, rfl⟩ := hf
    have hP : va_P G.1 vwCl (zpic G ad X1) H := hP
    have hD : va_D A (zpic G ad X1) := hD
    refine W.eq (g2 := F0 m 24 ls [.int (zi v2)]) rfl ?_
    refine z0_eq (tgt := 31) hx hb dX7_state_24 (by decide) (by omega) (fun h24 => ?_) (fun h24 => ?_)
    · refine lv_iconst (v := zi 0) hx hb dX7_state_31 rfl ?_
      exact zend_i hx hb hr hlocks hP hD hS (Nat.le_of_ble_eq_true rfl) (Nat.le_of_ble_eq_true rfl) dX7_state_32 ⟨_, _, rfl, ⟨by unfold zSt; rw [if_neg hdz, if_neg (fun z => by rcases hv2 with h | h; omega; exact h.2 ((zNl_iff hw1 hV hX1.2.2.2 (by omega)).mpr (zB_iff.mp z)))], hX1⟩, rfl⟩
    · refine lv_iconst (v := zi 4) hx hb dX7_state_27 rfl ?_
      refine lv_goto (tgt := 32) hx hb dX7_state_28 (by decide) ?_
      exact zend_i hx hb hr hlocks hP hD hS (Nat.le_of_ble_eq_true rfl) (Nat.le_of_ble_eq_true rfl) dX7_state_32 ⟨_, _, rfl, ⟨by unfold zSt; rw [if_neg hdz, if_pos (zB_iff.mpr ((zNl_iff hw1 hV hX1.2.2.2 (by omega)).mp (by rcases hv2 with h | h; exact h.2; omega)))], hX1⟩, rfl⟩
