/-! the helpers of the law -/
theorem dL_narrow_0 : decode cL_narrow 0 = .ok (.aload 5, 2) := by decide +kernel
theorem dL_narrow_2 : decode cL_narrow 2 = .ok (.iconst 0, 1) := by decide +kernel
theorem dL_narrow_3 : decode cL_narrow 3 = .ok (.aload_n 0, 1) := by decide +kernel
theorem dL_narrow_4 : decode cL_narrow 4 = .ok (.iload_n 1, 1) := by decide +kernel
theorem dL_narrow_5 : decode cL_narrow 5 = .ok (.iload_n 2, 1) := by decide +kernel
theorem dL_narrow_6 : decode cL_narrow 6 = .ok (.iload_n 3, 1) := by decide +kernel
theorem dL_narrow_7 : decode cL_narrow 7 = .ok (.iload 4, 2) := by decide +kernel
set_option maxRecDepth 20000 in
theorem ggL_narrow_X7_narrow : GoodIn wsL_narrow wsX7_narrow := goodIn_ca (goodIn_ca (goodIn_r _ [7, 8, 9, 10, 11, 12, 13, 14, 15, 16, 17, 18, 6, 19, 20, 21, 22, 23, 24, 25, 26, 27, 28, 29, 30, 31, 32, 33, 34, 35, 36, 37, 38, 39, 40, 41, 42, 43, 44, 45, 46, 47, 48, 49, 50, 51, 52, 53, 54, 55, 56, 57, 58, 59, 60, 61, 62, 63, 64, 65, 66, 67, 68, 69, 70, 71, 72, 73, 74, 75, 76, 77, 78, 79, 80, 81, 82, 83] (by decide +kernel) (by decide +kernel)) (goodIn_sub (fun _ h => List.mem_cons_of_mem _ (List.mem_append_left _ (List.mem_append_right _ h))) (by decide +kernel))) (goodIn_sub (fun _ h => List.mem_cons_of_mem _ (List.mem_append_right _ h)) (by decide +kernel))
set_option maxRecDepth 20000 in
theorem gL_narrow_X7_narrow : GoodIn wsL_narrow (wsV RL 17 RX7 yX7_narrow wsX7_narrow) := goodIn_app (goodIn_of _ (by decide +kernel)) ggL_narrow_X7_narrow
theorem dL_narrow_9 : decode cL_narrow 9 = .ok (.invokevirtual 17, 3) := by decide +kernel
theorem dL_narrow_17 : decode cL_narrow 17 = .ok (.astore 6, 2) := by decide +kernel
theorem dL_narrow_19 : decode cL_narrow 19 = .ok (.iconst 1, 1) := by decide +kernel
theorem dL_narrow_20 : decode cL_narrow 20 = .ok (.ireturn, 1) := by decide +kernel
theorem dL_turn_0 : decode cL_turn 0 = .ok (.aload_n 3, 1) := by decide +kernel
theorem dL_turn_1 : decode cL_turn 1 = .ok (.iconst 0, 1) := by decide +kernel
theorem dL_turn_2 : decode cL_turn 2 = .ok (.aload_n 0, 1) := by decide +kernel
theorem dL_turn_3 : decode cL_turn 3 = .ok (.iload_n 1, 1) := by decide +kernel
theorem dL_turn_4 : decode cL_turn 4 = .ok (.iload_n 2, 1) := by decide +kernel
set_option maxRecDepth 20000 in
theorem ggL_turn_X7_turn : GoodIn wsL_turn wsX7_turn := goodIn_ca (goodIn_ca (goodIn_r _ [7, 8, 9, 10, 11, 12, 13, 6, 14, 15, 16, 17, 18, 19, 20, 21, 22, 23, 24, 25, 26, 27, 28, 29, 30, 31, 32, 33, 34, 35, 36, 37, 38, 39, 40, 41, 42, 43, 44, 45, 46, 47, 48, 49, 50, 51, 52, 53, 54, 55, 56, 57, 58, 59, 60, 61, 62, 63, 64, 65, 66, 67, 68, 69, 70, 71, 72, 73, 74] (by decide +kernel) (by decide +kernel)) (goodIn_sub (fun _ h => List.mem_cons_of_mem _ (List.mem_append_left _ (List.mem_append_right _ h))) (by decide +kernel))) (goodIn_sub (fun _ h => List.mem_cons_of_mem _ (List.mem_append_right _ h)) (by decide +kernel))
set_option maxRecDepth 20000 in
theorem gL_turn_X7_turn : GoodIn wsL_turn (wsV RL 23 RX7 yX7_turn wsX7_turn) := goodIn_app (goodIn_of _ (by decide +kernel)) ggL_turn_X7_turn
theorem dL_turn_5 : decode cL_turn 5 = .ok (.invokevirtual 23, 3) := by decide +kernel
theorem dL_turn_13 : decode cL_turn 13 = .ok (.astore 4, 2) := by decide +kernel
theorem dL_turn_15 : decode cL_turn 15 = .ok (.iconst 1, 1) := by decide +kernel
theorem dL_turn_16 : decode cL_turn 16 = .ok (.ireturn, 1) := by decide +kernel
theorem dL_move_0 : decode cL_move 0 = .ok (.aload_n 3, 1) := by decide +kernel
theorem dL_move_1 : decode cL_move 1 = .ok (.iconst 0, 1) := by decide +kernel
theorem dL_move_2 : decode cL_move 2 = .ok (.aload_n 0, 1) := by decide +kernel
theorem dL_move_3 : decode cL_move 3 = .ok (.iload_n 1, 1) := by decide +kernel
theorem dL_move_4 : decode cL_move 4 = .ok (.iload_n 2, 1) := by decide +kernel
set_option maxRecDepth 20000 in
theorem ggL_move_X7_move : GoodIn wsL_move wsX7_move := goodIn_ca (goodIn_r _ [6, 7, 8, 9, 10, 11, 12, 13, 14, 5, 15, 16, 17, 18, 19, 20, 21, 22, 23, 24, 25, 26, 27, 28, 29, 30, 31, 32, 33, 34, 35, 36, 37, 38, 39, 40, 41, 42, 43, 44, 45, 46, 47, 48, 49, 50, 51, 52, 53, 54, 55, 56, 57, 58, 59, 60, 61, 62, 63, 64, 65, 66, 67, 68, 69, 70, 71, 72] (by decide +kernel) (by decide +kernel)) (goodIn_sub (fun _ h => List.mem_cons_of_mem _ (List.mem_append_right _ h)) (by decide +kernel))
set_option maxRecDepth 20000 in
theorem gL_move_X7_move : GoodIn wsL_move (wsV RL 27 RX7 yX7_move wsX7_move) := goodIn_app (goodIn_of _ (by decide +kernel)) ggL_move_X7_move
theorem dL_move_5 : decode cL_move 5 = .ok (.invokevirtual 27, 3) := by decide +kernel
theorem dL_move_13 : decode cL_move 13 = .ok (.astore 4, 2) := by decide +kernel
theorem dL_move_15 : decode cL_move 15 = .ok (.iconst 1, 1) := by decide +kernel
theorem dL_move_16 : decode cL_move 16 = .ok (.ireturn, 1) := by decide +kernel
theorem dL_drop_0 : decode cL_drop 0 = .ok (.aload_n 2, 1) := by decide +kernel
theorem dL_drop_1 : decode cL_drop 1 = .ok (.iconst 0, 1) := by decide +kernel
theorem dL_drop_2 : decode cL_drop 2 = .ok (.aload_n 0, 1) := by decide +kernel
theorem dL_drop_3 : decode cL_drop 3 = .ok (.iload_n 1, 1) := by decide +kernel
set_option maxRecDepth 20000 in
theorem ggL_drop_X7_drop : GoodIn wsL_drop wsX7_drop := goodIn_ca (goodIn_r _ [6, 7, 8, 9, 10, 11, 5, 12, 13, 14, 15, 16, 17, 18, 19, 20, 21, 22, 23, 24, 25, 26, 27, 28, 29, 30, 31, 32, 33, 34, 35, 36, 37, 38, 39, 40, 41, 42, 43, 44, 45, 46, 47, 48, 49, 50, 51, 52, 53, 54, 55, 56, 57, 58, 59, 60, 61, 62, 63, 64, 65, 66, 67, 68, 69, 70, 71, 72, 73] (by decide +kernel) (by decide +kernel)) (goodIn_sub (fun _ h => List.mem_cons_of_mem _ (List.mem_append_right _ h)) (by decide +kernel))
set_option maxRecDepth 20000 in
theorem gL_drop_X7_drop : GoodIn wsL_drop (wsV RL 30 RX7 yX7_drop wsX7_drop) := goodIn_app (goodIn_of _ (by decide +kernel)) ggL_drop_X7_drop
theorem dL_drop_4 : decode cL_drop 4 = .ok (.invokevirtual 30, 3) := by decide +kernel
theorem dL_drop_12 : decode cL_drop 12 = .ok (.astore_n 3, 1) := by decide +kernel
theorem dL_drop_13 : decode cL_drop 13 = .ok (.iconst 1, 1) := by decide +kernel
theorem dL_drop_14 : decode cL_drop 14 = .ok (.ireturn, 1) := by decide +kernel
theorem dL_ofRule_0 : decode cL_ofRule 0 = .ok (.aload_n 3, 1) := by decide +kernel
theorem dL_ofRule_1 : decode cL_ofRule 1 = .ok (.iconst 0, 1) := by decide +kernel
theorem dL_ofRule_2 : decode cL_ofRule 2 = .ok (.aload_n 0, 1) := by decide +kernel
theorem dL_ofRule_3 : decode cL_ofRule 3 = .ok (.iload_n 1, 1) := by decide +kernel
theorem dL_ofRule_4 : decode cL_ofRule 4 = .ok (.iload_n 2, 1) := by decide +kernel
set_option maxRecDepth 20000 in
theorem ggL_ofRule_X7_ofRule : GoodIn wsL_ofRule wsX7_ofRule := goodIn_ca (goodIn_ca (goodIn_r _ [7, 8, 9, 10, 11, 12, 13, 14, 15, 16, 6, 17, 18, 19, 20, 21, 22, 23, 24, 25, 26, 27, 28, 29, 30, 31, 32, 33, 34, 35, 36, 37, 38, 39, 40] (by decide +kernel) (by decide +kernel)) (goodIn_sub (fun _ h => List.mem_cons_of_mem _ (List.mem_append_left _ (List.mem_append_right _ h))) (by decide +kernel))) (goodIn_sub (fun _ h => List.mem_cons_of_mem _ (List.mem_append_right _ h)) (by decide +kernel))
set_option maxRecDepth 20000 in
theorem gL_ofRule_X7_ofRule : GoodIn wsL_ofRule (wsV RL 33 RX7 yX7_ofRule wsX7_ofRule) := goodIn_app (goodIn_of _ (by decide +kernel)) ggL_ofRule_X7_ofRule
theorem dL_ofRule_5 : decode cL_ofRule 5 = .ok (.invokevirtual 33, 3) := by decide +kernel
theorem dL_ofRule_13 : decode cL_ofRule 13 = .ok (.astore 4, 2) := by decide +kernel
theorem dL_ofRule_15 : decode cL_ofRule 15 = .ok (.iconst 1, 1) := by decide +kernel
theorem dL_ofRule_16 : decode cL_ofRule 16 = .ok (.ireturn, 1) := by decide +kernel
theorem dL_decides_0 : decode cL_decides 0 = .ok (.aload_n 2, 1) := by decide +kernel
theorem dL_decides_1 : decode cL_decides 1 = .ok (.iconst 0, 1) := by decide +kernel
theorem dL_decides_2 : decode cL_decides 2 = .ok (.aload_n 0, 1) := by decide +kernel
theorem dL_decides_3 : decode cL_decides 3 = .ok (.iload_n 1, 1) := by decide +kernel
set_option maxRecDepth 20000 in
theorem ggL_decides_X7_decides : GoodIn wsL_decides wsX7_decides := goodIn_ca (goodIn_r _ [6, 7, 8, 9, 5, 10, 11, 12, 13, 14, 15, 16, 17, 18, 19, 20, 21, 22, 23, 24, 25, 26, 27, 28, 29, 30, 31, 32, 33, 34, 35, 36, 37, 38, 39, 40, 41, 42, 43, 44, 45, 46, 47, 48, 49, 50, 51, 52, 53, 54, 55, 56, 57, 58, 59, 60, 61, 62, 63, 64, 65, 66, 67, 68, 69, 70, 71, 72, 73, 74, 75, 76, 77, 78, 79, 80, 81, 82, 83, 84, 85, 86, 87, 88, 89, 90, 91, 92, 93] (by decide +kernel) (by decide +kernel)) (goodIn_sub (fun _ h => List.mem_cons_of_mem _ (List.mem_append_right _ h)) (by decide +kernel))
set_option maxRecDepth 20000 in
theorem gL_decides_X7_decides : GoodIn wsL_decides (wsV RL 36 RX7 yX7_decides wsX7_decides) := goodIn_app (goodIn_of _ (by decide +kernel)) ggL_decides_X7_decides
theorem dL_decides_4 : decode cL_decides 4 = .ok (.invokevirtual 36, 3) := by decide +kernel
theorem dL_decides_12 : decode cL_decides 12 = .ok (.astore_n 3, 1) := by decide +kernel
theorem dL_decides_13 : decode cL_decides 13 = .ok (.iconst 1, 1) := by decide +kernel
theorem dL_decides_14 : decode cL_decides 14 = .ok (.ireturn, 1) := by decide +kernel
theorem dL_state_0 : decode cL_state 0 = .ok (.aload_n 2, 1) := by decide +kernel
theorem dL_state_1 : decode cL_state 1 = .ok (.iconst 0, 1) := by decide +kernel
theorem dL_state_2 : decode cL_state 2 = .ok (.aload_n 0, 1) := by decide +kernel
theorem dL_state_3 : decode cL_state 3 = .ok (.iload_n 1, 1) := by decide +kernel
set_option maxRecDepth 20000 in
theorem ggL_state_X7_state : GoodIn wsL_state wsX7_state := goodIn_ca (goodIn_r _ [6, 7, 8, 9, 10, 11, 12, 5, 13, 14, 15, 16, 17, 18, 19, 20, 21, 22, 23, 24, 25, 26, 27, 28, 29, 30, 31, 32, 33, 34, 35, 36, 37, 38, 39, 40, 41, 42, 43, 44, 45, 46, 47, 48, 49, 50, 51, 52, 53, 54, 55, 56, 57, 58, 59, 60, 61, 62, 63, 64, 65, 66, 67, 68, 69, 70, 71, 72, 73, 74, 75, 76, 77, 78, 79, 80, 81, 82, 83, 84, 85, 86, 87, 88, 89, 90, 91, 92, 93, 94, 95, 96, 97, 98, 99, 100, 101, 102, 103, 104, 105, 106, 107, 108, 109, 110, 111, 112, 113, 114, 115, 116, 117, 118, 119, 120, 121] (by decide +kernel) (by decide +kernel)) (goodIn_sub (fun _ h => List.mem_cons_of_mem _ (List.mem_append_right _ h)) (by decide +kernel))
set_option maxRecDepth 20000 in
theorem gL_state_X7_state : GoodIn wsL_state (wsV RL 39 RX7 yX7_state wsX7_state) := goodIn_app (goodIn_of _ (by decide +kernel)) ggL_state_X7_state
theorem dL_state_4 : decode cL_state 4 = .ok (.invokevirtual 39, 3) := by decide +kernel
theorem dL_state_12 : decode cL_state 12 = .ok (.astore_n 3, 1) := by decide +kernel
theorem dL_state_13 : decode cL_state 13 = .ok (.iconst 1, 1) := by decide +kernel
theorem dL_state_14 : decode cL_state 14 = .ok (.ireturn, 1) := by decide +kernel
theorem dL_coveredBy_0 : decode cL_coveredBy 0 = .ok (.aload_n 2, 1) := by decide +kernel
theorem dL_coveredBy_1 : decode cL_coveredBy 1 = .ok (.iconst 0, 1) := by decide +kernel
theorem dL_coveredBy_2 : decode cL_coveredBy 2 = .ok (.aload_n 0, 1) := by decide +kernel
theorem dL_coveredBy_3 : decode cL_coveredBy 3 = .ok (.iload_n 1, 1) := by decide +kernel
set_option maxRecDepth 20000 in
theorem ggL_coveredBy_X7_coveredBy : GoodIn wsL_coveredBy wsX7_coveredBy := goodIn_ca (goodIn_r _ [6, 7, 8, 9, 10, 5, 11, 12, 13, 14, 15, 16, 17, 18, 19, 20, 21, 22, 23, 24, 25, 26, 27, 28, 29, 30, 31, 32, 33, 34, 35, 36, 37, 38, 39, 40, 41, 42, 43, 44, 45, 46, 47] (by decide +kernel) (by decide +kernel)) (goodIn_sub (fun _ h => List.mem_cons_of_mem _ (List.mem_append_right _ h)) (by decide +kernel))
set_option maxRecDepth 20000 in
theorem gL_coveredBy_X7_coveredBy : GoodIn wsL_coveredBy (wsV RL 42 RX7 yX7_coveredBy wsX7_coveredBy) := goodIn_app (goodIn_of _ (by decide +kernel)) ggL_coveredBy_X7_coveredBy
theorem dL_coveredBy_4 : decode cL_coveredBy 4 = .ok (.invokevirtual 42, 3) := by decide +kernel
theorem dL_coveredBy_12 : decode cL_coveredBy 12 = .ok (.astore_n 3, 1) := by decide +kernel
theorem dL_coveredBy_13 : decode cL_coveredBy 13 = .ok (.iconst 1, 1) := by decide +kernel
theorem dL_coveredBy_14 : decode cL_coveredBy 14 = .ok (.ireturn, 1) := by decide +kernel
theorem dL_shared_0 : decode cL_shared 0 = .ok (.aload_n 3, 1) := by decide +kernel
theorem dL_shared_1 : decode cL_shared 1 = .ok (.iconst 0, 1) := by decide +kernel
theorem dL_shared_2 : decode cL_shared 2 = .ok (.aload_n 0, 1) := by decide +kernel
theorem dL_shared_3 : decode cL_shared 3 = .ok (.iload_n 1, 1) := by decide +kernel
theorem dL_shared_4 : decode cL_shared 4 = .ok (.iload_n 2, 1) := by decide +kernel
set_option maxRecDepth 20000 in
theorem ggL_shared_X7_shared : GoodIn wsL_shared wsX7_shared := goodIn_ca (goodIn_r _ [6, 7, 8, 9, 10, 11, 5, 12, 13, 14, 15, 16, 17, 18, 19, 20, 21, 22, 23, 24, 25, 26, 27, 28, 29, 30, 31, 32, 33, 34, 35, 36, 37, 38, 39, 40, 41, 42, 43, 44] (by decide +kernel) (by decide +kernel)) (goodIn_sub (fun _ h => List.mem_cons_of_mem _ (List.mem_append_right _ h)) (by decide +kernel))
set_option maxRecDepth 20000 in
theorem gL_shared_X7_shared : GoodIn wsL_shared (wsV RL 45 RX7 yX7_shared wsX7_shared) := goodIn_app (goodIn_of _ (by decide +kernel)) ggL_shared_X7_shared
theorem dL_shared_5 : decode cL_shared 5 = .ok (.invokevirtual 45, 3) := by decide +kernel
theorem dL_shared_13 : decode cL_shared 13 = .ok (.astore 4, 2) := by decide +kernel
theorem dL_shared_15 : decode cL_shared 15 = .ok (.iconst 1, 1) := by decide +kernel
theorem dL_shared_16 : decode cL_shared 16 = .ok (.ireturn, 1) := by decide +kernel
theorem dL_allowedWithout_0 : decode cL_allowedWithout 0 = .ok (.aload_n 2, 1) := by decide +kernel
theorem dL_allowedWithout_1 : decode cL_allowedWithout 1 = .ok (.iconst 0, 1) := by decide +kernel
theorem dL_allowedWithout_2 : decode cL_allowedWithout 2 = .ok (.aload_n 0, 1) := by decide +kernel
theorem dL_allowedWithout_3 : decode cL_allowedWithout 3 = .ok (.iload_n 1, 1) := by decide +kernel
set_option maxRecDepth 20000 in
theorem ggL_allowedWithout_X7_allowedWithout : GoodIn wsL_allowedWithout wsX7_allowedWithout := goodIn_ca (goodIn_r _ [6, 7, 8, 9, 5, 10, 11, 12, 13, 14, 15, 16, 17, 18, 19, 20, 21, 22, 23, 24, 25, 26, 27, 28, 29, 30, 31, 32, 33, 34, 35, 36, 37, 38, 39, 40, 41, 42, 43, 44, 45, 46, 47, 48, 49, 50, 51, 52, 53, 54, 55, 56, 57, 58, 59, 60, 61, 62, 63, 64, 65, 66, 67, 68, 69, 70, 71, 72, 73, 74, 75, 76, 77, 78, 79, 80, 81, 82, 83, 84, 85, 86, 87, 88, 89, 90, 91, 92, 93, 94, 95, 96, 97, 98, 99, 100] (by decide +kernel) (by decide +kernel)) (goodIn_sub (fun _ h => List.mem_cons_of_mem _ (List.mem_append_right _ h)) (by decide +kernel))
set_option maxRecDepth 20000 in
theorem gL_allowedWithout_X7_allowedWithout : GoodIn wsL_allowedWithout (wsV RL 73 RX7 yX7_allowedWithout wsX7_allowedWithout) := goodIn_app (goodIn_of _ (by decide +kernel)) ggL_allowedWithout_X7_allowedWithout
theorem dL_allowedWithout_4 : decode cL_allowedWithout 4 = .ok (.invokevirtual 73, 3) := by decide +kernel
theorem dL_allowedWithout_12 : decode cL_allowedWithout 12 = .ok (.astore_n 3, 1) := by decide +kernel
theorem dL_allowedWithout_13 : decode cL_allowedWithout 13 = .ok (.iconst 1, 1) := by decide +kernel
theorem dL_allowedWithout_14 : decode cL_allowedWithout 14 = .ok (.ireturn, 1) := by decide +kernel
theorem dL_changedByMove_0 : decode cL_changedByMove 0 = .ok (.aload_n 3, 1) := by decide +kernel
theorem dL_changedByMove_1 : decode cL_changedByMove 1 = .ok (.iconst 0, 1) := by decide +kernel
theorem dL_changedByMove_2 : decode cL_changedByMove 2 = .ok (.aload_n 0, 1) := by decide +kernel
theorem dL_changedByMove_3 : decode cL_changedByMove 3 = .ok (.iload_n 1, 1) := by decide +kernel
theorem dL_changedByMove_4 : decode cL_changedByMove 4 = .ok (.iload_n 2, 1) := by decide +kernel
set_option maxRecDepth 20000 in
theorem ggL_changedByMove_X7_changedByMove : GoodIn wsL_changedByMove wsX7_changedByMove := goodIn_ca (goodIn_r _ [6, 7, 8, 9, 5, 10, 11, 12, 13, 14, 15, 16, 17, 18, 19, 20, 21, 22, 23, 24, 25, 26, 27, 28, 29, 30, 31, 32, 33, 34, 35, 36, 37, 38, 39, 40, 41, 42, 43, 44, 45, 46, 47, 48, 49, 50, 51, 52, 53, 54, 55, 56, 57, 58, 59, 60, 61, 62, 63, 64, 65, 66, 67, 68, 69, 70, 71, 72, 73, 74, 75, 76, 77, 78, 79, 80, 81, 82, 83, 84, 85, 86, 87, 88, 89, 90, 91, 92, 93, 94, 95, 96, 97, 98, 99, 100, 101, 102, 103, 104] (by decide +kernel) (by decide +kernel)) (goodIn_sub (fun _ h => List.mem_cons_of_mem _ (List.mem_append_right _ h)) (by decide +kernel))
set_option maxRecDepth 20000 in
theorem gL_changedByMove_X7_changedByMove : GoodIn wsL_changedByMove (wsV RL 76 RX7 yX7_changedByMove wsX7_changedByMove) := goodIn_app (goodIn_of _ (by decide +kernel)) ggL_changedByMove_X7_changedByMove
theorem dL_changedByMove_5 : decode cL_changedByMove 5 = .ok (.invokevirtual 76, 3) := by decide +kernel
theorem dL_changedByMove_13 : decode cL_changedByMove 13 = .ok (.astore 4, 2) := by decide +kernel
theorem dL_changedByMove_15 : decode cL_changedByMove 15 = .ok (.iconst 1, 1) := by decide +kernel
theorem dL_changedByMove_16 : decode cL_changedByMove 16 = .ok (.ireturn, 1) := by decide +kernel
theorem dL_ofNode_0 : decode cL_ofNode 0 = .ok (.aload_n 3, 1) := by decide +kernel
theorem dL_ofNode_1 : decode cL_ofNode 1 = .ok (.iconst 0, 1) := by decide +kernel
theorem dL_ofNode_2 : decode cL_ofNode 2 = .ok (.aload_n 0, 1) := by decide +kernel
theorem dL_ofNode_3 : decode cL_ofNode 3 = .ok (.iload_n 1, 1) := by decide +kernel
theorem dL_ofNode_4 : decode cL_ofNode 4 = .ok (.iload_n 2, 1) := by decide +kernel
set_option maxRecDepth 20000 in
theorem ggL_ofNode_X7_ofNode : GoodIn wsL_ofNode wsX7_ofNode := goodIn_ca (goodIn_ca (goodIn_r _ [7, 8, 9, 10, 6, 11, 12, 13, 14, 15, 16, 17, 18, 19, 20, 21, 22, 23, 24, 25, 26, 27, 28, 29, 30, 31, 32, 33, 34, 35, 36, 37, 38, 39, 40, 41, 42, 43, 44, 45, 46, 47, 48, 49, 50, 51, 52, 53, 54, 55, 56, 57, 58, 59, 60, 61, 62, 63, 64, 65, 66, 67, 68, 69, 70, 71, 72, 73, 74, 75, 76, 77, 78, 79, 80, 81, 82, 83, 84, 85, 86, 87, 88, 89, 90, 91, 92, 93, 94, 95, 96, 97, 98, 99, 100, 101, 102, 103, 104, 105, 106, 107, 108, 109, 110, 111, 112, 113, 114, 115, 116, 117, 118, 119, 120, 121, 122, 123, 124, 125, 126, 127, 128, 129, 130, 131, 132, 133, 134, 135, 136, 137, 138, 139, 140, 141, 142, 143, 144, 145, 146, 147, 148, 149, 150, 151, 152, 153, 154, 155, 156, 157] (by decide +kernel) (by decide +kernel)) (goodIn_sub (fun _ h => List.mem_cons_of_mem _ (List.mem_append_left _ (List.mem_append_right _ h))) (by decide +kernel))) (goodIn_sub (fun _ h => List.mem_cons_of_mem _ (List.mem_append_right _ h)) (by decide +kernel))
set_option maxRecDepth 20000 in
theorem gL_ofNode_X7_ofNode : GoodIn wsL_ofNode (wsV RL 51 RX7 yX7_ofNode wsX7_ofNode) := goodIn_app (goodIn_of _ (by decide +kernel)) ggL_ofNode_X7_ofNode
theorem dL_ofNode_5 : decode cL_ofNode 5 = .ok (.invokevirtual 51, 3) := by decide +kernel
theorem dL_ofNode_13 : decode cL_ofNode 13 = .ok (.astore 4, 2) := by decide +kernel
theorem dL_ofNode_15 : decode cL_ofNode 15 = .ok (.iconst 1, 1) := by decide +kernel
theorem dL_ofNode_16 : decode cL_ofNode 16 = .ok (.ireturn, 1) := by decide +kernel
theorem dL_piece_0 : decode cL_piece 0 = .ok (.aload 4, 2) := by decide +kernel
theorem dL_piece_2 : decode cL_piece 2 = .ok (.iconst 0, 1) := by decide +kernel
theorem dL_piece_3 : decode cL_piece 3 = .ok (.aload_n 0, 1) := by decide +kernel
theorem dL_piece_4 : decode cL_piece 4 = .ok (.iload_n 1, 1) := by decide +kernel
theorem dL_piece_5 : decode cL_piece 5 = .ok (.iload_n 2, 1) := by decide +kernel
theorem dL_piece_6 : decode cL_piece 6 = .ok (.iload_n 3, 1) := by decide +kernel
set_option maxRecDepth 20000 in
theorem ggL_piece_X7_piece : GoodIn wsL_piece wsX7_piece := goodIn_ca (goodIn_ca (goodIn_r _ [7, 8, 9, 10, 11, 12, 13, 6, 14, 15, 16, 17, 18, 19, 20, 21, 22, 23, 24, 25, 26, 27, 28, 29, 30, 31, 32, 33, 34, 35, 36, 37, 38, 39, 40, 41, 42, 43, 44, 45, 46, 47, 48, 49, 50, 51, 52, 53, 54, 55, 56, 57, 58, 59, 60, 61, 62, 63, 64, 65, 66, 67, 68, 69, 70, 71, 72, 73, 74, 75, 76, 77, 78, 79, 80, 81, 82, 83, 84, 85, 86, 87, 88, 89, 90, 91, 92, 93, 94, 95, 96, 97, 98, 99, 100, 101, 102, 103, 104, 105, 106, 107, 108, 109, 110, 111, 112, 113, 114, 115, 116, 117, 118, 119, 120, 121, 122, 123, 124, 125, 126, 127, 128, 129, 130, 131, 132, 133, 134, 135, 136, 137, 138, 139, 140, 141, 142, 143, 144, 145, 146, 147, 148, 149, 150, 151, 152, 153, 154, 155, 156, 157, 158, 159, 160, 161, 162, 163, 164, 165, 166, 167, 168] (by decide +kernel) (by decide +kernel)) (goodIn_sub (fun _ h => List.mem_cons_of_mem _ (List.mem_append_left _ (List.mem_append_right _ h))) (by decide +kernel))) (goodIn_sub (fun _ h => List.mem_cons_of_mem _ (List.mem_append_right _ h)) (by decide +kernel))
set_option maxRecDepth 20000 in
theorem gL_piece_X7_piece : GoodIn wsL_piece (wsV RL 54 RX7 yX7_piece wsX7_piece) := goodIn_app (goodIn_of _ (by decide +kernel)) ggL_piece_X7_piece
theorem dL_piece_7 : decode cL_piece 7 = .ok (.invokevirtual 54, 3) := by decide +kernel
theorem dL_piece_15 : decode cL_piece 15 = .ok (.astore 5, 2) := by decide +kernel
theorem dL_piece_17 : decode cL_piece 17 = .ok (.iconst 1, 1) := by decide +kernel
theorem dL_piece_18 : decode cL_piece 18 = .ok (.ireturn, 1) := by decide +kernel
theorem dL_kept_0 : decode cL_kept 0 = .ok (.aload_n 3, 1) := by decide +kernel
theorem dL_kept_1 : decode cL_kept 1 = .ok (.iconst 0, 1) := by decide +kernel
theorem dL_kept_2 : decode cL_kept 2 = .ok (.aload_n 0, 1) := by decide +kernel
theorem dL_kept_3 : decode cL_kept 3 = .ok (.iload_n 1, 1) := by decide +kernel
theorem dL_kept_4 : decode cL_kept 4 = .ok (.iload_n 2, 1) := by decide +kernel
set_option maxRecDepth 20000 in
theorem ggL_kept_X7_kept : GoodIn wsL_kept wsX7_kept := goodIn_ca (goodIn_ca (goodIn_r _ [7, 8, 9, 10, 11, 12, 13, 14, 15, 16, 17, 18, 19, 20, 21, 22, 23, 24, 25, 26, 27, 28] (by decide +kernel) (by decide +kernel)) (goodIn_sub (fun _ h => List.mem_cons_of_mem _ (List.mem_append_left _ (List.mem_append_right _ h))) (by decide +kernel))) (goodIn_sub (fun _ h => List.mem_cons_of_mem _ (List.mem_append_right _ h)) (by decide +kernel))
set_option maxRecDepth 20000 in
theorem gL_kept_X7_kept : GoodIn wsL_kept (wsV RL 67 RX7 yX7_kept wsX7_kept) := goodIn_app (goodIn_of _ (by decide +kernel)) ggL_kept_X7_kept
theorem dL_kept_5 : decode cL_kept 5 = .ok (.invokevirtual 67, 3) := by decide +kernel
theorem dL_kept_13 : decode cL_kept 13 = .ok (.astore 4, 2) := by decide +kernel
theorem dL_kept_15 : decode cL_kept 15 = .ok (.iconst 1, 1) := by decide +kernel
theorem dL_kept_16 : decode cL_kept 16 = .ok (.ireturn, 1) := by decide +kernel
theorem dL_rule_0 : decode cL_rule 0 = .ok (.aload_n 2, 1) := by decide +kernel
theorem dL_rule_1 : decode cL_rule 1 = .ok (.iconst 0, 1) := by decide +kernel
theorem dL_rule_2 : decode cL_rule 2 = .ok (.aload_n 0, 1) := by decide +kernel
theorem dL_rule_3 : decode cL_rule 3 = .ok (.iload_n 1, 1) := by decide +kernel
set_option maxRecDepth 20000 in
theorem ggL_rule_X7_rule : GoodIn wsL_rule wsX7_rule := goodIn_ca (goodIn_ca (goodIn_r _ [7, 8, 9, 10, 11, 12, 13, 6, 14, 15, 16, 17, 18, 19, 20, 21, 22, 23, 24, 25, 26, 27, 28, 29, 30, 31, 32, 33, 34, 35, 36, 37, 38, 39, 40, 41, 42, 43, 44, 45, 46, 47, 48, 49, 50, 51, 52, 53, 54, 55, 56, 57, 58, 59, 60, 61, 62, 63, 64, 65, 66, 67, 68, 69, 70, 71, 72, 73, 74, 75, 76, 77, 78, 79, 80, 81, 82, 83, 84] (by decide +kernel) (by decide +kernel)) (goodIn_sub (fun _ h => List.mem_cons_of_mem _ (List.mem_append_left _ (List.mem_append_right _ h))) (by decide +kernel))) (goodIn_sub (fun _ h => List.mem_cons_of_mem _ (List.mem_append_right _ h)) (by decide +kernel))
set_option maxRecDepth 20000 in
theorem gL_rule_X7_rule : GoodIn wsL_rule (wsV RL 7 RX7 yX7_rule wsX7_rule) := goodIn_app (goodIn_of _ (by decide +kernel)) ggL_rule_X7_rule
theorem dL_rule_4 : decode cL_rule 4 = .ok (.invokevirtual 7, 3) := by decide +kernel
theorem dL_rule_7 : decode cL_rule 7 = .ok (.i2l, 1) := by decide +kernel
theorem dL_rule_8 : decode cL_rule 8 = .ok (.lastore, 1) := by decide +kernel
theorem dL_rule_9 : decode cL_rule 9 = .ok (.goto 9, 3) := by decide +kernel
theorem dL_rule_18 : decode cL_rule 18 = .ok (.iconst 0, 1) := by decide +kernel
theorem dL_rule_19 : decode cL_rule 19 = .ok (.ireturn, 1) := by decide +kernel
theorem dL_rule_12 : decode cL_rule 12 = .ok (.astore_n 3, 1) := by decide +kernel
theorem dL_rule_13 : decode cL_rule 13 = .ok (.iconst 1, 1) := by decide +kernel
theorem dL_rule_14 : decode cL_rule 14 = .ok (.ireturn, 1) := by decide +kernel
theorem dL_decider_0 : decode cL_decider 0 = .ok (.aload 5, 2) := by decide +kernel
theorem dL_decider_2 : decode cL_decider 2 = .ok (.iconst 0, 1) := by decide +kernel
theorem dL_decider_3 : decode cL_decider 3 = .ok (.aload_n 0, 1) := by decide +kernel
theorem dL_decider_4 : decode cL_decider 4 = .ok (.iload_n 1, 1) := by decide +kernel
theorem dL_decider_5 : decode cL_decider 5 = .ok (.iload_n 2, 1) := by decide +kernel
theorem dL_decider_6 : decode cL_decider 6 = .ok (.iload_n 3, 1) := by decide +kernel
theorem dL_decider_7 : decode cL_decider 7 = .ok (.iload 4, 2) := by decide +kernel
set_option maxRecDepth 20000 in
theorem ggL_decider_X7_decider : GoodIn wsL_decider wsX7_decider := goodIn_ca (goodIn_r _ [6, 7, 8, 9, 10, 11, 12, 13, 5, 14, 15, 16, 17, 18, 19, 20, 21, 22, 23, 24, 25, 26, 27, 28, 29, 30, 31, 32, 33, 34, 35, 36, 37, 38, 39, 40, 41, 42, 43, 44, 45, 46, 47, 48, 49, 50, 51] (by decide +kernel) (by decide +kernel)) (goodIn_sub (fun _ h => List.mem_cons_of_mem _ (List.mem_append_right _ h)) (by decide +kernel))
set_option maxRecDepth 20000 in
theorem gL_decider_X7_decider : GoodIn wsL_decider (wsV RL 48 RX7 yX7_decider wsX7_decider) := goodIn_app (goodIn_of _ (by decide +kernel)) ggL_decider_X7_decider
theorem dL_decider_9 : decode cL_decider 9 = .ok (.invokevirtual 48, 3) := by decide +kernel
theorem dL_decider_12 : decode cL_decider 12 = .ok (.i2l, 1) := by decide +kernel
theorem dL_decider_13 : decode cL_decider 13 = .ok (.lastore, 1) := by decide +kernel
theorem dL_decider_14 : decode cL_decider 14 = .ok (.goto 7, 3) := by decide +kernel
theorem dL_decider_21 : decode cL_decider 21 = .ok (.iconst 0, 1) := by decide +kernel
theorem dL_decider_22 : decode cL_decider 22 = .ok (.ireturn, 1) := by decide +kernel
theorem dL_decider_17 : decode cL_decider 17 = .ok (.astore 6, 2) := by decide +kernel
theorem dL_decider_19 : decode cL_decider 19 = .ok (.iconst 1, 1) := by decide +kernel
theorem dL_decider_20 : decode cL_decider 20 = .ok (.ireturn, 1) := by decide +kernel
theorem dL_steps_0 : decode cL_steps 0 = .ok (.aload 5, 2) := by decide +kernel
theorem dL_steps_2 : decode cL_steps 2 = .ok (.iconst 0, 1) := by decide +kernel
theorem dL_steps_3 : decode cL_steps 3 = .ok (.aload_n 0, 1) := by decide +kernel
theorem dL_steps_4 : decode cL_steps 4 = .ok (.iload_n 1, 1) := by decide +kernel
theorem dL_steps_5 : decode cL_steps 5 = .ok (.iload_n 2, 1) := by decide +kernel
theorem dL_steps_6 : decode cL_steps 6 = .ok (.iload_n 3, 1) := by decide +kernel
theorem dL_steps_7 : decode cL_steps 7 = .ok (.iload 4, 2) := by decide +kernel
set_option maxRecDepth 20000 in
theorem ggL_steps_X7_steps : GoodIn wsL_steps wsX7_steps := goodIn_ca (goodIn_r _ [6, 7, 8, 9, 10, 11, 5, 12, 13, 14, 15, 16, 17, 18, 19, 20, 21, 22, 23, 24, 25, 26, 27, 28, 29, 30, 31, 32, 33, 34, 35, 36, 37, 38, 39, 40, 41, 42, 43, 44, 45, 46, 47, 48, 49, 50, 51, 52, 53, 54, 55, 56, 57, 58, 59, 60, 61, 62, 63, 64, 65, 66, 67, 68] (by decide +kernel) (by decide +kernel)) (goodIn_sub (fun _ h => List.mem_cons_of_mem _ (List.mem_append_right _ h)) (by decide +kernel))
set_option maxRecDepth 20000 in
theorem gL_steps_X7_steps : GoodIn wsL_steps (wsV RL 58 RX7 yX7_steps wsX7_steps) := goodIn_app (goodIn_of _ (by decide +kernel)) ggL_steps_X7_steps
theorem dL_steps_9 : decode cL_steps 9 = .ok (.invokevirtual 58, 3) := by decide +kernel
theorem dL_steps_12 : decode cL_steps 12 = .ok (.i2l, 1) := by decide +kernel
theorem dL_steps_13 : decode cL_steps 13 = .ok (.lastore, 1) := by decide +kernel
theorem dL_steps_14 : decode cL_steps 14 = .ok (.goto 7, 3) := by decide +kernel
theorem dL_steps_21 : decode cL_steps 21 = .ok (.iconst 0, 1) := by decide +kernel
theorem dL_steps_22 : decode cL_steps 22 = .ok (.ireturn, 1) := by decide +kernel
theorem dL_steps_17 : decode cL_steps 17 = .ok (.astore 6, 2) := by decide +kernel
theorem dL_steps_19 : decode cL_steps 19 = .ok (.iconst 1, 1) := by decide +kernel
theorem dL_steps_20 : decode cL_steps 20 = .ok (.ireturn, 1) := by decide +kernel
theorem dL_send_0 : decode cL_send 0 = .ok (.aload 5, 2) := by decide +kernel
theorem dL_send_2 : decode cL_send 2 = .ok (.iconst 0, 1) := by decide +kernel
theorem dL_send_3 : decode cL_send 3 = .ok (.aload_n 0, 1) := by decide +kernel
theorem dL_send_4 : decode cL_send 4 = .ok (.iload_n 1, 1) := by decide +kernel
theorem dL_send_5 : decode cL_send 5 = .ok (.iload_n 2, 1) := by decide +kernel
theorem dL_send_6 : decode cL_send 6 = .ok (.iload_n 3, 1) := by decide +kernel
theorem dL_send_7 : decode cL_send 7 = .ok (.iload 4, 2) := by decide +kernel
set_option maxRecDepth 20000 in
theorem ggL_send_X7_send : GoodIn wsL_send wsX7_send := goodIn_ca (goodIn_r _ [6, 7, 8, 9, 10, 11, 12, 13, 14, 15, 5, 16, 17, 18, 19, 20, 21, 22, 23, 24, 25, 26, 27, 28, 29, 30, 31, 32, 33, 34, 35, 36, 37, 38, 39, 40, 41, 42, 43, 44, 45, 46, 47, 48, 49, 50, 51, 52, 53, 54, 55, 56, 57, 58, 59, 60, 61, 62, 63, 64, 65, 66, 67, 68, 69, 70, 71, 72, 73, 74, 75, 76, 77, 78, 79, 80, 81, 82, 83, 84, 85, 86, 87, 88, 89, 90, 91, 92, 93, 94, 95] (by decide +kernel) (by decide +kernel)) (goodIn_sub (fun _ h => List.mem_cons_of_mem _ (List.mem_append_right _ h)) (by decide +kernel))
set_option maxRecDepth 20000 in
theorem gL_send_X7_send : GoodIn wsL_send (wsV RL 61 RX7 yX7_send wsX7_send) := goodIn_app (goodIn_of _ (by decide +kernel)) ggL_send_X7_send
theorem dL_send_9 : decode cL_send 9 = .ok (.invokevirtual 61, 3) := by decide +kernel
theorem dL_send_12 : decode cL_send 12 = .ok (.i2l, 1) := by decide +kernel
theorem dL_send_13 : decode cL_send 13 = .ok (.lastore, 1) := by decide +kernel
theorem dL_send_14 : decode cL_send 14 = .ok (.goto 7, 3) := by decide +kernel
theorem dL_send_21 : decode cL_send 21 = .ok (.iconst 0, 1) := by decide +kernel
theorem dL_send_22 : decode cL_send 22 = .ok (.ireturn, 1) := by decide +kernel
theorem dL_send_17 : decode cL_send 17 = .ok (.astore 6, 2) := by decide +kernel
theorem dL_send_19 : decode cL_send 19 = .ok (.iconst 1, 1) := by decide +kernel
theorem dL_send_20 : decode cL_send 20 = .ok (.ireturn, 1) := by decide +kernel
theorem dL_sent_0 : decode cL_sent 0 = .ok (.aload_n 2, 1) := by decide +kernel
theorem dL_sent_1 : decode cL_sent 1 = .ok (.iconst 0, 1) := by decide +kernel
theorem dL_sent_2 : decode cL_sent 2 = .ok (.aload_n 0, 1) := by decide +kernel
theorem dL_sent_3 : decode cL_sent 3 = .ok (.iload_n 1, 1) := by decide +kernel
set_option maxRecDepth 20000 in
theorem ggL_sent_X7_sent : GoodIn wsL_sent wsX7_sent := goodIn_ca (goodIn_r _ [6, 7, 8, 9, 10, 11, 12, 13, 14, 5, 15, 16, 17, 18, 19, 20, 21, 22, 23, 24, 25, 26, 27, 28, 29, 30, 31] (by decide +kernel) (by decide +kernel)) (goodIn_sub (fun _ h => List.mem_cons_of_mem _ (List.mem_append_right _ h)) (by decide +kernel))
set_option maxRecDepth 20000 in
theorem gL_sent_X7_sent : GoodIn wsL_sent (wsV RL 64 RX7 yX7_sent wsX7_sent) := goodIn_app (goodIn_of _ (by decide +kernel)) ggL_sent_X7_sent
theorem dL_sent_4 : decode cL_sent 4 = .ok (.invokevirtual 64, 3) := by decide +kernel
theorem dL_sent_7 : decode cL_sent 7 = .ok (.i2l, 1) := by decide +kernel
theorem dL_sent_8 : decode cL_sent 8 = .ok (.lastore, 1) := by decide +kernel
theorem dL_sent_9 : decode cL_sent 9 = .ok (.goto 6, 3) := by decide +kernel
theorem dL_sent_15 : decode cL_sent 15 = .ok (.iconst 0, 1) := by decide +kernel
theorem dL_sent_16 : decode cL_sent 16 = .ok (.ireturn, 1) := by decide +kernel
theorem dL_sent_12 : decode cL_sent 12 = .ok (.astore_n 3, 1) := by decide +kernel
theorem dL_sent_13 : decode cL_sent 13 = .ok (.iconst 1, 1) := by decide +kernel
theorem dL_sent_14 : decode cL_sent 14 = .ok (.ireturn, 1) := by decide +kernel
theorem dL_witness_0 : decode cL_witness 0 = .ok (.aload_n 2, 1) := by decide +kernel
theorem dL_witness_1 : decode cL_witness 1 = .ok (.iconst 0, 1) := by decide +kernel
theorem dL_witness_2 : decode cL_witness 2 = .ok (.aload_n 0, 1) := by decide +kernel
theorem dL_witness_3 : decode cL_witness 3 = .ok (.iload_n 1, 1) := by decide +kernel
set_option maxRecDepth 20000 in
theorem ggL_witness_X7_witness : GoodIn wsL_witness wsX7_witness := goodIn_ca (goodIn_r _ [6, 7, 8, 9, 10, 11, 12, 5, 13, 14, 15, 16, 17, 18, 19, 20, 21, 22, 23, 24, 25, 26, 27, 28, 29, 30, 31, 32, 33, 34, 35, 36, 37, 38, 39, 40, 41, 42, 43, 44, 45, 46, 47, 48, 49, 50, 51, 52, 53, 54, 55, 56, 57, 58, 59, 60, 61, 62, 63, 64, 65, 66, 67, 68, 69, 70, 71, 72, 73, 74, 75, 76, 77, 78, 79, 80, 81, 82, 83, 84, 85, 86, 87, 88, 89, 90, 91, 92, 93, 94, 95, 96, 97, 98, 99, 100, 101, 102, 103, 104, 105, 106, 107, 108, 109, 110, 111, 112, 113, 114, 115, 116, 117, 118, 119, 120, 121, 122, 123, 124, 125, 126, 127, 128, 129, 130, 131, 132, 133, 134, 135, 136, 137, 138, 139, 140, 141, 142, 143, 144, 145, 146, 147, 148, 149, 150, 151, 152, 153] (by decide +kernel) (by decide +kernel)) (goodIn_sub (fun _ h => List.mem_cons_of_mem _ (List.mem_append_right _ h)) (by decide +kernel))
set_option maxRecDepth 20000 in
theorem gL_witness_X7_witness : GoodIn wsL_witness (wsV RL 70 RX7 yX7_witness wsX7_witness) := goodIn_app (goodIn_of _ (by decide +kernel)) ggL_witness_X7_witness
theorem dL_witness_4 : decode cL_witness 4 = .ok (.invokevirtual 70, 3) := by decide +kernel
theorem dL_witness_7 : decode cL_witness 7 = .ok (.i2l, 1) := by decide +kernel
theorem dL_witness_8 : decode cL_witness 8 = .ok (.lastore, 1) := by decide +kernel
theorem dL_witness_9 : decode cL_witness 9 = .ok (.goto 6, 3) := by decide +kernel
theorem dL_witness_15 : decode cL_witness 15 = .ok (.iconst 0, 1) := by decide +kernel
theorem dL_witness_16 : decode cL_witness 16 = .ok (.ireturn, 1) := by decide +kernel
theorem dL_witness_12 : decode cL_witness 12 = .ok (.astore_n 3, 1) := by decide +kernel
theorem dL_witness_13 : decode cL_witness 13 = .ok (.iconst 1, 1) := by decide +kernel
theorem dL_witness_14 : decode cL_witness 14 = .ok (.ireturn, 1) := by decide +kernel
set_option maxHeartbeats 4000000 in
set_option maxRecDepth 100000 in
theorem z_L_narrow (l : Launch) (G : zG) (x : Nat) (wa : Nat) (wb : Nat) (su : Nat) (cu : Nat) (tr : Nat) (co : Nat) (lo : Nat) (pk : Nat) (ro : Nat) (ou : Nat) (p0 : Int32) (p1 : Int32) (p2 : Int32) (p3 : Int32) (hl0 : l.stackTraces = false) : zH l G yL_narrow wsL_narrow { frames := 8, cells := 1, slots := 6, locals := 128 } [(x, .inr (7, [.ref wa, .ref wb, .ref su, .ref cu, .ref tr, .ref co, .ref lo, .ref pk])), (wa, .inr (6, [.ref ro, .int 0, .int 0]))] [.ref x, .int p0, .int p1, .int p2, .int p3, .ref ou] (some (.int 1)) (fun u => [(x, .inr (7, [.ref wa, .ref wb, .ref su, .ref cu, .ref tr, .ref co, .ref lo, .ref pk])), (wa, .inr (6, [.ref ro, .int 0, .int 0]))]) 1 6 := by
  refine zH_of (cc := cL_narrow) (maxL := 7) (rt := (some .int)) (hh := [(0, 14, 17, 21), (0, 14, 21, 13)]) (by decide) rfl (Nat.le_of_ble_eq_true rfl) ?_
  intro p e s m below meth c A ls hx hb hml hr hts hown hlocks ht hA hE hP hD hS hl
  have hl : lv_has ls 7 [(0, .ref x), (1, .int p0), (2, .int p1), (3, .int p2), (4, .int p3), (5, .ref ou)] := hl
  have hown : s.vm.findClass RL = some m.cls := hown
  have hP : va_P G.1 vwCl [(x, .inr (7, [.ref wa, .ref wb, .ref su, .ref cu, .ref tr, .ref co, .ref lo, .ref pk])), (wa, .inr (6, [.ref ro, .int 0, .int 0]))] s.heap := hP
  have hcl21 := hts (.classLink RL 21 "java/lang/IndexOutOfBoundsException") (by decide +kernel)
  refine lv_aload hx hb dL_narrow_0 (lv_at hl 5 rfl) ?_
  refine lv_iconst (v := 0) hx hb dL_narrow_2 (by decide) ?_
  refine lv_aload_n hx hb dL_narrow_3 rfl (lv_at hl 0 rfl) ?_
  refine lv_iload_n hx hb dL_narrow_4 rfl (lv_at hl 1 rfl) ?_
  refine lv_iload_n hx hb dL_narrow_5 rfl (lv_at hl 2 rfl) ?_
  refine lv_iload_n hx hb dL_narrow_6 rfl (lv_at hl 3 rfl) ?_
  refine lv_iload hx hb dL_narrow_7 (lv_at hl 4 rfl) ?_
  refine zcallT (wr := []) (vx_runV (As := [.int p0, .int p1, .int p2, .int p3]) (rest := [.int 0, .ref ou]) ⟨hx, hb, hml, hown, hts⟩ (z_X7_narrow l G x wa wb su cu tr co lo pk ro p0 p1 p2 p3 hl0 s.heap.size) (cwV 4 hts gL_narrow_X7_narrow rfl rfl rfl (by decide +kernel) ⟨Nat.le_of_ble_eq_true rfl, Nat.le_of_ble_eq_true rfl⟩) (zPreV (Wc := [(x, .inr (7, [.ref wa, .ref wb, .ref su, .ref cu, .ref tr, .ref co, .ref lo, .ref pk])), (wa, .inr (6, [.ref ro, .int 0, .int 0]))]) (q0 := 0) (ci := 7) (q := (RX7, TX7, 8)) hP hD hE hS hA [0, 1] rfl (by decide) rfl rfl) rfl rfl hl.1 rfl (lv_room (Nat.le_of_ble_eq_true rfl)) dL_narrow_9 ⟨Nat.le_of_ble_eq_true rfl, Nat.le_of_ble_eq_true rfl⟩) hP hD hS hA [0, 1] [] rfl rfl (by decide) (by decide) (fun ce q9 H locs hP hD hS hce hcv hcl => ?_)
  have hP : va_P G.1 vwCl [(x, .inr (7, [.ref wa, .ref wb, .ref su, .ref cu, .ref tr, .ref co, .ref lo, .ref pk])), (wa, .inr (6, [.ref ro, .int 0, .int 0]))] H := hP
  have hD : va_D A [(x, .inr (7, [.ref wa, .ref wb, .ref su, .ref cu, .ref tr, .ref co, .ref lo, .ref pk])), (wa, .inr (6, [.ref ro, .int 0, .int 0]))] := hD
  refine vx_catch hown [] ⟨0, 14, 17, 21⟩ [⟨0, 14, 21, 13⟩] (by rw [ht]; rfl) (fun z hz => nomatch hz) (by decide) (by decide) hcl21 (va_Nw.use rfl hE.2.2.2.2.2.2.2.2.2.1) hce hcv hcl ?_
  refine lv_astore (lv' := [(6, .ref q9), (0, .ref x), (1, .int p0), (2, .int p1), (3, .int p2), (4, .int p3), (5, .ref ou)]) hx hb dL_narrow_17 hl (by decide) rfl (fun ls hl => ?_)
  refine lv_iconst (v := 1) hx hb dL_narrow_19 (by decide) ?_
  exact zend_i hx hb hr hlocks (fun k => [].getD k 0) hP hD hS (Nat.le_of_ble_eq_true rfl) (Nat.le_of_ble_eq_true rfl) dL_narrow_20

set_option maxHeartbeats 4000000 in
set_option maxRecDepth 100000 in
theorem z_L_turn (l : Launch) (G : zG) (x : Nat) (wa : Nat) (wb : Nat) (su : Nat) (cu : Nat) (tr : Nat) (co : Nat) (lo : Nat) (pk : Nat) (ro : Nat) (ou : Nat) (p0 : Int32) (p1 : Int32) (hl0 : l.stackTraces = false) : zH l G yL_turn wsL_turn { frames := 8, cells := 1, slots := 6, locals := 126 } [(x, .inr (7, [.ref wa, .ref wb, .ref su, .ref cu, .ref tr, .ref co, .ref lo, .ref pk])), (wa, .inr (6, [.ref ro, .int 0, .int 0]))] [.ref x, .int p0, .int p1, .ref ou] (some (.int 1)) (fun u => [(x, .inr (7, [.ref wa, .ref wb, .ref su, .ref cu, .ref tr, .ref co, .ref lo, .ref pk])), (wa, .inr (6, [.ref ro, .int 0, .int 0]))]) 1 6 := by
  refine zH_of (cc := cL_turn) (maxL := 5) (rt := (some .int)) (hh := [(0, 10, 13, 21), (0, 10, 17, 13)]) (by decide) rfl (Nat.le_of_ble_eq_true rfl) ?_
  intro p e s m below meth c A ls hx hb hml hr hts hown hlocks ht hA hE hP hD hS hl
  have hl : lv_has ls 5 [(0, .ref x), (1, .int p0), (2, .int p1), (3, .ref ou)] := hl
  have hown : s.vm.findClass RL = some m.cls := hown
  have hP : va_P G.1 vwCl [(x, .inr (7, [.ref wa, .ref wb, .ref su, .ref cu, .ref tr, .ref co, .ref lo, .ref pk])), (wa, .inr (6, [.ref ro, .int 0, .int 0]))] s.heap := hP
  have hcl21 := hts (.classLink RL 21 "java/lang/IndexOutOfBoundsException") (by decide +kernel)
  refine lv_aload_n hx hb dL_turn_0 rfl (lv_at hl 3 rfl) ?_
  refine lv_iconst (v := 0) hx hb dL_turn_1 (by decide) ?_
  refine lv_aload_n hx hb dL_turn_2 rfl (lv_at hl 0 rfl) ?_
  refine lv_iload_n hx hb dL_turn_3 rfl (lv_at hl 1 rfl) ?_
  refine lv_iload_n hx hb dL_turn_4 rfl (lv_at hl 2 rfl) ?_
  refine zcallT (wr := []) (vx_runV (As := [.int p0, .int p1]) (rest := [.int 0, .ref ou]) ⟨hx, hb, hml, hown, hts⟩ (z_X7_turn l G x wa wb su cu tr co lo pk ro p0 p1 hl0 s.heap.size) (cwV 2 hts gL_turn_X7_turn rfl rfl rfl (by decide +kernel) ⟨Nat.le_of_ble_eq_true rfl, Nat.le_of_ble_eq_true rfl⟩) (zPreV (Wc := [(x, .inr (7, [.ref wa, .ref wb, .ref su, .ref cu, .ref tr, .ref co, .ref lo, .ref pk])), (wa, .inr (6, [.ref ro, .int 0, .int 0]))]) (q0 := 0) (ci := 7) (q := (RX7, TX7, 8)) hP hD hE hS hA [0, 1] rfl (by decide) rfl rfl) rfl rfl hl.1 rfl (lv_room (Nat.le_of_ble_eq_true rfl)) dL_turn_5 ⟨Nat.le_of_ble_eq_true rfl, Nat.le_of_ble_eq_true rfl⟩) hP hD hS hA [0, 1] [] rfl rfl (by decide) (by decide) (fun ce q9 H locs hP hD hS hce hcv hcl => ?_)
  have hP : va_P G.1 vwCl [(x, .inr (7, [.ref wa, .ref wb, .ref su, .ref cu, .ref tr, .ref co, .ref lo, .ref pk])), (wa, .inr (6, [.ref ro, .int 0, .int 0]))] H := hP
  have hD : va_D A [(x, .inr (7, [.ref wa, .ref wb, .ref su, .ref cu, .ref tr, .ref co, .ref lo, .ref pk])), (wa, .inr (6, [.ref ro, .int 0, .int 0]))] := hD
  refine vx_catch hown [] ⟨0, 10, 13, 21⟩ [⟨0, 10, 17, 13⟩] (by rw [ht]; rfl) (fun z hz => nomatch hz) (by decide) (by decide) hcl21 (va_Nw.use rfl hE.2.2.2.2.2.2.2.2.2.1) hce hcv hcl ?_
  refine lv_astore (lv' := [(4, .ref q9), (0, .ref x), (1, .int p0), (2, .int p1), (3, .ref ou)]) hx hb dL_turn_13 hl (by decide) rfl (fun ls hl => ?_)
  refine lv_iconst (v := 1) hx hb dL_turn_15 (by decide) ?_
  exact zend_i hx hb hr hlocks (fun k => [].getD k 0) hP hD hS (Nat.le_of_ble_eq_true rfl) (Nat.le_of_ble_eq_true rfl) dL_turn_16

set_option maxHeartbeats 4000000 in
set_option maxRecDepth 100000 in
theorem z_L_move (l : Launch) (G : zG) (x : Nat) (wa : Nat) (wb : Nat) (su : Nat) (cu : Nat) (tr : Nat) (co : Nat) (lo : Nat) (pk : Nat) (ro : Nat) (ou : Nat) (p0 : Int32) (p1 : Int32) (hl0 : l.stackTraces = false) : zH l G yL_move wsL_move { frames := 8, cells := 1, slots := 6, locals := 125 } [(x, .inr (7, [.ref wa, .ref wb, .ref su, .ref cu, .ref tr, .ref co, .ref lo, .ref pk])), (wa, .inr (6, [.ref ro, .int 0, .int 0]))] [.ref x, .int p0, .int p1, .ref ou] (some (.int 1)) (fun u => [(x, .inr (7, [.ref wa, .ref wb, .ref su, .ref cu, .ref tr, .ref co, .ref lo, .ref pk])), (wa, .inr (6, [.ref ro, .int 0, .int 0]))]) 1 6 := by
  refine zH_of (cc := cL_move) (maxL := 5) (rt := (some .int)) (hh := [(0, 10, 13, 21)]) (by decide) rfl (Nat.le_of_ble_eq_true rfl) ?_
  intro p e s m below meth c A ls hx hb hml hr hts hown hlocks ht hA hE hP hD hS hl
  have hl : lv_has ls 5 [(0, .ref x), (1, .int p0), (2, .int p1), (3, .ref ou)] := hl
  have hown : s.vm.findClass RL = some m.cls := hown
  have hP : va_P G.1 vwCl [(x, .inr (7, [.ref wa, .ref wb, .ref su, .ref cu, .ref tr, .ref co, .ref lo, .ref pk])), (wa, .inr (6, [.ref ro, .int 0, .int 0]))] s.heap := hP
  have hcl21 := hts (.classLink RL 21 "java/lang/IndexOutOfBoundsException") (by decide +kernel)
  refine lv_aload_n hx hb dL_move_0 rfl (lv_at hl 3 rfl) ?_
  refine lv_iconst (v := 0) hx hb dL_move_1 (by decide) ?_
  refine lv_aload_n hx hb dL_move_2 rfl (lv_at hl 0 rfl) ?_
  refine lv_iload_n hx hb dL_move_3 rfl (lv_at hl 1 rfl) ?_
  refine lv_iload_n hx hb dL_move_4 rfl (lv_at hl 2 rfl) ?_
  refine zcallT (wr := []) (vx_runV (As := [.int p0, .int p1]) (rest := [.int 0, .ref ou]) ⟨hx, hb, hml, hown, hts⟩ (z_X7_move l G x wa wb su cu tr co lo pk ro p0 p1 hl0 s.heap.size) (cwV 2 hts gL_move_X7_move rfl rfl rfl (by decide +kernel) ⟨Nat.le_of_ble_eq_true rfl, Nat.le_of_ble_eq_true rfl⟩) (zPreV (Wc := [(x, .inr (7, [.ref wa, .ref wb, .ref su, .ref cu, .ref tr, .ref co, .ref lo, .ref pk])), (wa, .inr (6, [.ref ro, .int 0, .int 0]))]) (q0 := 0) (ci := 7) (q := (RX7, TX7, 8)) hP hD hE hS hA [0, 1] rfl (by decide) rfl rfl) rfl rfl hl.1 rfl (lv_room (Nat.le_of_ble_eq_true rfl)) dL_move_5 ⟨Nat.le_of_ble_eq_true rfl, Nat.le_of_ble_eq_true rfl⟩) hP hD hS hA [0, 1] [] rfl rfl (by decide) (by decide) (fun ce q9 H locs hP hD hS hce hcv hcl => ?_)
  have hP : va_P G.1 vwCl [(x, .inr (7, [.ref wa, .ref wb, .ref su, .ref cu, .ref tr, .ref co, .ref lo, .ref pk])), (wa, .inr (6, [.ref ro, .int 0, .int 0]))] H := hP
  have hD : va_D A [(x, .inr (7, [.ref wa, .ref wb, .ref su, .ref cu, .ref tr, .ref co, .ref lo, .ref pk])), (wa, .inr (6, [.ref ro, .int 0, .int 0]))] := hD
  refine vx_catch hown [] ⟨0, 10, 13, 21⟩ [] (by rw [ht]; rfl) (fun z hz => nomatch hz) (by decide) (by decide) hcl21 (va_Nw.use rfl hE.2.2.2.2.2.2.2.2.2.1) hce hcv hcl ?_
  refine lv_astore (lv' := [(4, .ref q9), (0, .ref x), (1, .int p0), (2, .int p1), (3, .ref ou)]) hx hb dL_move_13 hl (by decide) rfl (fun ls hl => ?_)
  refine lv_iconst (v := 1) hx hb dL_move_15 (by decide) ?_
  exact zend_i hx hb hr hlocks (fun k => [].getD k 0) hP hD hS (Nat.le_of_ble_eq_true rfl) (Nat.le_of_ble_eq_true rfl) dL_move_16

set_option maxHeartbeats 4000000 in
set_option maxRecDepth 100000 in
theorem z_L_drop (l : Launch) (G : zG) (x : Nat) (wa : Nat) (wb : Nat) (su : Nat) (cu : Nat) (tr : Nat) (co : Nat) (lo : Nat) (pk : Nat) (ro : Nat) (ou : Nat) (p0 : Int32) (hl0 : l.stackTraces = false) : zH l G yL_drop wsL_drop { frames := 8, cells := 1, slots := 6, locals := 124 } [(x, .inr (7, [.ref wa, .ref wb, .ref su, .ref cu, .ref tr, .ref co, .ref lo, .ref pk])), (wa, .inr (6, [.ref ro, .int 0, .int 0]))] [.ref x, .int p0, .ref ou] (some (.int 1)) (fun u => [(x, .inr (7, [.ref wa, .ref wb, .ref su, .ref cu, .ref tr, .ref co, .ref lo, .ref pk])), (wa, .inr (6, [.ref ro, .int 0, .int 0]))]) 1 6 := by
  refine zH_of (cc := cL_drop) (maxL := 4) (rt := (some .int)) (hh := [(0, 9, 12, 21)]) (by decide) rfl (Nat.le_of_ble_eq_true rfl) ?_
  intro p e s m below meth c A ls hx hb hml hr hts hown hlocks ht hA hE hP hD hS hl
  have hl : lv_has ls 4 [(0, .ref x), (1, .int p0), (2, .ref ou)] := hl
  have hown : s.vm.findClass RL = some m.cls := hown
  have hP : va_P G.1 vwCl [(x, .inr (7, [.ref wa, .ref wb, .ref su, .ref cu, .ref tr, .ref co, .ref lo, .ref pk])), (wa, .inr (6, [.ref ro, .int 0, .int 0]))] s.heap := hP
  have hcl21 := hts (.classLink RL 21 "java/lang/IndexOutOfBoundsException") (by decide +kernel)
  refine lv_aload_n hx hb dL_drop_0 rfl (lv_at hl 2 rfl) ?_
  refine lv_iconst (v := 0) hx hb dL_drop_1 (by decide) ?_
  refine lv_aload_n hx hb dL_drop_2 rfl (lv_at hl 0 rfl) ?_
  refine lv_iload_n hx hb dL_drop_3 rfl (lv_at hl 1 rfl) ?_
  refine zcallT (wr := []) (vx_runV (As := [.int p0]) (rest := [.int 0, .ref ou]) ⟨hx, hb, hml, hown, hts⟩ (z_X7_drop l G x wa wb su cu tr co lo pk ro p0 hl0 s.heap.size) (cwV 1 hts gL_drop_X7_drop rfl rfl rfl (by decide +kernel) ⟨Nat.le_of_ble_eq_true rfl, Nat.le_of_ble_eq_true rfl⟩) (zPreV (Wc := [(x, .inr (7, [.ref wa, .ref wb, .ref su, .ref cu, .ref tr, .ref co, .ref lo, .ref pk])), (wa, .inr (6, [.ref ro, .int 0, .int 0]))]) (q0 := 0) (ci := 7) (q := (RX7, TX7, 8)) hP hD hE hS hA [0, 1] rfl (by decide) rfl rfl) rfl rfl hl.1 rfl (lv_room (Nat.le_of_ble_eq_true rfl)) dL_drop_4 ⟨Nat.le_of_ble_eq_true rfl, Nat.le_of_ble_eq_true rfl⟩) hP hD hS hA [0, 1] [] rfl rfl (by decide) (by decide) (fun ce q9 H locs hP hD hS hce hcv hcl => ?_)
  have hP : va_P G.1 vwCl [(x, .inr (7, [.ref wa, .ref wb, .ref su, .ref cu, .ref tr, .ref co, .ref lo, .ref pk])), (wa, .inr (6, [.ref ro, .int 0, .int 0]))] H := hP
  have hD : va_D A [(x, .inr (7, [.ref wa, .ref wb, .ref su, .ref cu, .ref tr, .ref co, .ref lo, .ref pk])), (wa, .inr (6, [.ref ro, .int 0, .int 0]))] := hD
  refine vx_catch hown [] ⟨0, 9, 12, 21⟩ [] (by rw [ht]; rfl) (fun z hz => nomatch hz) (by decide) (by decide) hcl21 (va_Nw.use rfl hE.2.2.2.2.2.2.2.2.2.1) hce hcv hcl ?_
  refine lv_astore_n (lv' := [(3, .ref q9), (0, .ref x), (1, .int p0), (2, .ref ou)]) hx hb dL_drop_12 rfl hl (by decide) rfl (fun ls hl => ?_)
  refine lv_iconst (v := 1) hx hb dL_drop_13 (by decide) ?_
  exact zend_i hx hb hr hlocks (fun k => [].getD k 0) hP hD hS (Nat.le_of_ble_eq_true rfl) (Nat.le_of_ble_eq_true rfl) dL_drop_14

set_option maxHeartbeats 4000000 in
set_option maxRecDepth 100000 in
theorem z_L_ofRule (l : Launch) (G : zG) (x : Nat) (wa : Nat) (wb : Nat) (su : Nat) (cu : Nat) (tr : Nat) (co : Nat) (lo : Nat) (pk : Nat) (ro : Nat) (ou : Nat) (p0 : Int32) (p1 : Int32) (hl0 : l.stackTraces = false) : zH l G yL_ofRule wsL_ofRule { frames := 8, cells := 1, slots := 6, locals := 127 } [(x, .inr (7, [.ref wa, .ref wb, .ref su, .ref cu, .ref tr, .ref co, .ref lo, .ref pk])), (wa, .inr (6, [.ref ro, .int 0, .int 0]))] [.ref x, .int p0, .int p1, .ref ou] (some (.int 1)) (fun u => [(x, .inr (7, [.ref wa, .ref wb, .ref su, .ref cu, .ref tr, .ref co, .ref lo, .ref pk])), (wa, .inr (6, [.ref ro, .int 0, .int 0]))]) 1 6 := by
  refine zH_of (cc := cL_ofRule) (maxL := 5) (rt := (some .int)) (hh := [(0, 10, 13, 21), (0, 10, 17, 13)]) (by decide) rfl (Nat.le_of_ble_eq_true rfl) ?_
  intro p e s m below meth c A ls hx hb hml hr hts hown hlocks ht hA hE hP hD hS hl
  have hl : lv_has ls 5 [(0, .ref x), (1, .int p0), (2, .int p1), (3, .ref ou)] := hl
  have hown : s.vm.findClass RL = some m.cls := hown
  have hP : va_P G.1 vwCl [(x, .inr (7, [.ref wa, .ref wb, .ref su, .ref cu, .ref tr, .ref co, .ref lo, .ref pk])), (wa, .inr (6, [.ref ro, .int 0, .int 0]))] s.heap := hP
  have hcl21 := hts (.classLink RL 21 "java/lang/IndexOutOfBoundsException") (by decide +kernel)
  refine lv_aload_n hx hb dL_ofRule_0 rfl (lv_at hl 3 rfl) ?_
  refine lv_iconst (v := 0) hx hb dL_ofRule_1 (by decide) ?_
  refine lv_aload_n hx hb dL_ofRule_2 rfl (lv_at hl 0 rfl) ?_
  refine lv_iload_n hx hb dL_ofRule_3 rfl (lv_at hl 1 rfl) ?_
  refine lv_iload_n hx hb dL_ofRule_4 rfl (lv_at hl 2 rfl) ?_
  refine zcallT (wr := []) (vx_runV (As := [.int p0, .int p1]) (rest := [.int 0, .ref ou]) ⟨hx, hb, hml, hown, hts⟩ (z_X7_ofRule l G x wa wb su cu tr co lo pk ro p0 p1 hl0 s.heap.size) (cwV 2 hts gL_ofRule_X7_ofRule rfl rfl rfl (by decide +kernel) ⟨Nat.le_of_ble_eq_true rfl, Nat.le_of_ble_eq_true rfl⟩) (zPreV (Wc := [(x, .inr (7, [.ref wa, .ref wb, .ref su, .ref cu, .ref tr, .ref co, .ref lo, .ref pk])), (wa, .inr (6, [.ref ro, .int 0, .int 0]))]) (q0 := 0) (ci := 7) (q := (RX7, TX7, 8)) hP hD hE hS hA [0, 1] rfl (by decide) rfl rfl) rfl rfl hl.1 rfl (lv_room (Nat.le_of_ble_eq_true rfl)) dL_ofRule_5 ⟨Nat.le_of_ble_eq_true rfl, Nat.le_of_ble_eq_true rfl⟩) hP hD hS hA [0, 1] [] rfl rfl (by decide) (by decide) (fun ce q9 H locs hP hD hS hce hcv hcl => ?_)
  have hP : va_P G.1 vwCl [(x, .inr (7, [.ref wa, .ref wb, .ref su, .ref cu, .ref tr, .ref co, .ref lo, .ref pk])), (wa, .inr (6, [.ref ro, .int 0, .int 0]))] H := hP
  have hD : va_D A [(x, .inr (7, [.ref wa, .ref wb, .ref su, .ref cu, .ref tr, .ref co, .ref lo, .ref pk])), (wa, .inr (6, [.ref ro, .int 0, .int 0]))] := hD
  refine vx_catch hown [] ⟨0, 10, 13, 21⟩ [⟨0, 10, 17, 13⟩] (by rw [ht]; rfl) (fun z hz => nomatch hz) (by decide) (by decide) hcl21 (va_Nw.use rfl hE.2.2.2.2.2.2.2.2.2.1) hce hcv hcl ?_
  refine lv_astore (lv' := [(4, .ref q9), (0, .ref x), (1, .int p0), (2, .int p1), (3, .ref ou)]) hx hb dL_ofRule_13 hl (by decide) rfl (fun ls hl => ?_)
  refine lv_iconst (v := 1) hx hb dL_ofRule_15 (by decide) ?_
  exact zend_i hx hb hr hlocks (fun k => [].getD k 0) hP hD hS (Nat.le_of_ble_eq_true rfl) (Nat.le_of_ble_eq_true rfl) dL_ofRule_16

set_option maxHeartbeats 4000000 in
set_option maxRecDepth 100000 in
theorem z_L_decides (l : Launch) (G : zG) (x : Nat) (wa : Nat) (wb : Nat) (su : Nat) (cu : Nat) (tr : Nat) (co : Nat) (lo : Nat) (pk : Nat) (ro : Nat) (ou : Nat) (p0 : Int32) (hl0 : l.stackTraces = false) : zH l G yL_decides wsL_decides { frames := 8, cells := 1, slots := 6, locals := 124 } [(x, .inr (7, [.ref wa, .ref wb, .ref su, .ref cu, .ref tr, .ref co, .ref lo, .ref pk])), (wa, .inr (6, [.ref ro, .int 0, .int 0]))] [.ref x, .int p0, .ref ou] (some (.int 1)) (fun u => [(x, .inr (7, [.ref wa, .ref wb, .ref su, .ref cu, .ref tr, .ref co, .ref lo, .ref pk])), (wa, .inr (6, [.ref ro, .int 0, .int 0]))]) 1 6 := by
  refine zH_of (cc := cL_decides) (maxL := 4) (rt := (some .int)) (hh := [(0, 9, 12, 21)]) (by decide) rfl (Nat.le_of_ble_eq_true rfl) ?_
  intro p e s m below meth c A ls hx hb hml hr hts hown hlocks ht hA hE hP hD hS hl
  have hl : lv_has ls 4 [(0, .ref x), (1, .int p0), (2, .ref ou)] := hl
  have hown : s.vm.findClass RL = some m.cls := hown
  have hP : va_P G.1 vwCl [(x, .inr (7, [.ref wa, .ref wb, .ref su, .ref cu, .ref tr, .ref co, .ref lo, .ref pk])), (wa, .inr (6, [.ref ro, .int 0, .int 0]))] s.heap := hP
  have hcl21 := hts (.classLink RL 21 "java/lang/IndexOutOfBoundsException") (by decide +kernel)
  refine lv_aload_n hx hb dL_decides_0 rfl (lv_at hl 2 rfl) ?_
  refine lv_iconst (v := 0) hx hb dL_decides_1 (by decide) ?_
  refine lv_aload_n hx hb dL_decides_2 rfl (lv_at hl 0 rfl) ?_
  refine lv_iload_n hx hb dL_decides_3 rfl (lv_at hl 1 rfl) ?_
  refine zcallT (wr := []) (vx_runV (As := [.int p0]) (rest := [.int 0, .ref ou]) ⟨hx, hb, hml, hown, hts⟩ (z_X7_decides l G x wa wb su cu tr co lo pk ro p0 hl0 s.heap.size) (cwV 1 hts gL_decides_X7_decides rfl rfl rfl (by decide +kernel) ⟨Nat.le_of_ble_eq_true rfl, Nat.le_of_ble_eq_true rfl⟩) (zPreV (Wc := [(x, .inr (7, [.ref wa, .ref wb, .ref su, .ref cu, .ref tr, .ref co, .ref lo, .ref pk])), (wa, .inr (6, [.ref ro, .int 0, .int 0]))]) (q0 := 0) (ci := 7) (q := (RX7, TX7, 8)) hP hD hE hS hA [0, 1] rfl (by decide) rfl rfl) rfl rfl hl.1 rfl (lv_room (Nat.le_of_ble_eq_true rfl)) dL_decides_4 ⟨Nat.le_of_ble_eq_true rfl, Nat.le_of_ble_eq_true rfl⟩) hP hD hS hA [0, 1] [] rfl rfl (by decide) (by decide) (fun ce q9 H locs hP hD hS hce hcv hcl => ?_)
  have hP : va_P G.1 vwCl [(x, .inr (7, [.ref wa, .ref wb, .ref su, .ref cu, .ref tr, .ref co, .ref lo, .ref pk])), (wa, .inr (6, [.ref ro, .int 0, .int 0]))] H := hP
  have hD : va_D A [(x, .inr (7, [.ref wa, .ref wb, .ref su, .ref cu, .ref tr, .ref co, .ref lo, .ref pk])), (wa, .inr (6, [.ref ro, .int 0, .int 0]))] := hD
  refine vx_catch hown [] ⟨0, 9, 12, 21⟩ [] (by rw [ht]; rfl) (fun z hz => nomatch hz) (by decide) (by decide) hcl21 (va_Nw.use rfl hE.2.2.2.2.2.2.2.2.2.1) hce hcv hcl ?_
  refine lv_astore_n (lv' := [(3, .ref q9), (0, .ref x), (1, .int p0), (2, .ref ou)]) hx hb dL_decides_12 rfl hl (by decide) rfl (fun ls hl => ?_)
  refine lv_iconst (v := 1) hx hb dL_decides_13 (by decide) ?_
  exact zend_i hx hb hr hlocks (fun k => [].getD k 0) hP hD hS (Nat.le_of_ble_eq_true rfl) (Nat.le_of_ble_eq_true rfl) dL_decides_14

set_option maxHeartbeats 4000000 in
set_option maxRecDepth 100000 in
theorem z_L_state (l : Launch) (G : zG) (x : Nat) (wa : Nat) (wb : Nat) (su : Nat) (cu : Nat) (tr : Nat) (co : Nat) (lo : Nat) (pk : Nat) (ro : Nat) (ou : Nat) (p0 : Int32) (hl0 : l.stackTraces = false) : zH l G yL_state wsL_state { frames := 8, cells := 1, slots := 6, locals := 125 } [(x, .inr (7, [.ref wa, .ref wb, .ref su, .ref cu, .ref tr, .ref co, .ref lo, .ref pk])), (wa, .inr (6, [.ref ro, .int 0, .int 0]))] [.ref x, .int p0, .ref ou] (some (.int 1)) (fun u => [(x, .inr (7, [.ref wa, .ref wb, .ref su, .ref cu, .ref tr, .ref co, .ref lo, .ref pk])), (wa, .inr (6, [.ref ro, .int 0, .int 0]))]) 1 6 := by
  refine zH_of (cc := cL_state) (maxL := 4) (rt := (some .int)) (hh := [(0, 9, 12, 21)]) (by decide) rfl (Nat.le_of_ble_eq_true rfl) ?_
  intro p e s m below meth c A ls hx hb hml hr hts hown hlocks ht hA hE hP hD hS hl
  have hl : lv_has ls 4 [(0, .ref x), (1, .int p0), (2, .ref ou)] := hl
  have hown : s.vm.findClass RL = some m.cls := hown
  have hP : va_P G.1 vwCl [(x, .inr (7, [.ref wa, .ref wb, .ref su, .ref cu, .ref tr, .ref co, .ref lo, .ref pk])), (wa, .inr (6, [.ref ro, .int 0, .int 0]))] s.heap := hP
  have hcl21 := hts (.classLink RL 21 "java/lang/IndexOutOfBoundsException") (by decide +kernel)
  refine lv_aload_n hx hb dL_state_0 rfl (lv_at hl 2 rfl) ?_
  refine lv_iconst (v := 0) hx hb dL_state_1 (by decide) ?_
  refine lv_aload_n hx hb dL_state_2 rfl (lv_at hl 0 rfl) ?_
  refine lv_iload_n hx hb dL_state_3 rfl (lv_at hl 1 rfl) ?_
  refine zcallT (wr := []) (vx_runV (As := [.int p0]) (rest := [.int 0, .ref ou]) ⟨hx, hb, hml, hown, hts⟩ (z_X7_state l G x wa wb su cu tr co lo pk ro p0 hl0 s.heap.size) (cwV 1 hts gL_state_X7_state rfl rfl rfl (by decide +kernel) ⟨Nat.le_of_ble_eq_true rfl, Nat.le_of_ble_eq_true rfl⟩) (zPreV (Wc := [(x, .inr (7, [.ref wa, .ref wb, .ref su, .ref cu, .ref tr, .ref co, .ref lo, .ref pk])), (wa, .inr (6, [.ref ro, .int 0, .int 0]))]) (q0 := 0) (ci := 7) (q := (RX7, TX7, 8)) hP hD hE hS hA [0, 1] rfl (by decide) rfl rfl) rfl rfl hl.1 rfl (lv_room (Nat.le_of_ble_eq_true rfl)) dL_state_4 ⟨Nat.le_of_ble_eq_true rfl, Nat.le_of_ble_eq_true rfl⟩) hP hD hS hA [0, 1] [] rfl rfl (by decide) (by decide) (fun ce q9 H locs hP hD hS hce hcv hcl => ?_)
  have hP : va_P G.1 vwCl [(x, .inr (7, [.ref wa, .ref wb, .ref su, .ref cu, .ref tr, .ref co, .ref lo, .ref pk])), (wa, .inr (6, [.ref ro, .int 0, .int 0]))] H := hP
  have hD : va_D A [(x, .inr (7, [.ref wa, .ref wb, .ref su, .ref cu, .ref tr, .ref co, .ref lo, .ref pk])), (wa, .inr (6, [.ref ro, .int 0, .int 0]))] := hD
  refine vx_catch hown [] ⟨0, 9, 12, 21⟩ [] (by rw [ht]; rfl) (fun z hz => nomatch hz) (by decide) (by decide) hcl21 (va_Nw.use rfl hE.2.2.2.2.2.2.2.2.2.1) hce hcv hcl ?_
  refine lv_astore_n (lv' := [(3, .ref q9), (0, .ref x), (1, .int p0), (2, .ref ou)]) hx hb dL_state_12 rfl hl (by decide) rfl (fun ls hl => ?_)
  refine lv_iconst (v := 1) hx hb dL_state_13 (by decide) ?_
  exact zend_i hx hb hr hlocks (fun k => [].getD k 0) hP hD hS (Nat.le_of_ble_eq_true rfl) (Nat.le_of_ble_eq_true rfl) dL_state_14

set_option maxHeartbeats 4000000 in
set_option maxRecDepth 100000 in
theorem z_L_coveredBy (l : Launch) (G : zG) (x : Nat) (wa : Nat) (wb : Nat) (su : Nat) (cu : Nat) (tr : Nat) (co : Nat) (lo : Nat) (pk : Nat) (ro : Nat) (ou : Nat) (p0 : Int32) (hl0 : l.stackTraces = false) : zH l G yL_coveredBy wsL_coveredBy { frames := 8, cells := 1, slots := 6, locals := 124 } [(x, .inr (7, [.ref wa, .ref wb, .ref su, .ref cu, .ref tr, .ref co, .ref lo, .ref pk])), (wa, .inr (6, [.ref ro, .int 0, .int 0]))] [.ref x, .int p0, .ref ou] (some (.int 1)) (fun u => [(x, .inr (7, [.ref wa, .ref wb, .ref su, .ref cu, .ref tr, .ref co, .ref lo, .ref pk])), (wa, .inr (6, [.ref ro, .int 0, .int 0]))]) 1 6 := by
  refine zH_of (cc := cL_coveredBy) (maxL := 4) (rt := (some .int)) (hh := [(0, 9, 12, 21)]) (by decide) rfl (Nat.le_of_ble_eq_true rfl) ?_
  intro p e s m below meth c A ls hx hb hml hr hts hown hlocks ht hA hE hP hD hS hl
  have hl : lv_has ls 4 [(0, .ref x), (1, .int p0), (2, .ref ou)] := hl
  have hown : s.vm.findClass RL = some m.cls := hown
  have hP : va_P G.1 vwCl [(x, .inr (7, [.ref wa, .ref wb, .ref su, .ref cu, .ref tr, .ref co, .ref lo, .ref pk])), (wa, .inr (6, [.ref ro, .int 0, .int 0]))] s.heap := hP
  have hcl21 := hts (.classLink RL 21 "java/lang/IndexOutOfBoundsException") (by decide +kernel)
  refine lv_aload_n hx hb dL_coveredBy_0 rfl (lv_at hl 2 rfl) ?_
  refine lv_iconst (v := 0) hx hb dL_coveredBy_1 (by decide) ?_
  refine lv_aload_n hx hb dL_coveredBy_2 rfl (lv_at hl 0 rfl) ?_
  refine lv_iload_n hx hb dL_coveredBy_3 rfl (lv_at hl 1 rfl) ?_
  refine zcallT (wr := []) (vx_runV (As := [.int p0]) (rest := [.int 0, .ref ou]) ⟨hx, hb, hml, hown, hts⟩ (z_X7_coveredBy l G x wa wb su cu tr co lo pk ro p0 hl0 s.heap.size) (cwV 1 hts gL_coveredBy_X7_coveredBy rfl rfl rfl (by decide +kernel) ⟨Nat.le_of_ble_eq_true rfl, Nat.le_of_ble_eq_true rfl⟩) (zPreV (Wc := [(x, .inr (7, [.ref wa, .ref wb, .ref su, .ref cu, .ref tr, .ref co, .ref lo, .ref pk])), (wa, .inr (6, [.ref ro, .int 0, .int 0]))]) (q0 := 0) (ci := 7) (q := (RX7, TX7, 8)) hP hD hE hS hA [0, 1] rfl (by decide) rfl rfl) rfl rfl hl.1 rfl (lv_room (Nat.le_of_ble_eq_true rfl)) dL_coveredBy_4 ⟨Nat.le_of_ble_eq_true rfl, Nat.le_of_ble_eq_true rfl⟩) hP hD hS hA [0, 1] [] rfl rfl (by decide) (by decide) (fun ce q9 H locs hP hD hS hce hcv hcl => ?_)
  have hP : va_P G.1 vwCl [(x, .inr (7, [.ref wa, .ref wb, .ref su, .ref cu, .ref tr, .ref co, .ref lo, .ref pk])), (wa, .inr (6, [.ref ro, .int 0, .int 0]))] H := hP
  have hD : va_D A [(x, .inr (7, [.ref wa, .ref wb, .ref su, .ref cu, .ref tr, .ref co, .ref lo, .ref pk])), (wa, .inr (6, [.ref ro, .int 0, .int 0]))] := hD
  refine vx_catch hown [] ⟨0, 9, 12, 21⟩ [] (by rw [ht]; rfl) (fun z hz => nomatch hz) (by decide) (by decide) hcl21 (va_Nw.use rfl hE.2.2.2.2.2.2.2.2.2.1) hce hcv hcl ?_
  refine lv_astore_n (lv' := [(3, .ref q9), (0, .ref x), (1, .int p0), (2, .ref ou)]) hx hb dL_coveredBy_12 rfl hl (by decide) rfl (fun ls hl => ?_)
  refine lv_iconst (v := 1) hx hb dL_coveredBy_13 (by decide) ?_
  exact zend_i hx hb hr hlocks (fun k => [].getD k 0) hP hD hS (Nat.le_of_ble_eq_true rfl) (Nat.le_of_ble_eq_true rfl) dL_coveredBy_14

set_option maxHeartbeats 4000000 in
set_option maxRecDepth 100000 in
theorem z_L_shared (l : Launch) (G : zG) (x : Nat) (wa : Nat) (wb : Nat) (su : Nat) (cu : Nat) (tr : Nat) (co : Nat) (lo : Nat) (pk : Nat) (ro : Nat) (ou : Nat) (p0 : Int32) (p1 : Int32) (hl0 : l.stackTraces = false) : zH l G yL_shared wsL_shared { frames := 8, cells := 1, slots := 6, locals := 125 } [(x, .inr (7, [.ref wa, .ref wb, .ref su, .ref cu, .ref tr, .ref co, .ref lo, .ref pk])), (wa, .inr (6, [.ref ro, .int 0, .int 0]))] [.ref x, .int p0, .int p1, .ref ou] (some (.int 1)) (fun u => [(x, .inr (7, [.ref wa, .ref wb, .ref su, .ref cu, .ref tr, .ref co, .ref lo, .ref pk])), (wa, .inr (6, [.ref ro, .int 0, .int 0]))]) 1 6 := by
  refine zH_of (cc := cL_shared) (maxL := 5) (rt := (some .int)) (hh := [(0, 10, 13, 21)]) (by decide) rfl (Nat.le_of_ble_eq_true rfl) ?_
  intro p e s m below meth c A ls hx hb hml hr hts hown hlocks ht hA hE hP hD hS hl
  have hl : lv_has ls 5 [(0, .ref x), (1, .int p0), (2, .int p1), (3, .ref ou)] := hl
  have hown : s.vm.findClass RL = some m.cls := hown
  have hP : va_P G.1 vwCl [(x, .inr (7, [.ref wa, .ref wb, .ref su, .ref cu, .ref tr, .ref co, .ref lo, .ref pk])), (wa, .inr (6, [.ref ro, .int 0, .int 0]))] s.heap := hP
  have hcl21 := hts (.classLink RL 21 "java/lang/IndexOutOfBoundsException") (by decide +kernel)
  refine lv_aload_n hx hb dL_shared_0 rfl (lv_at hl 3 rfl) ?_
  refine lv_iconst (v := 0) hx hb dL_shared_1 (by decide) ?_
  refine lv_aload_n hx hb dL_shared_2 rfl (lv_at hl 0 rfl) ?_
  refine lv_iload_n hx hb dL_shared_3 rfl (lv_at hl 1 rfl) ?_
  refine lv_iload_n hx hb dL_shared_4 rfl (lv_at hl 2 rfl) ?_
  refine zcallT (wr := []) (vx_runV (As := [.int p0, .int p1]) (rest := [.int 0, .ref ou]) ⟨hx, hb, hml, hown, hts⟩ (z_X7_shared l G x wa wb su cu tr co lo pk ro p0 p1 hl0 s.heap.size) (cwV 2 hts gL_shared_X7_shared rfl rfl rfl (by decide +kernel) ⟨Nat.le_of_ble_eq_true rfl, Nat.le_of_ble_eq_true rfl⟩) (zPreV (Wc := [(x, .inr (7, [.ref wa, .ref wb, .ref su, .ref cu, .ref tr, .ref co, .ref lo, .ref pk])), (wa, .inr (6, [.ref ro, .int 0, .int 0]))]) (q0 := 0) (ci := 7) (q := (RX7, TX7, 8)) hP hD hE hS hA [0, 1] rfl (by decide) rfl rfl) rfl rfl hl.1 rfl (lv_room (Nat.le_of_ble_eq_true rfl)) dL_shared_5 ⟨Nat.le_of_ble_eq_true rfl, Nat.le_of_ble_eq_true rfl⟩) hP hD hS hA [0, 1] [] rfl rfl (by decide) (by decide) (fun ce q9 H locs hP hD hS hce hcv hcl => ?_)
  have hP : va_P G.1 vwCl [(x, .inr (7, [.ref wa, .ref wb, .ref su, .ref cu, .ref tr, .ref co, .ref lo, .ref pk])), (wa, .inr (6, [.ref ro, .int 0, .int 0]))] H := hP
  have hD : va_D A [(x, .inr (7, [.ref wa, .ref wb, .ref su, .ref cu, .ref tr, .ref co, .ref lo, .ref pk])), (wa, .inr (6, [.ref ro, .int 0, .int 0]))] := hD
  refine vx_catch hown [] ⟨0, 10, 13, 21⟩ [] (by rw [ht]; rfl) (fun z hz => nomatch hz) (by decide) (by decide) hcl21 (va_Nw.use rfl hE.2.2.2.2.2.2.2.2.2.1) hce hcv hcl ?_
  refine lv_astore (lv' := [(4, .ref q9), (0, .ref x), (1, .int p0), (2, .int p1), (3, .ref ou)]) hx hb dL_shared_13 hl (by decide) rfl (fun ls hl => ?_)
  refine lv_iconst (v := 1) hx hb dL_shared_15 (by decide) ?_
  exact zend_i hx hb hr hlocks (fun k => [].getD k 0) hP hD hS (Nat.le_of_ble_eq_true rfl) (Nat.le_of_ble_eq_true rfl) dL_shared_16

set_option maxHeartbeats 4000000 in
set_option maxRecDepth 100000 in
theorem z_L_allowedWithout (l : Launch) (G : zG) (x : Nat) (wa : Nat) (wb : Nat) (su : Nat) (cu : Nat) (tr : Nat) (co : Nat) (lo : Nat) (pk : Nat) (ro : Nat) (ou : Nat) (p0 : Int32) (hl0 : l.stackTraces = false) : zH l G yL_allowedWithout wsL_allowedWithout { frames := 8, cells := 1, slots := 6, locals := 124 } [(x, .inr (7, [.ref wa, .ref wb, .ref su, .ref cu, .ref tr, .ref co, .ref lo, .ref pk])), (wa, .inr (6, [.ref ro, .int 0, .int 0]))] [.ref x, .int p0, .ref ou] (some (.int 1)) (fun u => [(x, .inr (7, [.ref wa, .ref wb, .ref su, .ref cu, .ref tr, .ref co, .ref lo, .ref pk])), (wa, .inr (6, [.ref ro, .int 0, .int 0]))]) 1 6 := by
  refine zH_of (cc := cL_allowedWithout) (maxL := 4) (rt := (some .int)) (hh := [(0, 9, 12, 21)]) (by decide) rfl (Nat.le_of_ble_eq_true rfl) ?_
  intro p e s m below meth c A ls hx hb hml hr hts hown hlocks ht hA hE hP hD hS hl
  have hl : lv_has ls 4 [(0, .ref x), (1, .int p0), (2, .ref ou)] := hl
  have hown : s.vm.findClass RL = some m.cls := hown
  have hP : va_P G.1 vwCl [(x, .inr (7, [.ref wa, .ref wb, .ref su, .ref cu, .ref tr, .ref co, .ref lo, .ref pk])), (wa, .inr (6, [.ref ro, .int 0, .int 0]))] s.heap := hP
  have hcl21 := hts (.classLink RL 21 "java/lang/IndexOutOfBoundsException") (by decide +kernel)
  refine lv_aload_n hx hb dL_allowedWithout_0 rfl (lv_at hl 2 rfl) ?_
  refine lv_iconst (v := 0) hx hb dL_allowedWithout_1 (by decide) ?_
  refine lv_aload_n hx hb dL_allowedWithout_2 rfl (lv_at hl 0 rfl) ?_
  refine lv_iload_n hx hb dL_allowedWithout_3 rfl (lv_at hl 1 rfl) ?_
  refine zcallT (wr := []) (vx_runV (As := [.int p0]) (rest := [.int 0, .ref ou]) ⟨hx, hb, hml, hown, hts⟩ (z_X7_allowedWithout l G x wa wb su cu tr co lo pk ro p0 hl0 s.heap.size) (cwV 1 hts gL_allowedWithout_X7_allowedWithout rfl rfl rfl (by decide +kernel) ⟨Nat.le_of_ble_eq_true rfl, Nat.le_of_ble_eq_true rfl⟩) (zPreV (Wc := [(x, .inr (7, [.ref wa, .ref wb, .ref su, .ref cu, .ref tr, .ref co, .ref lo, .ref pk])), (wa, .inr (6, [.ref ro, .int 0, .int 0]))]) (q0 := 0) (ci := 7) (q := (RX7, TX7, 8)) hP hD hE hS hA [0, 1] rfl (by decide) rfl rfl) rfl rfl hl.1 rfl (lv_room (Nat.le_of_ble_eq_true rfl)) dL_allowedWithout_4 ⟨Nat.le_of_ble_eq_true rfl, Nat.le_of_ble_eq_true rfl⟩) hP hD hS hA [0, 1] [] rfl rfl (by decide) (by decide) (fun ce q9 H locs hP hD hS hce hcv hcl => ?_)
  have hP : va_P G.1 vwCl [(x, .inr (7, [.ref wa, .ref wb, .ref su, .ref cu, .ref tr, .ref co, .ref lo, .ref pk])), (wa, .inr (6, [.ref ro, .int 0, .int 0]))] H := hP
  have hD : va_D A [(x, .inr (7, [.ref wa, .ref wb, .ref su, .ref cu, .ref tr, .ref co, .ref lo, .ref pk])), (wa, .inr (6, [.ref ro, .int 0, .int 0]))] := hD
  refine vx_catch hown [] ⟨0, 9, 12, 21⟩ [] (by rw [ht]; rfl) (fun z hz => nomatch hz) (by decide) (by decide) hcl21 (va_Nw.use rfl hE.2.2.2.2.2.2.2.2.2.1) hce hcv hcl ?_
  refine lv_astore_n (lv' := [(3, .ref q9), (0, .ref x), (1, .int p0), (2, .ref ou)]) hx hb dL_allowedWithout_12 rfl hl (by decide) rfl (fun ls hl => ?_)
  refine lv_iconst (v := 1) hx hb dL_allowedWithout_13 (by decide) ?_
  exact zend_i hx hb hr hlocks (fun k => [].getD k 0) hP hD hS (Nat.le_of_ble_eq_true rfl) (Nat.le_of_ble_eq_true rfl) dL_allowedWithout_14

set_option maxHeartbeats 4000000 in
set_option maxRecDepth 100000 in
theorem z_L_changedByMove (l : Launch) (G : zG) (x : Nat) (wa : Nat) (wb : Nat) (su : Nat) (cu : Nat) (tr : Nat) (co : Nat) (lo : Nat) (pk : Nat) (ro : Nat) (ou : Nat) (p0 : Int32) (p1 : Int32) (hl0 : l.stackTraces = false) : zH l G yL_changedByMove wsL_changedByMove { frames := 8, cells := 1, slots := 6, locals := 125 } [(x, .inr (7, [.ref wa, .ref wb, .ref su, .ref cu, .ref tr, .ref co, .ref lo, .ref pk])), (wa, .inr (6, [.ref ro, .int 0, .int 0]))] [.ref x, .int p0, .int p1, .ref ou] (some (.int 1)) (fun u => [(x, .inr (7, [.ref wa, .ref wb, .ref su, .ref cu, .ref tr, .ref co, .ref lo, .ref pk])), (wa, .inr (6, [.ref ro, .int 0, .int 0]))]) 1 6 := by
  refine zH_of (cc := cL_changedByMove) (maxL := 5) (rt := (some .int)) (hh := [(0, 10, 13, 21)]) (by decide) rfl (Nat.le_of_ble_eq_true rfl) ?_
  intro p e s m below meth c A ls hx hb hml hr hts hown hlocks ht hA hE hP hD hS hl
  have hl : lv_has ls 5 [(0, .ref x), (1, .int p0), (2, .int p1), (3, .ref ou)] := hl
  have hown : s.vm.findClass RL = some m.cls := hown
  have hP : va_P G.1 vwCl [(x, .inr (7, [.ref wa, .ref wb, .ref su, .ref cu, .ref tr, .ref co, .ref lo, .ref pk])), (wa, .inr (6, [.ref ro, .int 0, .int 0]))] s.heap := hP
  have hcl21 := hts (.classLink RL 21 "java/lang/IndexOutOfBoundsException") (by decide +kernel)
  refine lv_aload_n hx hb dL_changedByMove_0 rfl (lv_at hl 3 rfl) ?_
  refine lv_iconst (v := 0) hx hb dL_changedByMove_1 (by decide) ?_
  refine lv_aload_n hx hb dL_changedByMove_2 rfl (lv_at hl 0 rfl) ?_
  refine lv_iload_n hx hb dL_changedByMove_3 rfl (lv_at hl 1 rfl) ?_
  refine lv_iload_n hx hb dL_changedByMove_4 rfl (lv_at hl 2 rfl) ?_
  refine zcallT (wr := []) (vx_runV (As := [.int p0, .int p1]) (rest := [.int 0, .ref ou]) ⟨hx, hb, hml, hown, hts⟩ (z_X7_changedByMove l G x wa wb su cu tr co lo pk ro p0 p1 hl0 s.heap.size) (cwV 2 hts gL_changedByMove_X7_changedByMove rfl rfl rfl (by decide +kernel) ⟨Nat.le_of_ble_eq_true rfl, Nat.le_of_ble_eq_true rfl⟩) (zPreV (Wc := [(x, .inr (7, [.ref wa, .ref wb, .ref su, .ref cu, .ref tr, .ref co, .ref lo, .ref pk])), (wa, .inr (6, [.ref ro, .int 0, .int 0]))]) (q0 := 0) (ci := 7) (q := (RX7, TX7, 8)) hP hD hE hS hA [0, 1] rfl (by decide) rfl rfl) rfl rfl hl.1 rfl (lv_room (Nat.le_of_ble_eq_true rfl)) dL_changedByMove_5 ⟨Nat.le_of_ble_eq_true rfl, Nat.le_of_ble_eq_true rfl⟩) hP hD hS hA [0, 1] [] rfl rfl (by decide) (by decide) (fun ce q9 H locs hP hD hS hce hcv hcl => ?_)
  have hP : va_P G.1 vwCl [(x, .inr (7, [.ref wa, .ref wb, .ref su, .ref cu, .ref tr, .ref co, .ref lo, .ref pk])), (wa, .inr (6, [.ref ro, .int 0, .int 0]))] H := hP
  have hD : va_D A [(x, .inr (7, [.ref wa, .ref wb, .ref su, .ref cu, .ref tr, .ref co, .ref lo, .ref pk])), (wa, .inr (6, [.ref ro, .int 0, .int 0]))] := hD
  refine vx_catch hown [] ⟨0, 10, 13, 21⟩ [] (by rw [ht]; rfl) (fun z hz => nomatch hz) (by decide) (by decide) hcl21 (va_Nw.use rfl hE.2.2.2.2.2.2.2.2.2.1) hce hcv hcl ?_
  refine lv_astore (lv' := [(4, .ref q9), (0, .ref x), (1, .int p0), (2, .int p1), (3, .ref ou)]) hx hb dL_changedByMove_13 hl (by decide) rfl (fun ls hl => ?_)
  refine lv_iconst (v := 1) hx hb dL_changedByMove_15 (by decide) ?_
  exact zend_i hx hb hr hlocks (fun k => [].getD k 0) hP hD hS (Nat.le_of_ble_eq_true rfl) (Nat.le_of_ble_eq_true rfl) dL_changedByMove_16

set_option maxHeartbeats 4000000 in
set_option maxRecDepth 100000 in
theorem z_L_ofNode (l : Launch) (G : zG) (x : Nat) (wa : Nat) (wb : Nat) (su : Nat) (cu : Nat) (tr : Nat) (co : Nat) (lo : Nat) (pk : Nat) (ro : Nat) (rb : Nat) (cc : Nat) (cs : Nat) (cm : Nat) (fc : Nat → Int32) (fs : Nat → Int32) (fm : Nat → Int32) (tn : Nat) (tc : Nat) (ts : Nat) (ft : Nat → Int32) (ou : Nat) (p0 : Int32) (p1 : Int32) (hl0 : l.stackTraces = false) : zH l G yL_ofNode wsL_ofNode { frames := 8, cells := 1, slots := 6, locals := 137 } [(x, .inr (7, [.ref wa, .ref wb, .ref su, .ref cu, .ref tr, .ref co, .ref lo, .ref pk])), (cu, .inr (1, [.ref wa, .ref wb, .ref cc, .ref cs, .ref cm, .int 0])), (wa, .inr (6, [.ref ro, .int 0, .int 0])), (wb, .inr (6, [.ref rb, .int 0, .int 0])), (cc, .inl (G.2.1, 4, .inl (fc))), (cs, .inl (G.2.1, 132, .inl (fs))), (cm, .inl (G.2.1, 132, .inl (fm))), (tr, .inr (5, [.ref wa, .ref cu, .ref tn, .ref tc, .ref ts, .int 0, .int 0])), (tn, .inl (G.2.1, 1024, .inl (ft)))] [.ref x, .int p0, .int p1, .ref ou] (some (.int 1)) (fun u => [(x, .inr (7, [.ref wa, .ref wb, .ref su, .ref cu, .ref tr, .ref co, .ref lo, .ref pk])), (cu, .inr (1, [.ref wa, .ref wb, .ref cc, .ref cs, .ref cm, .int 1])), (cc, .inl (G.2.1, 4, .inl (upd (upd (upd (upd fc 0 1) 1 1) 2 1) 3 1))), (cs, .inl (G.2.1, 132, .inl (upd (upd (upd (upd fs 0 0) 33 0) 66 0) 99 0))), (cm, .inl (G.2.1, 132, .inl (upd (upd (upd (upd fm 0 0) 33 0) 66 0) 99 0))), (wb, .inr (6, [.ref rb, .int 0, .int 0])), (tn, .inl (G.2.1, 1024, .inl (zfill 1024 ft))), (wa, .inr (6, [.ref ro, .int 0, .int 0])), (tr, .inr (5, [.ref wa, .ref cu, .ref tn, .ref tc, .ref ts, .int 0, .int 1]))]) 1 6 := by
  refine zH_of (cc := cL_ofNode) (maxL := 5) (rt := (some .int)) (hh := [(0, 10, 13, 21), (0, 10, 17, 13)]) (by decide) rfl (Nat.le_of_ble_eq_true rfl) ?_
  intro p e s m below meth c A ls hx hb hml hr hts hown hlocks ht hA hE hP hD hS hl
  have hl : lv_has ls 5 [(0, .ref x), (1, .int p0), (2, .int p1), (3, .ref ou)] := hl
  have hown : s.vm.findClass RL = some m.cls := hown
  have hP : va_P G.1 vwCl [(x, .inr (7, [.ref wa, .ref wb, .ref su, .ref cu, .ref tr, .ref co, .ref lo, .ref pk])), (cu, .inr (1, [.ref wa, .ref wb, .ref cc, .ref cs, .ref cm, .int 0])), (wa, .inr (6, [.ref ro, .int 0, .int 0])), (wb, .inr (6, [.ref rb, .int 0, .int 0])), (cc, .inl (G.2.1, 4, .inl (fc))), (cs, .inl (G.2.1, 132, .inl (fs))), (cm, .inl (G.2.1, 132, .inl (fm))), (tr, .inr (5, [.ref wa, .ref cu, .ref tn, .ref tc, .ref ts, .int 0, .int 0])), (tn, .inl (G.2.1, 1024, .inl (ft)))] s.heap := hP
  have hcl21 := hts (.classLink RL 21 "java/lang/IndexOutOfBoundsException") (by decide +kernel)
  refine lv_aload_n hx hb dL_ofNode_0 rfl (lv_at hl 3 rfl) ?_
  refine lv_iconst (v := 0) hx hb dL_ofNode_1 (by decide) ?_
  refine lv_aload_n hx hb dL_ofNode_2 rfl (lv_at hl 0 rfl) ?_
  refine lv_iload_n hx hb dL_ofNode_3 rfl (lv_at hl 1 rfl) ?_
  refine lv_iload_n hx hb dL_ofNode_4 rfl (lv_at hl 2 rfl) ?_
  refine zcallT (wr := []) (vx_runV (As := [.int p0, .int p1]) (rest := [.int 0, .ref ou]) ⟨hx, hb, hml, hown, hts⟩ (z_X7_ofNode l G x wa wb su cu tr co lo pk ro rb cc cs cm (fc) (fs) (fm) tn tc ts (ft) p0 p1 hl0 s.heap.size) (cwV 2 hts gL_ofNode_X7_ofNode rfl rfl rfl (by decide +kernel) ⟨Nat.le_of_ble_eq_true rfl, Nat.le_of_ble_eq_true rfl⟩) (zPreV (Wc := [(x, .inr (7, [.ref wa, .ref wb, .ref su, .ref cu, .ref tr, .ref co, .ref lo, .ref pk])), (cu, .inr (1, [.ref wa, .ref wb, .ref cc, .ref cs, .ref cm, .int 0])), (wa, .inr (6, [.ref ro, .int 0, .int 0])), (wb, .inr (6, [.ref rb, .int 0, .int 0])), (cc, .inl (G.2.1, 4, .inl (fc))), (cs, .inl (G.2.1, 132, .inl (fs))), (cm, .inl (G.2.1, 132, .inl (fm))), (tr, .inr (5, [.ref wa, .ref cu, .ref tn, .ref tc, .ref ts, .int 0, .int 0])), (tn, .inl (G.2.1, 1024, .inl (ft)))]) (q0 := 0) (ci := 7) (q := (RX7, TX7, 8)) hP hD hE hS hA [0, 1, 2, 3, 4, 5, 6, 7, 8] rfl (by decide) rfl rfl) rfl rfl hl.1 rfl (lv_room (Nat.le_of_ble_eq_true rfl)) dL_ofNode_5 ⟨Nat.le_of_ble_eq_true rfl, Nat.le_of_ble_eq_true rfl⟩) hP hD hS hA [0, 1, 2, 3, 4, 5, 6, 7, 8] [] rfl rfl (by decide) (by decide) (fun ce q9 H locs hP hD hS hce hcv hcl => ?_)
  have hP : va_P G.1 vwCl [(x, .inr (7, [.ref wa, .ref wb, .ref su, .ref cu, .ref tr, .ref co, .ref lo, .ref pk])), (cu, .inr (1, [.ref wa, .ref wb, .ref cc, .ref cs, .ref cm, .int 1])), (cc, .inl (G.2.1, 4, .inl (upd (upd (upd (upd fc 0 1) 1 1) 2 1) 3 1))), (cs, .inl (G.2.1, 132, .inl (upd (upd (upd (upd fs 0 0) 33 0) 66 0) 99 0))), (cm, .inl (G.2.1, 132, .inl (upd (upd (upd (upd fm 0 0) 33 0) 66 0) 99 0))), (wb, .inr (6, [.ref rb, .int 0, .int 0])), (tn, .inl (G.2.1, 1024, .inl (zfill 1024 ft))), (wa, .inr (6, [.ref ro, .int 0, .int 0])), (tr, .inr (5, [.ref wa, .ref cu, .ref tn, .ref tc, .ref ts, .int 0, .int 1]))] H := hP
  have hD : va_D A [(x, .inr (7, [.ref wa, .ref wb, .ref su, .ref cu, .ref tr, .ref co, .ref lo, .ref pk])), (cu, .inr (1, [.ref wa, .ref wb, .ref cc, .ref cs, .ref cm, .int 1])), (cc, .inl (G.2.1, 4, .inl (upd (upd (upd (upd fc 0 1) 1 1) 2 1) 3 1))), (cs, .inl (G.2.1, 132, .inl (upd (upd (upd (upd fs 0 0) 33 0) 66 0) 99 0))), (cm, .inl (G.2.1, 132, .inl (upd (upd (upd (upd fm 0 0) 33 0) 66 0) 99 0))), (wb, .inr (6, [.ref rb, .int 0, .int 0])), (tn, .inl (G.2.1, 1024, .inl (zfill 1024 ft))), (wa, .inr (6, [.ref ro, .int 0, .int 0])), (tr, .inr (5, [.ref wa, .ref cu, .ref tn, .ref tc, .ref ts, .int 0, .int 1]))] := hD
  refine vx_catch hown [] ⟨0, 10, 13, 21⟩ [⟨0, 10, 17, 13⟩] (by rw [ht]; rfl) (fun z hz => nomatch hz) (by decide) (by decide) hcl21 (va_Nw.use rfl hE.2.2.2.2.2.2.2.2.2.1) hce hcv hcl ?_
  refine lv_astore (lv' := [(4, .ref q9), (0, .ref x), (1, .int p0), (2, .int p1), (3, .ref ou)]) hx hb dL_ofNode_13 hl (by decide) rfl (fun ls hl => ?_)
  refine lv_iconst (v := 1) hx hb dL_ofNode_15 (by decide) ?_
  exact zend_i hx hb hr hlocks (fun k => [].getD k 0) hP hD hS (Nat.le_of_ble_eq_true rfl) (Nat.le_of_ble_eq_true rfl) dL_ofNode_16

set_option maxHeartbeats 4000000 in
set_option maxRecDepth 100000 in
theorem z_L_piece (l : Launch) (G : zG) (x : Nat) (wa : Nat) (wb : Nat) (su : Nat) (cu : Nat) (tr : Nat) (co : Nat) (lo : Nat) (pk : Nat) (ro : Nat) (rb : Nat) (cc : Nat) (cs : Nat) (cm : Nat) (fc : Nat → Int32) (fs : Nat → Int32) (fm : Nat → Int32) (tn : Nat) (tc : Nat) (ts : Nat) (ft : Nat → Int32) (ou : Nat) (p0 : Int32) (p1 : Int32) (p2 : Int32) (hl0 : l.stackTraces = false) : zH l G yL_piece wsL_piece { frames := 8, cells := 1, slots := 6, locals := 140 } [(x, .inr (7, [.ref wa, .ref wb, .ref su, .ref cu, .ref tr, .ref co, .ref lo, .ref pk])), (cu, .inr (1, [.ref wa, .ref wb, .ref cc, .ref cs, .ref cm, .int 0])), (wa, .inr (6, [.ref ro, .int 0, .int 0])), (wb, .inr (6, [.ref rb, .int 0, .int 0])), (cc, .inl (G.2.1, 4, .inl (fc))), (cs, .inl (G.2.1, 132, .inl (fs))), (cm, .inl (G.2.1, 132, .inl (fm))), (tr, .inr (5, [.ref wa, .ref cu, .ref tn, .ref tc, .ref ts, .int 0, .int 0])), (tn, .inl (G.2.1, 1024, .inl (ft)))] [.ref x, .int p0, .int p1, .int p2, .ref ou] (some (.int 1)) (fun u => [(x, .inr (7, [.ref wa, .ref wb, .ref su, .ref cu, .ref tr, .ref co, .ref lo, .ref pk])), (cu, .inr (1, [.ref wa, .ref wb, .ref cc, .ref cs, .ref cm, .int 1])), (cc, .inl (G.2.1, 4, .inl (upd (upd (upd (upd fc 0 1) 1 1) 2 1) 3 1))), (cs, .inl (G.2.1, 132, .inl (upd (upd (upd (upd fs 0 0) 33 0) 66 0) 99 0))), (cm, .inl (G.2.1, 132, .inl (upd (upd (upd (upd fm 0 0) 33 0) 66 0) 99 0))), (wb, .inr (6, [.ref rb, .int 0, .int 0])), (tn, .inl (G.2.1, 1024, .inl (zfill 1024 ft))), (wa, .inr (6, [.ref ro, .int 0, .int 0])), (tr, .inr (5, [.ref wa, .ref cu, .ref tn, .ref tc, .ref ts, .int 0, .int 1]))]) 1 6 := by
  refine zH_of (cc := cL_piece) (maxL := 6) (rt := (some .int)) (hh := [(0, 12, 15, 21), (0, 12, 19, 13)]) (by decide) rfl (Nat.le_of_ble_eq_true rfl) ?_
  intro p e s m below meth c A ls hx hb hml hr hts hown hlocks ht hA hE hP hD hS hl
  have hl : lv_has ls 6 [(0, .ref x), (1, .int p0), (2, .int p1), (3, .int p2), (4, .ref ou)] := hl
  have hown : s.vm.findClass RL = some m.cls := hown
  have hP : va_P G.1 vwCl [(x, .inr (7, [.ref wa, .ref wb, .ref su, .ref cu, .ref tr, .ref co, .ref lo, .ref pk])), (cu, .inr (1, [.ref wa, .ref wb, .ref cc, .ref cs, .ref cm, .int 0])), (wa, .inr (6, [.ref ro, .int 0, .int 0])), (wb, .inr (6, [.ref rb, .int 0, .int 0])), (cc, .inl (G.2.1, 4, .inl (fc))), (cs, .inl (G.2.1, 132, .inl (fs))), (cm, .inl (G.2.1, 132, .inl (fm))), (tr, .inr (5, [.ref wa, .ref cu, .ref tn, .ref tc, .ref ts, .int 0, .int 0])), (tn, .inl (G.2.1, 1024, .inl (ft)))] s.heap := hP
  have hcl21 := hts (.classLink RL 21 "java/lang/IndexOutOfBoundsException") (by decide +kernel)
  refine lv_aload hx hb dL_piece_0 (lv_at hl 4 rfl) ?_
  refine lv_iconst (v := 0) hx hb dL_piece_2 (by decide) ?_
  refine lv_aload_n hx hb dL_piece_3 rfl (lv_at hl 0 rfl) ?_
  refine lv_iload_n hx hb dL_piece_4 rfl (lv_at hl 1 rfl) ?_
  refine lv_iload_n hx hb dL_piece_5 rfl (lv_at hl 2 rfl) ?_
  refine lv_iload_n hx hb dL_piece_6 rfl (lv_at hl 3 rfl) ?_
  refine zcallT (wr := []) (vx_runV (As := [.int p0, .int p1, .int p2]) (rest := [.int 0, .ref ou]) ⟨hx, hb, hml, hown, hts⟩ (z_X7_piece l G x wa wb su cu tr co lo pk ro rb cc cs cm (fc) (fs) (fm) tn tc ts (ft) p0 p1 p2 hl0 s.heap.size) (cwV 3 hts gL_piece_X7_piece rfl rfl rfl (by decide +kernel) ⟨Nat.le_of_ble_eq_true rfl, Nat.le_of_ble_eq_true rfl⟩) (zPreV (Wc := [(x, .inr (7, [.ref wa, .ref wb, .ref su, .ref cu, .ref tr, .ref co, .ref lo, .ref pk])), (cu, .inr (1, [.ref wa, .ref wb, .ref cc, .ref cs, .ref cm, .int 0])), (wa, .inr (6, [.ref ro, .int 0, .int 0])), (wb, .inr (6, [.ref rb, .int 0, .int 0])), (cc, .inl (G.2.1, 4, .inl (fc))), (cs, .inl (G.2.1, 132, .inl (fs))), (cm, .inl (G.2.1, 132, .inl (fm))), (tr, .inr (5, [.ref wa, .ref cu, .ref tn, .ref tc, .ref ts, .int 0, .int 0])), (tn, .inl (G.2.1, 1024, .inl (ft)))]) (q0 := 0) (ci := 7) (q := (RX7, TX7, 8)) hP hD hE hS hA [0, 1, 2, 3, 4, 5, 6, 7, 8] rfl (by decide) rfl rfl) rfl rfl hl.1 rfl (lv_room (Nat.le_of_ble_eq_true rfl)) dL_piece_7 ⟨Nat.le_of_ble_eq_true rfl, Nat.le_of_ble_eq_true rfl⟩) hP hD hS hA [0, 1, 2, 3, 4, 5, 6, 7, 8] [] rfl rfl (by decide) (by decide) (fun ce q9 H locs hP hD hS hce hcv hcl => ?_)
  have hP : va_P G.1 vwCl [(x, .inr (7, [.ref wa, .ref wb, .ref su, .ref cu, .ref tr, .ref co, .ref lo, .ref pk])), (cu, .inr (1, [.ref wa, .ref wb, .ref cc, .ref cs, .ref cm, .int 1])), (cc, .inl (G.2.1, 4, .inl (upd (upd (upd (upd fc 0 1) 1 1) 2 1) 3 1))), (cs, .inl (G.2.1, 132, .inl (upd (upd (upd (upd fs 0 0) 33 0) 66 0) 99 0))), (cm, .inl (G.2.1, 132, .inl (upd (upd (upd (upd fm 0 0) 33 0) 66 0) 99 0))), (wb, .inr (6, [.ref rb, .int 0, .int 0])), (tn, .inl (G.2.1, 1024, .inl (zfill 1024 ft))), (wa, .inr (6, [.ref ro, .int 0, .int 0])), (tr, .inr (5, [.ref wa, .ref cu, .ref tn, .ref tc, .ref ts, .int 0, .int 1]))] H := hP
  have hD : va_D A [(x, .inr (7, [.ref wa, .ref wb, .ref su, .ref cu, .ref tr, .ref co, .ref lo, .ref pk])), (cu, .inr (1, [.ref wa, .ref wb, .ref cc, .ref cs, .ref cm, .int 1])), (cc, .inl (G.2.1, 4, .inl (upd (upd (upd (upd fc 0 1) 1 1) 2 1) 3 1))), (cs, .inl (G.2.1, 132, .inl (upd (upd (upd (upd fs 0 0) 33 0) 66 0) 99 0))), (cm, .inl (G.2.1, 132, .inl (upd (upd (upd (upd fm 0 0) 33 0) 66 0) 99 0))), (wb, .inr (6, [.ref rb, .int 0, .int 0])), (tn, .inl (G.2.1, 1024, .inl (zfill 1024 ft))), (wa, .inr (6, [.ref ro, .int 0, .int 0])), (tr, .inr (5, [.ref wa, .ref cu, .ref tn, .ref tc, .ref ts, .int 0, .int 1]))] := hD
  refine vx_catch hown [] ⟨0, 12, 15, 21⟩ [⟨0, 12, 19, 13⟩] (by rw [ht]; rfl) (fun z hz => nomatch hz) (by decide) (by decide) hcl21 (va_Nw.use rfl hE.2.2.2.2.2.2.2.2.2.1) hce hcv hcl ?_
  refine lv_astore (lv' := [(5, .ref q9), (0, .ref x), (1, .int p0), (2, .int p1), (3, .int p2), (4, .ref ou)]) hx hb dL_piece_15 hl (by decide) rfl (fun ls hl => ?_)
  refine lv_iconst (v := 1) hx hb dL_piece_17 (by decide) ?_
  exact zend_i hx hb hr hlocks (fun k => [].getD k 0) hP hD hS (Nat.le_of_ble_eq_true rfl) (Nat.le_of_ble_eq_true rfl) dL_piece_18

set_option maxHeartbeats 4000000 in
set_option maxRecDepth 100000 in
theorem z_L_kept (l : Launch) (G : zG) (x : Nat) (wa : Nat) (wb : Nat) (su : Nat) (cu : Nat) (tr : Nat) (co : Nat) (lo : Nat) (pk : Nat) (lr : Nat) (ou : Nat) (p0 : Int32) (p1 : Int32) (hl0 : l.stackTraces = false) : zH l G yL_kept wsL_kept { frames := 7, cells := 1, slots := 6, locals := 104 } [(x, .inr (7, [.ref wa, .ref wb, .ref su, .ref cu, .ref tr, .ref co, .ref lo, .ref pk])), (lo, .inr (2, [.ref lr, .int 0, .int 0, .int 0, .int 0, .int 0]))] [.ref x, .int p0, .int p1, .ref ou] (some (.int 1)) (fun u => [(x, .inr (7, [.ref wa, .ref wb, .ref su, .ref cu, .ref tr, .ref co, .ref lo, .ref pk])), (lo, .inr (2, [.ref lr, .int 0, .int 0, .int 0, .int 0, .int 0]))]) 1 6 := by
  refine zH_of (cc := cL_kept) (maxL := 5) (rt := (some .int)) (hh := [(0, 10, 13, 21), (0, 10, 17, 13)]) (by decide) rfl (Nat.le_of_ble_eq_true rfl) ?_
  intro p e s m below meth c A ls hx hb hml hr hts hown hlocks ht hA hE hP hD hS hl
  have hl : lv_has ls 5 [(0, .ref x), (1, .int p0), (2, .int p1), (3, .ref ou)] := hl
  have hown : s.vm.findClass RL = some m.cls := hown
  have hP : va_P G.1 vwCl [(x, .inr (7, [.ref wa, .ref wb, .ref su, .ref cu, .ref tr, .ref co, .ref lo, .ref pk])), (lo, .inr (2, [.ref lr, .int 0, .int 0, .int 0, .int 0, .int 0]))] s.heap := hP
  have hcl21 := hts (.classLink RL 21 "java/lang/IndexOutOfBoundsException") (by decide +kernel)
  refine lv_aload_n hx hb dL_kept_0 rfl (lv_at hl 3 rfl) ?_
  refine lv_iconst (v := 0) hx hb dL_kept_1 (by decide) ?_
  refine lv_aload_n hx hb dL_kept_2 rfl (lv_at hl 0 rfl) ?_
  refine lv_iload_n hx hb dL_kept_3 rfl (lv_at hl 1 rfl) ?_
  refine lv_iload_n hx hb dL_kept_4 rfl (lv_at hl 2 rfl) ?_
  refine zcallT (wr := []) (vx_runV (As := [.int p0, .int p1]) (rest := [.int 0, .ref ou]) ⟨hx, hb, hml, hown, hts⟩ (z_X7_kept l G x wa wb su cu tr co lo pk lr p0 p1 hl0 s.heap.size) (cwV 2 hts gL_kept_X7_kept rfl rfl rfl (by decide +kernel) ⟨Nat.le_of_ble_eq_true rfl, Nat.le_of_ble_eq_true rfl⟩) (zPreV (Wc := [(x, .inr (7, [.ref wa, .ref wb, .ref su, .ref cu, .ref tr, .ref co, .ref lo, .ref pk])), (lo, .inr (2, [.ref lr, .int 0, .int 0, .int 0, .int 0, .int 0]))]) (q0 := 0) (ci := 7) (q := (RX7, TX7, 8)) hP hD hE hS hA [0, 1] rfl (by decide) rfl rfl) rfl rfl hl.1 rfl (lv_room (Nat.le_of_ble_eq_true rfl)) dL_kept_5 ⟨Nat.le_of_ble_eq_true rfl, Nat.le_of_ble_eq_true rfl⟩) hP hD hS hA [0, 1] [] rfl rfl (by decide) (by decide) (fun ce q9 H locs hP hD hS hce hcv hcl => ?_)
  have hP : va_P G.1 vwCl [(x, .inr (7, [.ref wa, .ref wb, .ref su, .ref cu, .ref tr, .ref co, .ref lo, .ref pk])), (lo, .inr (2, [.ref lr, .int 0, .int 0, .int 0, .int 0, .int 0]))] H := hP
  have hD : va_D A [(x, .inr (7, [.ref wa, .ref wb, .ref su, .ref cu, .ref tr, .ref co, .ref lo, .ref pk])), (lo, .inr (2, [.ref lr, .int 0, .int 0, .int 0, .int 0, .int 0]))] := hD
  refine vx_catch hown [] ⟨0, 10, 13, 21⟩ [⟨0, 10, 17, 13⟩] (by rw [ht]; rfl) (fun z hz => nomatch hz) (by decide) (by decide) hcl21 (va_Nw.use rfl hE.2.2.2.2.2.2.2.2.2.1) hce hcv hcl ?_
  refine lv_astore (lv' := [(4, .ref q9), (0, .ref x), (1, .int p0), (2, .int p1), (3, .ref ou)]) hx hb dL_kept_13 hl (by decide) rfl (fun ls hl => ?_)
  refine lv_iconst (v := 1) hx hb dL_kept_15 (by decide) ?_
  exact zend_i hx hb hr hlocks (fun k => [].getD k 0) hP hD hS (Nat.le_of_ble_eq_true rfl) (Nat.le_of_ble_eq_true rfl) dL_kept_16

set_option maxHeartbeats 4000000 in
set_option maxRecDepth 100000 in
theorem z_L_rule (l : Launch) (G : zG) (x : Nat) (wa : Nat) (wb : Nat) (su : Nat) (cu : Nat) (tr : Nat) (co : Nat) (lo : Nat) (pk : Nat) (ro : Nat) (ou : Nat) (p0 : Int32) (r0 : Nat) (l0 : Nat) (g0 : Nat) (rv : Int32) (rh : Int32) (f01 : Nat → Int32) (f02 : Nat → Int32) (fr : Nat → Option Nat) (sl : Nat) (sh : Nat) (sa : Nat) (cc : Nat) (cs : Nat) (cm : Nat) (tn : Nat) (tc : Nat) (ts : Nat) (cf : Nat) (cp : Nat) (f1 : Int32) (f2 : Int32) (f3 : Int32) (f4 : Int32) (fo : Nat → Int64) (hv1 : ¬ p0 < 0) (hv2 : p0 ≤ 2) (hr0 : fr 0 = some r0) : zH l G yL_rule wsL_rule { frames := 3, cells := 0, slots := 0, locals := 64 } [(x, .inr (7, [.ref wa, .ref wb, .ref su, .ref cu, .ref tr, .ref co, .ref lo, .ref pk])), (wa, .inr (6, [.ref ro, .int 0, .int 0])), (ro, .inl (G.2.2.1, 8, .inr (.inr (.inr (.inr (fr)))))), (r0, .inr (3, [.int rv, .int rh, .ref l0, .ref g0])), (l0, .inl (G.2.1, 4, .inl (f01))), (g0, .inl (G.2.1, 4, .inl (f02))), (su, .inr (4, [.ref wa, .ref sl, .ref sh, .ref sa, .int f1])), (cu, .inr (1, [.ref wa, .ref wb, .ref cc, .ref cs, .ref cm, .int f2])), (tr, .inr (5, [.ref wa, .ref cu, .ref tn, .ref tc, .ref ts, .int 0, .int f3])), (co, .inr (0, [.ref wa, .ref wb, .ref cu, .ref cf, .ref cp, .int 0, .int f4])), (ou, .inl (G.2.2.2.1, 1, .inr (.inl (fo))))] [.ref x, .int p0, .ref ou] (some (.int 0)) (fun u => [(ou, .inl (G.2.2.2.1, 1, .inr (.inl (vp_updL fo 0 0)))), (wa, .inr (6, [.ref ro, .int 1, .int 0])), (ro, .inl (G.2.2.1, 8, .inr (.inr (.inr (.inr (fr)))))), (r0, .inr (3, [.int p0, .int 0, .ref l0, .ref g0])), (l0, .inl (G.2.1, 4, .inl (upd (upd (upd (upd f01 0 0) 1 0) 2 0) 3 0))), (g0, .inl (G.2.1, 4, .inl (upd (upd (upd (upd f02 0 255) 1 255) 2 1023) 3 3))), (x, .inr (7, [.ref wa, .ref wb, .ref su, .ref cu, .ref tr, .ref co, .ref lo, .ref pk])), (su, .inr (4, [.ref wa, .ref sl, .ref sh, .ref sa, .int 0])), (cu, .inr (1, [.ref wa, .ref wb, .ref cc, .ref cs, .ref cm, .int 0])), (tr, .inr (5, [.ref wa, .ref cu, .ref tn, .ref tc, .ref ts, .int 0, .int 0])), (co, .inr (0, [.ref wa, .ref wb, .ref cu, .ref cf, .ref cp, .int 0, .int 0]))]) 0 0 := by
  refine zH_of (cc := cL_rule) (maxL := 4) (rt := (some .int)) (hh := [(0, 9, 12, 13), (0, 9, 15, 15)]) (by decide) rfl (Nat.le_of_ble_eq_true rfl) ?_
  intro p e s m below meth c A ls hx hb hml hr hts hown hlocks ht hA hE hP hD hS hl
  have hl : lv_has ls 4 [(0, .ref x), (1, .int p0), (2, .ref ou)] := hl
  have hown : s.vm.findClass RL = some m.cls := hown
  have hP : va_P G.1 vwCl [(x, .inr (7, [.ref wa, .ref wb, .ref su, .ref cu, .ref tr, .ref co, .ref lo, .ref pk])), (wa, .inr (6, [.ref ro, .int 0, .int 0])), (ro, .inl (G.2.2.1, 8, .inr (.inr (.inr (.inr (fr)))))), (r0, .inr (3, [.int rv, .int rh, .ref l0, .ref g0])), (l0, .inl (G.2.1, 4, .inl (f01))), (g0, .inl (G.2.1, 4, .inl (f02))), (su, .inr (4, [.ref wa, .ref sl, .ref sh, .ref sa, .int f1])), (cu, .inr (1, [.ref wa, .ref wb, .ref cc, .ref cs, .ref cm, .int f2])), (tr, .inr (5, [.ref wa, .ref cu, .ref tn, .ref tc, .ref ts, .int 0, .int f3])), (co, .inr (0, [.ref wa, .ref wb, .ref cu, .ref cf, .ref cp, .int 0, .int f4])), (ou, .inl (G.2.2.2.1, 1, .inr (.inl (fo))))] s.heap := hP
  refine lv_aload_n hx hb dL_rule_0 rfl (lv_at hl 2 rfl) ?_
  refine lv_iconst (v := 0) hx hb dL_rule_1 (by decide) ?_
  refine lv_aload_n hx hb dL_rule_2 rfl (lv_at hl 0 rfl) ?_
  refine lv_iload_n hx hb dL_rule_3 rfl (lv_at hl 1 rfl) ?_
  refine zcall (wr := [(ou, .inl (G.2.2.2.1, 1, .inr (.inl (fo))))]) (va_runV (As := [.int p0]) (rest := [.int 0, .ref ou]) ⟨hx, hb, hml, hown, hts⟩ (z_X7_rule l G x wa wb su cu tr co lo pk ro p0 r0 l0 g0 rv rh (f01) (f02) (fr) sl sh sa cc cs cm tn tc ts cf cp f1 f2 f3 f4 hv1 hv2 hr0 s.heap.size) (cwV 1 hts gL_rule_X7_rule rfl rfl rfl (by decide +kernel) ⟨Nat.le_of_ble_eq_true rfl, Nat.le_of_ble_eq_true rfl⟩) (zPreV (Wc := [(x, .inr (7, [.ref wa, .ref wb, .ref su, .ref cu, .ref tr, .ref co, .ref lo, .ref pk])), (wa, .inr (6, [.ref ro, .int 0, .int 0])), (ro, .inl (G.2.2.1, 8, .inr (.inr (.inr (.inr (fr)))))), (r0, .inr (3, [.int rv, .int rh, .ref l0, .ref g0])), (l0, .inl (G.2.1, 4, .inl (f01))), (g0, .inl (G.2.1, 4, .inl (f02))), (su, .inr (4, [.ref wa, .ref sl, .ref sh, .ref sa, .int f1])), (cu, .inr (1, [.ref wa, .ref wb, .ref cc, .ref cs, .ref cm, .int f2])), (tr, .inr (5, [.ref wa, .ref cu, .ref tn, .ref tc, .ref ts, .int 0, .int f3])), (co, .inr (0, [.ref wa, .ref wb, .ref cu, .ref cf, .ref cp, .int 0, .int f4]))]) (q0 := 0) (ci := 7) (q := (RX7, TX7, 8)) hP hD hE hS hA [0, 1, 2, 3, 4, 5, 6, 7, 8, 9] rfl (by decide) rfl rfl) rfl rfl hl.1 rfl (lv_room (Nat.le_of_ble_eq_true rfl)) dL_rule_4 ⟨Nat.le_of_ble_eq_true rfl, Nat.le_of_ble_eq_true rfl⟩) hP hD hS hA [0, 1, 2, 3, 4, 5, 6, 7, 8, 9] [10] rfl rfl (by decide) (by decide) (fun u1 H locs hP hD hS => ?_)
  have hP : va_P G.1 vwCl [(ou, .inl (G.2.2.2.1, 1, .inr (.inl (fo)))), (wa, .inr (6, [.ref ro, .int 1, .int 0])), (ro, .inl (G.2.2.1, 8, .inr (.inr (.inr (.inr (fr)))))), (r0, .inr (3, [.int p0, .int 0, .ref l0, .ref g0])), (l0, .inl (G.2.1, 4, .inl (upd (upd (upd (upd f01 0 0) 1 0) 2 0) 3 0))), (g0, .inl (G.2.1, 4, .inl (upd (upd (upd (upd f02 0 255) 1 255) 2 1023) 3 3))), (x, .inr (7, [.ref wa, .ref wb, .ref su, .ref cu, .ref tr, .ref co, .ref lo, .ref pk])), (su, .inr (4, [.ref wa, .ref sl, .ref sh, .ref sa, .int 0])), (cu, .inr (1, [.ref wa, .ref wb, .ref cc, .ref cs, .ref cm, .int 0])), (tr, .inr (5, [.ref wa, .ref cu, .ref tn, .ref tc, .ref ts, .int 0, .int 0])), (co, .inr (0, [.ref wa, .ref wb, .ref cu, .ref cf, .ref cp, .int 0, .int 0]))] H := hP
  have hD : va_D A [(ou, .inl (G.2.2.2.1, 1, .inr (.inl (fo)))), (wa, .inr (6, [.ref ro, .int 1, .int 0])), (ro, .inl (G.2.2.1, 8, .inr (.inr (.inr (.inr (fr)))))), (r0, .inr (3, [.int p0, .int 0, .ref l0, .ref g0])), (l0, .inl (G.2.1, 4, .inl (upd (upd (upd (upd f01 0 0) 1 0) 2 0) 3 0))), (g0, .inl (G.2.1, 4, .inl (upd (upd (upd (upd f02 0 255) 1 255) 2 1023) 3 3))), (x, .inr (7, [.ref wa, .ref wb, .ref su, .ref cu, .ref tr, .ref co, .ref lo, .ref pk])), (su, .inr (4, [.ref wa, .ref sl, .ref sh, .ref sa, .int 0])), (cu, .inr (1, [.ref wa, .ref wb, .ref cc, .ref cs, .ref cm, .int 0])), (tr, .inr (5, [.ref wa, .ref cu, .ref tn, .ref tc, .ref ts, .int 0, .int 0])), (co, .inr (0, [.ref wa, .ref wb, .ref cu, .ref cf, .ref cp, .int 0, .int 0]))] := hD
  refine W.eq (g2 := F0 m 7 ls [.int 0, .int 0, .ref ou]) rfl ?_
  refine lv_i2l (v := 0) hx hb dL_rule_7 (by decide) ?_
  refine va_last hx hb hE.1 hP hD hS 0 2 rfl rfl (zin (by decide +kernel)) dL_rule_8 (fun H locs hP hD hS => ?_)
  have hP : va_P G.1 vwCl [(ou, .inl (G.2.2.2.1, 1, .inr (.inl (vp_updL fo 0 0)))), (wa, .inr (6, [.ref ro, .int 1, .int 0])), (ro, .inl (G.2.2.1, 8, .inr (.inr (.inr (.inr (fr)))))), (r0, .inr (3, [.int p0, .int 0, .ref l0, .ref g0])), (l0, .inl (G.2.1, 4, .inl (upd (upd (upd (upd f01 0 0) 1 0) 2 0) 3 0))), (g0, .inl (G.2.1, 4, .inl (upd (upd (upd (upd f02 0 255) 1 255) 2 1023) 3 3))), (x, .inr (7, [.ref wa, .ref wb, .ref su, .ref cu, .ref tr, .ref co, .ref lo, .ref pk])), (su, .inr (4, [.ref wa, .ref sl, .ref sh, .ref sa, .int 0])), (cu, .inr (1, [.ref wa, .ref wb, .ref cc, .ref cs, .ref cm, .int 0])), (tr, .inr (5, [.ref wa, .ref cu, .ref tn, .ref tc, .ref ts, .int 0, .int 0])), (co, .inr (0, [.ref wa, .ref wb, .ref cu, .ref cf, .ref cp, .int 0, .int 0]))] H := hP
  have hD : va_D A [(ou, .inl (G.2.2.2.1, 1, .inr (.inl (vp_updL fo 0 0)))), (wa, .inr (6, [.ref ro, .int 1, .int 0])), (ro, .inl (G.2.2.1, 8, .inr (.inr (.inr (.inr (fr)))))), (r0, .inr (3, [.int p0, .int 0, .ref l0, .ref g0])), (l0, .inl (G.2.1, 4, .inl (upd (upd (upd (upd f01 0 0) 1 0) 2 0) 3 0))), (g0, .inl (G.2.1, 4, .inl (upd (upd (upd (upd f02 0 255) 1 255) 2 1023) 3 3))), (x, .inr (7, [.ref wa, .ref wb, .ref su, .ref cu, .ref tr, .ref co, .ref lo, .ref pk])), (su, .inr (4, [.ref wa, .ref sl, .ref sh, .ref sa, .int 0])), (cu, .inr (1, [.ref wa, .ref wb, .ref cc, .ref cs, .ref cm, .int 0])), (tr, .inr (5, [.ref wa, .ref cu, .ref tn, .ref tc, .ref ts, .int 0, .int 0])), (co, .inr (0, [.ref wa, .ref wb, .ref cu, .ref cf, .ref cp, .int 0, .int 0]))] := hD
  refine lv_goto (tgt := 18) hx hb dL_rule_9 (by decide) ?_
  refine lv_iconst (v := 0) hx hb dL_rule_18 (by decide) ?_
  exact zend_i hx hb hr hlocks (fun k => [].getD k 0) hP hD hS (Nat.le_of_ble_eq_true rfl) (Nat.le_of_ble_eq_true rfl) dL_rule_19

set_option maxHeartbeats 4000000 in
set_option maxRecDepth 100000 in
theorem z_L_ruleT (l : Launch) (G : zG) (x : Nat) (wa : Nat) (wb : Nat) (su : Nat) (cu : Nat) (tr : Nat) (co : Nat) (lo : Nat) (pk : Nat) (ou : Nat) (p0 : Int32) (hl0 : l.stackTraces = false) (hv : p0 < 0 ∨ (¬ p0 < 0 ∧ ¬ p0 ≤ 2)) : zH l G yL_rule wsL_rule { frames := 8, cells := 1, slots := 6, locals := 123 } [(x, .inr (7, [.ref wa, .ref wb, .ref su, .ref cu, .ref tr, .ref co, .ref lo, .ref pk]))] [.ref x, .int p0, .ref ou] (some (.int 1)) (fun u => [(x, .inr (7, [.ref wa, .ref wb, .ref su, .ref cu, .ref tr, .ref co, .ref lo, .ref pk]))]) 1 6 := by
  refine zH_of (cc := cL_rule) (maxL := 4) (rt := (some .int)) (hh := [(0, 9, 12, 13), (0, 9, 15, 15)]) (by decide) rfl (Nat.le_of_ble_eq_true rfl) ?_
  intro p e s m below meth c A ls hx hb hml hr hts hown hlocks ht hA hE hP hD hS hl
  have hl : lv_has ls 4 [(0, .ref x), (1, .int p0), (2, .ref ou)] := hl
  have hown : s.vm.findClass RL = some m.cls := hown
  have hP : va_P G.1 vwCl [(x, .inr (7, [.ref wa, .ref wb, .ref su, .ref cu, .ref tr, .ref co, .ref lo, .ref pk]))] s.heap := hP
  have hcl13 := hts (.classLink RL 13 "java/lang/IllegalArgumentException") (by decide +kernel)
  refine lv_aload_n hx hb dL_rule_0 rfl (lv_at hl 2 rfl) ?_
  refine lv_iconst (v := 0) hx hb dL_rule_1 (by decide) ?_
  refine lv_aload_n hx hb dL_rule_2 rfl (lv_at hl 0 rfl) ?_
  refine lv_iload_n hx hb dL_rule_3 rfl (lv_at hl 1 rfl) ?_
  refine zcallT (wr := []) (vx_runV (As := [.int p0]) (rest := [.int 0, .ref ou]) ⟨hx, hb, hml, hown, hts⟩ (z_X7_ruleT l G x wa wb su cu tr co lo pk p0 hl0 hv s.heap.size) (cwV 1 hts gL_rule_X7_rule rfl rfl rfl (by decide +kernel) ⟨Nat.le_of_ble_eq_true rfl, Nat.le_of_ble_eq_true rfl⟩) (zPreV (Wc := [(x, .inr (7, [.ref wa, .ref wb, .ref su, .ref cu, .ref tr, .ref co, .ref lo, .ref pk]))]) (q0 := 0) (ci := 7) (q := (RX7, TX7, 8)) hP hD hE hS hA [0] rfl (by decide) rfl rfl) rfl rfl hl.1 rfl (lv_room (Nat.le_of_ble_eq_true rfl)) dL_rule_4 ⟨Nat.le_of_ble_eq_true rfl, Nat.le_of_ble_eq_true rfl⟩) hP hD hS hA [0] [] rfl rfl (by decide) (by decide) (fun ce q9 H locs hP hD hS hce hcv hcl => ?_)
  have hP : va_P G.1 vwCl [(x, .inr (7, [.ref wa, .ref wb, .ref su, .ref cu, .ref tr, .ref co, .ref lo, .ref pk]))] H := hP
  have hD : va_D A [(x, .inr (7, [.ref wa, .ref wb, .ref su, .ref cu, .ref tr, .ref co, .ref lo, .ref pk]))] := hD
  refine vx_catch hown [] ⟨0, 9, 12, 13⟩ [⟨0, 9, 15, 15⟩] (by rw [ht]; rfl) (fun z hz => nomatch hz) (by decide) (by decide) hcl13 (va_Nw.use rfl hE.2.2.2.2.2.2.2.2.2.2.1) hce hcv hcl ?_
  refine lv_astore_n (lv' := [(3, .ref q9), (0, .ref x), (1, .int p0), (2, .ref ou)]) hx hb dL_rule_12 rfl hl (by decide) rfl (fun ls hl => ?_)
  refine lv_iconst (v := 1) hx hb dL_rule_13 (by decide) ?_
  exact zend_i hx hb hr hlocks (fun k => [].getD k 0) hP hD hS (Nat.le_of_ble_eq_true rfl) (Nat.le_of_ble_eq_true rfl) dL_rule_14

set_option maxHeartbeats 4000000 in
set_option maxRecDepth 100000 in
theorem z_L_decider (l : Launch) (G : zG) (x : Nat) (wa : Nat) (wb : Nat) (su : Nat) (cu : Nat) (tr : Nat) (co : Nat) (lo : Nat) (pk : Nat) (ro : Nat) (p0 : Int32) (p1 : Int32) (p2 : Int32) (p3 : Int32) (fp : Nat → Int32) (ou : Nat) (fo : Nat → Int64) (hok : zOk p0 p1 p2 p3) : zH l G yL_decider wsL_decider { frames := 3, cells := 0, slots := 0, locals := 70 } [(x, .inr (7, [.ref wa, .ref wb, .ref su, .ref cu, .ref tr, .ref co, .ref lo, .ref pk])), (pk, .inl (G.2.1, 4, .inl (fp))), (wa, .inr (6, [.ref ro, .int 0, .int 0])), (ou, .inl (G.2.2.2.1, 1, .inr (.inl (fo))))] [.ref x, .int p0, .int p1, .int p2, .int p3, .ref ou] (some (.int 0)) (fun u => [(ou, .inl (G.2.2.2.1, 1, .inr (.inl (vp_updL fo 0 (-1))))), (wa, .inr (6, [.ref ro, .int 0, .int 0])), (x, .inr (7, [.ref wa, .ref wb, .ref su, .ref cu, .ref tr, .ref co, .ref lo, .ref pk])), (pk, .inl (G.2.1, 4, .inl (upd (upd (upd (upd fp 0 p0) 1 p1) 2 p2) 3 p3)))]) 0 0 := by
  refine zH_of (cc := cL_decider) (maxL := 7) (rt := (some .int)) (hh := [(0, 14, 17, 13)]) (by decide) rfl (Nat.le_of_ble_eq_true rfl) ?_
  intro p e s m below meth c A ls hx hb hml hr hts hown hlocks ht hA hE hP hD hS hl
  have hl : lv_has ls 7 [(0, .ref x), (1, .int p0), (2, .int p1), (3, .int p2), (4, .int p3), (5, .ref ou)] := hl
  have hown : s.vm.findClass RL = some m.cls := hown
  have hP : va_P G.1 vwCl [(x, .inr (7, [.ref wa, .ref wb, .ref su, .ref cu, .ref tr, .ref co, .ref lo, .ref pk])), (pk, .inl (G.2.1, 4, .inl (fp))), (wa, .inr (6, [.ref ro, .int 0, .int 0])), (ou, .inl (G.2.2.2.1, 1, .inr (.inl (fo))))] s.heap := hP
  refine lv_aload hx hb dL_decider_0 (lv_at hl 5 rfl) ?_
  refine lv_iconst (v := 0) hx hb dL_decider_2 (by decide) ?_
  refine lv_aload_n hx hb dL_decider_3 rfl (lv_at hl 0 rfl) ?_
  refine lv_iload_n hx hb dL_decider_4 rfl (lv_at hl 1 rfl) ?_
  refine lv_iload_n hx hb dL_decider_5 rfl (lv_at hl 2 rfl) ?_
  refine lv_iload_n hx hb dL_decider_6 rfl (lv_at hl 3 rfl) ?_
  refine lv_iload hx hb dL_decider_7 (lv_at hl 4 rfl) ?_
  refine zcall (wr := [(ou, .inl (G.2.2.2.1, 1, .inr (.inl (fo))))]) (va_runV (As := [.int p0, .int p1, .int p2, .int p3]) (rest := [.int 0, .ref ou]) ⟨hx, hb, hml, hown, hts⟩ (z_X7_decider l G x wa wb su cu tr co lo pk ro p0 p1 p2 p3 (fp) hok s.heap.size) (cwV 4 hts gL_decider_X7_decider rfl rfl rfl (by decide +kernel) ⟨Nat.le_of_ble_eq_true rfl, Nat.le_of_ble_eq_true rfl⟩) (zPreV (Wc := [(x, .inr (7, [.ref wa, .ref wb, .ref su, .ref cu, .ref tr, .ref co, .ref lo, .ref pk])), (pk, .inl (G.2.1, 4, .inl (fp))), (wa, .inr (6, [.ref ro, .int 0, .int 0]))]) (q0 := 0) (ci := 7) (q := (RX7, TX7, 8)) hP hD hE hS hA [0, 1, 2] rfl (by decide) rfl rfl) rfl rfl hl.1 rfl (lv_room (Nat.le_of_ble_eq_true rfl)) dL_decider_9 ⟨Nat.le_of_ble_eq_true rfl, Nat.le_of_ble_eq_true rfl⟩) hP hD hS hA [0, 1, 2] [3] rfl rfl (by decide) (by decide) (fun u1 H locs hP hD hS => ?_)
  have hP : va_P G.1 vwCl [(ou, .inl (G.2.2.2.1, 1, .inr (.inl (fo)))), (wa, .inr (6, [.ref ro, .int 0, .int 0])), (x, .inr (7, [.ref wa, .ref wb, .ref su, .ref cu, .ref tr, .ref co, .ref lo, .ref pk])), (pk, .inl (G.2.1, 4, .inl (upd (upd (upd (upd fp 0 p0) 1 p1) 2 p2) 3 p3)))] H := hP
  have hD : va_D A [(ou, .inl (G.2.2.2.1, 1, .inr (.inl (fo)))), (wa, .inr (6, [.ref ro, .int 0, .int 0])), (x, .inr (7, [.ref wa, .ref wb, .ref su, .ref cu, .ref tr, .ref co, .ref lo, .ref pk])), (pk, .inl (G.2.1, 4, .inl (upd (upd (upd (upd fp 0 p0) 1 p1) 2 p2) 3 p3)))] := hD
  refine W.eq (g2 := F0 m 12 ls [.int (-1), .int 0, .ref ou]) rfl ?_
  refine lv_i2l (v := (-1)) hx hb dL_decider_12 (by decide) ?_
  refine va_last hx hb hE.1 hP hD hS 0 2 rfl rfl (zin (by decide +kernel)) dL_decider_13 (fun H locs hP hD hS => ?_)
  have hP : va_P G.1 vwCl [(ou, .inl (G.2.2.2.1, 1, .inr (.inl (vp_updL fo 0 (-1))))), (wa, .inr (6, [.ref ro, .int 0, .int 0])), (x, .inr (7, [.ref wa, .ref wb, .ref su, .ref cu, .ref tr, .ref co, .ref lo, .ref pk])), (pk, .inl (G.2.1, 4, .inl (upd (upd (upd (upd fp 0 p0) 1 p1) 2 p2) 3 p3)))] H := hP
  have hD : va_D A [(ou, .inl (G.2.2.2.1, 1, .inr (.inl (vp_updL fo 0 (-1))))), (wa, .inr (6, [.ref ro, .int 0, .int 0])), (x, .inr (7, [.ref wa, .ref wb, .ref su, .ref cu, .ref tr, .ref co, .ref lo, .ref pk])), (pk, .inl (G.2.1, 4, .inl (upd (upd (upd (upd fp 0 p0) 1 p1) 2 p2) 3 p3)))] := hD
  refine lv_goto (tgt := 21) hx hb dL_decider_14 (by decide) ?_
  refine lv_iconst (v := 0) hx hb dL_decider_21 (by decide) ?_
  exact zend_i hx hb hr hlocks (fun k => [].getD k 0) hP hD hS (Nat.le_of_ble_eq_true rfl) (Nat.le_of_ble_eq_true rfl) dL_decider_22

set_option maxHeartbeats 4000000 in
set_option maxRecDepth 100000 in
theorem z_L_deciderT (l : Launch) (G : zG) (x : Nat) (wa : Nat) (wb : Nat) (su : Nat) (cu : Nat) (tr : Nat) (co : Nat) (lo : Nat) (pk : Nat) (p0 : Int32) (p1 : Int32) (p2 : Int32) (p3 : Int32) (ou : Nat) (hl0 : l.stackTraces = false) (hbad : zBad p0 p1 p2 p3) : zH l G yL_decider wsL_decider { frames := 8, cells := 1, slots := 6, locals := 131 } [(x, .inr (7, [.ref wa, .ref wb, .ref su, .ref cu, .ref tr, .ref co, .ref lo, .ref pk]))] [.ref x, .int p0, .int p1, .int p2, .int p3, .ref ou] (some (.int 1)) (fun u => [(x, .inr (7, [.ref wa, .ref wb, .ref su, .ref cu, .ref tr, .ref co, .ref lo, .ref pk]))]) 1 6 := by
  refine zH_of (cc := cL_decider) (maxL := 7) (rt := (some .int)) (hh := [(0, 14, 17, 13)]) (by decide) rfl (Nat.le_of_ble_eq_true rfl) ?_
  intro p e s m below meth c A ls hx hb hml hr hts hown hlocks ht hA hE hP hD hS hl
  have hl : lv_has ls 7 [(0, .ref x), (1, .int p0), (2, .int p1), (3, .int p2), (4, .int p3), (5, .ref ou)] := hl
  have hown : s.vm.findClass RL = some m.cls := hown
  have hP : va_P G.1 vwCl [(x, .inr (7, [.ref wa, .ref wb, .ref su, .ref cu, .ref tr, .ref co, .ref lo, .ref pk]))] s.heap := hP
  have hcl13 := hts (.classLink RL 13 "java/lang/IllegalArgumentException") (by decide +kernel)
  refine lv_aload hx hb dL_decider_0 (lv_at hl 5 rfl) ?_
  refine lv_iconst (v := 0) hx hb dL_decider_2 (by decide) ?_
  refine lv_aload_n hx hb dL_decider_3 rfl (lv_at hl 0 rfl) ?_
  refine lv_iload_n hx hb dL_decider_4 rfl (lv_at hl 1 rfl) ?_
  refine lv_iload_n hx hb dL_decider_5 rfl (lv_at hl 2 rfl) ?_
  refine lv_iload_n hx hb dL_decider_6 rfl (lv_at hl 3 rfl) ?_
  refine lv_iload hx hb dL_decider_7 (lv_at hl 4 rfl) ?_
  refine zcallT (wr := []) (vx_runV (As := [.int p0, .int p1, .int p2, .int p3]) (rest := [.int 0, .ref ou]) ⟨hx, hb, hml, hown, hts⟩ (z_X7_deciderT l G x wa wb su cu tr co lo pk p0 p1 p2 p3 hl0 hbad s.heap.size) (cwV 4 hts gL_decider_X7_decider rfl rfl rfl (by decide +kernel) ⟨Nat.le_of_ble_eq_true rfl, Nat.le_of_ble_eq_true rfl⟩) (zPreV (Wc := [(x, .inr (7, [.ref wa, .ref wb, .ref su, .ref cu, .ref tr, .ref co, .ref lo, .ref pk]))]) (q0 := 0) (ci := 7) (q := (RX7, TX7, 8)) hP hD hE hS hA [0] rfl (by decide) rfl rfl) rfl rfl hl.1 rfl (lv_room (Nat.le_of_ble_eq_true rfl)) dL_decider_9 ⟨Nat.le_of_ble_eq_true rfl, Nat.le_of_ble_eq_true rfl⟩) hP hD hS hA [0] [] rfl rfl (by decide) (by decide) (fun ce q9 H locs hP hD hS hce hcv hcl => ?_)
  have hP : va_P G.1 vwCl [(x, .inr (7, [.ref wa, .ref wb, .ref su, .ref cu, .ref tr, .ref co, .ref lo, .ref pk]))] H := hP
  have hD : va_D A [(x, .inr (7, [.ref wa, .ref wb, .ref su, .ref cu, .ref tr, .ref co, .ref lo, .ref pk]))] := hD
  refine vx_catch hown [] ⟨0, 14, 17, 13⟩ [] (by rw [ht]; rfl) (fun z hz => nomatch hz) (by decide) (by decide) hcl13 (va_Nw.use rfl hE.2.2.2.2.2.2.2.2.2.2.1) hce hcv hcl ?_
  refine lv_astore (lv' := [(6, .ref q9), (0, .ref x), (1, .int p0), (2, .int p1), (3, .int p2), (4, .int p3), (5, .ref ou)]) hx hb dL_decider_17 hl (by decide) rfl (fun ls hl => ?_)
  refine lv_iconst (v := 1) hx hb dL_decider_19 (by decide) ?_
  exact zend_i hx hb hr hlocks (fun k => [].getD k 0) hP hD hS (Nat.le_of_ble_eq_true rfl) (Nat.le_of_ble_eq_true rfl) dL_decider_20

set_option maxHeartbeats 4000000 in
set_option maxRecDepth 100000 in
theorem z_L_steps (l : Launch) (G : zG) (x : Nat) (wa : Nat) (wb : Nat) (su : Nat) (cu : Nat) (tr : Nat) (co : Nat) (lo : Nat) (pk : Nat) (ro : Nat) (p0 : Int32) (p1 : Int32) (p2 : Int32) (p3 : Int32) (fp : Nat → Int32) (ou : Nat) (fo : Nat → Int64) (hok : zOk p0 p1 p2 p3) : zH l G yL_steps wsL_steps { frames := 3, cells := 0, slots := 0, locals := 72 } [(x, .inr (7, [.ref wa, .ref wb, .ref su, .ref cu, .ref tr, .ref co, .ref lo, .ref pk])), (pk, .inl (G.2.1, 4, .inl (fp))), (wa, .inr (6, [.ref ro, .int 0, .int 0])), (ou, .inl (G.2.2.2.1, 1, .inr (.inl (fo))))] [.ref x, .int p0, .int p1, .int p2, .int p3, .ref ou] (some (.int 0)) (fun u => [(ou, .inl (G.2.2.2.1, 1, .inr (.inl (vp_updL fo 0 0)))), (x, .inr (7, [.ref wa, .ref wb, .ref su, .ref cu, .ref tr, .ref co, .ref lo, .ref pk])), (pk, .inl (G.2.1, 4, .inl (upd (upd (upd (upd fp 0 p0) 1 p1) 2 p2) 3 p3))), (wa, .inr (6, [.ref ro, .int 0, .int 0]))]) 0 0 := by
  refine zH_of (cc := cL_steps) (maxL := 7) (rt := (some .int)) (hh := [(0, 14, 17, 13)]) (by decide) rfl (Nat.le_of_ble_eq_true rfl) ?_
  intro p e s m below meth c A ls hx hb hml hr hts hown hlocks ht hA hE hP hD hS hl
  have hl : lv_has ls 7 [(0, .ref x), (1, .int p0), (2, .int p1), (3, .int p2), (4, .int p3), (5, .ref ou)] := hl
  have hown : s.vm.findClass RL = some m.cls := hown
  have hP : va_P G.1 vwCl [(x, .inr (7, [.ref wa, .ref wb, .ref su, .ref cu, .ref tr, .ref co, .ref lo, .ref pk])), (pk, .inl (G.2.1, 4, .inl (fp))), (wa, .inr (6, [.ref ro, .int 0, .int 0])), (ou, .inl (G.2.2.2.1, 1, .inr (.inl (fo))))] s.heap := hP
  refine lv_aload hx hb dL_steps_0 (lv_at hl 5 rfl) ?_
  refine lv_iconst (v := 0) hx hb dL_steps_2 (by decide) ?_
  refine lv_aload_n hx hb dL_steps_3 rfl (lv_at hl 0 rfl) ?_
  refine lv_iload_n hx hb dL_steps_4 rfl (lv_at hl 1 rfl) ?_
  refine lv_iload_n hx hb dL_steps_5 rfl (lv_at hl 2 rfl) ?_
  refine lv_iload_n hx hb dL_steps_6 rfl (lv_at hl 3 rfl) ?_
  refine lv_iload hx hb dL_steps_7 (lv_at hl 4 rfl) ?_
  refine zcall (wr := [(ou, .inl (G.2.2.2.1, 1, .inr (.inl (fo))))]) (va_runV (As := [.int p0, .int p1, .int p2, .int p3]) (rest := [.int 0, .ref ou]) ⟨hx, hb, hml, hown, hts⟩ (z_X7_steps l G x wa wb su cu tr co lo pk ro p0 p1 p2 p3 (fp) hok s.heap.size) (cwV 4 hts gL_steps_X7_steps rfl rfl rfl (by decide +kernel) ⟨Nat.le_of_ble_eq_true rfl, Nat.le_of_ble_eq_true rfl⟩) (zPreV (Wc := [(x, .inr (7, [.ref wa, .ref wb, .ref su, .ref cu, .ref tr, .ref co, .ref lo, .ref pk])), (pk, .inl (G.2.1, 4, .inl (fp))), (wa, .inr (6, [.ref ro, .int 0, .int 0]))]) (q0 := 0) (ci := 7) (q := (RX7, TX7, 8)) hP hD hE hS hA [0, 1, 2] rfl (by decide) rfl rfl) rfl rfl hl.1 rfl (lv_room (Nat.le_of_ble_eq_true rfl)) dL_steps_9 ⟨Nat.le_of_ble_eq_true rfl, Nat.le_of_ble_eq_true rfl⟩) hP hD hS hA [0, 1, 2] [3] rfl rfl (by decide) (by decide) (fun u1 H locs hP hD hS => ?_)
  have hP : va_P G.1 vwCl [(ou, .inl (G.2.2.2.1, 1, .inr (.inl (fo)))), (x, .inr (7, [.ref wa, .ref wb, .ref su, .ref cu, .ref tr, .ref co, .ref lo, .ref pk])), (pk, .inl (G.2.1, 4, .inl (upd (upd (upd (upd fp 0 p0) 1 p1) 2 p2) 3 p3))), (wa, .inr (6, [.ref ro, .int 0, .int 0]))] H := hP
  have hD : va_D A [(ou, .inl (G.2.2.2.1, 1, .inr (.inl (fo)))), (x, .inr (7, [.ref wa, .ref wb, .ref su, .ref cu, .ref tr, .ref co, .ref lo, .ref pk])), (pk, .inl (G.2.1, 4, .inl (upd (upd (upd (upd fp 0 p0) 1 p1) 2 p2) 3 p3))), (wa, .inr (6, [.ref ro, .int 0, .int 0]))] := hD
  refine W.eq (g2 := F0 m 12 ls [.int 0, .int 0, .ref ou]) rfl ?_
  refine lv_i2l (v := 0) hx hb dL_steps_12 (by decide) ?_
  refine va_last hx hb hE.1 hP hD hS 0 2 rfl rfl (zin (by decide +kernel)) dL_steps_13 (fun H locs hP hD hS => ?_)
  have hP : va_P G.1 vwCl [(ou, .inl (G.2.2.2.1, 1, .inr (.inl (vp_updL fo 0 0)))), (x, .inr (7, [.ref wa, .ref wb, .ref su, .ref cu, .ref tr, .ref co, .ref lo, .ref pk])), (pk, .inl (G.2.1, 4, .inl (upd (upd (upd (upd fp 0 p0) 1 p1) 2 p2) 3 p3))), (wa, .inr (6, [.ref ro, .int 0, .int 0]))] H := hP
  have hD : va_D A [(ou, .inl (G.2.2.2.1, 1, .inr (.inl (vp_updL fo 0 0)))), (x, .inr (7, [.ref wa, .ref wb, .ref su, .ref cu, .ref tr, .ref co, .ref lo, .ref pk])), (pk, .inl (G.2.1, 4, .inl (upd (upd (upd (upd fp 0 p0) 1 p1) 2 p2) 3 p3))), (wa, .inr (6, [.ref ro, .int 0, .int 0]))] := hD
  refine lv_goto (tgt := 21) hx hb dL_steps_14 (by decide) ?_
  refine lv_iconst (v := 0) hx hb dL_steps_21 (by decide) ?_
  exact zend_i hx hb hr hlocks (fun k => [].getD k 0) hP hD hS (Nat.le_of_ble_eq_true rfl) (Nat.le_of_ble_eq_true rfl) dL_steps_22

set_option maxHeartbeats 4000000 in
set_option maxRecDepth 100000 in
theorem z_L_stepsT (l : Launch) (G : zG) (x : Nat) (wa : Nat) (wb : Nat) (su : Nat) (cu : Nat) (tr : Nat) (co : Nat) (lo : Nat) (pk : Nat) (p0 : Int32) (p1 : Int32) (p2 : Int32) (p3 : Int32) (ou : Nat) (hl0 : l.stackTraces = false) (hbad : zBad p0 p1 p2 p3) : zH l G yL_steps wsL_steps { frames := 8, cells := 1, slots := 6, locals := 133 } [(x, .inr (7, [.ref wa, .ref wb, .ref su, .ref cu, .ref tr, .ref co, .ref lo, .ref pk]))] [.ref x, .int p0, .int p1, .int p2, .int p3, .ref ou] (some (.int 1)) (fun u => [(x, .inr (7, [.ref wa, .ref wb, .ref su, .ref cu, .ref tr, .ref co, .ref lo, .ref pk]))]) 1 6 := by
  refine zH_of (cc := cL_steps) (maxL := 7) (rt := (some .int)) (hh := [(0, 14, 17, 13)]) (by decide) rfl (Nat.le_of_ble_eq_true rfl) ?_
  intro p e s m below meth c A ls hx hb hml hr hts hown hlocks ht hA hE hP hD hS hl
  have hl : lv_has ls 7 [(0, .ref x), (1, .int p0), (2, .int p1), (3, .int p2), (4, .int p3), (5, .ref ou)] := hl
  have hown : s.vm.findClass RL = some m.cls := hown
  have hP : va_P G.1 vwCl [(x, .inr (7, [.ref wa, .ref wb, .ref su, .ref cu, .ref tr, .ref co, .ref lo, .ref pk]))] s.heap := hP
  have hcl13 := hts (.classLink RL 13 "java/lang/IllegalArgumentException") (by decide +kernel)
  refine lv_aload hx hb dL_steps_0 (lv_at hl 5 rfl) ?_
  refine lv_iconst (v := 0) hx hb dL_steps_2 (by decide) ?_
  refine lv_aload_n hx hb dL_steps_3 rfl (lv_at hl 0 rfl) ?_
  refine lv_iload_n hx hb dL_steps_4 rfl (lv_at hl 1 rfl) ?_
  refine lv_iload_n hx hb dL_steps_5 rfl (lv_at hl 2 rfl) ?_
  refine lv_iload_n hx hb dL_steps_6 rfl (lv_at hl 3 rfl) ?_
  refine lv_iload hx hb dL_steps_7 (lv_at hl 4 rfl) ?_
  refine zcallT (wr := []) (vx_runV (As := [.int p0, .int p1, .int p2, .int p3]) (rest := [.int 0, .ref ou]) ⟨hx, hb, hml, hown, hts⟩ (z_X7_stepsT l G x wa wb su cu tr co lo pk p0 p1 p2 p3 hl0 hbad s.heap.size) (cwV 4 hts gL_steps_X7_steps rfl rfl rfl (by decide +kernel) ⟨Nat.le_of_ble_eq_true rfl, Nat.le_of_ble_eq_true rfl⟩) (zPreV (Wc := [(x, .inr (7, [.ref wa, .ref wb, .ref su, .ref cu, .ref tr, .ref co, .ref lo, .ref pk]))]) (q0 := 0) (ci := 7) (q := (RX7, TX7, 8)) hP hD hE hS hA [0] rfl (by decide) rfl rfl) rfl rfl hl.1 rfl (lv_room (Nat.le_of_ble_eq_true rfl)) dL_steps_9 ⟨Nat.le_of_ble_eq_true rfl, Nat.le_of_ble_eq_true rfl⟩) hP hD hS hA [0] [] rfl rfl (by decide) (by decide) (fun ce q9 H locs hP hD hS hce hcv hcl => ?_)
  have hP : va_P G.1 vwCl [(x, .inr (7, [.ref wa, .ref wb, .ref su, .ref cu, .ref tr, .ref co, .ref lo, .ref pk]))] H := hP
  have hD : va_D A [(x, .inr (7, [.ref wa, .ref wb, .ref su, .ref cu, .ref tr, .ref co, .ref lo, .ref pk]))] := hD
  refine vx_catch hown [] ⟨0, 14, 17, 13⟩ [] (by rw [ht]; rfl) (fun z hz => nomatch hz) (by decide) (by decide) hcl13 (va_Nw.use rfl hE.2.2.2.2.2.2.2.2.2.2.1) hce hcv hcl ?_
  refine lv_astore (lv' := [(6, .ref q9), (0, .ref x), (1, .int p0), (2, .int p1), (3, .int p2), (4, .int p3), (5, .ref ou)]) hx hb dL_steps_17 hl (by decide) rfl (fun ls hl => ?_)
  refine lv_iconst (v := 1) hx hb dL_steps_19 (by decide) ?_
  exact zend_i hx hb hr hlocks (fun k => [].getD k 0) hP hD hS (Nat.le_of_ble_eq_true rfl) (Nat.le_of_ble_eq_true rfl) dL_steps_20

set_option maxHeartbeats 4000000 in
set_option maxRecDepth 100000 in
theorem z_L_send (l : Launch) (G : zG) (x : Nat) (wa : Nat) (wb : Nat) (su : Nat) (cu : Nat) (tr : Nat) (co : Nat) (lo : Nat) (pk : Nat) (ro : Nat) (p0 : Int32) (p1 : Int32) (p2 : Int32) (p3 : Int32) (fp : Nat → Int32) (lr : Nat) (ou : Nat) (fo : Nat → Int64) (hok : zOk p0 p1 p2 p3) : zH l G yL_send wsL_send { frames := 3, cells := 0, slots := 0, locals := 71 } [(x, .inr (7, [.ref wa, .ref wb, .ref su, .ref cu, .ref tr, .ref co, .ref lo, .ref pk])), (pk, .inl (G.2.1, 4, .inl (fp))), (wa, .inr (6, [.ref ro, .int 0, .int 0])), (lo, .inr (2, [.ref lr, .int 0, .int 0, .int 0, .int 0, .int 0])), (ou, .inl (G.2.2.2.1, 1, .inr (.inl (fo))))] [.ref x, .int p0, .int p1, .int p2, .int p3, .ref ou] (some (.int 0)) (fun u => [(ou, .inl (G.2.2.2.1, 1, .inr (.inl (vp_updL fo 0 0)))), (x, .inr (7, [.ref wa, .ref wb, .ref su, .ref cu, .ref tr, .ref co, .ref lo, .ref pk])), (pk, .inl (G.2.1, 4, .inl (upd (upd (upd (upd fp 0 p0) 1 p1) 2 p2) 3 p3))), (wa, .inr (6, [.ref ro, .int 0, .int 0])), (lo, .inr (2, [.ref lr, .int 0, .int 1, .int 0, .int 0, .int 1]))]) 0 0 := by
  refine zH_of (cc := cL_send) (maxL := 7) (rt := (some .int)) (hh := [(0, 14, 17, 13)]) (by decide) rfl (Nat.le_of_ble_eq_true rfl) ?_
  intro p e s m below meth c A ls hx hb hml hr hts hown hlocks ht hA hE hP hD hS hl
  have hl : lv_has ls 7 [(0, .ref x), (1, .int p0), (2, .int p1), (3, .int p2), (4, .int p3), (5, .ref ou)] := hl
  have hown : s.vm.findClass RL = some m.cls := hown
  have hP : va_P G.1 vwCl [(x, .inr (7, [.ref wa, .ref wb, .ref su, .ref cu, .ref tr, .ref co, .ref lo, .ref pk])), (pk, .inl (G.2.1, 4, .inl (fp))), (wa, .inr (6, [.ref ro, .int 0, .int 0])), (lo, .inr (2, [.ref lr, .int 0, .int 0, .int 0, .int 0, .int 0])), (ou, .inl (G.2.2.2.1, 1, .inr (.inl (fo))))] s.heap := hP
  refine lv_aload hx hb dL_send_0 (lv_at hl 5 rfl) ?_
  refine lv_iconst (v := 0) hx hb dL_send_2 (by decide) ?_
  refine lv_aload_n hx hb dL_send_3 rfl (lv_at hl 0 rfl) ?_
  refine lv_iload_n hx hb dL_send_4 rfl (lv_at hl 1 rfl) ?_
  refine lv_iload_n hx hb dL_send_5 rfl (lv_at hl 2 rfl) ?_
  refine lv_iload_n hx hb dL_send_6 rfl (lv_at hl 3 rfl) ?_
  refine lv_iload hx hb dL_send_7 (lv_at hl 4 rfl) ?_
  refine zcall (wr := [(ou, .inl (G.2.2.2.1, 1, .inr (.inl (fo))))]) (va_runV (As := [.int p0, .int p1, .int p2, .int p3]) (rest := [.int 0, .ref ou]) ⟨hx, hb, hml, hown, hts⟩ (z_X7_send l G x wa wb su cu tr co lo pk ro p0 p1 p2 p3 (fp) lr hok s.heap.size) (cwV 4 hts gL_send_X7_send rfl rfl rfl (by decide +kernel) ⟨Nat.le_of_ble_eq_true rfl, Nat.le_of_ble_eq_true rfl⟩) (zPreV (Wc := [(x, .inr (7, [.ref wa, .ref wb, .ref su, .ref cu, .ref tr, .ref co, .ref lo, .ref pk])), (pk, .inl (G.2.1, 4, .inl (fp))), (wa, .inr (6, [.ref ro, .int 0, .int 0])), (lo, .inr (2, [.ref lr, .int 0, .int 0, .int 0, .int 0, .int 0]))]) (q0 := 0) (ci := 7) (q := (RX7, TX7, 8)) hP hD hE hS hA [0, 1, 2, 3] rfl (by decide) rfl rfl) rfl rfl hl.1 rfl (lv_room (Nat.le_of_ble_eq_true rfl)) dL_send_9 ⟨Nat.le_of_ble_eq_true rfl, Nat.le_of_ble_eq_true rfl⟩) hP hD hS hA [0, 1, 2, 3] [4] rfl rfl (by decide) (by decide) (fun u1 H locs hP hD hS => ?_)
  have hP : va_P G.1 vwCl [(ou, .inl (G.2.2.2.1, 1, .inr (.inl (fo)))), (x, .inr (7, [.ref wa, .ref wb, .ref su, .ref cu, .ref tr, .ref co, .ref lo, .ref pk])), (pk, .inl (G.2.1, 4, .inl (upd (upd (upd (upd fp 0 p0) 1 p1) 2 p2) 3 p3))), (wa, .inr (6, [.ref ro, .int 0, .int 0])), (lo, .inr (2, [.ref lr, .int 0, .int 1, .int 0, .int 0, .int 1]))] H := hP
  have hD : va_D A [(ou, .inl (G.2.2.2.1, 1, .inr (.inl (fo)))), (x, .inr (7, [.ref wa, .ref wb, .ref su, .ref cu, .ref tr, .ref co, .ref lo, .ref pk])), (pk, .inl (G.2.1, 4, .inl (upd (upd (upd (upd fp 0 p0) 1 p1) 2 p2) 3 p3))), (wa, .inr (6, [.ref ro, .int 0, .int 0])), (lo, .inr (2, [.ref lr, .int 0, .int 1, .int 0, .int 0, .int 1]))] := hD
  refine W.eq (g2 := F0 m 12 ls [.int 0, .int 0, .ref ou]) rfl ?_
  refine lv_i2l (v := 0) hx hb dL_send_12 (by decide) ?_
  refine va_last hx hb hE.1 hP hD hS 0 2 rfl rfl (zin (by decide +kernel)) dL_send_13 (fun H locs hP hD hS => ?_)
  have hP : va_P G.1 vwCl [(ou, .inl (G.2.2.2.1, 1, .inr (.inl (vp_updL fo 0 0)))), (x, .inr (7, [.ref wa, .ref wb, .ref su, .ref cu, .ref tr, .ref co, .ref lo, .ref pk])), (pk, .inl (G.2.1, 4, .inl (upd (upd (upd (upd fp 0 p0) 1 p1) 2 p2) 3 p3))), (wa, .inr (6, [.ref ro, .int 0, .int 0])), (lo, .inr (2, [.ref lr, .int 0, .int 1, .int 0, .int 0, .int 1]))] H := hP
  have hD : va_D A [(ou, .inl (G.2.2.2.1, 1, .inr (.inl (vp_updL fo 0 0)))), (x, .inr (7, [.ref wa, .ref wb, .ref su, .ref cu, .ref tr, .ref co, .ref lo, .ref pk])), (pk, .inl (G.2.1, 4, .inl (upd (upd (upd (upd fp 0 p0) 1 p1) 2 p2) 3 p3))), (wa, .inr (6, [.ref ro, .int 0, .int 0])), (lo, .inr (2, [.ref lr, .int 0, .int 1, .int 0, .int 0, .int 1]))] := hD
  refine lv_goto (tgt := 21) hx hb dL_send_14 (by decide) ?_
  refine lv_iconst (v := 0) hx hb dL_send_21 (by decide) ?_
  exact zend_i hx hb hr hlocks (fun k => [].getD k 0) hP hD hS (Nat.le_of_ble_eq_true rfl) (Nat.le_of_ble_eq_true rfl) dL_send_22

set_option maxHeartbeats 4000000 in
set_option maxRecDepth 100000 in
theorem z_L_sendT (l : Launch) (G : zG) (x : Nat) (wa : Nat) (wb : Nat) (su : Nat) (cu : Nat) (tr : Nat) (co : Nat) (lo : Nat) (pk : Nat) (p0 : Int32) (p1 : Int32) (p2 : Int32) (p3 : Int32) (ou : Nat) (hl0 : l.stackTraces = false) (hbad : zBad p0 p1 p2 p3) : zH l G yL_send wsL_send { frames := 8, cells := 1, slots := 6, locals := 132 } [(x, .inr (7, [.ref wa, .ref wb, .ref su, .ref cu, .ref tr, .ref co, .ref lo, .ref pk]))] [.ref x, .int p0, .int p1, .int p2, .int p3, .ref ou] (some (.int 1)) (fun u => [(x, .inr (7, [.ref wa, .ref wb, .ref su, .ref cu, .ref tr, .ref co, .ref lo, .ref pk]))]) 1 6 := by
  refine zH_of (cc := cL_send) (maxL := 7) (rt := (some .int)) (hh := [(0, 14, 17, 13)]) (by decide) rfl (Nat.le_of_ble_eq_true rfl) ?_
  intro p e s m below meth c A ls hx hb hml hr hts hown hlocks ht hA hE hP hD hS hl
  have hl : lv_has ls 7 [(0, .ref x), (1, .int p0), (2, .int p1), (3, .int p2), (4, .int p3), (5, .ref ou)] := hl
  have hown : s.vm.findClass RL = some m.cls := hown
  have hP : va_P G.1 vwCl [(x, .inr (7, [.ref wa, .ref wb, .ref su, .ref cu, .ref tr, .ref co, .ref lo, .ref pk]))] s.heap := hP
  have hcl13 := hts (.classLink RL 13 "java/lang/IllegalArgumentException") (by decide +kernel)
  refine lv_aload hx hb dL_send_0 (lv_at hl 5 rfl) ?_
  refine lv_iconst (v := 0) hx hb dL_send_2 (by decide) ?_
  refine lv_aload_n hx hb dL_send_3 rfl (lv_at hl 0 rfl) ?_
  refine lv_iload_n hx hb dL_send_4 rfl (lv_at hl 1 rfl) ?_
  refine lv_iload_n hx hb dL_send_5 rfl (lv_at hl 2 rfl) ?_
  refine lv_iload_n hx hb dL_send_6 rfl (lv_at hl 3 rfl) ?_
  refine lv_iload hx hb dL_send_7 (lv_at hl 4 rfl) ?_
  refine zcallT (wr := []) (vx_runV (As := [.int p0, .int p1, .int p2, .int p3]) (rest := [.int 0, .ref ou]) ⟨hx, hb, hml, hown, hts⟩ (z_X7_sendT l G x wa wb su cu tr co lo pk p0 p1 p2 p3 hl0 hbad s.heap.size) (cwV 4 hts gL_send_X7_send rfl rfl rfl (by decide +kernel) ⟨Nat.le_of_ble_eq_true rfl, Nat.le_of_ble_eq_true rfl⟩) (zPreV (Wc := [(x, .inr (7, [.ref wa, .ref wb, .ref su, .ref cu, .ref tr, .ref co, .ref lo, .ref pk]))]) (q0 := 0) (ci := 7) (q := (RX7, TX7, 8)) hP hD hE hS hA [0] rfl (by decide) rfl rfl) rfl rfl hl.1 rfl (lv_room (Nat.le_of_ble_eq_true rfl)) dL_send_9 ⟨Nat.le_of_ble_eq_true rfl, Nat.le_of_ble_eq_true rfl⟩) hP hD hS hA [0] [] rfl rfl (by decide) (by decide) (fun ce q9 H locs hP hD hS hce hcv hcl => ?_)
  have hP : va_P G.1 vwCl [(x, .inr (7, [.ref wa, .ref wb, .ref su, .ref cu, .ref tr, .ref co, .ref lo, .ref pk]))] H := hP
  have hD : va_D A [(x, .inr (7, [.ref wa, .ref wb, .ref su, .ref cu, .ref tr, .ref co, .ref lo, .ref pk]))] := hD
  refine vx_catch hown [] ⟨0, 14, 17, 13⟩ [] (by rw [ht]; rfl) (fun z hz => nomatch hz) (by decide) (by decide) hcl13 (va_Nw.use rfl hE.2.2.2.2.2.2.2.2.2.2.1) hce hcv hcl ?_
  refine lv_astore (lv' := [(6, .ref q9), (0, .ref x), (1, .int p0), (2, .int p1), (3, .int p2), (4, .int p3), (5, .ref ou)]) hx hb dL_send_17 hl (by decide) rfl (fun ls hl => ?_)
  refine lv_iconst (v := 1) hx hb dL_send_19 (by decide) ?_
  exact zend_i hx hb hr hlocks (fun k => [].getD k 0) hP hD hS (Nat.le_of_ble_eq_true rfl) (Nat.le_of_ble_eq_true rfl) dL_send_20

set_option maxHeartbeats 4000000 in
set_option maxRecDepth 100000 in
theorem z_L_sent0 (l : Launch) (G : zG) (x : Nat) (wa : Nat) (wb : Nat) (su : Nat) (cu : Nat) (tr : Nat) (co : Nat) (lo : Nat) (pk : Nat) (lr : Nat) (ou : Nat) (fo : Nat → Int64) : zH l G yL_sent wsL_sent { frames := 2, cells := 0, slots := 0, locals := 42 } [(x, .inr (7, [.ref wa, .ref wb, .ref su, .ref cu, .ref tr, .ref co, .ref lo, .ref pk])), (lo, .inr (2, [.ref lr, .int 0, .int 0, .int 0, .int 0, .int 0])), (ou, .inl (G.2.2.2.1, 1, .inr (.inl (fo))))] [.ref x, .int 0, .ref ou] (some (.int 0)) (fun u => [(ou, .inl (G.2.2.2.1, 1, .inr (.inl (vp_updL fo 0 0)))), (x, .inr (7, [.ref wa, .ref wb, .ref su, .ref cu, .ref tr, .ref co, .ref lo, .ref pk])), (lo, .inr (2, [.ref lr, .int 0, .int 0, .int 0, .int 0, .int 0]))]) 0 0 := by
  refine zH_of (cc := cL_sent) (maxL := 4) (rt := (some .int)) (hh := [(0, 9, 12, 13)]) (by decide) rfl (Nat.le_of_ble_eq_true rfl) ?_
  intro p e s m below meth c A ls hx hb hml hr hts hown hlocks ht hA hE hP hD hS hl
  have hl : lv_has ls 4 [(0, .ref x), (1, .int 0), (2, .ref ou)] := hl
  have hown : s.vm.findClass RL = some m.cls := hown
  have hP : va_P G.1 vwCl [(x, .inr (7, [.ref wa, .ref wb, .ref su, .ref cu, .ref tr, .ref co, .ref lo, .ref pk])), (lo, .inr (2, [.ref lr, .int 0, .int 0, .int 0, .int 0, .int 0])), (ou, .inl (G.2.2.2.1, 1, .inr (.inl (fo))))] s.heap := hP
  refine lv_aload_n hx hb dL_sent_0 rfl (lv_at hl 2 rfl) ?_
  refine lv_iconst (v := 0) hx hb dL_sent_1 (by decide) ?_
  refine lv_aload_n hx hb dL_sent_2 rfl (lv_at hl 0 rfl) ?_
  refine lv_iload_n hx hb dL_sent_3 rfl (lv_at hl 1 rfl) ?_
  refine zcall (wr := [(ou, .inl (G.2.2.2.1, 1, .inr (.inl (fo))))]) (va_runV (As := [.int 0]) (rest := [.int 0, .ref ou]) ⟨hx, hb, hml, hown, hts⟩ (z_X7_sent0 l G x wa wb su cu tr co lo pk lr s.heap.size) (cwV 1 hts gL_sent_X7_sent rfl rfl rfl (by decide +kernel) ⟨Nat.le_of_ble_eq_true rfl, Nat.le_of_ble_eq_true rfl⟩) (zPreV (Wc := [(x, .inr (7, [.ref wa, .ref wb, .ref su, .ref cu, .ref tr, .ref co, .ref lo, .ref pk])), (lo, .inr (2, [.ref lr, .int 0, .int 0, .int 0, .int 0, .int 0]))]) (q0 := 0) (ci := 7) (q := (RX7, TX7, 8)) hP hD hE hS hA [0, 1] rfl (by decide) rfl rfl) rfl rfl hl.1 rfl (lv_room (Nat.le_of_ble_eq_true rfl)) dL_sent_4 ⟨Nat.le_of_ble_eq_true rfl, Nat.le_of_ble_eq_true rfl⟩) hP hD hS hA [0, 1] [2] rfl rfl (by decide) (by decide) (fun u1 H locs hP hD hS => ?_)
  have hP : va_P G.1 vwCl [(ou, .inl (G.2.2.2.1, 1, .inr (.inl (fo)))), (x, .inr (7, [.ref wa, .ref wb, .ref su, .ref cu, .ref tr, .ref co, .ref lo, .ref pk])), (lo, .inr (2, [.ref lr, .int 0, .int 0, .int 0, .int 0, .int 0]))] H := hP
  have hD : va_D A [(ou, .inl (G.2.2.2.1, 1, .inr (.inl (fo)))), (x, .inr (7, [.ref wa, .ref wb, .ref su, .ref cu, .ref tr, .ref co, .ref lo, .ref pk])), (lo, .inr (2, [.ref lr, .int 0, .int 0, .int 0, .int 0, .int 0]))] := hD
  refine W.eq (g2 := F0 m 7 ls [.int 0, .int 0, .ref ou]) rfl ?_
  refine lv_i2l (v := 0) hx hb dL_sent_7 (by decide) ?_
  refine va_last hx hb hE.1 hP hD hS 0 2 rfl rfl (zin (by decide +kernel)) dL_sent_8 (fun H locs hP hD hS => ?_)
  have hP : va_P G.1 vwCl [(ou, .inl (G.2.2.2.1, 1, .inr (.inl (vp_updL fo 0 0)))), (x, .inr (7, [.ref wa, .ref wb, .ref su, .ref cu, .ref tr, .ref co, .ref lo, .ref pk])), (lo, .inr (2, [.ref lr, .int 0, .int 0, .int 0, .int 0, .int 0]))] H := hP
  have hD : va_D A [(ou, .inl (G.2.2.2.1, 1, .inr (.inl (vp_updL fo 0 0)))), (x, .inr (7, [.ref wa, .ref wb, .ref su, .ref cu, .ref tr, .ref co, .ref lo, .ref pk])), (lo, .inr (2, [.ref lr, .int 0, .int 0, .int 0, .int 0, .int 0]))] := hD
  refine lv_goto (tgt := 15) hx hb dL_sent_9 (by decide) ?_
  refine lv_iconst (v := 0) hx hb dL_sent_15 (by decide) ?_
  exact zend_i hx hb hr hlocks (fun k => [].getD k 0) hP hD hS (Nat.le_of_ble_eq_true rfl) (Nat.le_of_ble_eq_true rfl) dL_sent_16

set_option maxHeartbeats 4000000 in
set_option maxRecDepth 100000 in
theorem z_L_sent1 (l : Launch) (G : zG) (x : Nat) (wa : Nat) (wb : Nat) (su : Nat) (cu : Nat) (tr : Nat) (co : Nat) (lo : Nat) (pk : Nat) (lr : Nat) (ou : Nat) (fo : Nat → Int64) : zH l G yL_sent wsL_sent { frames := 2, cells := 0, slots := 0, locals := 42 } [(x, .inr (7, [.ref wa, .ref wb, .ref su, .ref cu, .ref tr, .ref co, .ref lo, .ref pk])), (lo, .inr (2, [.ref lr, .int 0, .int 0, .int 0, .int 0, .int 0])), (ou, .inl (G.2.2.2.1, 1, .inr (.inl (fo))))] [.ref x, .int 1, .ref ou] (some (.int 0)) (fun u => [(ou, .inl (G.2.2.2.1, 1, .inr (.inl (vp_updL fo 0 0)))), (x, .inr (7, [.ref wa, .ref wb, .ref su, .ref cu, .ref tr, .ref co, .ref lo, .ref pk])), (lo, .inr (2, [.ref lr, .int 0, .int 0, .int 0, .int 0, .int 0]))]) 0 0 := by
  refine zH_of (cc := cL_sent) (maxL := 4) (rt := (some .int)) (hh := [(0, 9, 12, 13)]) (by decide) rfl (Nat.le_of_ble_eq_true rfl) ?_
  intro p e s m below meth c A ls hx hb hml hr hts hown hlocks ht hA hE hP hD hS hl
  have hl : lv_has ls 4 [(0, .ref x), (1, .int 1), (2, .ref ou)] := hl
  have hown : s.vm.findClass RL = some m.cls := hown
  have hP : va_P G.1 vwCl [(x, .inr (7, [.ref wa, .ref wb, .ref su, .ref cu, .ref tr, .ref co, .ref lo, .ref pk])), (lo, .inr (2, [.ref lr, .int 0, .int 0, .int 0, .int 0, .int 0])), (ou, .inl (G.2.2.2.1, 1, .inr (.inl (fo))))] s.heap := hP
  refine lv_aload_n hx hb dL_sent_0 rfl (lv_at hl 2 rfl) ?_
  refine lv_iconst (v := 0) hx hb dL_sent_1 (by decide) ?_
  refine lv_aload_n hx hb dL_sent_2 rfl (lv_at hl 0 rfl) ?_
  refine lv_iload_n hx hb dL_sent_3 rfl (lv_at hl 1 rfl) ?_
  refine zcall (wr := [(ou, .inl (G.2.2.2.1, 1, .inr (.inl (fo))))]) (va_runV (As := [.int 1]) (rest := [.int 0, .ref ou]) ⟨hx, hb, hml, hown, hts⟩ (z_X7_sent1 l G x wa wb su cu tr co lo pk lr s.heap.size) (cwV 1 hts gL_sent_X7_sent rfl rfl rfl (by decide +kernel) ⟨Nat.le_of_ble_eq_true rfl, Nat.le_of_ble_eq_true rfl⟩) (zPreV (Wc := [(x, .inr (7, [.ref wa, .ref wb, .ref su, .ref cu, .ref tr, .ref co, .ref lo, .ref pk])), (lo, .inr (2, [.ref lr, .int 0, .int 0, .int 0, .int 0, .int 0]))]) (q0 := 0) (ci := 7) (q := (RX7, TX7, 8)) hP hD hE hS hA [0, 1] rfl (by decide) rfl rfl) rfl rfl hl.1 rfl (lv_room (Nat.le_of_ble_eq_true rfl)) dL_sent_4 ⟨Nat.le_of_ble_eq_true rfl, Nat.le_of_ble_eq_true rfl⟩) hP hD hS hA [0, 1] [2] rfl rfl (by decide) (by decide) (fun u1 H locs hP hD hS => ?_)
  have hP : va_P G.1 vwCl [(ou, .inl (G.2.2.2.1, 1, .inr (.inl (fo)))), (x, .inr (7, [.ref wa, .ref wb, .ref su, .ref cu, .ref tr, .ref co, .ref lo, .ref pk])), (lo, .inr (2, [.ref lr, .int 0, .int 0, .int 0, .int 0, .int 0]))] H := hP
  have hD : va_D A [(ou, .inl (G.2.2.2.1, 1, .inr (.inl (fo)))), (x, .inr (7, [.ref wa, .ref wb, .ref su, .ref cu, .ref tr, .ref co, .ref lo, .ref pk])), (lo, .inr (2, [.ref lr, .int 0, .int 0, .int 0, .int 0, .int 0]))] := hD
  refine W.eq (g2 := F0 m 7 ls [.int 0, .int 0, .ref ou]) rfl ?_
  refine lv_i2l (v := 0) hx hb dL_sent_7 (by decide) ?_
  refine va_last hx hb hE.1 hP hD hS 0 2 rfl rfl (zin (by decide +kernel)) dL_sent_8 (fun H locs hP hD hS => ?_)
  have hP : va_P G.1 vwCl [(ou, .inl (G.2.2.2.1, 1, .inr (.inl (vp_updL fo 0 0)))), (x, .inr (7, [.ref wa, .ref wb, .ref su, .ref cu, .ref tr, .ref co, .ref lo, .ref pk])), (lo, .inr (2, [.ref lr, .int 0, .int 0, .int 0, .int 0, .int 0]))] H := hP
  have hD : va_D A [(ou, .inl (G.2.2.2.1, 1, .inr (.inl (vp_updL fo 0 0)))), (x, .inr (7, [.ref wa, .ref wb, .ref su, .ref cu, .ref tr, .ref co, .ref lo, .ref pk])), (lo, .inr (2, [.ref lr, .int 0, .int 0, .int 0, .int 0, .int 0]))] := hD
  refine lv_goto (tgt := 15) hx hb dL_sent_9 (by decide) ?_
  refine lv_iconst (v := 0) hx hb dL_sent_15 (by decide) ?_
  exact zend_i hx hb hr hlocks (fun k => [].getD k 0) hP hD hS (Nat.le_of_ble_eq_true rfl) (Nat.le_of_ble_eq_true rfl) dL_sent_16

set_option maxHeartbeats 4000000 in
set_option maxRecDepth 100000 in
theorem z_L_sent2 (l : Launch) (G : zG) (x : Nat) (wa : Nat) (wb : Nat) (su : Nat) (cu : Nat) (tr : Nat) (co : Nat) (lo : Nat) (pk : Nat) (lr : Nat) (ou : Nat) (fo : Nat → Int64) : zH l G yL_sent wsL_sent { frames := 2, cells := 0, slots := 0, locals := 42 } [(x, .inr (7, [.ref wa, .ref wb, .ref su, .ref cu, .ref tr, .ref co, .ref lo, .ref pk])), (lo, .inr (2, [.ref lr, .int 0, .int 0, .int 0, .int 0, .int 0])), (ou, .inl (G.2.2.2.1, 1, .inr (.inl (fo))))] [.ref x, .int 2, .ref ou] (some (.int 0)) (fun u => [(ou, .inl (G.2.2.2.1, 1, .inr (.inl (vp_updL fo 0 0)))), (x, .inr (7, [.ref wa, .ref wb, .ref su, .ref cu, .ref tr, .ref co, .ref lo, .ref pk])), (lo, .inr (2, [.ref lr, .int 0, .int 0, .int 0, .int 0, .int 0]))]) 0 0 := by
  refine zH_of (cc := cL_sent) (maxL := 4) (rt := (some .int)) (hh := [(0, 9, 12, 13)]) (by decide) rfl (Nat.le_of_ble_eq_true rfl) ?_
  intro p e s m below meth c A ls hx hb hml hr hts hown hlocks ht hA hE hP hD hS hl
  have hl : lv_has ls 4 [(0, .ref x), (1, .int 2), (2, .ref ou)] := hl
  have hown : s.vm.findClass RL = some m.cls := hown
  have hP : va_P G.1 vwCl [(x, .inr (7, [.ref wa, .ref wb, .ref su, .ref cu, .ref tr, .ref co, .ref lo, .ref pk])), (lo, .inr (2, [.ref lr, .int 0, .int 0, .int 0, .int 0, .int 0])), (ou, .inl (G.2.2.2.1, 1, .inr (.inl (fo))))] s.heap := hP
  refine lv_aload_n hx hb dL_sent_0 rfl (lv_at hl 2 rfl) ?_
  refine lv_iconst (v := 0) hx hb dL_sent_1 (by decide) ?_
  refine lv_aload_n hx hb dL_sent_2 rfl (lv_at hl 0 rfl) ?_
  refine lv_iload_n hx hb dL_sent_3 rfl (lv_at hl 1 rfl) ?_
  refine zcall (wr := [(ou, .inl (G.2.2.2.1, 1, .inr (.inl (fo))))]) (va_runV (As := [.int 2]) (rest := [.int 0, .ref ou]) ⟨hx, hb, hml, hown, hts⟩ (z_X7_sent2 l G x wa wb su cu tr co lo pk lr s.heap.size) (cwV 1 hts gL_sent_X7_sent rfl rfl rfl (by decide +kernel) ⟨Nat.le_of_ble_eq_true rfl, Nat.le_of_ble_eq_true rfl⟩) (zPreV (Wc := [(x, .inr (7, [.ref wa, .ref wb, .ref su, .ref cu, .ref tr, .ref co, .ref lo, .ref pk])), (lo, .inr (2, [.ref lr, .int 0, .int 0, .int 0, .int 0, .int 0]))]) (q0 := 0) (ci := 7) (q := (RX7, TX7, 8)) hP hD hE hS hA [0, 1] rfl (by decide) rfl rfl) rfl rfl hl.1 rfl (lv_room (Nat.le_of_ble_eq_true rfl)) dL_sent_4 ⟨Nat.le_of_ble_eq_true rfl, Nat.le_of_ble_eq_true rfl⟩) hP hD hS hA [0, 1] [2] rfl rfl (by decide) (by decide) (fun u1 H locs hP hD hS => ?_)
  have hP : va_P G.1 vwCl [(ou, .inl (G.2.2.2.1, 1, .inr (.inl (fo)))), (x, .inr (7, [.ref wa, .ref wb, .ref su, .ref cu, .ref tr, .ref co, .ref lo, .ref pk])), (lo, .inr (2, [.ref lr, .int 0, .int 0, .int 0, .int 0, .int 0]))] H := hP
  have hD : va_D A [(ou, .inl (G.2.2.2.1, 1, .inr (.inl (fo)))), (x, .inr (7, [.ref wa, .ref wb, .ref su, .ref cu, .ref tr, .ref co, .ref lo, .ref pk])), (lo, .inr (2, [.ref lr, .int 0, .int 0, .int 0, .int 0, .int 0]))] := hD
  refine W.eq (g2 := F0 m 7 ls [.int 0, .int 0, .ref ou]) rfl ?_
  refine lv_i2l (v := 0) hx hb dL_sent_7 (by decide) ?_
  refine va_last hx hb hE.1 hP hD hS 0 2 rfl rfl (zin (by decide +kernel)) dL_sent_8 (fun H locs hP hD hS => ?_)
  have hP : va_P G.1 vwCl [(ou, .inl (G.2.2.2.1, 1, .inr (.inl (vp_updL fo 0 0)))), (x, .inr (7, [.ref wa, .ref wb, .ref su, .ref cu, .ref tr, .ref co, .ref lo, .ref pk])), (lo, .inr (2, [.ref lr, .int 0, .int 0, .int 0, .int 0, .int 0]))] H := hP
  have hD : va_D A [(ou, .inl (G.2.2.2.1, 1, .inr (.inl (vp_updL fo 0 0)))), (x, .inr (7, [.ref wa, .ref wb, .ref su, .ref cu, .ref tr, .ref co, .ref lo, .ref pk])), (lo, .inr (2, [.ref lr, .int 0, .int 0, .int 0, .int 0, .int 0]))] := hD
  refine lv_goto (tgt := 15) hx hb dL_sent_9 (by decide) ?_
  refine lv_iconst (v := 0) hx hb dL_sent_15 (by decide) ?_
  exact zend_i hx hb hr hlocks (fun k => [].getD k 0) hP hD hS (Nat.le_of_ble_eq_true rfl) (Nat.le_of_ble_eq_true rfl) dL_sent_16

set_option maxHeartbeats 4000000 in
set_option maxRecDepth 100000 in
theorem z_L_sent3 (l : Launch) (G : zG) (x : Nat) (wa : Nat) (wb : Nat) (su : Nat) (cu : Nat) (tr : Nat) (co : Nat) (lo : Nat) (pk : Nat) (lr : Nat) (ou : Nat) (fo : Nat → Int64) : zH l G yL_sent wsL_sent { frames := 2, cells := 0, slots := 0, locals := 42 } [(x, .inr (7, [.ref wa, .ref wb, .ref su, .ref cu, .ref tr, .ref co, .ref lo, .ref pk])), (lo, .inr (2, [.ref lr, .int 0, .int 0, .int 0, .int 0, .int 0])), (ou, .inl (G.2.2.2.1, 1, .inr (.inl (fo))))] [.ref x, .int 3, .ref ou] (some (.int 0)) (fun u => [(ou, .inl (G.2.2.2.1, 1, .inr (.inl (vp_updL fo 0 0)))), (x, .inr (7, [.ref wa, .ref wb, .ref su, .ref cu, .ref tr, .ref co, .ref lo, .ref pk])), (lo, .inr (2, [.ref lr, .int 0, .int 0, .int 0, .int 0, .int 0]))]) 0 0 := by
  refine zH_of (cc := cL_sent) (maxL := 4) (rt := (some .int)) (hh := [(0, 9, 12, 13)]) (by decide) rfl (Nat.le_of_ble_eq_true rfl) ?_
  intro p e s m below meth c A ls hx hb hml hr hts hown hlocks ht hA hE hP hD hS hl
  have hl : lv_has ls 4 [(0, .ref x), (1, .int 3), (2, .ref ou)] := hl
  have hown : s.vm.findClass RL = some m.cls := hown
  have hP : va_P G.1 vwCl [(x, .inr (7, [.ref wa, .ref wb, .ref su, .ref cu, .ref tr, .ref co, .ref lo, .ref pk])), (lo, .inr (2, [.ref lr, .int 0, .int 0, .int 0, .int 0, .int 0])), (ou, .inl (G.2.2.2.1, 1, .inr (.inl (fo))))] s.heap := hP
  refine lv_aload_n hx hb dL_sent_0 rfl (lv_at hl 2 rfl) ?_
  refine lv_iconst (v := 0) hx hb dL_sent_1 (by decide) ?_
  refine lv_aload_n hx hb dL_sent_2 rfl (lv_at hl 0 rfl) ?_
  refine lv_iload_n hx hb dL_sent_3 rfl (lv_at hl 1 rfl) ?_
  refine zcall (wr := [(ou, .inl (G.2.2.2.1, 1, .inr (.inl (fo))))]) (va_runV (As := [.int 3]) (rest := [.int 0, .ref ou]) ⟨hx, hb, hml, hown, hts⟩ (z_X7_sent3 l G x wa wb su cu tr co lo pk lr s.heap.size) (cwV 1 hts gL_sent_X7_sent rfl rfl rfl (by decide +kernel) ⟨Nat.le_of_ble_eq_true rfl, Nat.le_of_ble_eq_true rfl⟩) (zPreV (Wc := [(x, .inr (7, [.ref wa, .ref wb, .ref su, .ref cu, .ref tr, .ref co, .ref lo, .ref pk])), (lo, .inr (2, [.ref lr, .int 0, .int 0, .int 0, .int 0, .int 0]))]) (q0 := 0) (ci := 7) (q := (RX7, TX7, 8)) hP hD hE hS hA [0, 1] rfl (by decide) rfl rfl) rfl rfl hl.1 rfl (lv_room (Nat.le_of_ble_eq_true rfl)) dL_sent_4 ⟨Nat.le_of_ble_eq_true rfl, Nat.le_of_ble_eq_true rfl⟩) hP hD hS hA [0, 1] [2] rfl rfl (by decide) (by decide) (fun u1 H locs hP hD hS => ?_)
  have hP : va_P G.1 vwCl [(ou, .inl (G.2.2.2.1, 1, .inr (.inl (fo)))), (x, .inr (7, [.ref wa, .ref wb, .ref su, .ref cu, .ref tr, .ref co, .ref lo, .ref pk])), (lo, .inr (2, [.ref lr, .int 0, .int 0, .int 0, .int 0, .int 0]))] H := hP
  have hD : va_D A [(ou, .inl (G.2.2.2.1, 1, .inr (.inl (fo)))), (x, .inr (7, [.ref wa, .ref wb, .ref su, .ref cu, .ref tr, .ref co, .ref lo, .ref pk])), (lo, .inr (2, [.ref lr, .int 0, .int 0, .int 0, .int 0, .int 0]))] := hD
  refine W.eq (g2 := F0 m 7 ls [.int 0, .int 0, .ref ou]) rfl ?_
  refine lv_i2l (v := 0) hx hb dL_sent_7 (by decide) ?_
  refine va_last hx hb hE.1 hP hD hS 0 2 rfl rfl (zin (by decide +kernel)) dL_sent_8 (fun H locs hP hD hS => ?_)
  have hP : va_P G.1 vwCl [(ou, .inl (G.2.2.2.1, 1, .inr (.inl (vp_updL fo 0 0)))), (x, .inr (7, [.ref wa, .ref wb, .ref su, .ref cu, .ref tr, .ref co, .ref lo, .ref pk])), (lo, .inr (2, [.ref lr, .int 0, .int 0, .int 0, .int 0, .int 0]))] H := hP
  have hD : va_D A [(ou, .inl (G.2.2.2.1, 1, .inr (.inl (vp_updL fo 0 0)))), (x, .inr (7, [.ref wa, .ref wb, .ref su, .ref cu, .ref tr, .ref co, .ref lo, .ref pk])), (lo, .inr (2, [.ref lr, .int 0, .int 0, .int 0, .int 0, .int 0]))] := hD
  refine lv_goto (tgt := 15) hx hb dL_sent_9 (by decide) ?_
  refine lv_iconst (v := 0) hx hb dL_sent_15 (by decide) ?_
  exact zend_i hx hb hr hlocks (fun k => [].getD k 0) hP hD hS (Nat.le_of_ble_eq_true rfl) (Nat.le_of_ble_eq_true rfl) dL_sent_16

set_option maxHeartbeats 4000000 in
set_option maxRecDepth 100000 in
theorem z_L_sent4 (l : Launch) (G : zG) (x : Nat) (wa : Nat) (wb : Nat) (su : Nat) (cu : Nat) (tr : Nat) (co : Nat) (lo : Nat) (pk : Nat) (lr : Nat) (ou : Nat) (fo : Nat → Int64) : zH l G yL_sent wsL_sent { frames := 2, cells := 0, slots := 0, locals := 42 } [(x, .inr (7, [.ref wa, .ref wb, .ref su, .ref cu, .ref tr, .ref co, .ref lo, .ref pk])), (lo, .inr (2, [.ref lr, .int 0, .int 0, .int 0, .int 0, .int 0])), (ou, .inl (G.2.2.2.1, 1, .inr (.inl (fo))))] [.ref x, .int 4, .ref ou] (some (.int 0)) (fun u => [(ou, .inl (G.2.2.2.1, 1, .inr (.inl (vp_updL fo 0 0)))), (x, .inr (7, [.ref wa, .ref wb, .ref su, .ref cu, .ref tr, .ref co, .ref lo, .ref pk])), (lo, .inr (2, [.ref lr, .int 0, .int 0, .int 0, .int 0, .int 0]))]) 0 0 := by
  refine zH_of (cc := cL_sent) (maxL := 4) (rt := (some .int)) (hh := [(0, 9, 12, 13)]) (by decide) rfl (Nat.le_of_ble_eq_true rfl) ?_
  intro p e s m below meth c A ls hx hb hml hr hts hown hlocks ht hA hE hP hD hS hl
  have hl : lv_has ls 4 [(0, .ref x), (1, .int 4), (2, .ref ou)] := hl
  have hown : s.vm.findClass RL = some m.cls := hown
  have hP : va_P G.1 vwCl [(x, .inr (7, [.ref wa, .ref wb, .ref su, .ref cu, .ref tr, .ref co, .ref lo, .ref pk])), (lo, .inr (2, [.ref lr, .int 0, .int 0, .int 0, .int 0, .int 0])), (ou, .inl (G.2.2.2.1, 1, .inr (.inl (fo))))] s.heap := hP
  refine lv_aload_n hx hb dL_sent_0 rfl (lv_at hl 2 rfl) ?_
  refine lv_iconst (v := 0) hx hb dL_sent_1 (by decide) ?_
  refine lv_aload_n hx hb dL_sent_2 rfl (lv_at hl 0 rfl) ?_
  refine lv_iload_n hx hb dL_sent_3 rfl (lv_at hl 1 rfl) ?_
  refine zcall (wr := [(ou, .inl (G.2.2.2.1, 1, .inr (.inl (fo))))]) (va_runV (As := [.int 4]) (rest := [.int 0, .ref ou]) ⟨hx, hb, hml, hown, hts⟩ (z_X7_sent4 l G x wa wb su cu tr co lo pk lr s.heap.size) (cwV 1 hts gL_sent_X7_sent rfl rfl rfl (by decide +kernel) ⟨Nat.le_of_ble_eq_true rfl, Nat.le_of_ble_eq_true rfl⟩) (zPreV (Wc := [(x, .inr (7, [.ref wa, .ref wb, .ref su, .ref cu, .ref tr, .ref co, .ref lo, .ref pk])), (lo, .inr (2, [.ref lr, .int 0, .int 0, .int 0, .int 0, .int 0]))]) (q0 := 0) (ci := 7) (q := (RX7, TX7, 8)) hP hD hE hS hA [0, 1] rfl (by decide) rfl rfl) rfl rfl hl.1 rfl (lv_room (Nat.le_of_ble_eq_true rfl)) dL_sent_4 ⟨Nat.le_of_ble_eq_true rfl, Nat.le_of_ble_eq_true rfl⟩) hP hD hS hA [0, 1] [2] rfl rfl (by decide) (by decide) (fun u1 H locs hP hD hS => ?_)
  have hP : va_P G.1 vwCl [(ou, .inl (G.2.2.2.1, 1, .inr (.inl (fo)))), (x, .inr (7, [.ref wa, .ref wb, .ref su, .ref cu, .ref tr, .ref co, .ref lo, .ref pk])), (lo, .inr (2, [.ref lr, .int 0, .int 0, .int 0, .int 0, .int 0]))] H := hP
  have hD : va_D A [(ou, .inl (G.2.2.2.1, 1, .inr (.inl (fo)))), (x, .inr (7, [.ref wa, .ref wb, .ref su, .ref cu, .ref tr, .ref co, .ref lo, .ref pk])), (lo, .inr (2, [.ref lr, .int 0, .int 0, .int 0, .int 0, .int 0]))] := hD
  refine W.eq (g2 := F0 m 7 ls [.int 0, .int 0, .ref ou]) rfl ?_
  refine lv_i2l (v := 0) hx hb dL_sent_7 (by decide) ?_
  refine va_last hx hb hE.1 hP hD hS 0 2 rfl rfl (zin (by decide +kernel)) dL_sent_8 (fun H locs hP hD hS => ?_)
  have hP : va_P G.1 vwCl [(ou, .inl (G.2.2.2.1, 1, .inr (.inl (vp_updL fo 0 0)))), (x, .inr (7, [.ref wa, .ref wb, .ref su, .ref cu, .ref tr, .ref co, .ref lo, .ref pk])), (lo, .inr (2, [.ref lr, .int 0, .int 0, .int 0, .int 0, .int 0]))] H := hP
  have hD : va_D A [(ou, .inl (G.2.2.2.1, 1, .inr (.inl (vp_updL fo 0 0)))), (x, .inr (7, [.ref wa, .ref wb, .ref su, .ref cu, .ref tr, .ref co, .ref lo, .ref pk])), (lo, .inr (2, [.ref lr, .int 0, .int 0, .int 0, .int 0, .int 0]))] := hD
  refine lv_goto (tgt := 15) hx hb dL_sent_9 (by decide) ?_
  refine lv_iconst (v := 0) hx hb dL_sent_15 (by decide) ?_
  exact zend_i hx hb hr hlocks (fun k => [].getD k 0) hP hD hS (Nat.le_of_ble_eq_true rfl) (Nat.le_of_ble_eq_true rfl) dL_sent_16

set_option maxHeartbeats 4000000 in
set_option maxRecDepth 100000 in
theorem z_L_sentT (l : Launch) (G : zG) (x : Nat) (wa : Nat) (wb : Nat) (su : Nat) (cu : Nat) (tr : Nat) (co : Nat) (lo : Nat) (pk : Nat) (ou : Nat) (p0 : Int32) (hl0 : l.stackTraces = false) (hv : p0 < 0 ∨ (¬ p0 < 0 ∧ ¬ p0 ≤ 4)) : zH l G yL_sent wsL_sent { frames := 8, cells := 1, slots := 6, locals := 124 } [(x, .inr (7, [.ref wa, .ref wb, .ref su, .ref cu, .ref tr, .ref co, .ref lo, .ref pk]))] [.ref x, .int p0, .ref ou] (some (.int 1)) (fun u => [(x, .inr (7, [.ref wa, .ref wb, .ref su, .ref cu, .ref tr, .ref co, .ref lo, .ref pk]))]) 1 6 := by
  refine zH_of (cc := cL_sent) (maxL := 4) (rt := (some .int)) (hh := [(0, 9, 12, 13)]) (by decide) rfl (Nat.le_of_ble_eq_true rfl) ?_
  intro p e s m below meth c A ls hx hb hml hr hts hown hlocks ht hA hE hP hD hS hl
  have hl : lv_has ls 4 [(0, .ref x), (1, .int p0), (2, .ref ou)] := hl
  have hown : s.vm.findClass RL = some m.cls := hown
  have hP : va_P G.1 vwCl [(x, .inr (7, [.ref wa, .ref wb, .ref su, .ref cu, .ref tr, .ref co, .ref lo, .ref pk]))] s.heap := hP
  have hcl13 := hts (.classLink RL 13 "java/lang/IllegalArgumentException") (by decide +kernel)
  refine lv_aload_n hx hb dL_sent_0 rfl (lv_at hl 2 rfl) ?_
  refine lv_iconst (v := 0) hx hb dL_sent_1 (by decide) ?_
  refine lv_aload_n hx hb dL_sent_2 rfl (lv_at hl 0 rfl) ?_
  refine lv_iload_n hx hb dL_sent_3 rfl (lv_at hl 1 rfl) ?_
  refine zcallT (wr := []) (vx_runV (As := [.int p0]) (rest := [.int 0, .ref ou]) ⟨hx, hb, hml, hown, hts⟩ (z_X7_sentT l G x wa wb su cu tr co lo pk p0 hl0 hv s.heap.size) (cwV 1 hts gL_sent_X7_sent rfl rfl rfl (by decide +kernel) ⟨Nat.le_of_ble_eq_true rfl, Nat.le_of_ble_eq_true rfl⟩) (zPreV (Wc := [(x, .inr (7, [.ref wa, .ref wb, .ref su, .ref cu, .ref tr, .ref co, .ref lo, .ref pk]))]) (q0 := 0) (ci := 7) (q := (RX7, TX7, 8)) hP hD hE hS hA [0] rfl (by decide) rfl rfl) rfl rfl hl.1 rfl (lv_room (Nat.le_of_ble_eq_true rfl)) dL_sent_4 ⟨Nat.le_of_ble_eq_true rfl, Nat.le_of_ble_eq_true rfl⟩) hP hD hS hA [0] [] rfl rfl (by decide) (by decide) (fun ce q9 H locs hP hD hS hce hcv hcl => ?_)
  have hP : va_P G.1 vwCl [(x, .inr (7, [.ref wa, .ref wb, .ref su, .ref cu, .ref tr, .ref co, .ref lo, .ref pk]))] H := hP
  have hD : va_D A [(x, .inr (7, [.ref wa, .ref wb, .ref su, .ref cu, .ref tr, .ref co, .ref lo, .ref pk]))] := hD
  refine vx_catch hown [] ⟨0, 9, 12, 13⟩ [] (by rw [ht]; rfl) (fun z hz => nomatch hz) (by decide) (by decide) hcl13 (va_Nw.use rfl hE.2.2.2.2.2.2.2.2.2.2.1) hce hcv hcl ?_
  refine lv_astore_n (lv' := [(3, .ref q9), (0, .ref x), (1, .int p0), (2, .ref ou)]) hx hb dL_sent_12 rfl hl (by decide) rfl (fun ls hl => ?_)
  refine lv_iconst (v := 1) hx hb dL_sent_13 (by decide) ?_
  exact zend_i hx hb hr hlocks (fun k => [].getD k 0) hP hD hS (Nat.le_of_ble_eq_true rfl) (Nat.le_of_ble_eq_true rfl) dL_sent_14

set_option maxHeartbeats 4000000 in
set_option maxRecDepth 100000 in
theorem z_L_witness0 (l : Launch) (G : zG) (x : Nat) (wa : Nat) (wb : Nat) (su : Nat) (cu : Nat) (tr : Nat) (co : Nat) (lo : Nat) (pk : Nat) (ro : Nat) (rb : Nat) (cc : Nat) (cs : Nat) (cm : Nat) (fc : Nat → Int32) (fs : Nat → Int32) (fm : Nat → Int32) (cf : Nat) (cp : Nat) (ff : Nat → Int32) (ou : Nat) (fo : Nat → Int64) : zH l G yL_witness wsL_witness { frames := 7, cells := 0, slots := 0, locals := 157 } [(x, .inr (7, [.ref wa, .ref wb, .ref su, .ref cu, .ref tr, .ref co, .ref lo, .ref pk])), (cu, .inr (1, [.ref wa, .ref wb, .ref cc, .ref cs, .ref cm, .int 0])), (wa, .inr (6, [.ref ro, .int 0, .int 0])), (wb, .inr (6, [.ref rb, .int 0, .int 0])), (cc, .inl (G.2.1, 4, .inl (fc))), (cs, .inl (G.2.1, 132, .inl (fs))), (cm, .inl (G.2.1, 132, .inl (fm))), (co, .inr (0, [.ref wa, .ref wb, .ref cu, .ref cf, .ref cp, .int 0, .int 0])), (cf, .inl (G.2.1, 4, .inl (ff))), (ou, .inl (G.2.2.2.1, 1, .inr (.inl (fo))))] [.ref x, .int 0, .ref ou] (some (.int 0)) (fun u => [(ou, .inl (G.2.2.2.1, 1, .inr (.inl (vp_updL fo 0 (-1))))), (x, .inr (7, [.ref wa, .ref wb, .ref su, .ref cu, .ref tr, .ref co, .ref lo, .ref pk])), (cu, .inr (1, [.ref wa, .ref wb, .ref cc, .ref cs, .ref cm, .int 1])), (cc, .inl (G.2.1, 4, .inl (upd (upd (upd (upd fc 0 1) 1 1) 2 1) 3 1))), (cs, .inl (G.2.1, 132, .inl (upd (upd (upd (upd fs 0 0) 33 0) 66 0) 99 0))), (cm, .inl (G.2.1, 132, .inl (upd (upd (upd (upd fm 0 0) 33 0) 66 0) 99 0))), (cf, .inl (G.2.1, 4, .inl (upd (upd (upd (upd ff 0 (-1)) 1 (-1)) 2 (-1)) 3 (-1)))), (co, .inr (0, [.ref wa, .ref wb, .ref cu, .ref cf, .ref cp, .int 0, .int 1])), (wa, .inr (6, [.ref ro, .int 0, .int 0])), (wb, .inr (6, [.ref rb, .int 0, .int 0]))]) 0 0 := by
  refine zH_of (cc := cL_witness) (maxL := 4) (rt := (some .int)) (hh := [(0, 9, 12, 13)]) (by decide) rfl (Nat.le_of_ble_eq_true rfl) ?_
  intro p e s m below meth c A ls hx hb hml hr hts hown hlocks ht hA hE hP hD hS hl
  have hl : lv_has ls 4 [(0, .ref x), (1, .int 0), (2, .ref ou)] := hl
  have hown : s.vm.findClass RL = some m.cls := hown
  have hP : va_P G.1 vwCl [(x, .inr (7, [.ref wa, .ref wb, .ref su, .ref cu, .ref tr, .ref co, .ref lo, .ref pk])), (cu, .inr (1, [.ref wa, .ref wb, .ref cc, .ref cs, .ref cm, .int 0])), (wa, .inr (6, [.ref ro, .int 0, .int 0])), (wb, .inr (6, [.ref rb, .int 0, .int 0])), (cc, .inl (G.2.1, 4, .inl (fc))), (cs, .inl (G.2.1, 132, .inl (fs))), (cm, .inl (G.2.1, 132, .inl (fm))), (co, .inr (0, [.ref wa, .ref wb, .ref cu, .ref cf, .ref cp, .int 0, .int 0])), (cf, .inl (G.2.1, 4, .inl (ff))), (ou, .inl (G.2.2.2.1, 1, .inr (.inl (fo))))] s.heap := hP
  refine lv_aload_n hx hb dL_witness_0 rfl (lv_at hl 2 rfl) ?_
  refine lv_iconst (v := 0) hx hb dL_witness_1 (by decide) ?_
  refine lv_aload_n hx hb dL_witness_2 rfl (lv_at hl 0 rfl) ?_
  refine lv_iload_n hx hb dL_witness_3 rfl (lv_at hl 1 rfl) ?_
  refine zcall (wr := [(ou, .inl (G.2.2.2.1, 1, .inr (.inl (fo))))]) (va_runV (As := [.int 0]) (rest := [.int 0, .ref ou]) ⟨hx, hb, hml, hown, hts⟩ (z_X7_witness00 l G x wa wb su cu tr co lo pk ro rb cc cs cm (fc) (fs) (fm) cf cp (ff) s.heap.size) (cwV 1 hts gL_witness_X7_witness rfl rfl rfl (by decide +kernel) ⟨Nat.le_of_ble_eq_true rfl, Nat.le_of_ble_eq_true rfl⟩) (zPreV (Wc := [(x, .inr (7, [.ref wa, .ref wb, .ref su, .ref cu, .ref tr, .ref co, .ref lo, .ref pk])), (cu, .inr (1, [.ref wa, .ref wb, .ref cc, .ref cs, .ref cm, .int 0])), (wa, .inr (6, [.ref ro, .int 0, .int 0])), (wb, .inr (6, [.ref rb, .int 0, .int 0])), (cc, .inl (G.2.1, 4, .inl (fc))), (cs, .inl (G.2.1, 132, .inl (fs))), (cm, .inl (G.2.1, 132, .inl (fm))), (co, .inr (0, [.ref wa, .ref wb, .ref cu, .ref cf, .ref cp, .int 0, .int 0])), (cf, .inl (G.2.1, 4, .inl (ff)))]) (q0 := 0) (ci := 7) (q := (RX7, TX7, 8)) hP hD hE hS hA [0, 1, 2, 3, 4, 5, 6, 7, 8] rfl (by decide) rfl rfl) rfl rfl hl.1 rfl (lv_room (Nat.le_of_ble_eq_true rfl)) dL_witness_4 ⟨Nat.le_of_ble_eq_true rfl, Nat.le_of_ble_eq_true rfl⟩) hP hD hS hA [0, 1, 2, 3, 4, 5, 6, 7, 8] [9] rfl rfl (by decide) (by decide) (fun u1 H locs hP hD hS => ?_)
  have hP : va_P G.1 vwCl [(ou, .inl (G.2.2.2.1, 1, .inr (.inl (fo)))), (x, .inr (7, [.ref wa, .ref wb, .ref su, .ref cu, .ref tr, .ref co, .ref lo, .ref pk])), (cu, .inr (1, [.ref wa, .ref wb, .ref cc, .ref cs, .ref cm, .int 1])), (cc, .inl (G.2.1, 4, .inl (upd (upd (upd (upd fc 0 1) 1 1) 2 1) 3 1))), (cs, .inl (G.2.1, 132, .inl (upd (upd (upd (upd fs 0 0) 33 0) 66 0) 99 0))), (cm, .inl (G.2.1, 132, .inl (upd (upd (upd (upd fm 0 0) 33 0) 66 0) 99 0))), (cf, .inl (G.2.1, 4, .inl (upd (upd (upd (upd ff 0 (-1)) 1 (-1)) 2 (-1)) 3 (-1)))), (co, .inr (0, [.ref wa, .ref wb, .ref cu, .ref cf, .ref cp, .int 0, .int 1])), (wa, .inr (6, [.ref ro, .int 0, .int 0])), (wb, .inr (6, [.ref rb, .int 0, .int 0]))] H := hP
  have hD : va_D A [(ou, .inl (G.2.2.2.1, 1, .inr (.inl (fo)))), (x, .inr (7, [.ref wa, .ref wb, .ref su, .ref cu, .ref tr, .ref co, .ref lo, .ref pk])), (cu, .inr (1, [.ref wa, .ref wb, .ref cc, .ref cs, .ref cm, .int 1])), (cc, .inl (G.2.1, 4, .inl (upd (upd (upd (upd fc 0 1) 1 1) 2 1) 3 1))), (cs, .inl (G.2.1, 132, .inl (upd (upd (upd (upd fs 0 0) 33 0) 66 0) 99 0))), (cm, .inl (G.2.1, 132, .inl (upd (upd (upd (upd fm 0 0) 33 0) 66 0) 99 0))), (cf, .inl (G.2.1, 4, .inl (upd (upd (upd (upd ff 0 (-1)) 1 (-1)) 2 (-1)) 3 (-1)))), (co, .inr (0, [.ref wa, .ref wb, .ref cu, .ref cf, .ref cp, .int 0, .int 1])), (wa, .inr (6, [.ref ro, .int 0, .int 0])), (wb, .inr (6, [.ref rb, .int 0, .int 0]))] := hD
  refine W.eq (g2 := F0 m 7 ls [.int (-1), .int 0, .ref ou]) rfl ?_
  refine lv_i2l (v := (-1)) hx hb dL_witness_7 (by decide) ?_
  refine va_last hx hb hE.1 hP hD hS 0 2 rfl rfl (zin (by decide +kernel)) dL_witness_8 (fun H locs hP hD hS => ?_)
  have hP : va_P G.1 vwCl [(ou, .inl (G.2.2.2.1, 1, .inr (.inl (vp_updL fo 0 (-1))))), (x, .inr (7, [.ref wa, .ref wb, .ref su, .ref cu, .ref tr, .ref co, .ref lo, .ref pk])), (cu, .inr (1, [.ref wa, .ref wb, .ref cc, .ref cs, .ref cm, .int 1])), (cc, .inl (G.2.1, 4, .inl (upd (upd (upd (upd fc 0 1) 1 1) 2 1) 3 1))), (cs, .inl (G.2.1, 132, .inl (upd (upd (upd (upd fs 0 0) 33 0) 66 0) 99 0))), (cm, .inl (G.2.1, 132, .inl (upd (upd (upd (upd fm 0 0) 33 0) 66 0) 99 0))), (cf, .inl (G.2.1, 4, .inl (upd (upd (upd (upd ff 0 (-1)) 1 (-1)) 2 (-1)) 3 (-1)))), (co, .inr (0, [.ref wa, .ref wb, .ref cu, .ref cf, .ref cp, .int 0, .int 1])), (wa, .inr (6, [.ref ro, .int 0, .int 0])), (wb, .inr (6, [.ref rb, .int 0, .int 0]))] H := hP
  have hD : va_D A [(ou, .inl (G.2.2.2.1, 1, .inr (.inl (vp_updL fo 0 (-1))))), (x, .inr (7, [.ref wa, .ref wb, .ref su, .ref cu, .ref tr, .ref co, .ref lo, .ref pk])), (cu, .inr (1, [.ref wa, .ref wb, .ref cc, .ref cs, .ref cm, .int 1])), (cc, .inl (G.2.1, 4, .inl (upd (upd (upd (upd fc 0 1) 1 1) 2 1) 3 1))), (cs, .inl (G.2.1, 132, .inl (upd (upd (upd (upd fs 0 0) 33 0) 66 0) 99 0))), (cm, .inl (G.2.1, 132, .inl (upd (upd (upd (upd fm 0 0) 33 0) 66 0) 99 0))), (cf, .inl (G.2.1, 4, .inl (upd (upd (upd (upd ff 0 (-1)) 1 (-1)) 2 (-1)) 3 (-1)))), (co, .inr (0, [.ref wa, .ref wb, .ref cu, .ref cf, .ref cp, .int 0, .int 1])), (wa, .inr (6, [.ref ro, .int 0, .int 0])), (wb, .inr (6, [.ref rb, .int 0, .int 0]))] := hD
  refine lv_goto (tgt := 15) hx hb dL_witness_9 (by decide) ?_
  refine lv_iconst (v := 0) hx hb dL_witness_15 (by decide) ?_
  exact zend_i hx hb hr hlocks (fun k => [].getD k 0) hP hD hS (Nat.le_of_ble_eq_true rfl) (Nat.le_of_ble_eq_true rfl) dL_witness_16

set_option maxHeartbeats 4000000 in
set_option maxRecDepth 100000 in
theorem z_L_witness1 (l : Launch) (G : zG) (x : Nat) (wa : Nat) (wb : Nat) (su : Nat) (cu : Nat) (tr : Nat) (co : Nat) (lo : Nat) (pk : Nat) (ro : Nat) (rb : Nat) (cc : Nat) (cs : Nat) (cm : Nat) (fc : Nat → Int32) (fs : Nat → Int32) (fm : Nat → Int32) (cf : Nat) (cp : Nat) (ff : Nat → Int32) (ou : Nat) (fo : Nat → Int64) : zH l G yL_witness wsL_witness { frames := 7, cells := 0, slots := 0, locals := 157 } [(x, .inr (7, [.ref wa, .ref wb, .ref su, .ref cu, .ref tr, .ref co, .ref lo, .ref pk])), (cu, .inr (1, [.ref wa, .ref wb, .ref cc, .ref cs, .ref cm, .int 0])), (wa, .inr (6, [.ref ro, .int 0, .int 0])), (wb, .inr (6, [.ref rb, .int 0, .int 0])), (cc, .inl (G.2.1, 4, .inl (fc))), (cs, .inl (G.2.1, 132, .inl (fs))), (cm, .inl (G.2.1, 132, .inl (fm))), (co, .inr (0, [.ref wa, .ref wb, .ref cu, .ref cf, .ref cp, .int 0, .int 0])), (cf, .inl (G.2.1, 4, .inl (ff))), (ou, .inl (G.2.2.2.1, 1, .inr (.inl (fo))))] [.ref x, .int 1, .ref ou] (some (.int 0)) (fun u => [(ou, .inl (G.2.2.2.1, 1, .inr (.inl (vp_updL fo 0 (-1))))), (x, .inr (7, [.ref wa, .ref wb, .ref su, .ref cu, .ref tr, .ref co, .ref lo, .ref pk])), (cu, .inr (1, [.ref wa, .ref wb, .ref cc, .ref cs, .ref cm, .int 1])), (cc, .inl (G.2.1, 4, .inl (upd (upd (upd (upd fc 0 1) 1 1) 2 1) 3 1))), (cs, .inl (G.2.1, 132, .inl (upd (upd (upd (upd fs 0 0) 33 0) 66 0) 99 0))), (cm, .inl (G.2.1, 132, .inl (upd (upd (upd (upd fm 0 0) 33 0) 66 0) 99 0))), (cf, .inl (G.2.1, 4, .inl (upd (upd (upd (upd ff 0 (-1)) 1 (-1)) 2 (-1)) 3 (-1)))), (co, .inr (0, [.ref wa, .ref wb, .ref cu, .ref cf, .ref cp, .int 0, .int 1])), (wa, .inr (6, [.ref ro, .int 0, .int 0])), (wb, .inr (6, [.ref rb, .int 0, .int 0]))]) 0 0 := by
  refine zH_of (cc := cL_witness) (maxL := 4) (rt := (some .int)) (hh := [(0, 9, 12, 13)]) (by decide) rfl (Nat.le_of_ble_eq_true rfl) ?_
  intro p e s m below meth c A ls hx hb hml hr hts hown hlocks ht hA hE hP hD hS hl
  have hl : lv_has ls 4 [(0, .ref x), (1, .int 1), (2, .ref ou)] := hl
  have hown : s.vm.findClass RL = some m.cls := hown
  have hP : va_P G.1 vwCl [(x, .inr (7, [.ref wa, .ref wb, .ref su, .ref cu, .ref tr, .ref co, .ref lo, .ref pk])), (cu, .inr (1, [.ref wa, .ref wb, .ref cc, .ref cs, .ref cm, .int 0])), (wa, .inr (6, [.ref ro, .int 0, .int 0])), (wb, .inr (6, [.ref rb, .int 0, .int 0])), (cc, .inl (G.2.1, 4, .inl (fc))), (cs, .inl (G.2.1, 132, .inl (fs))), (cm, .inl (G.2.1, 132, .inl (fm))), (co, .inr (0, [.ref wa, .ref wb, .ref cu, .ref cf, .ref cp, .int 0, .int 0])), (cf, .inl (G.2.1, 4, .inl (ff))), (ou, .inl (G.2.2.2.1, 1, .inr (.inl (fo))))] s.heap := hP
  refine lv_aload_n hx hb dL_witness_0 rfl (lv_at hl 2 rfl) ?_
  refine lv_iconst (v := 0) hx hb dL_witness_1 (by decide) ?_
  refine lv_aload_n hx hb dL_witness_2 rfl (lv_at hl 0 rfl) ?_
  refine lv_iload_n hx hb dL_witness_3 rfl (lv_at hl 1 rfl) ?_
  refine zcall (wr := [(ou, .inl (G.2.2.2.1, 1, .inr (.inl (fo))))]) (va_runV (As := [.int 1]) (rest := [.int 0, .ref ou]) ⟨hx, hb, hml, hown, hts⟩ (z_X7_witness01 l G x wa wb su cu tr co lo pk ro rb cc cs cm (fc) (fs) (fm) cf cp (ff) s.heap.size) (cwV 1 hts gL_witness_X7_witness rfl rfl rfl (by decide +kernel) ⟨Nat.le_of_ble_eq_true rfl, Nat.le_of_ble_eq_true rfl⟩) (zPreV (Wc := [(x, .inr (7, [.ref wa, .ref wb, .ref su, .ref cu, .ref tr, .ref co, .ref lo, .ref pk])), (cu, .inr (1, [.ref wa, .ref wb, .ref cc, .ref cs, .ref cm, .int 0])), (wa, .inr (6, [.ref ro, .int 0, .int 0])), (wb, .inr (6, [.ref rb, .int 0, .int 0])), (cc, .inl (G.2.1, 4, .inl (fc))), (cs, .inl (G.2.1, 132, .inl (fs))), (cm, .inl (G.2.1, 132, .inl (fm))), (co, .inr (0, [.ref wa, .ref wb, .ref cu, .ref cf, .ref cp, .int 0, .int 0])), (cf, .inl (G.2.1, 4, .inl (ff)))]) (q0 := 0) (ci := 7) (q := (RX7, TX7, 8)) hP hD hE hS hA [0, 1, 2, 3, 4, 5, 6, 7, 8] rfl (by decide) rfl rfl) rfl rfl hl.1 rfl (lv_room (Nat.le_of_ble_eq_true rfl)) dL_witness_4 ⟨Nat.le_of_ble_eq_true rfl, Nat.le_of_ble_eq_true rfl⟩) hP hD hS hA [0, 1, 2, 3, 4, 5, 6, 7, 8] [9] rfl rfl (by decide) (by decide) (fun u1 H locs hP hD hS => ?_)
  have hP : va_P G.1 vwCl [(ou, .inl (G.2.2.2.1, 1, .inr (.inl (fo)))), (x, .inr (7, [.ref wa, .ref wb, .ref su, .ref cu, .ref tr, .ref co, .ref lo, .ref pk])), (cu, .inr (1, [.ref wa, .ref wb, .ref cc, .ref cs, .ref cm, .int 1])), (cc, .inl (G.2.1, 4, .inl (upd (upd (upd (upd fc 0 1) 1 1) 2 1) 3 1))), (cs, .inl (G.2.1, 132, .inl (upd (upd (upd (upd fs 0 0) 33 0) 66 0) 99 0))), (cm, .inl (G.2.1, 132, .inl (upd (upd (upd (upd fm 0 0) 33 0) 66 0) 99 0))), (cf, .inl (G.2.1, 4, .inl (upd (upd (upd (upd ff 0 (-1)) 1 (-1)) 2 (-1)) 3 (-1)))), (co, .inr (0, [.ref wa, .ref wb, .ref cu, .ref cf, .ref cp, .int 0, .int 1])), (wa, .inr (6, [.ref ro, .int 0, .int 0])), (wb, .inr (6, [.ref rb, .int 0, .int 0]))] H := hP
  have hD : va_D A [(ou, .inl (G.2.2.2.1, 1, .inr (.inl (fo)))), (x, .inr (7, [.ref wa, .ref wb, .ref su, .ref cu, .ref tr, .ref co, .ref lo, .ref pk])), (cu, .inr (1, [.ref wa, .ref wb, .ref cc, .ref cs, .ref cm, .int 1])), (cc, .inl (G.2.1, 4, .inl (upd (upd (upd (upd fc 0 1) 1 1) 2 1) 3 1))), (cs, .inl (G.2.1, 132, .inl (upd (upd (upd (upd fs 0 0) 33 0) 66 0) 99 0))), (cm, .inl (G.2.1, 132, .inl (upd (upd (upd (upd fm 0 0) 33 0) 66 0) 99 0))), (cf, .inl (G.2.1, 4, .inl (upd (upd (upd (upd ff 0 (-1)) 1 (-1)) 2 (-1)) 3 (-1)))), (co, .inr (0, [.ref wa, .ref wb, .ref cu, .ref cf, .ref cp, .int 0, .int 1])), (wa, .inr (6, [.ref ro, .int 0, .int 0])), (wb, .inr (6, [.ref rb, .int 0, .int 0]))] := hD
  refine W.eq (g2 := F0 m 7 ls [.int (-1), .int 0, .ref ou]) rfl ?_
  refine lv_i2l (v := (-1)) hx hb dL_witness_7 (by decide) ?_
  refine va_last hx hb hE.1 hP hD hS 0 2 rfl rfl (zin (by decide +kernel)) dL_witness_8 (fun H locs hP hD hS => ?_)
  have hP : va_P G.1 vwCl [(ou, .inl (G.2.2.2.1, 1, .inr (.inl (vp_updL fo 0 (-1))))), (x, .inr (7, [.ref wa, .ref wb, .ref su, .ref cu, .ref tr, .ref co, .ref lo, .ref pk])), (cu, .inr (1, [.ref wa, .ref wb, .ref cc, .ref cs, .ref cm, .int 1])), (cc, .inl (G.2.1, 4, .inl (upd (upd (upd (upd fc 0 1) 1 1) 2 1) 3 1))), (cs, .inl (G.2.1, 132, .inl (upd (upd (upd (upd fs 0 0) 33 0) 66 0) 99 0))), (cm, .inl (G.2.1, 132, .inl (upd (upd (upd (upd fm 0 0) 33 0) 66 0) 99 0))), (cf, .inl (G.2.1, 4, .inl (upd (upd (upd (upd ff 0 (-1)) 1 (-1)) 2 (-1)) 3 (-1)))), (co, .inr (0, [.ref wa, .ref wb, .ref cu, .ref cf, .ref cp, .int 0, .int 1])), (wa, .inr (6, [.ref ro, .int 0, .int 0])), (wb, .inr (6, [.ref rb, .int 0, .int 0]))] H := hP
  have hD : va_D A [(ou, .inl (G.2.2.2.1, 1, .inr (.inl (vp_updL fo 0 (-1))))), (x, .inr (7, [.ref wa, .ref wb, .ref su, .ref cu, .ref tr, .ref co, .ref lo, .ref pk])), (cu, .inr (1, [.ref wa, .ref wb, .ref cc, .ref cs, .ref cm, .int 1])), (cc, .inl (G.2.1, 4, .inl (upd (upd (upd (upd fc 0 1) 1 1) 2 1) 3 1))), (cs, .inl (G.2.1, 132, .inl (upd (upd (upd (upd fs 0 0) 33 0) 66 0) 99 0))), (cm, .inl (G.2.1, 132, .inl (upd (upd (upd (upd fm 0 0) 33 0) 66 0) 99 0))), (cf, .inl (G.2.1, 4, .inl (upd (upd (upd (upd ff 0 (-1)) 1 (-1)) 2 (-1)) 3 (-1)))), (co, .inr (0, [.ref wa, .ref wb, .ref cu, .ref cf, .ref cp, .int 0, .int 1])), (wa, .inr (6, [.ref ro, .int 0, .int 0])), (wb, .inr (6, [.ref rb, .int 0, .int 0]))] := hD
  refine lv_goto (tgt := 15) hx hb dL_witness_9 (by decide) ?_
  refine lv_iconst (v := 0) hx hb dL_witness_15 (by decide) ?_
  exact zend_i hx hb hr hlocks (fun k => [].getD k 0) hP hD hS (Nat.le_of_ble_eq_true rfl) (Nat.le_of_ble_eq_true rfl) dL_witness_16

set_option maxHeartbeats 4000000 in
set_option maxRecDepth 100000 in
theorem z_L_witness2 (l : Launch) (G : zG) (x : Nat) (wa : Nat) (wb : Nat) (su : Nat) (cu : Nat) (tr : Nat) (co : Nat) (lo : Nat) (pk : Nat) (ro : Nat) (rb : Nat) (cc : Nat) (cs : Nat) (cm : Nat) (fc : Nat → Int32) (fs : Nat → Int32) (fm : Nat → Int32) (cf : Nat) (cp : Nat) (ff : Nat → Int32) (ou : Nat) (fo : Nat → Int64) : zH l G yL_witness wsL_witness { frames := 7, cells := 0, slots := 0, locals := 157 } [(x, .inr (7, [.ref wa, .ref wb, .ref su, .ref cu, .ref tr, .ref co, .ref lo, .ref pk])), (cu, .inr (1, [.ref wa, .ref wb, .ref cc, .ref cs, .ref cm, .int 0])), (wa, .inr (6, [.ref ro, .int 0, .int 0])), (wb, .inr (6, [.ref rb, .int 0, .int 0])), (cc, .inl (G.2.1, 4, .inl (fc))), (cs, .inl (G.2.1, 132, .inl (fs))), (cm, .inl (G.2.1, 132, .inl (fm))), (co, .inr (0, [.ref wa, .ref wb, .ref cu, .ref cf, .ref cp, .int 0, .int 0])), (cf, .inl (G.2.1, 4, .inl (ff))), (ou, .inl (G.2.2.2.1, 1, .inr (.inl (fo))))] [.ref x, .int 2, .ref ou] (some (.int 0)) (fun u => [(ou, .inl (G.2.2.2.1, 1, .inr (.inl (vp_updL fo 0 (-1))))), (x, .inr (7, [.ref wa, .ref wb, .ref su, .ref cu, .ref tr, .ref co, .ref lo, .ref pk])), (cu, .inr (1, [.ref wa, .ref wb, .ref cc, .ref cs, .ref cm, .int 1])), (cc, .inl (G.2.1, 4, .inl (upd (upd (upd (upd fc 0 1) 1 1) 2 1) 3 1))), (cs, .inl (G.2.1, 132, .inl (upd (upd (upd (upd fs 0 0) 33 0) 66 0) 99 0))), (cm, .inl (G.2.1, 132, .inl (upd (upd (upd (upd fm 0 0) 33 0) 66 0) 99 0))), (cf, .inl (G.2.1, 4, .inl (upd (upd (upd (upd ff 0 (-1)) 1 (-1)) 2 (-1)) 3 (-1)))), (co, .inr (0, [.ref wa, .ref wb, .ref cu, .ref cf, .ref cp, .int 0, .int 1])), (wa, .inr (6, [.ref ro, .int 0, .int 0])), (wb, .inr (6, [.ref rb, .int 0, .int 0]))]) 0 0 := by
  refine zH_of (cc := cL_witness) (maxL := 4) (rt := (some .int)) (hh := [(0, 9, 12, 13)]) (by decide) rfl (Nat.le_of_ble_eq_true rfl) ?_
  intro p e s m below meth c A ls hx hb hml hr hts hown hlocks ht hA hE hP hD hS hl
  have hl : lv_has ls 4 [(0, .ref x), (1, .int 2), (2, .ref ou)] := hl
  have hown : s.vm.findClass RL = some m.cls := hown
  have hP : va_P G.1 vwCl [(x, .inr (7, [.ref wa, .ref wb, .ref su, .ref cu, .ref tr, .ref co, .ref lo, .ref pk])), (cu, .inr (1, [.ref wa, .ref wb, .ref cc, .ref cs, .ref cm, .int 0])), (wa, .inr (6, [.ref ro, .int 0, .int 0])), (wb, .inr (6, [.ref rb, .int 0, .int 0])), (cc, .inl (G.2.1, 4, .inl (fc))), (cs, .inl (G.2.1, 132, .inl (fs))), (cm, .inl (G.2.1, 132, .inl (fm))), (co, .inr (0, [.ref wa, .ref wb, .ref cu, .ref cf, .ref cp, .int 0, .int 0])), (cf, .inl (G.2.1, 4, .inl (ff))), (ou, .inl (G.2.2.2.1, 1, .inr (.inl (fo))))] s.heap := hP
  refine lv_aload_n hx hb dL_witness_0 rfl (lv_at hl 2 rfl) ?_
  refine lv_iconst (v := 0) hx hb dL_witness_1 (by decide) ?_
  refine lv_aload_n hx hb dL_witness_2 rfl (lv_at hl 0 rfl) ?_
  refine lv_iload_n hx hb dL_witness_3 rfl (lv_at hl 1 rfl) ?_
  refine zcall (wr := [(ou, .inl (G.2.2.2.1, 1, .inr (.inl (fo))))]) (va_runV (As := [.int 2]) (rest := [.int 0, .ref ou]) ⟨hx, hb, hml, hown, hts⟩ (z_X7_witness02 l G x wa wb su cu tr co lo pk ro rb cc cs cm (fc) (fs) (fm) cf cp (ff) s.heap.size) (cwV 1 hts gL_witness_X7_witness rfl rfl rfl (by decide +kernel) ⟨Nat.le_of_ble_eq_true rfl, Nat.le_of_ble_eq_true rfl⟩) (zPreV (Wc := [(x, .inr (7, [.ref wa, .ref wb, .ref su, .ref cu, .ref tr, .ref co, .ref lo, .ref pk])), (cu, .inr (1, [.ref wa, .ref wb, .ref cc, .ref cs, .ref cm, .int 0])), (wa, .inr (6, [.ref ro, .int 0, .int 0])), (wb, .inr (6, [.ref rb, .int 0, .int 0])), (cc, .inl (G.2.1, 4, .inl (fc))), (cs, .inl (G.2.1, 132, .inl (fs))), (cm, .inl (G.2.1, 132, .inl (fm))), (co, .inr (0, [.ref wa, .ref wb, .ref cu, .ref cf, .ref cp, .int 0, .int 0])), (cf, .inl (G.2.1, 4, .inl (ff)))]) (q0 := 0) (ci := 7) (q := (RX7, TX7, 8)) hP hD hE hS hA [0, 1, 2, 3, 4, 5, 6, 7, 8] rfl (by decide) rfl rfl) rfl rfl hl.1 rfl (lv_room (Nat.le_of_ble_eq_true rfl)) dL_witness_4 ⟨Nat.le_of_ble_eq_true rfl, Nat.le_of_ble_eq_true rfl⟩) hP hD hS hA [0, 1, 2, 3, 4, 5, 6, 7, 8] [9] rfl rfl (by decide) (by decide) (fun u1 H locs hP hD hS => ?_)
  have hP : va_P G.1 vwCl [(ou, .inl (G.2.2.2.1, 1, .inr (.inl (fo)))), (x, .inr (7, [.ref wa, .ref wb, .ref su, .ref cu, .ref tr, .ref co, .ref lo, .ref pk])), (cu, .inr (1, [.ref wa, .ref wb, .ref cc, .ref cs, .ref cm, .int 1])), (cc, .inl (G.2.1, 4, .inl (upd (upd (upd (upd fc 0 1) 1 1) 2 1) 3 1))), (cs, .inl (G.2.1, 132, .inl (upd (upd (upd (upd fs 0 0) 33 0) 66 0) 99 0))), (cm, .inl (G.2.1, 132, .inl (upd (upd (upd (upd fm 0 0) 33 0) 66 0) 99 0))), (cf, .inl (G.2.1, 4, .inl (upd (upd (upd (upd ff 0 (-1)) 1 (-1)) 2 (-1)) 3 (-1)))), (co, .inr (0, [.ref wa, .ref wb, .ref cu, .ref cf, .ref cp, .int 0, .int 1])), (wa, .inr (6, [.ref ro, .int 0, .int 0])), (wb, .inr (6, [.ref rb, .int 0, .int 0]))] H := hP
  have hD : va_D A [(ou, .inl (G.2.2.2.1, 1, .inr (.inl (fo)))), (x, .inr (7, [.ref wa, .ref wb, .ref su, .ref cu, .ref tr, .ref co, .ref lo, .ref pk])), (cu, .inr (1, [.ref wa, .ref wb, .ref cc, .ref cs, .ref cm, .int 1])), (cc, .inl (G.2.1, 4, .inl (upd (upd (upd (upd fc 0 1) 1 1) 2 1) 3 1))), (cs, .inl (G.2.1, 132, .inl (upd (upd (upd (upd fs 0 0) 33 0) 66 0) 99 0))), (cm, .inl (G.2.1, 132, .inl (upd (upd (upd (upd fm 0 0) 33 0) 66 0) 99 0))), (cf, .inl (G.2.1, 4, .inl (upd (upd (upd (upd ff 0 (-1)) 1 (-1)) 2 (-1)) 3 (-1)))), (co, .inr (0, [.ref wa, .ref wb, .ref cu, .ref cf, .ref cp, .int 0, .int 1])), (wa, .inr (6, [.ref ro, .int 0, .int 0])), (wb, .inr (6, [.ref rb, .int 0, .int 0]))] := hD
  refine W.eq (g2 := F0 m 7 ls [.int (-1), .int 0, .ref ou]) rfl ?_
  refine lv_i2l (v := (-1)) hx hb dL_witness_7 (by decide) ?_
  refine va_last hx hb hE.1 hP hD hS 0 2 rfl rfl (zin (by decide +kernel)) dL_witness_8 (fun H locs hP hD hS => ?_)
  have hP : va_P G.1 vwCl [(ou, .inl (G.2.2.2.1, 1, .inr (.inl (vp_updL fo 0 (-1))))), (x, .inr (7, [.ref wa, .ref wb, .ref su, .ref cu, .ref tr, .ref co, .ref lo, .ref pk])), (cu, .inr (1, [.ref wa, .ref wb, .ref cc, .ref cs, .ref cm, .int 1])), (cc, .inl (G.2.1, 4, .inl (upd (upd (upd (upd fc 0 1) 1 1) 2 1) 3 1))), (cs, .inl (G.2.1, 132, .inl (upd (upd (upd (upd fs 0 0) 33 0) 66 0) 99 0))), (cm, .inl (G.2.1, 132, .inl (upd (upd (upd (upd fm 0 0) 33 0) 66 0) 99 0))), (cf, .inl (G.2.1, 4, .inl (upd (upd (upd (upd ff 0 (-1)) 1 (-1)) 2 (-1)) 3 (-1)))), (co, .inr (0, [.ref wa, .ref wb, .ref cu, .ref cf, .ref cp, .int 0, .int 1])), (wa, .inr (6, [.ref ro, .int 0, .int 0])), (wb, .inr (6, [.ref rb, .int 0, .int 0]))] H := hP
  have hD : va_D A [(ou, .inl (G.2.2.2.1, 1, .inr (.inl (vp_updL fo 0 (-1))))), (x, .inr (7, [.ref wa, .ref wb, .ref su, .ref cu, .ref tr, .ref co, .ref lo, .ref pk])), (cu, .inr (1, [.ref wa, .ref wb, .ref cc, .ref cs, .ref cm, .int 1])), (cc, .inl (G.2.1, 4, .inl (upd (upd (upd (upd fc 0 1) 1 1) 2 1) 3 1))), (cs, .inl (G.2.1, 132, .inl (upd (upd (upd (upd fs 0 0) 33 0) 66 0) 99 0))), (cm, .inl (G.2.1, 132, .inl (upd (upd (upd (upd fm 0 0) 33 0) 66 0) 99 0))), (cf, .inl (G.2.1, 4, .inl (upd (upd (upd (upd ff 0 (-1)) 1 (-1)) 2 (-1)) 3 (-1)))), (co, .inr (0, [.ref wa, .ref wb, .ref cu, .ref cf, .ref cp, .int 0, .int 1])), (wa, .inr (6, [.ref ro, .int 0, .int 0])), (wb, .inr (6, [.ref rb, .int 0, .int 0]))] := hD
  refine lv_goto (tgt := 15) hx hb dL_witness_9 (by decide) ?_
  refine lv_iconst (v := 0) hx hb dL_witness_15 (by decide) ?_
  exact zend_i hx hb hr hlocks (fun k => [].getD k 0) hP hD hS (Nat.le_of_ble_eq_true rfl) (Nat.le_of_ble_eq_true rfl) dL_witness_16

set_option maxHeartbeats 4000000 in
set_option maxRecDepth 100000 in
theorem z_L_witness3 (l : Launch) (G : zG) (x : Nat) (wa : Nat) (wb : Nat) (su : Nat) (cu : Nat) (tr : Nat) (co : Nat) (lo : Nat) (pk : Nat) (ro : Nat) (rb : Nat) (cc : Nat) (cs : Nat) (cm : Nat) (fc : Nat → Int32) (fs : Nat → Int32) (fm : Nat → Int32) (cf : Nat) (cp : Nat) (ff : Nat → Int32) (ou : Nat) (fo : Nat → Int64) : zH l G yL_witness wsL_witness { frames := 7, cells := 0, slots := 0, locals := 157 } [(x, .inr (7, [.ref wa, .ref wb, .ref su, .ref cu, .ref tr, .ref co, .ref lo, .ref pk])), (cu, .inr (1, [.ref wa, .ref wb, .ref cc, .ref cs, .ref cm, .int 0])), (wa, .inr (6, [.ref ro, .int 0, .int 0])), (wb, .inr (6, [.ref rb, .int 0, .int 0])), (cc, .inl (G.2.1, 4, .inl (fc))), (cs, .inl (G.2.1, 132, .inl (fs))), (cm, .inl (G.2.1, 132, .inl (fm))), (co, .inr (0, [.ref wa, .ref wb, .ref cu, .ref cf, .ref cp, .int 0, .int 0])), (cf, .inl (G.2.1, 4, .inl (ff))), (ou, .inl (G.2.2.2.1, 1, .inr (.inl (fo))))] [.ref x, .int 3, .ref ou] (some (.int 0)) (fun u => [(ou, .inl (G.2.2.2.1, 1, .inr (.inl (vp_updL fo 0 (-1))))), (x, .inr (7, [.ref wa, .ref wb, .ref su, .ref cu, .ref tr, .ref co, .ref lo, .ref pk])), (cu, .inr (1, [.ref wa, .ref wb, .ref cc, .ref cs, .ref cm, .int 1])), (cc, .inl (G.2.1, 4, .inl (upd (upd (upd (upd fc 0 1) 1 1) 2 1) 3 1))), (cs, .inl (G.2.1, 132, .inl (upd (upd (upd (upd fs 0 0) 33 0) 66 0) 99 0))), (cm, .inl (G.2.1, 132, .inl (upd (upd (upd (upd fm 0 0) 33 0) 66 0) 99 0))), (cf, .inl (G.2.1, 4, .inl (upd (upd (upd (upd ff 0 (-1)) 1 (-1)) 2 (-1)) 3 (-1)))), (co, .inr (0, [.ref wa, .ref wb, .ref cu, .ref cf, .ref cp, .int 0, .int 1])), (wa, .inr (6, [.ref ro, .int 0, .int 0])), (wb, .inr (6, [.ref rb, .int 0, .int 0]))]) 0 0 := by
  refine zH_of (cc := cL_witness) (maxL := 4) (rt := (some .int)) (hh := [(0, 9, 12, 13)]) (by decide) rfl (Nat.le_of_ble_eq_true rfl) ?_
  intro p e s m below meth c A ls hx hb hml hr hts hown hlocks ht hA hE hP hD hS hl
  have hl : lv_has ls 4 [(0, .ref x), (1, .int 3), (2, .ref ou)] := hl
  have hown : s.vm.findClass RL = some m.cls := hown
  have hP : va_P G.1 vwCl [(x, .inr (7, [.ref wa, .ref wb, .ref su, .ref cu, .ref tr, .ref co, .ref lo, .ref pk])), (cu, .inr (1, [.ref wa, .ref wb, .ref cc, .ref cs, .ref cm, .int 0])), (wa, .inr (6, [.ref ro, .int 0, .int 0])), (wb, .inr (6, [.ref rb, .int 0, .int 0])), (cc, .inl (G.2.1, 4, .inl (fc))), (cs, .inl (G.2.1, 132, .inl (fs))), (cm, .inl (G.2.1, 132, .inl (fm))), (co, .inr (0, [.ref wa, .ref wb, .ref cu, .ref cf, .ref cp, .int 0, .int 0])), (cf, .inl (G.2.1, 4, .inl (ff))), (ou, .inl (G.2.2.2.1, 1, .inr (.inl (fo))))] s.heap := hP
  refine lv_aload_n hx hb dL_witness_0 rfl (lv_at hl 2 rfl) ?_
  refine lv_iconst (v := 0) hx hb dL_witness_1 (by decide) ?_
  refine lv_aload_n hx hb dL_witness_2 rfl (lv_at hl 0 rfl) ?_
  refine lv_iload_n hx hb dL_witness_3 rfl (lv_at hl 1 rfl) ?_
  refine zcall (wr := [(ou, .inl (G.2.2.2.1, 1, .inr (.inl (fo))))]) (va_runV (As := [.int 3]) (rest := [.int 0, .ref ou]) ⟨hx, hb, hml, hown, hts⟩ (z_X7_witness03 l G x wa wb su cu tr co lo pk ro rb cc cs cm (fc) (fs) (fm) cf cp (ff) s.heap.size) (cwV 1 hts gL_witness_X7_witness rfl rfl rfl (by decide +kernel) ⟨Nat.le_of_ble_eq_true rfl, Nat.le_of_ble_eq_true rfl⟩) (zPreV (Wc := [(x, .inr (7, [.ref wa, .ref wb, .ref su, .ref cu, .ref tr, .ref co, .ref lo, .ref pk])), (cu, .inr (1, [.ref wa, .ref wb, .ref cc, .ref cs, .ref cm, .int 0])), (wa, .inr (6, [.ref ro, .int 0, .int 0])), (wb, .inr (6, [.ref rb, .int 0, .int 0])), (cc, .inl (G.2.1, 4, .inl (fc))), (cs, .inl (G.2.1, 132, .inl (fs))), (cm, .inl (G.2.1, 132, .inl (fm))), (co, .inr (0, [.ref wa, .ref wb, .ref cu, .ref cf, .ref cp, .int 0, .int 0])), (cf, .inl (G.2.1, 4, .inl (ff)))]) (q0 := 0) (ci := 7) (q := (RX7, TX7, 8)) hP hD hE hS hA [0, 1, 2, 3, 4, 5, 6, 7, 8] rfl (by decide) rfl rfl) rfl rfl hl.1 rfl (lv_room (Nat.le_of_ble_eq_true rfl)) dL_witness_4 ⟨Nat.le_of_ble_eq_true rfl, Nat.le_of_ble_eq_true rfl⟩) hP hD hS hA [0, 1, 2, 3, 4, 5, 6, 7, 8] [9] rfl rfl (by decide) (by decide) (fun u1 H locs hP hD hS => ?_)
  have hP : va_P G.1 vwCl [(ou, .inl (G.2.2.2.1, 1, .inr (.inl (fo)))), (x, .inr (7, [.ref wa, .ref wb, .ref su, .ref cu, .ref tr, .ref co, .ref lo, .ref pk])), (cu, .inr (1, [.ref wa, .ref wb, .ref cc, .ref cs, .ref cm, .int 1])), (cc, .inl (G.2.1, 4, .inl (upd (upd (upd (upd fc 0 1) 1 1) 2 1) 3 1))), (cs, .inl (G.2.1, 132, .inl (upd (upd (upd (upd fs 0 0) 33 0) 66 0) 99 0))), (cm, .inl (G.2.1, 132, .inl (upd (upd (upd (upd fm 0 0) 33 0) 66 0) 99 0))), (cf, .inl (G.2.1, 4, .inl (upd (upd (upd (upd ff 0 (-1)) 1 (-1)) 2 (-1)) 3 (-1)))), (co, .inr (0, [.ref wa, .ref wb, .ref cu, .ref cf, .ref cp, .int 0, .int 1])), (wa, .inr (6, [.ref ro, .int 0, .int 0])), (wb, .inr (6, [.ref rb, .int 0, .int 0]))] H := hP
  have hD : va_D A [(ou, .inl (G.2.2.2.1, 1, .inr (.inl (fo)))), (x, .inr (7, [.ref wa, .ref wb, .ref su, .ref cu, .ref tr, .ref co, .ref lo, .ref pk])), (cu, .inr (1, [.ref wa, .ref wb, .ref cc, .ref cs, .ref cm, .int 1])), (cc, .inl (G.2.1, 4, .inl (upd (upd (upd (upd fc 0 1) 1 1) 2 1) 3 1))), (cs, .inl (G.2.1, 132, .inl (upd (upd (upd (upd fs 0 0) 33 0) 66 0) 99 0))), (cm, .inl (G.2.1, 132, .inl (upd (upd (upd (upd fm 0 0) 33 0) 66 0) 99 0))), (cf, .inl (G.2.1, 4, .inl (upd (upd (upd (upd ff 0 (-1)) 1 (-1)) 2 (-1)) 3 (-1)))), (co, .inr (0, [.ref wa, .ref wb, .ref cu, .ref cf, .ref cp, .int 0, .int 1])), (wa, .inr (6, [.ref ro, .int 0, .int 0])), (wb, .inr (6, [.ref rb, .int 0, .int 0]))] := hD
  refine W.eq (g2 := F0 m 7 ls [.int (-1), .int 0, .ref ou]) rfl ?_
  refine lv_i2l (v := (-1)) hx hb dL_witness_7 (by decide) ?_
  refine va_last hx hb hE.1 hP hD hS 0 2 rfl rfl (zin (by decide +kernel)) dL_witness_8 (fun H locs hP hD hS => ?_)
  have hP : va_P G.1 vwCl [(ou, .inl (G.2.2.2.1, 1, .inr (.inl (vp_updL fo 0 (-1))))), (x, .inr (7, [.ref wa, .ref wb, .ref su, .ref cu, .ref tr, .ref co, .ref lo, .ref pk])), (cu, .inr (1, [.ref wa, .ref wb, .ref cc, .ref cs, .ref cm, .int 1])), (cc, .inl (G.2.1, 4, .inl (upd (upd (upd (upd fc 0 1) 1 1) 2 1) 3 1))), (cs, .inl (G.2.1, 132, .inl (upd (upd (upd (upd fs 0 0) 33 0) 66 0) 99 0))), (cm, .inl (G.2.1, 132, .inl (upd (upd (upd (upd fm 0 0) 33 0) 66 0) 99 0))), (cf, .inl (G.2.1, 4, .inl (upd (upd (upd (upd ff 0 (-1)) 1 (-1)) 2 (-1)) 3 (-1)))), (co, .inr (0, [.ref wa, .ref wb, .ref cu, .ref cf, .ref cp, .int 0, .int 1])), (wa, .inr (6, [.ref ro, .int 0, .int 0])), (wb, .inr (6, [.ref rb, .int 0, .int 0]))] H := hP
  have hD : va_D A [(ou, .inl (G.2.2.2.1, 1, .inr (.inl (vp_updL fo 0 (-1))))), (x, .inr (7, [.ref wa, .ref wb, .ref su, .ref cu, .ref tr, .ref co, .ref lo, .ref pk])), (cu, .inr (1, [.ref wa, .ref wb, .ref cc, .ref cs, .ref cm, .int 1])), (cc, .inl (G.2.1, 4, .inl (upd (upd (upd (upd fc 0 1) 1 1) 2 1) 3 1))), (cs, .inl (G.2.1, 132, .inl (upd (upd (upd (upd fs 0 0) 33 0) 66 0) 99 0))), (cm, .inl (G.2.1, 132, .inl (upd (upd (upd (upd fm 0 0) 33 0) 66 0) 99 0))), (cf, .inl (G.2.1, 4, .inl (upd (upd (upd (upd ff 0 (-1)) 1 (-1)) 2 (-1)) 3 (-1)))), (co, .inr (0, [.ref wa, .ref wb, .ref cu, .ref cf, .ref cp, .int 0, .int 1])), (wa, .inr (6, [.ref ro, .int 0, .int 0])), (wb, .inr (6, [.ref rb, .int 0, .int 0]))] := hD
  refine lv_goto (tgt := 15) hx hb dL_witness_9 (by decide) ?_
  refine lv_iconst (v := 0) hx hb dL_witness_15 (by decide) ?_
  exact zend_i hx hb hr hlocks (fun k => [].getD k 0) hP hD hS (Nat.le_of_ble_eq_true rfl) (Nat.le_of_ble_eq_true rfl) dL_witness_16

set_option maxHeartbeats 4000000 in
set_option maxRecDepth 100000 in
theorem z_L_witnessT (l : Launch) (G : zG) (x : Nat) (wa : Nat) (wb : Nat) (su : Nat) (cu : Nat) (tr : Nat) (co : Nat) (lo : Nat) (pk : Nat) (ou : Nat) (p0 : Int32) (hl0 : l.stackTraces = false) (hv : p0 < 0 ∨ (¬ p0 < 0 ∧ ¬ p0 < 4)) : zH l G yL_witness wsL_witness { frames := 7, cells := 1, slots := 6, locals := 103 } [(x, .inr (7, [.ref wa, .ref wb, .ref su, .ref cu, .ref tr, .ref co, .ref lo, .ref pk]))] [.ref x, .int p0, .ref ou] (some (.int 1)) (fun u => [(x, .inr (7, [.ref wa, .ref wb, .ref su, .ref cu, .ref tr, .ref co, .ref lo, .ref pk]))]) 1 6 := by
  refine zH_of (cc := cL_witness) (maxL := 4) (rt := (some .int)) (hh := [(0, 9, 12, 13)]) (by decide) rfl (Nat.le_of_ble_eq_true rfl) ?_
  intro p e s m below meth c A ls hx hb hml hr hts hown hlocks ht hA hE hP hD hS hl
  have hl : lv_has ls 4 [(0, .ref x), (1, .int p0), (2, .ref ou)] := hl
  have hown : s.vm.findClass RL = some m.cls := hown
  have hP : va_P G.1 vwCl [(x, .inr (7, [.ref wa, .ref wb, .ref su, .ref cu, .ref tr, .ref co, .ref lo, .ref pk]))] s.heap := hP
  have hcl13 := hts (.classLink RL 13 "java/lang/IllegalArgumentException") (by decide +kernel)
  refine lv_aload_n hx hb dL_witness_0 rfl (lv_at hl 2 rfl) ?_
  refine lv_iconst (v := 0) hx hb dL_witness_1 (by decide) ?_
  refine lv_aload_n hx hb dL_witness_2 rfl (lv_at hl 0 rfl) ?_
  refine lv_iload_n hx hb dL_witness_3 rfl (lv_at hl 1 rfl) ?_
  refine zcallT (wr := []) (vx_runV (As := [.int p0]) (rest := [.int 0, .ref ou]) ⟨hx, hb, hml, hown, hts⟩ (z_X7_witnessT l G x wa wb su cu tr co lo pk p0 hl0 hv s.heap.size) (cwV 1 hts gL_witness_X7_witness rfl rfl rfl (by decide +kernel) ⟨Nat.le_of_ble_eq_true rfl, Nat.le_of_ble_eq_true rfl⟩) (zPreV (Wc := [(x, .inr (7, [.ref wa, .ref wb, .ref su, .ref cu, .ref tr, .ref co, .ref lo, .ref pk]))]) (q0 := 0) (ci := 7) (q := (RX7, TX7, 8)) hP hD hE hS hA [0] rfl (by decide) rfl rfl) rfl rfl hl.1 rfl (lv_room (Nat.le_of_ble_eq_true rfl)) dL_witness_4 ⟨Nat.le_of_ble_eq_true rfl, Nat.le_of_ble_eq_true rfl⟩) hP hD hS hA [0] [] rfl rfl (by decide) (by decide) (fun ce q9 H locs hP hD hS hce hcv hcl => ?_)
  have hP : va_P G.1 vwCl [(x, .inr (7, [.ref wa, .ref wb, .ref su, .ref cu, .ref tr, .ref co, .ref lo, .ref pk]))] H := hP
  have hD : va_D A [(x, .inr (7, [.ref wa, .ref wb, .ref su, .ref cu, .ref tr, .ref co, .ref lo, .ref pk]))] := hD
  refine vx_catch hown [] ⟨0, 9, 12, 13⟩ [] (by rw [ht]; rfl) (fun z hz => nomatch hz) (by decide) (by decide) hcl13 (va_Nw.use rfl hE.2.2.2.2.2.2.2.2.2.2.1) hce hcv hcl ?_
  refine lv_astore_n (lv' := [(3, .ref q9), (0, .ref x), (1, .int p0), (2, .ref ou)]) hx hb dL_witness_12 rfl hl (by decide) rfl (fun ls hl => ?_)
  refine lv_iconst (v := 1) hx hb dL_witness_13 (by decide) ?_
  exact zend_i hx hb hr hlocks (fun k => [].getD k 0) hP hD hS (Nat.le_of_ble_eq_true rfl) (Nat.le_of_ble_eq_true rfl) dL_witness_14
