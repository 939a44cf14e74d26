/-! Nettle: rules, what they decide, the tree -/
theorem dX7_rule_0 : decode cX7_rule 0 = .ok (.iload_n 1, 1) := by decide +kernel
set_option maxRecDepth 20000 in
theorem ggX7_rule_X7_needVerdict : GoodIn wsX7_rule wsX7_needVerdict := goodIn_ca (goodIn_r _ [8, 9, 10] (by decide +kernel) (by decide +kernel)) (goodIn_sub (fun _ h => List.mem_cons_of_mem _ (List.mem_append_right _ h)) (by decide +kernel))
set_option maxRecDepth 20000 in
theorem gX7_rule_X7_needVerdict : GoodIn wsX7_rule (va_wsS RX7 66 yX7_needVerdict wsX7_needVerdict) := goodIn_app (goodIn_of _ (by decide +kernel)) ggX7_rule_X7_needVerdict
theorem dX7_rule_1 : decode cX7_rule 1 = .ok (.invokestatic 66, 3) := by decide +kernel
theorem dX7_rule_4 : decode cX7_rule 4 = .ok (.aload_n 0, 1) := by decide +kernel
theorem dX7_rule_5 : decode cX7_rule 5 = .ok (.getfield 10, 3) := by decide +kernel
theorem dX7_rule_8 : decode cX7_rule 8 = .ok (.getfield 70, 3) := by decide +kernel
theorem dX7_rule_11 : decode cX7_rule 11 = .ok (.bipush 8, 2) := by decide +kernel
theorem dX7_rule_13 : decode cX7_rule 13 = .ok (.if_icmp .lt 13, 3) := by decide +kernel
theorem dX7_rule_26 : decode cX7_rule 26 = .ok (.aload_n 0, 1) := by decide +kernel
theorem dX7_rule_27 : decode cX7_rule 27 = .ok (.getfield 10, 3) := by decide +kernel
theorem dX7_rule_30 : decode cX7_rule 30 = .ok (.iload_n 1, 1) := by decide +kernel
set_option maxRecDepth 20000 in
theorem ggX7_rule_X6_add : GoodIn wsX7_rule wsX6_add := goodIn_r _ [15, 16, 17, 18, 19, 20, 21, 22, 23, 24, 25, 26, 47, 48, 49, 50, 51, 52, 53] (by decide +kernel) (by decide +kernel)
set_option maxRecDepth 20000 in
theorem gX7_rule_X6_add : GoodIn wsX7_rule (wsV RX7 81 RX6 yX6_add wsX6_add) := goodIn_app (goodIn_of _ (by decide +kernel)) ggX7_rule_X6_add
theorem dX7_rule_31 : decode cX7_rule 31 = .ok (.invokevirtual 81, 3) := by decide +kernel
theorem dX7_rule_34 : decode cX7_rule 34 = .ok (.aload_n 0, 1) := by decide +kernel
set_option maxRecDepth 20000 in
theorem ggX7_rule_X7_outdate : GoodIn wsX7_rule wsX7_outdate := goodIn_r _ [30, 31, 32, 33, 34, 35, 36, 37, 38, 39, 40, 41, 42, 43, 44, 45, 46, 54, 55, 56, 57, 58, 59, 60, 61, 62, 63, 64, 65, 66, 67, 68, 69, 70, 71, 72, 73, 74, 75, 76, 77, 78] (by decide +kernel) (by decide +kernel)
set_option maxRecDepth 20000 in
theorem gX7_rule_X7_outdate : GoodIn wsX7_rule (wsV RX7 84 RX7 yX7_outdate wsX7_outdate) := goodIn_app (goodIn_of _ (by decide +kernel)) ggX7_rule_X7_outdate
theorem dX7_rule_35 : decode cX7_rule 35 = .ok (.invokevirtual 84, 3) := by decide +kernel
theorem dX7_rule_38 : decode cX7_rule 38 = .ok (.aload_n 0, 1) := by decide +kernel
theorem dX7_rule_39 : decode cX7_rule 39 = .ok (.getfield 10, 3) := by decide +kernel
theorem dX7_rule_42 : decode cX7_rule 42 = .ok (.getfield 70, 3) := by decide +kernel
theorem dX7_rule_45 : decode cX7_rule 45 = .ok (.iconst 1, 1) := by decide +kernel
theorem dX7_rule_46 : decode cX7_rule 46 = .ok (.isub, 1) := by decide +kernel
theorem dX7_rule_47 : decode cX7_rule 47 = .ok (.ireturn, 1) := by decide +kernel
theorem dX7_narrow_0 : decode cX7_narrow 0 = .ok (.aload_n 0, 1) := by decide +kernel
theorem dX7_narrow_1 : decode cX7_narrow 1 = .ok (.iload_n 1, 1) := by decide +kernel
set_option maxRecDepth 20000 in
theorem ggX7_narrow_X7_needRule : GoodIn wsX7_narrow wsX7_needRule := goodIn_ca (goodIn_r _ [13, 1, 2, 5, 14, 38, 39, 40, 41, 42, 43, 44, 45, 46, 47, 48] (by decide +kernel) (by decide +kernel)) (goodIn_sub (fun _ h => List.mem_cons_of_mem _ (List.mem_append_left _ (List.mem_append_right _ h))) (by decide +kernel))
set_option maxRecDepth 20000 in
theorem gX7_narrow_X7_needRule : GoodIn wsX7_narrow (wsV RX7 87 RX7 yX7_needRule wsX7_needRule) := goodIn_app (goodIn_of _ (by decide +kernel)) ggX7_narrow_X7_needRule
theorem dX7_narrow_2 : decode cX7_narrow 2 = .ok (.invokevirtual 87, 3) := by decide +kernel
theorem dX7_turn_0 : decode cX7_turn 0 = .ok (.aload_n 0, 1) := by decide +kernel
theorem dX7_turn_1 : decode cX7_turn 1 = .ok (.iload_n 1, 1) := by decide +kernel
set_option maxRecDepth 20000 in
theorem ggX7_turn_X7_needRule : GoodIn wsX7_turn wsX7_needRule := goodIn_ca (goodIn_r _ [8, 9, 10, 1, 11, 29, 30, 31, 32, 33, 34, 35, 36, 37, 38, 39] (by decide +kernel) (by decide +kernel)) (goodIn_sub (fun _ h => List.mem_cons_of_mem _ (List.mem_append_left _ (List.mem_append_right _ h))) (by decide +kernel))
set_option maxRecDepth 20000 in
theorem gX7_turn_X7_needRule : GoodIn wsX7_turn (wsV RX7 87 RX7 yX7_needRule wsX7_needRule) := goodIn_app (goodIn_of _ (by decide +kernel)) ggX7_turn_X7_needRule
theorem dX7_turn_2 : decode cX7_turn 2 = .ok (.invokevirtual 87, 3) := by decide +kernel
theorem dX7_move_0 : decode cX7_move 0 = .ok (.aload_n 0, 1) := by decide +kernel
theorem dX7_move_1 : decode cX7_move 1 = .ok (.iload_n 1, 1) := by decide +kernel
set_option maxRecDepth 20000 in
theorem ggX7_move_X7_needRule : GoodIn wsX7_move wsX7_needRule := goodIn_ca (goodIn_r _ [10, 11, 12, 1, 13, 32, 33, 34, 35, 36, 37, 38, 39, 40, 41, 42] (by decide +kernel) (by decide +kernel)) (goodIn_sub (fun _ h => List.mem_cons_of_mem _ (List.mem_append_right _ h)) (by decide +kernel))
set_option maxRecDepth 20000 in
theorem gX7_move_X7_needRule : GoodIn wsX7_move (wsV RX7 87 RX7 yX7_needRule wsX7_needRule) := goodIn_app (goodIn_of _ (by decide +kernel)) ggX7_move_X7_needRule
theorem dX7_move_2 : decode cX7_move 2 = .ok (.invokevirtual 87, 3) := by decide +kernel
theorem dX7_drop_0 : decode cX7_drop 0 = .ok (.aload_n 0, 1) := by decide +kernel
theorem dX7_drop_1 : decode cX7_drop 1 = .ok (.iload_n 1, 1) := by decide +kernel
set_option maxRecDepth 20000 in
theorem ggX7_drop_X7_needRule : GoodIn wsX7_drop wsX7_needRule := goodIn_ca (goodIn_r _ [7, 8, 9, 1, 2, 33, 34, 35, 36, 37, 38, 39, 40, 41, 42, 43] (by decide +kernel) (by decide +kernel)) (goodIn_sub (fun _ h => List.mem_cons_of_mem _ (List.mem_append_right _ h)) (by decide +kernel))
set_option maxRecDepth 20000 in
theorem gX7_drop_X7_needRule : GoodIn wsX7_drop (wsV RX7 87 RX7 yX7_needRule wsX7_needRule) := goodIn_app (goodIn_of _ (by decide +kernel)) ggX7_drop_X7_needRule
theorem dX7_drop_2 : decode cX7_drop 2 = .ok (.invokevirtual 87, 3) := by decide +kernel
theorem dX7_ofRule_0 : decode cX7_ofRule 0 = .ok (.aload_n 0, 1) := by decide +kernel
theorem dX7_ofRule_1 : decode cX7_ofRule 1 = .ok (.iload_n 1, 1) := by decide +kernel
set_option maxRecDepth 20000 in
theorem ggX7_ofRule_X7_needRule : GoodIn wsX7_ofRule wsX7_needRule := goodIn_ca (goodIn_r _ [11, 12, 13, 1, 14, 20, 21, 22, 23, 24, 25, 26, 27, 28, 29, 30] (by decide +kernel) (by decide +kernel)) (goodIn_sub (fun _ h => List.mem_cons_of_mem _ (List.mem_append_left _ (List.mem_append_right _ h))) (by decide +kernel))
set_option maxRecDepth 20000 in
theorem gX7_ofRule_X7_needRule : GoodIn wsX7_ofRule (wsV RX7 87 RX7 yX7_needRule wsX7_needRule) := goodIn_app (goodIn_of _ (by decide +kernel)) ggX7_ofRule_X7_needRule
theorem dX7_ofRule_2 : decode cX7_ofRule 2 = .ok (.invokevirtual 87, 3) := by decide +kernel
theorem dX7_decides_0 : decode cX7_decides 0 = .ok (.aload_n 0, 1) := by decide +kernel
theorem dX7_decides_1 : decode cX7_decides 1 = .ok (.iload_n 1, 1) := by decide +kernel
set_option maxRecDepth 20000 in
theorem ggX7_decides_X7_needRule : GoodIn wsX7_decides wsX7_needRule := goodIn_ca (goodIn_r _ [5, 6, 7, 8, 9, 69, 70, 71, 72, 73, 74, 75, 76, 77, 78, 79] (by decide +kernel) (by decide +kernel)) (goodIn_sub (fun _ h => List.mem_cons_of_mem _ (List.mem_append_right _ h)) (by decide +kernel))
set_option maxRecDepth 20000 in
theorem gX7_decides_X7_needRule : GoodIn wsX7_decides (wsV RX7 87 RX7 yX7_needRule wsX7_needRule) := goodIn_app (goodIn_of _ (by decide +kernel)) ggX7_decides_X7_needRule
theorem dX7_decides_2 : decode cX7_decides 2 = .ok (.invokevirtual 87, 3) := by decide +kernel
theorem dX7_state_0 : decode cX7_state 0 = .ok (.aload_n 0, 1) := by decide +kernel
theorem dX7_state_1 : decode cX7_state 1 = .ok (.iload_n 1, 1) := by decide +kernel
set_option maxRecDepth 20000 in
theorem ggX7_state_X7_needRule : GoodIn wsX7_state wsX7_needRule := goodIn_ca (goodIn_r _ [8, 9, 10, 1, 11, 97, 98, 99, 100, 101, 102, 103, 104, 105, 106, 107] (by decide +kernel) (by decide +kernel)) (goodIn_sub (fun _ h => List.mem_cons_of_mem _ (List.mem_append_right _ h)) (by decide +kernel))
set_option maxRecDepth 20000 in
theorem gX7_state_X7_needRule : GoodIn wsX7_state (wsV RX7 87 RX7 yX7_needRule wsX7_needRule) := goodIn_app (goodIn_of _ (by decide +kernel)) ggX7_state_X7_needRule
theorem dX7_state_2 : decode cX7_state 2 = .ok (.invokevirtual 87, 3) := by decide +kernel
theorem dX7_coveredBy_0 : decode cX7_coveredBy 0 = .ok (.aload_n 0, 1) := by decide +kernel
theorem dX7_coveredBy_1 : decode cX7_coveredBy 1 = .ok (.iload_n 1, 1) := by decide +kernel
set_option maxRecDepth 20000 in
theorem ggX7_coveredBy_X7_needRule : GoodIn wsX7_coveredBy wsX7_needRule := goodIn_ca (goodIn_r _ [6, 7, 8, 1, 9, 28, 29, 30, 31, 32, 33, 34, 35, 36, 37, 38] (by decide +kernel) (by decide +kernel)) (goodIn_sub (fun _ h => List.mem_cons_of_mem _ (List.mem_append_right _ h)) (by decide +kernel))
set_option maxRecDepth 20000 in
theorem gX7_coveredBy_X7_needRule : GoodIn wsX7_coveredBy (wsV RX7 87 RX7 yX7_needRule wsX7_needRule) := goodIn_app (goodIn_of _ (by decide +kernel)) ggX7_coveredBy_X7_needRule
theorem dX7_coveredBy_2 : decode cX7_coveredBy 2 = .ok (.invokevirtual 87, 3) := by decide +kernel
theorem dX7_shared_0 : decode cX7_shared 0 = .ok (.aload_n 0, 1) := by decide +kernel
theorem dX7_shared_1 : decode cX7_shared 1 = .ok (.iload_n 1, 1) := by decide +kernel
set_option maxRecDepth 20000 in
theorem ggX7_shared_X7_needRule : GoodIn wsX7_shared wsX7_needRule := goodIn_ca (goodIn_r _ [7, 8, 9, 1, 10, 25, 26, 27, 28, 29, 30, 31, 32, 33, 34, 35] (by decide +kernel) (by decide +kernel)) (goodIn_sub (fun _ h => List.mem_cons_of_mem _ (List.mem_append_right _ h)) (by decide +kernel))
set_option maxRecDepth 20000 in
theorem gX7_shared_X7_needRule : GoodIn wsX7_shared (wsV RX7 87 RX7 yX7_needRule wsX7_needRule) := goodIn_app (goodIn_of _ (by decide +kernel)) ggX7_shared_X7_needRule
theorem dX7_shared_2 : decode cX7_shared 2 = .ok (.invokevirtual 87, 3) := by decide +kernel
theorem dX7_allowedWithout_0 : decode cX7_allowedWithout 0 = .ok (.aload_n 0, 1) := by decide +kernel
theorem dX7_allowedWithout_1 : decode cX7_allowedWithout 1 = .ok (.iload_n 1, 1) := by decide +kernel
set_option maxRecDepth 20000 in
theorem ggX7_allowedWithout_X7_needRule : GoodIn wsX7_allowedWithout wsX7_needRule := goodIn_ca (goodIn_r _ [5, 6, 7, 8, 9, 76, 77, 78, 79, 80, 81, 82, 83, 84, 85, 86] (by decide +kernel) (by decide +kernel)) (goodIn_sub (fun _ h => List.mem_cons_of_mem _ (List.mem_append_right _ h)) (by decide +kernel))
set_option maxRecDepth 20000 in
theorem gX7_allowedWithout_X7_needRule : GoodIn wsX7_allowedWithout (wsV RX7 87 RX7 yX7_needRule wsX7_needRule) := goodIn_app (goodIn_of _ (by decide +kernel)) ggX7_allowedWithout_X7_needRule
theorem dX7_allowedWithout_2 : decode cX7_allowedWithout 2 = .ok (.invokevirtual 87, 3) := by decide +kernel
theorem dX7_changedByMove_0 : decode cX7_changedByMove 0 = .ok (.aload_n 0, 1) := by decide +kernel
theorem dX7_changedByMove_1 : decode cX7_changedByMove 1 = .ok (.iload_n 1, 1) := by decide +kernel
set_option maxRecDepth 20000 in
theorem ggX7_changedByMove_X7_needRule : GoodIn wsX7_changedByMove wsX7_needRule := goodIn_ca (goodIn_r _ [5, 6, 7, 8, 9, 80, 81, 82, 83, 84, 85, 86, 87, 88, 89, 90] (by decide +kernel) (by decide +kernel)) (goodIn_sub (fun _ h => List.mem_cons_of_mem _ (List.mem_append_right _ h)) (by decide +kernel))
set_option maxRecDepth 20000 in
theorem gX7_changedByMove_X7_needRule : GoodIn wsX7_changedByMove (wsV RX7 87 RX7 yX7_needRule wsX7_needRule) := goodIn_app (goodIn_of _ (by decide +kernel)) ggX7_changedByMove_X7_needRule
theorem dX7_changedByMove_2 : decode cX7_changedByMove 2 = .ok (.invokevirtual 87, 3) := by decide +kernel
theorem dX7_setLast_0 : decode cX7_setLast 0 = .ok (.aload_n 0, 1) := by decide +kernel
theorem dX7_setLast_1 : decode cX7_setLast 1 = .ok (.getfield 10, 3) := by decide +kernel
theorem dX7_setLast_4 : decode cX7_setLast 4 = .ok (.getfield 135, 3) := by decide +kernel
theorem dX7_setLast_7 : decode cX7_setLast 7 = .ok (.istore_n 2, 1) := by decide +kernel
theorem dX7_setLast_8 : decode cX7_setLast 8 = .ok (.aload_n 0, 1) := by decide +kernel
theorem dX7_setLast_9 : decode cX7_setLast 9 = .ok (.getfield 10, 3) := by decide +kernel
theorem dX7_setLast_12 : decode cX7_setLast 12 = .ok (.iload_n 1, 1) := by decide +kernel
theorem dX7_setLast_13 : decode cX7_setLast 13 = .ok (.putfield 135, 3) := by decide +kernel
theorem dX7_setLast_16 : decode cX7_setLast 16 = .ok (.aload_n 0, 1) := by decide +kernel
set_option maxRecDepth 20000 in
theorem ggX7_setLast_X7_outdate : GoodIn wsX7_setLast wsX7_outdate := goodIn_r _ [7, 8, 9, 10, 11, 12, 13, 14, 15, 16, 17, 18, 19, 20, 21, 22, 23, 27, 28, 29, 30, 31, 32, 33, 34, 35, 36, 37, 38, 39, 40, 41, 42, 43, 44, 45, 46, 47, 48, 49, 50, 51] (by decide +kernel) (by decide +kernel)
set_option maxRecDepth 20000 in
theorem gX7_setLast_X7_outdate : GoodIn wsX7_setLast (wsV RX7 84 RX7 yX7_outdate wsX7_outdate) := goodIn_app (goodIn_of _ (by decide +kernel)) ggX7_setLast_X7_outdate
theorem dX7_setLast_17 : decode cX7_setLast 17 = .ok (.invokevirtual 84, 3) := by decide +kernel
theorem dX7_setLast_20 : decode cX7_setLast 20 = .ok (.iload_n 2, 1) := by decide +kernel
theorem dX7_setLast_21 : decode cX7_setLast 21 = .ok (.ireturn, 1) := by decide +kernel
theorem dX7_shrink_0 : decode cX7_shrink 0 = .ok (.aload_n 0, 1) := by decide +kernel
theorem dX7_shrink_1 : decode cX7_shrink 1 = .ok (.getfield 10, 3) := by decide +kernel
theorem dX7_shrink_4 : decode cX7_shrink 4 = .ok (.getfield 70, 3) := by decide +kernel
theorem dX7_shrink_7 : decode cX7_shrink 7 = .ok (.istore_n 1, 1) := by decide +kernel
theorem dX7_shrink_8 : decode cX7_shrink 8 = .ok (.iconst 0, 1) := by decide +kernel
theorem dX7_shrink_9 : decode cX7_shrink 9 = .ok (.istore_n 2, 1) := by decide +kernel
theorem dX7_shrink_10 : decode cX7_shrink 10 = .ok (.iload_n 2, 1) := by decide +kernel
theorem dX7_shrink_11 : decode cX7_shrink 11 = .ok (.iload_n 1, 1) := by decide +kernel
theorem dX7_shrink_12 : decode cX7_shrink 12 = .ok (.if_icmp .ge 33, 3) := by decide +kernel
theorem dX7_shrink_45 : decode cX7_shrink 45 = .ok (.iload_n 1, 1) := by decide +kernel
theorem dX7_shrink_46 : decode cX7_shrink 46 = .ok (.aload_n 0, 1) := by decide +kernel
theorem dX7_shrink_47 : decode cX7_shrink 47 = .ok (.getfield 10, 3) := by decide +kernel
theorem dX7_shrink_50 : decode cX7_shrink 50 = .ok (.getfield 70, 3) := by decide +kernel
theorem dX7_shrink_53 : decode cX7_shrink 53 = .ok (.isub, 1) := by decide +kernel
theorem dX7_shrink_54 : decode cX7_shrink 54 = .ok (.ireturn, 1) := by decide +kernel
theorem dX7_rules_0 : decode cX7_rules 0 = .ok (.aload_n 0, 1) := by decide +kernel
theorem dX7_rules_1 : decode cX7_rules 1 = .ok (.getfield 10, 3) := by decide +kernel
theorem dX7_rules_4 : decode cX7_rules 4 = .ok (.getfield 70, 3) := by decide +kernel
theorem dX7_rules_7 : decode cX7_rules 7 = .ok (.ireturn, 1) := by decide +kernel
theorem dX7_allowed_0 : decode cX7_allowed 0 = .ok (.aload_n 0, 1) := by decide +kernel
set_option maxRecDepth 20000 in
theorem ggX7_allowed_X7_surveyed : GoodIn wsX7_allowed wsX7_surveyed := goodIn_r _ [5, 6, 7, 8, 9, 10, 11, 12, 13, 14, 15, 16, 17, 18, 19, 20, 21, 22, 23, 24, 25, 26, 27, 28, 29, 30, 31, 32, 33, 34, 35, 36, 37, 38, 39, 40, 41, 42, 43, 44, 45, 68, 69, 70, 71, 72, 73, 74, 75, 76, 77, 78, 79, 80, 81, 82, 83, 84, 85, 86, 87] (by decide +kernel) (by decide +kernel)
set_option maxRecDepth 20000 in
theorem gX7_allowed_X7_surveyed : GoodIn wsX7_allowed (wsV RX7 149 RX7 yX7_surveyed wsX7_surveyed) := goodIn_app (goodIn_of _ (by decide +kernel)) ggX7_allowed_X7_surveyed
theorem dX7_allowed_1 : decode cX7_allowed 1 = .ok (.invokevirtual 149, 3) := by decide +kernel
theorem dX7_allowed_4 : decode cX7_allowed 4 = .ok (.sipush 255, 3) := by decide +kernel
set_option maxRecDepth 20000 in
theorem ggX7_allowed_X4_amountAllowed : GoodIn wsX7_allowed wsX4_amountAllowed := goodIn_r _ [49, 20, 15, 50, 51, 52, 39, 53, 41, 54, 55, 56, 57, 58, 59, 60, 16, 17, 18, 10, 19, 21, 61, 62, 63, 64, 65, 66, 67, 37, 38, 40, 76, 77, 78, 79, 80, 81, 82, 83, 84, 85, 86, 87] (by decide +kernel) (by decide +kernel)
set_option maxRecDepth 20000 in
theorem gX7_allowed_X4_amountAllowed : GoodIn wsX7_allowed (wsV RX7 156 RX4 yX4_amountAllowed wsX4_amountAllowed) := goodIn_app (goodIn_of _ (by decide +kernel)) ggX7_allowed_X4_amountAllowed
theorem dX7_allowed_7 : decode cX7_allowed 7 = .ok (.invokevirtual 156, 3) := by decide +kernel
theorem dX7_allowed_10 : decode cX7_allowed 10 = .ok (.ireturn, 1) := by decide +kernel
theorem dX7_quarrels_0 : decode cX7_quarrels 0 = .ok (.iconst 0, 1) := by decide +kernel
theorem dX7_quarrels_1 : decode cX7_quarrels 1 = .ok (.istore_n 1, 1) := by decide +kernel
theorem dX7_quarrels_2 : decode cX7_quarrels 2 = .ok (.iconst 0, 1) := by decide +kernel
theorem dX7_quarrels_3 : decode cX7_quarrels 3 = .ok (.istore_n 2, 1) := by decide +kernel
theorem dX7_quarrels_4 : decode cX7_quarrels 4 = .ok (.iload_n 2, 1) := by decide +kernel
theorem dX7_quarrels_5 : decode cX7_quarrels 5 = .ok (.aload_n 0, 1) := by decide +kernel
theorem dX7_quarrels_6 : decode cX7_quarrels 6 = .ok (.getfield 10, 3) := by decide +kernel
theorem dX7_quarrels_9 : decode cX7_quarrels 9 = .ok (.getfield 70, 3) := by decide +kernel
theorem dX7_quarrels_12 : decode cX7_quarrels 12 = .ok (.if_icmp .ge 57, 3) := by decide +kernel
theorem dX7_quarrels_69 : decode cX7_quarrels 69 = .ok (.iload_n 1, 1) := by decide +kernel
theorem dX7_quarrels_70 : decode cX7_quarrels 70 = .ok (.ireturn, 1) := by decide +kernel
theorem dX7_decider_0 : decode cX7_decider 0 = .ok (.aload_n 0, 1) := by decide +kernel
theorem dX7_decider_1 : decode cX7_decider 1 = .ok (.iload_n 1, 1) := by decide +kernel
theorem dX7_decider_2 : decode cX7_decider 2 = .ok (.iload_n 2, 1) := by decide +kernel
theorem dX7_decider_3 : decode cX7_decider 3 = .ok (.iload_n 3, 1) := by decide +kernel
theorem dX7_decider_4 : decode cX7_decider 4 = .ok (.iload 4, 2) := by decide +kernel
set_option maxRecDepth 20000 in
theorem ggX7_decider_X7_takePacket : GoodIn wsX7_decider wsX7_takePacket := goodIn_ca (goodIn_r _ [9, 10, 11, 4, 12, 13, 8, 14, 15, 32, 33, 34, 35, 36, 37, 38, 39] (by decide +kernel) (by decide +kernel)) (goodIn_sub (fun _ h => List.mem_cons_of_mem _ (List.mem_append_right _ h)) (by decide +kernel))
set_option maxRecDepth 20000 in
theorem gX7_decider_X7_takePacket : GoodIn wsX7_decider (wsV RX7 177 RX7 yX7_takePacket wsX7_takePacket) := goodIn_app (goodIn_of _ (by decide +kernel)) ggX7_decider_X7_takePacket
theorem dX7_decider_6 : decode cX7_decider 6 = .ok (.invokevirtual 177, 3) := by decide +kernel
theorem dX7_decider_9 : decode cX7_decider 9 = .ok (.iconst 0, 1) := by decide +kernel
theorem dX7_decider_10 : decode cX7_decider 10 = .ok (.istore 5, 2) := by decide +kernel
theorem dX7_decider_12 : decode cX7_decider 12 = .ok (.iload 5, 2) := by decide +kernel
theorem dX7_decider_14 : decode cX7_decider 14 = .ok (.aload_n 0, 1) := by decide +kernel
theorem dX7_decider_15 : decode cX7_decider 15 = .ok (.getfield 10, 3) := by decide +kernel
theorem dX7_decider_18 : decode cX7_decider 18 = .ok (.getfield 70, 3) := by decide +kernel
theorem dX7_decider_21 : decode cX7_decider 21 = .ok (.if_icmp .ge 48, 3) := by decide +kernel
theorem dX7_decider_69 : decode cX7_decider 69 = .ok (.iconst (-1), 1) := by decide +kernel
theorem dX7_decider_70 : decode cX7_decider 70 = .ok (.ireturn, 1) := by decide +kernel
theorem dX7_nodes_0 : decode cX7_nodes 0 = .ok (.aload_n 0, 1) := by decide +kernel
set_option maxRecDepth 20000 in
theorem ggX7_nodes_X7_compiled : GoodIn wsX7_nodes wsX7_compiled := goodIn_r _ [6, 7, 8, 9, 10, 11, 12, 13, 14, 15, 16, 17, 18, 19, 20, 21, 22, 23, 24, 25, 26, 27, 28, 29, 30, 31, 32, 33, 34, 35, 36, 37, 38, 39, 40, 41, 42, 43, 44, 45, 46, 47, 48, 49, 50, 51, 52, 53, 54, 55, 56, 57, 58, 59, 60, 61, 62, 63, 64, 65, 66, 67, 68, 69, 70, 71, 72, 73, 74, 75, 76, 77, 78, 79, 80, 81, 82, 83, 84, 85, 86, 87, 88, 89, 90, 91, 92, 93, 94, 102, 103, 104, 105, 106, 107, 108, 109, 110, 111, 112, 113, 114, 115, 116, 117, 118, 119, 120, 121, 122, 95, 96, 97, 98, 99, 100, 101] (by decide +kernel) (by decide +kernel)
set_option maxRecDepth 20000 in
theorem gX7_nodes_X7_compiled : GoodIn wsX7_nodes (wsV RX7 189 RX7 yX7_compiled wsX7_compiled) := goodIn_app (goodIn_of _ (by decide +kernel)) ggX7_nodes_X7_compiled
theorem dX7_nodes_1 : decode cX7_nodes 1 = .ok (.invokevirtual 189, 3) := by decide +kernel
theorem dX7_nodes_4 : decode cX7_nodes 4 = .ok (.getfield 193, 3) := by decide +kernel
theorem dX7_nodes_7 : decode cX7_nodes 7 = .ok (.ireturn, 1) := by decide +kernel
theorem dX7_ofNode_0 : decode cX7_ofNode 0 = .ok (.aload_n 0, 1) := by decide +kernel
set_option maxRecDepth 20000 in
theorem ggX7_ofNode_X7_compiled : GoodIn wsX7_ofNode wsX7_compiled := goodIn_r _ [5, 6, 7, 8, 9, 10, 11, 12, 13, 14, 15, 16, 17, 18, 19, 20, 21, 22, 23, 24, 25, 26, 27, 28, 29, 30, 31, 32, 33, 34, 35, 36, 37, 38, 39, 40, 41, 42, 43, 44, 45, 46, 47, 48, 49, 50, 51, 52, 53, 54, 55, 56, 57, 58, 59, 60, 61, 62, 63, 64, 65, 66, 67, 68, 69, 70, 71, 72, 73, 74, 75, 76, 77, 78, 79, 80, 81, 82, 83, 84, 85, 86, 87, 88, 89, 90, 91, 92, 93, 124, 125, 126, 127, 128, 129, 130, 131, 132, 133, 134, 135, 136, 137, 138, 139, 140, 141, 142, 143, 144, 145, 146, 147, 148, 149, 150, 151] (by decide +kernel) (by decide +kernel)
set_option maxRecDepth 20000 in
theorem gX7_ofNode_X7_compiled : GoodIn wsX7_ofNode (wsV RX7 189 RX7 yX7_compiled wsX7_compiled) := goodIn_app (goodIn_of _ (by decide +kernel)) ggX7_ofNode_X7_compiled
theorem dX7_ofNode_1 : decode cX7_ofNode 1 = .ok (.invokevirtual 189, 3) := by decide +kernel
theorem dX7_ofNode_4 : decode cX7_ofNode 4 = .ok (.astore_n 3, 1) := by decide +kernel
theorem dX7_ofNode_5 : decode cX7_ofNode 5 = .ok (.aload_n 3, 1) := by decide +kernel
theorem dX7_ofNode_6 : decode cX7_ofNode 6 = .ok (.iload_n 1, 1) := by decide +kernel
set_option maxRecDepth 20000 in
theorem ggX7_ofNode_X7_needNode : GoodIn wsX7_ofNode wsX7_needNode := goodIn_ca (goodIn_r _ [96, 97, 98, 99, 145, 146, 147, 148, 149, 150, 151] (by decide +kernel) (by decide +kernel)) (goodIn_sub (fun _ h => List.mem_cons_of_mem _ (List.mem_append_left _ (List.mem_append_right _ h))) (by decide +kernel))
set_option maxRecDepth 20000 in
theorem gX7_ofNode_X7_needNode : GoodIn wsX7_ofNode (va_wsS RX7 194 yX7_needNode wsX7_needNode) := goodIn_app (goodIn_of _ (by decide +kernel)) ggX7_ofNode_X7_needNode
theorem dX7_ofNode_7 : decode cX7_ofNode 7 = .ok (.invokestatic 194, 3) := by decide +kernel
theorem dX7_piece_0 : decode cX7_piece 0 = .ok (.aload_n 0, 1) := by decide +kernel
set_option maxRecDepth 20000 in
theorem ggX7_piece_X7_compiled : GoodIn wsX7_piece wsX7_compiled := goodIn_r _ [8, 3, 9, 10, 11, 12, 13, 14, 15, 16, 17, 18, 19, 20, 21, 22, 23, 24, 25, 26, 27, 28, 29, 30, 31, 32, 33, 34, 35, 36, 37, 38, 39, 40, 41, 42, 43, 44, 45, 46, 47, 48, 49, 50, 51, 52, 53, 54, 55, 56, 57, 58, 59, 60, 61, 62, 63, 64, 65, 66, 67, 68, 69, 70, 71, 72, 73, 74, 75, 76, 77, 78, 79, 80, 81, 82, 83, 84, 85, 86, 87, 88, 89, 90, 91, 92, 93, 94, 95, 135, 136, 137, 138, 139, 140, 141, 142, 143, 144, 145, 146, 147, 148, 149, 150, 151, 152, 153, 154, 155, 156, 157, 158, 159, 160, 161, 162] (by decide +kernel) (by decide +kernel)
set_option maxRecDepth 20000 in
theorem gX7_piece_X7_compiled : GoodIn wsX7_piece (wsV RX7 189 RX7 yX7_compiled wsX7_compiled) := goodIn_app (goodIn_of _ (by decide +kernel)) ggX7_piece_X7_compiled
theorem dX7_piece_1 : decode cX7_piece 1 = .ok (.invokevirtual 189, 3) := by decide +kernel
theorem dX7_piece_4 : decode cX7_piece 4 = .ok (.astore 4, 2) := by decide +kernel
theorem dX7_piece_6 : decode cX7_piece 6 = .ok (.aload 4, 2) := by decide +kernel
theorem dX7_piece_8 : decode cX7_piece 8 = .ok (.iload_n 1, 1) := by decide +kernel
set_option maxRecDepth 20000 in
theorem ggX7_piece_X7_needNode : GoodIn wsX7_piece wsX7_needNode := goodIn_ca (goodIn_r _ [98, 1, 2, 99, 156, 157, 158, 159, 160, 161, 162] (by decide +kernel) (by decide +kernel)) (goodIn_sub (fun _ h => List.mem_cons_of_mem _ (List.mem_append_left _ (List.mem_append_right _ h))) (by decide +kernel))
set_option maxRecDepth 20000 in
theorem gX7_piece_X7_needNode : GoodIn wsX7_piece (va_wsS RX7 194 yX7_needNode wsX7_needNode) := goodIn_app (goodIn_of _ (by decide +kernel)) ggX7_piece_X7_needNode
theorem dX7_piece_9 : decode cX7_piece 9 = .ok (.invokestatic 194, 3) := by decide +kernel
theorem dX7_steps_0 : decode cX7_steps 0 = .ok (.aload_n 0, 1) := by decide +kernel
theorem dX7_steps_1 : decode cX7_steps 1 = .ok (.iload_n 1, 1) := by decide +kernel
theorem dX7_steps_2 : decode cX7_steps 2 = .ok (.iload_n 2, 1) := by decide +kernel
theorem dX7_steps_3 : decode cX7_steps 3 = .ok (.iload_n 3, 1) := by decide +kernel
theorem dX7_steps_4 : decode cX7_steps 4 = .ok (.iload 4, 2) := by decide +kernel
set_option maxRecDepth 20000 in
theorem ggX7_steps_X7_takePacket : GoodIn wsX7_steps wsX7_takePacket := goodIn_ca (goodIn_r _ [7, 8, 9, 2, 10, 11, 6, 12, 13, 49, 50, 51, 52, 53, 54, 55, 56] (by decide +kernel) (by decide +kernel)) (goodIn_sub (fun _ h => List.mem_cons_of_mem _ (List.mem_append_right _ h)) (by decide +kernel))
set_option maxRecDepth 20000 in
theorem gX7_steps_X7_takePacket : GoodIn wsX7_steps (wsV RX7 177 RX7 yX7_takePacket wsX7_takePacket) := goodIn_app (goodIn_of _ (by decide +kernel)) ggX7_steps_X7_takePacket
theorem dX7_steps_6 : decode cX7_steps 6 = .ok (.invokevirtual 177, 3) := by decide +kernel
theorem dX7_steps_9 : decode cX7_steps 9 = .ok (.aload_n 0, 1) := by decide +kernel
theorem dX7_steps_10 : decode cX7_steps 10 = .ok (.getfield 10, 3) := by decide +kernel
set_option maxRecDepth 20000 in
theorem ggX7_steps_X6_deciders : GoodIn wsX7_steps wsX6_deciders := goodIn_r _ [18, 19, 20, 21, 22, 23, 24, 25, 26, 57, 58, 59, 60, 61, 62, 63] (by decide +kernel) (by decide +kernel)
set_option maxRecDepth 20000 in
theorem gX7_steps_X6_deciders : GoodIn wsX7_steps (wsV RX7 223 RX6 yX6_deciders wsX6_deciders) := goodIn_app (goodIn_of _ (by decide +kernel)) ggX7_steps_X6_deciders
theorem dX7_steps_13 : decode cX7_steps 13 = .ok (.invokevirtual 223, 3) := by decide +kernel
theorem dX7_steps_16 : decode cX7_steps 16 = .ok (.istore 5, 2) := by decide +kernel
theorem dX7_steps_18 : decode cX7_steps 18 = .ok (.iconst 0, 1) := by decide +kernel
theorem dX7_steps_19 : decode cX7_steps 19 = .ok (.istore 6, 2) := by decide +kernel
theorem dX7_steps_21 : decode cX7_steps 21 = .ok (.iconst 0, 1) := by decide +kernel
theorem dX7_steps_22 : decode cX7_steps 22 = .ok (.istore 7, 2) := by decide +kernel
theorem dX7_steps_24 : decode cX7_steps 24 = .ok (.iload 7, 2) := by decide +kernel
theorem dX7_steps_26 : decode cX7_steps 26 = .ok (.iconst 4, 1) := by decide +kernel
theorem dX7_steps_27 : decode cX7_steps 27 = .ok (.if_icmp .ge 50, 3) := by decide +kernel
theorem dX7_steps_30 : decode cX7_steps 30 = .ok (.aload_n 0, 1) := by decide +kernel
theorem dX7_steps_31 : decode cX7_steps 31 = .ok (.getfield 10, 3) := by decide +kernel
theorem dX7_steps_34 : decode cX7_steps 34 = .ok (.iload 7, 2) := by decide +kernel
theorem dX7_steps_36 : decode cX7_steps 36 = .ok (.iload 5, 2) := by decide +kernel
set_option maxRecDepth 20000 in
theorem ggX7_steps_X6_isSettled : GoodIn wsX7_steps wsX6_isSettled := goodIn_r _ [30, 20, 31, 32, 33, 17, 34, 19, 35, 36, 37, 24, 38, 39, 40, 57, 58, 59, 60, 61, 62, 63] (by decide +kernel) (by decide +kernel)
set_option maxRecDepth 20000 in
theorem gX7_steps_X6_isSettled : GoodIn wsX7_steps (wsV RX7 226 RX6 yX6_isSettled wsX6_isSettled) := goodIn_app (goodIn_of _ (by decide +kernel)) ggX7_steps_X6_isSettled
theorem dX7_steps_38 : decode cX7_steps 38 = .ok (.invokevirtual 226, 3) := by decide +kernel
theorem dX7_steps_41 : decode cX7_steps 41 = .ok (.ifCond .eq 6, 3) := by decide +kernel
theorem dX7_steps_44 : decode cX7_steps 44 = .ok (.goto 33, 3) := by decide +kernel
theorem dX7_steps_77 : decode cX7_steps 77 = .ok (.iload 6, 2) := by decide +kernel
theorem dX7_steps_79 : decode cX7_steps 79 = .ok (.ireturn, 1) := by decide +kernel
theorem dX7_meanSteps_0 : decode cX7_meanSteps 0 = .ok (.aload_n 0, 1) := by decide +kernel
set_option maxRecDepth 20000 in
theorem ggX7_meanSteps_X7_compiled : GoodIn wsX7_meanSteps wsX7_compiled := goodIn_r _ [6, 7, 8, 9, 10, 11, 12, 13, 14, 15, 16, 17, 18, 19, 20, 21, 22, 23, 24, 25, 26, 27, 28, 29, 30, 31, 32, 33, 34, 35, 36, 37, 38, 39, 40, 41, 42, 43, 44, 45, 46, 47, 48, 49, 50, 51, 52, 53, 54, 55, 56, 57, 58, 59, 60, 61, 62, 63, 64, 65, 66, 67, 68, 69, 70, 71, 72, 73, 74, 75, 76, 77, 78, 79, 80, 81, 82, 83, 84, 85, 86, 87, 88, 89, 90, 91, 92, 93, 94, 99, 100, 101, 102, 103, 104, 105, 106, 107, 108, 109, 110, 111, 112, 113, 114, 115, 116, 117, 118, 119, 120, 121, 122, 123, 124, 125, 126] (by decide +kernel) (by decide +kernel)
set_option maxRecDepth 20000 in
theorem gX7_meanSteps_X7_compiled : GoodIn wsX7_meanSteps (wsV RX7 189 RX7 yX7_compiled wsX7_compiled) := goodIn_app (goodIn_of _ (by decide +kernel)) ggX7_meanSteps_X7_compiled
theorem dX7_meanSteps_1 : decode cX7_meanSteps 1 = .ok (.invokevirtual 189, 3) := by decide +kernel
set_option maxRecDepth 20000 in
theorem ggX7_meanSteps_X5_allSteps : GoodIn wsX7_meanSteps wsX5_allSteps := goodIn_r _ [98, 55, 73, 120, 121, 122, 123, 124, 125, 126] (by decide +kernel) (by decide +kernel)
set_option maxRecDepth 20000 in
theorem gX7_meanSteps_X5_allSteps : GoodIn wsX7_meanSteps (wsV RX7 232 RX5 yX5_allSteps wsX5_allSteps) := goodIn_app (goodIn_of _ (by decide +kernel)) ggX7_meanSteps_X5_allSteps
theorem dX7_meanSteps_4 : decode cX7_meanSteps 4 = .ok (.invokevirtual 232, 3) := by decide +kernel
theorem dX7_meanSteps_7 : decode cX7_meanSteps 7 = .ok (.i2d, 1) := by decide +kernel
theorem dX7_meanSteps_8 : decode cX7_meanSteps 8 = .ok (.getstatic 235, 3) := by decide +kernel
theorem dX7_meanSteps_11 : decode cX7_meanSteps 11 = .ok (.iconst 0, 1) := by decide +kernel
theorem dX7_meanSteps_12 : decode cX7_meanSteps 12 = .ok (.iaload, 1) := by decide +kernel
theorem dX7_meanSteps_13 : decode cX7_meanSteps 13 = .ok (.i2d, 1) := by decide +kernel
theorem dX7_meanSteps_14 : decode cX7_meanSteps 14 = .ok (.ddiv, 1) := by decide +kernel
theorem dX7_meanSteps_15 : decode cX7_meanSteps 15 = .ok (.dreturn, 1) := by decide +kernel
set_option maxHeartbeats 4000000 in
set_option maxRecDepth 100000 in
theorem z_X7_rule (l : Launch) (G : zG) (x : Nat) (wa : Nat) (wb : Nat) (su : Nat) (cu : Nat) (tr : Nat) (co : Nat) (lo : Nat) (pk : Nat) (ro : Nat) (p0 : Int32) (r0 : Nat) (l0 : Nat) (g0 : Nat) (rv : Int32) (rh : Int32) (f01 : Nat → Int32) (f02 : Nat → Int32) (fr : Nat → Option Nat) (sl : Nat) (sh : Nat) (sa : Nat) (cc : Nat) (cs : Nat) (cm : Nat) (tn : Nat) (tc : Nat) (ts : Nat) (cf : Nat) (cp : Nat) (f1 : Int32) (f2 : Int32) (f3 : Int32) (f4 : Int32) (hv1 : ¬ p0 < 0) (hv2 : p0 ≤ 2) (hr0 : fr 0 = some r0) : zR l G yX7_rule wsX7_rule { frames := 2, cells := 0, slots := 0, locals := 43 } [(x, .inr (7, [.ref wa, .ref wb, .ref su, .ref cu, .ref tr, .ref co, .ref lo, .ref pk])), (wa, .inr (6, [.ref ro, .int 0, .int 0])), (ro, .inl (G.2.2.1, 8, .inr (.inr (.inr (.inr (fr)))))), (r0, .inr (3, [.int rv, .int rh, .ref l0, .ref g0])), (l0, .inl (G.2.1, 4, .inl (f01))), (g0, .inl (G.2.1, 4, .inl (f02))), (su, .inr (4, [.ref wa, .ref sl, .ref sh, .ref sa, .int f1])), (cu, .inr (1, [.ref wa, .ref wb, .ref cc, .ref cs, .ref cm, .int f2])), (tr, .inr (5, [.ref wa, .ref cu, .ref tn, .ref tc, .ref ts, .int 0, .int f3])), (co, .inr (0, [.ref wa, .ref wb, .ref cu, .ref cf, .ref cp, .int 0, .int f4]))] [.ref x, .int p0] (some (.int 0)) (fun u => [(wa, .inr (6, [.ref ro, .int 1, .int 0])), (ro, .inl (G.2.2.1, 8, .inr (.inr (.inr (.inr (fr)))))), (r0, .inr (3, [.int p0, .int 0, .ref l0, .ref g0])), (l0, .inl (G.2.1, 4, .inl (upd (upd (upd (upd f01 0 0) 1 0) 2 0) 3 0))), (g0, .inl (G.2.1, 4, .inl (upd (upd (upd (upd f02 0 255) 1 255) 2 1023) 3 3))), (x, .inr (7, [.ref wa, .ref wb, .ref su, .ref cu, .ref tr, .ref co, .ref lo, .ref pk])), (su, .inr (4, [.ref wa, .ref sl, .ref sh, .ref sa, .int 0])), (cu, .inr (1, [.ref wa, .ref wb, .ref cc, .ref cs, .ref cm, .int 0])), (tr, .inr (5, [.ref wa, .ref cu, .ref tn, .ref tc, .ref ts, .int 0, .int 0])), (co, .inr (0, [.ref wa, .ref wb, .ref cu, .ref cf, .ref cp, .int 0, .int 0]))]) 0 0 := by
  refine zR_of (cc := cX7_rule) (maxL := 2) (rt := (some .int)) (by decide) rfl (Nat.le_of_ble_eq_true rfl) ?_
  intro p e s m below meth c A ls hx hb hml hr hts hown hlocks hin hA hE hP hD hS hl
  have hl : lv_has ls 2 [(0, .ref x), (1, .int p0)] := hl
  have hown : s.vm.findClass RX7 = some m.cls := hown
  have hP : va_P G.1 vwCl [(x, .inr (7, [.ref wa, .ref wb, .ref su, .ref cu, .ref tr, .ref co, .ref lo, .ref pk])), (wa, .inr (6, [.ref ro, .int 0, .int 0])), (ro, .inl (G.2.2.1, 8, .inr (.inr (.inr (.inr (fr)))))), (r0, .inr (3, [.int rv, .int rh, .ref l0, .ref g0])), (l0, .inl (G.2.1, 4, .inl (f01))), (g0, .inl (G.2.1, 4, .inl (f02))), (su, .inr (4, [.ref wa, .ref sl, .ref sh, .ref sa, .int f1])), (cu, .inr (1, [.ref wa, .ref wb, .ref cc, .ref cs, .ref cm, .int f2])), (tr, .inr (5, [.ref wa, .ref cu, .ref tn, .ref tc, .ref ts, .int 0, .int f3])), (co, .inr (0, [.ref wa, .ref wb, .ref cu, .ref cf, .ref cp, .int 0, .int f4]))] s.heap := hP
  have hw7 : ∀ w ∈ u_ws RX7 TX7 8, w ∈ wsX7_rule := by decide +kernel
  have hf10 := hts (.fieldLink RX7 10 "Nettle" "wall" "LNettle$Wall;") (by decide +kernel)
  have hw6 : ∀ w ∈ u_ws RX6 TX6 3, w ∈ wsX7_rule := by decide +kernel
  have hf70 := hts (.fieldLink RX7 70 "Nettle$Wall" "count" "I") (by decide +kernel)
  refine lv_iload_n hx hb dX7_rule_0 rfl (lv_at hl 1 rfl) ?_
  refine zcall (wr := [(x, .inr (7, [.ref wa, .ref wb, .ref su, .ref cu, .ref tr, .ref co, .ref lo, .ref pk])), (wa, .inr (6, [.ref ro, .int 0, .int 0])), (ro, .inl (G.2.2.1, 8, .inr (.inr (.inr (.inr (fr)))))), (r0, .inr (3, [.int rv, .int rh, .ref l0, .ref g0])), (l0, .inl (G.2.1, 4, .inl (f01))), (g0, .inl (G.2.1, 4, .inl (f02))), (su, .inr (4, [.ref wa, .ref sl, .ref sh, .ref sa, .int f1])), (cu, .inr (1, [.ref wa, .ref wb, .ref cc, .ref cs, .ref cm, .int f2])), (tr, .inr (5, [.ref wa, .ref cu, .ref tn, .ref tc, .ref ts, .int 0, .int f3])), (co, .inr (0, [.ref wa, .ref wb, .ref cu, .ref cf, .ref cp, .int 0, .int f4]))]) (va_runS (As := [.int p0]) (rest := []) ⟨hx, hb, hml, hown, hts⟩ (z_X7_needVerdict l G p0 hv1 hv2 s.heap.size) (va_cwS 1 hts gX7_rule_X7_needVerdict rfl rfl rfl (by decide +kernel) ⟨Nat.le_of_ble_eq_true rfl, Nat.le_of_ble_eq_true rfl⟩) (zPre (Wc := []) hP hD hE hS hA [] rfl (by decide)) rfl rfl hl.1 rfl (lv_room (Nat.le_of_ble_eq_true rfl)) dX7_rule_1 ⟨Nat.le_of_ble_eq_true rfl, Nat.le_of_ble_eq_true rfl⟩) hP hD hS hA [] [0, 1, 2, 3, 4, 5, 6, 7, 8, 9] rfl rfl (by decide) (by decide) (fun u1 H locs hP hD hS => ?_)
  have hP : va_P G.1 vwCl [(x, .inr (7, [.ref wa, .ref wb, .ref su, .ref cu, .ref tr, .ref co, .ref lo, .ref pk])), (wa, .inr (6, [.ref ro, .int 0, .int 0])), (ro, .inl (G.2.2.1, 8, .inr (.inr (.inr (.inr (fr)))))), (r0, .inr (3, [.int rv, .int rh, .ref l0, .ref g0])), (l0, .inl (G.2.1, 4, .inl (f01))), (g0, .inl (G.2.1, 4, .inl (f02))), (su, .inr (4, [.ref wa, .ref sl, .ref sh, .ref sa, .int f1])), (cu, .inr (1, [.ref wa, .ref wb, .ref cc, .ref cs, .ref cm, .int f2])), (tr, .inr (5, [.ref wa, .ref cu, .ref tn, .ref tc, .ref ts, .int 0, .int f3])), (co, .inr (0, [.ref wa, .ref wb, .ref cu, .ref cf, .ref cp, .int 0, .int f4]))] H := hP
  have hD : va_D A [(x, .inr (7, [.ref wa, .ref wb, .ref su, .ref cu, .ref tr, .ref co, .ref lo, .ref pk])), (wa, .inr (6, [.ref ro, .int 0, .int 0])), (ro, .inl (G.2.2.1, 8, .inr (.inr (.inr (.inr (fr)))))), (r0, .inr (3, [.int rv, .int rh, .ref l0, .ref g0])), (l0, .inl (G.2.1, 4, .inl (f01))), (g0, .inl (G.2.1, 4, .inl (f02))), (su, .inr (4, [.ref wa, .ref sl, .ref sh, .ref sa, .int f1])), (cu, .inr (1, [.ref wa, .ref wb, .ref cc, .ref cs, .ref cm, .int f2])), (tr, .inr (5, [.ref wa, .ref cu, .ref tn, .ref tc, .ref ts, .int 0, .int f3])), (co, .inr (0, [.ref wa, .ref wb, .ref cu, .ref cf, .ref cp, .int 0, .int f4]))] := hD
  refine W.eq (g2 := F0 m 4 ls []) rfl ?_
  refine lv_aload_n hx hb dX7_rule_4 rfl (lv_at hl 0 rfl) ?_
  refine va_get (D := G.1) (ci := 7) (v := .ref wa) (C := RX7) (T := TX7) (N := 8) hx hb hts hw7 hown hE.1 hP 0 rfl rfl 0 (by decide) hf10 (fun _ h9 => h9) rfl dX7_rule_5 ?_
  refine va_get (D := G.1) (ci := 6) (v := .int 0) (C := RX6) (T := TX6) (N := 3) hx hb hts hw6 hown hE.1 hP 1 rfl rfl 1 (by decide) hf70 (fun _ h9 => h9) rfl dX7_rule_8 ?_
  refine lv_bipush (v := 8) hx hb dX7_rule_11 (by decide) ?_
  refine lv_icmp_lt (tgt := 26) hx hb dX7_rule_13 (by decide) (fun _ => ?_) (fun h9 => absurd (by decide) h9)
  refine lv_aload_n hx hb dX7_rule_26 rfl (lv_at hl 0 rfl) ?_
  refine va_get (D := G.1) (ci := 7) (v := .ref wa) (C := RX7) (T := TX7) (N := 8) hx hb hts hw7 hown hE.1 hP 0 rfl rfl 0 (by decide) hf10 (fun _ h9 => h9) rfl dX7_rule_27 ?_
  refine lv_iload_n hx hb dX7_rule_30 rfl (lv_at hl 1 rfl) ?_
  refine zcall (wr := [(x, .inr (7, [.ref wa, .ref wb, .ref su, .ref cu, .ref tr, .ref co, .ref lo, .ref pk])), (su, .inr (4, [.ref wa, .ref sl, .ref sh, .ref sa, .int f1])), (cu, .inr (1, [.ref wa, .ref wb, .ref cc, .ref cs, .ref cm, .int f2])), (tr, .inr (5, [.ref wa, .ref cu, .ref tn, .ref tc, .ref ts, .int 0, .int f3])), (co, .inr (0, [.ref wa, .ref wb, .ref cu, .ref cf, .ref cp, .int 0, .int f4]))]) (va_runV (As := [.int p0]) (rest := []) ⟨hx, hb, hml, hown, hts⟩ (z_X6_add l G wa ro r0 l0 g0 rv rh p0 (f01) (f02) (fr) hr0 H.size) (cwV 1 hts gX7_rule_X6_add rfl rfl rfl (by decide +kernel) ⟨Nat.le_of_ble_eq_true rfl, Nat.le_of_ble_eq_true rfl⟩) (zPreV (Wc := [(wa, .inr (6, [.ref ro, .int 0, .int 0])), (ro, .inl (G.2.2.1, 8, .inr (.inr (.inr (.inr (fr)))))), (r0, .inr (3, [.int rv, .int rh, .ref l0, .ref g0])), (l0, .inl (G.2.1, 4, .inl (f01))), (g0, .inl (G.2.1, 4, .inl (f02)))]) (q0 := 1) (ci := 6) (q := (RX6, TX6, 3)) hP hD hE hS hA [1, 2, 3, 4, 5] rfl (by decide) rfl rfl) rfl rfl hl.1 rfl (lv_room (Nat.le_of_ble_eq_true rfl)) dX7_rule_31 ⟨Nat.le_of_ble_eq_true rfl, Nat.le_of_ble_eq_true rfl⟩) hP hD hS hA [1, 2, 3, 4, 5] [0, 6, 7, 8, 9] rfl rfl (by decide) (by decide) (fun u2 H locs hP hD hS => ?_)
  have hP : va_P G.1 vwCl [(x, .inr (7, [.ref wa, .ref wb, .ref su, .ref cu, .ref tr, .ref co, .ref lo, .ref pk])), (su, .inr (4, [.ref wa, .ref sl, .ref sh, .ref sa, .int f1])), (cu, .inr (1, [.ref wa, .ref wb, .ref cc, .ref cs, .ref cm, .int f2])), (tr, .inr (5, [.ref wa, .ref cu, .ref tn, .ref tc, .ref ts, .int 0, .int f3])), (co, .inr (0, [.ref wa, .ref wb, .ref cu, .ref cf, .ref cp, .int 0, .int f4])), (wa, .inr (6, [.ref ro, .int 1, .int 0])), (ro, .inl (G.2.2.1, 8, .inr (.inr (.inr (.inr (fr)))))), (r0, .inr (3, [.int p0, .int 0, .ref l0, .ref g0])), (l0, .inl (G.2.1, 4, .inl (upd (upd (upd (upd f01 0 0) 1 0) 2 0) 3 0))), (g0, .inl (G.2.1, 4, .inl (upd (upd (upd (upd f02 0 255) 1 255) 2 1023) 3 3)))] H := hP
  have hD : va_D A [(x, .inr (7, [.ref wa, .ref wb, .ref su, .ref cu, .ref tr, .ref co, .ref lo, .ref pk])), (su, .inr (4, [.ref wa, .ref sl, .ref sh, .ref sa, .int f1])), (cu, .inr (1, [.ref wa, .ref wb, .ref cc, .ref cs, .ref cm, .int f2])), (tr, .inr (5, [.ref wa, .ref cu, .ref tn, .ref tc, .ref ts, .int 0, .int f3])), (co, .inr (0, [.ref wa, .ref wb, .ref cu, .ref cf, .ref cp, .int 0, .int f4])), (wa, .inr (6, [.ref ro, .int 1, .int 0])), (ro, .inl (G.2.2.1, 8, .inr (.inr (.inr (.inr (fr)))))), (r0, .inr (3, [.int p0, .int 0, .ref l0, .ref g0])), (l0, .inl (G.2.1, 4, .inl (upd (upd (upd (upd f01 0 0) 1 0) 2 0) 3 0))), (g0, .inl (G.2.1, 4, .inl (upd (upd (upd (upd f02 0 255) 1 255) 2 1023) 3 3)))] := hD
  refine W.eq (g2 := F0 m 34 ls []) rfl ?_
  refine lv_aload_n hx hb dX7_rule_34 rfl (lv_at hl 0 rfl) ?_
  refine zcall (wr := [(wa, .inr (6, [.ref ro, .int 1, .int 0])), (ro, .inl (G.2.2.1, 8, .inr (.inr (.inr (.inr (fr)))))), (r0, .inr (3, [.int p0, .int 0, .ref l0, .ref g0])), (l0, .inl (G.2.1, 4, .inl (upd (upd (upd (upd f01 0 0) 1 0) 2 0) 3 0))), (g0, .inl (G.2.1, 4, .inl (upd (upd (upd (upd f02 0 255) 1 255) 2 1023) 3 3)))]) (va_runV (As := []) (rest := []) ⟨hx, hb, hml, hown, hts⟩ (z_X7_outdate l G x wa wb su cu tr co lo pk sl sh sa cc cs cm tn tc ts cf cp f1 f2 f3 f4 H.size) (cwV 0 hts gX7_rule_X7_outdate rfl rfl rfl (by decide +kernel) ⟨Nat.le_of_ble_eq_true rfl, Nat.le_of_ble_eq_true rfl⟩) (zPreV (Wc := [(x, .inr (7, [.ref wa, .ref wb, .ref su, .ref cu, .ref tr, .ref co, .ref lo, .ref pk])), (su, .inr (4, [.ref wa, .ref sl, .ref sh, .ref sa, .int f1])), (cu, .inr (1, [.ref wa, .ref wb, .ref cc, .ref cs, .ref cm, .int f2])), (tr, .inr (5, [.ref wa, .ref cu, .ref tn, .ref tc, .ref ts, .int 0, .int f3])), (co, .inr (0, [.ref wa, .ref wb, .ref cu, .ref cf, .ref cp, .int 0, .int f4]))]) (q0 := 0) (ci := 7) (q := (RX7, TX7, 8)) hP hD hE hS hA [0, 1, 2, 3, 4] rfl (by decide) rfl rfl) rfl rfl hl.1 rfl (lv_room (Nat.le_of_ble_eq_true rfl)) dX7_rule_35 ⟨Nat.le_of_ble_eq_true rfl, Nat.le_of_ble_eq_true rfl⟩) hP hD hS hA [0, 1, 2, 3, 4] [5, 6, 7, 8, 9] rfl rfl (by decide) (by decide) (fun u3 H locs hP hD hS => ?_)
  have hP : va_P G.1 vwCl [(wa, .inr (6, [.ref ro, .int 1, .int 0])), (ro, .inl (G.2.2.1, 8, .inr (.inr (.inr (.inr (fr)))))), (r0, .inr (3, [.int p0, .int 0, .ref l0, .ref g0])), (l0, .inl (G.2.1, 4, .inl (upd (upd (upd (upd f01 0 0) 1 0) 2 0) 3 0))), (g0, .inl (G.2.1, 4, .inl (upd (upd (upd (upd f02 0 255) 1 255) 2 1023) 3 3))), (x, .inr (7, [.ref wa, .ref wb, .ref su, .ref cu, .ref tr, .ref co, .ref lo, .ref pk])), (su, .inr (4, [.ref wa, .ref sl, .ref sh, .ref sa, .int 0])), (cu, .inr (1, [.ref wa, .ref wb, .ref cc, .ref cs, .ref cm, .int 0])), (tr, .inr (5, [.ref wa, .ref cu, .ref tn, .ref tc, .ref ts, .int 0, .int 0])), (co, .inr (0, [.ref wa, .ref wb, .ref cu, .ref cf, .ref cp, .int 0, .int 0]))] H := hP
  have hD : va_D A [(wa, .inr (6, [.ref ro, .int 1, .int 0])), (ro, .inl (G.2.2.1, 8, .inr (.inr (.inr (.inr (fr)))))), (r0, .inr (3, [.int p0, .int 0, .ref l0, .ref g0])), (l0, .inl (G.2.1, 4, .inl (upd (upd (upd (upd f01 0 0) 1 0) 2 0) 3 0))), (g0, .inl (G.2.1, 4, .inl (upd (upd (upd (upd f02 0 255) 1 255) 2 1023) 3 3))), (x, .inr (7, [.ref wa, .ref wb, .ref su, .ref cu, .ref tr, .ref co, .ref lo, .ref pk])), (su, .inr (4, [.ref wa, .ref sl, .ref sh, .ref sa, .int 0])), (cu, .inr (1, [.ref wa, .ref wb, .ref cc, .ref cs, .ref cm, .int 0])), (tr, .inr (5, [.ref wa, .ref cu, .ref tn, .ref tc, .ref ts, .int 0, .int 0])), (co, .inr (0, [.ref wa, .ref wb, .ref cu, .ref cf, .ref cp, .int 0, .int 0]))] := hD
  refine W.eq (g2 := F0 m 38 ls []) rfl ?_
  refine lv_aload_n hx hb dX7_rule_38 rfl (lv_at hl 0 rfl) ?_
  refine va_get (D := G.1) (ci := 7) (v := .ref wa) (C := RX7) (T := TX7) (N := 8) hx hb hts hw7 hown hE.1 hP 5 rfl rfl 0 (by decide) hf10 (fun _ h9 => h9) rfl dX7_rule_39 ?_
  refine va_get (D := G.1) (ci := 6) (v := .int 1) (C := RX6) (T := TX6) (N := 3) hx hb hts hw6 hown hE.1 hP 0 rfl rfl 1 (by decide) hf70 (fun _ h9 => h9) rfl dX7_rule_42 ?_
  refine lv_iconst (v := 1) hx hb dX7_rule_45 (by decide) ?_
  refine lv_isub hx hb dX7_rule_46 ?_
  refine zti (v := 0) (by decide) ?_
  exact zend_i hx hb hr hlocks (fun k => [].getD k 0) hP hD hS (Nat.le_of_ble_eq_true rfl) (Nat.le_of_ble_eq_true rfl) dX7_rule_47

set_option maxHeartbeats 4000000 in
set_option maxRecDepth 100000 in
theorem z_X7_ruleT (l : Launch) (G : zG) (x : Nat) (wa : Nat) (wb : Nat) (su : Nat) (cu : Nat) (tr : Nat) (co : Nat) (lo : Nat) (pk : Nat) (p0 : Int32) (hl0 : l.stackTraces = false) (hv : p0 < 0 ∨ (¬ p0 < 0 ∧ ¬ p0 ≤ 2)) : zT l G yX7_rule wsX7_rule { frames := 7, cells := 1, slots := 6, locals := 102 } [(x, .inr (7, [.ref wa, .ref wb, .ref su, .ref cu, .ref tr, .ref co, .ref lo, .ref pk]))] [.ref x, .int p0] "java/lang/IllegalArgumentException" [(x, .inr (7, [.ref wa, .ref wb, .ref su, .ref cu, .ref tr, .ref co, .ref lo, .ref pk]))] 1 6 := by
  refine zT_of (cc := cX7_rule) (maxL := 2) (rt := (some .int)) (by decide) rfl (Nat.le_of_ble_eq_true rfl) ?_
  intro p e s m below meth c A ls hx hb hml hr hts hown hlocks ht hA hE hP hD hS hl
  have hl : lv_has ls 2 [(0, .ref x), (1, .int p0)] := hl
  have hown : s.vm.findClass RX7 = some m.cls := hown
  have hP : va_P G.1 vwCl [(x, .inr (7, [.ref wa, .ref wb, .ref su, .ref cu, .ref tr, .ref co, .ref lo, .ref pk]))] s.heap := hP
  refine lv_iload_n hx hb dX7_rule_0 rfl (lv_at hl 1 rfl) ?_
  refine zcallT (wr := [(x, .inr (7, [.ref wa, .ref wb, .ref su, .ref cu, .ref tr, .ref co, .ref lo, .ref pk]))]) (vx_runS (As := [.int p0]) (rest := []) ⟨hx, hb, hml, hown, hts⟩ (z_X7_needVerdictT l G p0 hl0 hv s.heap.size) (va_cwS 1 hts gX7_rule_X7_needVerdict rfl rfl rfl (by decide +kernel) ⟨Nat.le_of_ble_eq_true rfl, Nat.le_of_ble_eq_true rfl⟩) (zPre (Wc := []) hP hD hE hS hA [] rfl (by decide)) rfl rfl hl.1 rfl (lv_room (Nat.le_of_ble_eq_true rfl)) dX7_rule_1 ⟨Nat.le_of_ble_eq_true rfl, Nat.le_of_ble_eq_true rfl⟩) hP hD hS hA [] [0] rfl rfl (by decide) (by decide) (fun ce q9 H locs hP hD hS hce hcv hcl => ?_)
  have hP : va_P G.1 vwCl [(x, .inr (7, [.ref wa, .ref wb, .ref su, .ref cu, .ref tr, .ref co, .ref lo, .ref pk]))] H := hP
  have hD : va_D A [(x, .inr (7, [.ref wa, .ref wb, .ref su, .ref cu, .ref tr, .ref co, .ref lo, .ref pk]))] := hD
  exact zout ht hlocks hP hD hS hce hcv hcl (Nat.le_of_ble_eq_true rfl) (Nat.le_of_ble_eq_true rfl)

set_option maxHeartbeats 4000000 in
set_option maxRecDepth 100000 in
theorem z_X7_narrow (l : Launch) (G : zG) (x : Nat) (wa : Nat) (wb : Nat) (su : Nat) (cu : Nat) (tr : Nat) (co : Nat) (lo : Nat) (pk : Nat) (ro : Nat) (p0 : Int32) (p1 : Int32) (p2 : Int32) (p3 : Int32) (hl0 : l.stackTraces = false) : zT l G yX7_narrow wsX7_narrow { frames := 7, cells := 1, slots := 6, locals := 103 } [(x, .inr (7, [.ref wa, .ref wb, .ref su, .ref cu, .ref tr, .ref co, .ref lo, .ref pk])), (wa, .inr (6, [.ref ro, .int 0, .int 0]))] [.ref x, .int p0, .int p1, .int p2, .int p3] "java/lang/IndexOutOfBoundsException" [(x, .inr (7, [.ref wa, .ref wb, .ref su, .ref cu, .ref tr, .ref co, .ref lo, .ref pk])), (wa, .inr (6, [.ref ro, .int 0, .int 0]))] 1 6 := by
  refine zT_of (cc := cX7_narrow) (maxL := 6) (rt := (some .int)) (by decide) rfl (Nat.le_of_ble_eq_true rfl) ?_
  intro p e s m below meth c A ls hx hb hml hr hts hown hlocks ht hA hE hP hD hS hl
  have hl : lv_has ls 6 [(0, .ref x), (1, .int p0), (2, .int p1), (3, .int p2), (4, .int p3)] := hl
  have hown : s.vm.findClass RX7 = some m.cls := hown
  have hP : va_P G.1 vwCl [(x, .inr (7, [.ref wa, .ref wb, .ref su, .ref cu, .ref tr, .ref co, .ref lo, .ref pk])), (wa, .inr (6, [.ref ro, .int 0, .int 0]))] s.heap := hP
  refine lv_aload_n hx hb dX7_narrow_0 rfl (lv_at hl 0 rfl) ?_
  refine lv_iload_n hx hb dX7_narrow_1 rfl (lv_at hl 1 rfl) ?_
  refine zcallT (wr := []) (vx_runV (As := [.int p0]) (rest := []) ⟨hx, hb, hml, hown, hts⟩ (z_X7_needRule l G x wa wb su cu tr co lo pk ro p0 hl0 s.heap.size) (cwV 1 hts gX7_narrow_X7_needRule rfl rfl rfl (by decide +kernel) ⟨Nat.le_of_ble_eq_true rfl, Nat.le_of_ble_eq_true rfl⟩) (zPreV (Wc := [(x, .inr (7, [.ref wa, .ref wb, .ref su, .ref cu, .ref tr, .ref co, .ref lo, .ref pk])), (wa, .inr (6, [.ref ro, .int 0, .int 0]))]) (q0 := 0) (ci := 7) (q := (RX7, TX7, 8)) hP hD hE hS hA [0, 1] rfl (by decide) rfl rfl) rfl rfl hl.1 rfl (lv_room (Nat.le_of_ble_eq_true rfl)) dX7_narrow_2 ⟨Nat.le_of_ble_eq_true rfl, Nat.le_of_ble_eq_true rfl⟩) hP hD hS hA [0, 1] [] rfl rfl (by decide) (by decide) (fun ce q9 H locs hP hD hS hce hcv hcl => ?_)
  have hP : va_P G.1 vwCl [(x, .inr (7, [.ref wa, .ref wb, .ref su, .ref cu, .ref tr, .ref co, .ref lo, .ref pk])), (wa, .inr (6, [.ref ro, .int 0, .int 0]))] H := hP
  have hD : va_D A [(x, .inr (7, [.ref wa, .ref wb, .ref su, .ref cu, .ref tr, .ref co, .ref lo, .ref pk])), (wa, .inr (6, [.ref ro, .int 0, .int 0]))] := hD
  exact zout ht hlocks hP hD hS hce hcv hcl (Nat.le_of_ble_eq_true rfl) (Nat.le_of_ble_eq_true rfl)

set_option maxHeartbeats 4000000 in
set_option maxRecDepth 100000 in
theorem z_X7_turn (l : Launch) (G : zG) (x : Nat) (wa : Nat) (wb : Nat) (su : Nat) (cu : Nat) (tr : Nat) (co : Nat) (lo : Nat) (pk : Nat) (ro : Nat) (p0 : Int32) (p1 : Int32) (hl0 : l.stackTraces = false) : zT l G yX7_turn wsX7_turn { frames := 7, cells := 1, slots := 6, locals := 103 } [(x, .inr (7, [.ref wa, .ref wb, .ref su, .ref cu, .ref tr, .ref co, .ref lo, .ref pk])), (wa, .inr (6, [.ref ro, .int 0, .int 0]))] [.ref x, .int p0, .int p1] "java/lang/IndexOutOfBoundsException" [(x, .inr (7, [.ref wa, .ref wb, .ref su, .ref cu, .ref tr, .ref co, .ref lo, .ref pk])), (wa, .inr (6, [.ref ro, .int 0, .int 0]))] 1 6 := by
  refine zT_of (cc := cX7_turn) (maxL := 4) (rt := (some .int)) (by decide) rfl (Nat.le_of_ble_eq_true rfl) ?_
  intro p e s m below meth c A ls hx hb hml hr hts hown hlocks ht hA hE hP hD hS hl
  have hl : lv_has ls 4 [(0, .ref x), (1, .int p0), (2, .int p1)] := hl
  have hown : s.vm.findClass RX7 = some m.cls := hown
  have hP : va_P G.1 vwCl [(x, .inr (7, [.ref wa, .ref wb, .ref su, .ref cu, .ref tr, .ref co, .ref lo, .ref pk])), (wa, .inr (6, [.ref ro, .int 0, .int 0]))] s.heap := hP
  refine lv_aload_n hx hb dX7_turn_0 rfl (lv_at hl 0 rfl) ?_
  refine lv_iload_n hx hb dX7_turn_1 rfl (lv_at hl 1 rfl) ?_
  refine zcallT (wr := []) (vx_runV (As := [.int p0]) (rest := []) ⟨hx, hb, hml, hown, hts⟩ (z_X7_needRule l G x wa wb su cu tr co lo pk ro p0 hl0 s.heap.size) (cwV 1 hts gX7_turn_X7_needRule rfl rfl rfl (by decide +kernel) ⟨Nat.le_of_ble_eq_true rfl, Nat.le_of_ble_eq_true rfl⟩) (zPreV (Wc := [(x, .inr (7, [.ref wa, .ref wb, .ref su, .ref cu, .ref tr, .ref co, .ref lo, .ref pk])), (wa, .inr (6, [.ref ro, .int 0, .int 0]))]) (q0 := 0) (ci := 7) (q := (RX7, TX7, 8)) hP hD hE hS hA [0, 1] rfl (by decide) rfl rfl) rfl rfl hl.1 rfl (lv_room (Nat.le_of_ble_eq_true rfl)) dX7_turn_2 ⟨Nat.le_of_ble_eq_true rfl, Nat.le_of_ble_eq_true rfl⟩) hP hD hS hA [0, 1] [] rfl rfl (by decide) (by decide) (fun ce q9 H locs hP hD hS hce hcv hcl => ?_)
  have hP : va_P G.1 vwCl [(x, .inr (7, [.ref wa, .ref wb, .ref su, .ref cu, .ref tr, .ref co, .ref lo, .ref pk])), (wa, .inr (6, [.ref ro, .int 0, .int 0]))] H := hP
  have hD : va_D A [(x, .inr (7, [.ref wa, .ref wb, .ref su, .ref cu, .ref tr, .ref co, .ref lo, .ref pk])), (wa, .inr (6, [.ref ro, .int 0, .int 0]))] := hD
  exact zout ht hlocks hP hD hS hce hcv hcl (Nat.le_of_ble_eq_true rfl) (Nat.le_of_ble_eq_true rfl)

set_option maxHeartbeats 4000000 in
set_option maxRecDepth 100000 in
theorem z_X7_move (l : Launch) (G : zG) (x : Nat) (wa : Nat) (wb : Nat) (su : Nat) (cu : Nat) (tr : Nat) (co : Nat) (lo : Nat) (pk : Nat) (ro : Nat) (p0 : Int32) (p1 : Int32) (hl0 : l.stackTraces = false) : zT l G yX7_move wsX7_move { frames := 7, cells := 1, slots := 6, locals := 103 } [(x, .inr (7, [.ref wa, .ref wb, .ref su, .ref cu, .ref tr, .ref co, .ref lo, .ref pk])), (wa, .inr (6, [.ref ro, .int 0, .int 0]))] [.ref x, .int p0, .int p1] "java/lang/IndexOutOfBoundsException" [(x, .inr (7, [.ref wa, .ref wb, .ref su, .ref cu, .ref tr, .ref co, .ref lo, .ref pk])), (wa, .inr (6, [.ref ro, .int 0, .int 0]))] 1 6 := by
  refine zT_of (cc := cX7_move) (maxL := 3) (rt := (some .int)) (by decide) rfl (Nat.le_of_ble_eq_true rfl) ?_
  intro p e s m below meth c A ls hx hb hml hr hts hown hlocks ht hA hE hP hD hS hl
  have hl : lv_has ls 3 [(0, .ref x), (1, .int p0), (2, .int p1)] := hl
  have hown : s.vm.findClass RX7 = some m.cls := hown
  have hP : va_P G.1 vwCl [(x, .inr (7, [.ref wa, .ref wb, .ref su, .ref cu, .ref tr, .ref co, .ref lo, .ref pk])), (wa, .inr (6, [.ref ro, .int 0, .int 0]))] s.heap := hP
  refine lv_aload_n hx hb dX7_move_0 rfl (lv_at hl 0 rfl) ?_
  refine lv_iload_n hx hb dX7_move_1 rfl (lv_at hl 1 rfl) ?_
  refine zcallT (wr := []) (vx_runV (As := [.int p0]) (rest := []) ⟨hx, hb, hml, hown, hts⟩ (z_X7_needRule l G x wa wb su cu tr co lo pk ro p0 hl0 s.heap.size) (cwV 1 hts gX7_move_X7_needRule rfl rfl rfl (by decide +kernel) ⟨Nat.le_of_ble_eq_true rfl, Nat.le_of_ble_eq_true rfl⟩) (zPreV (Wc := [(x, .inr (7, [.ref wa, .ref wb, .ref su, .ref cu, .ref tr, .ref co, .ref lo, .ref pk])), (wa, .inr (6, [.ref ro, .int 0, .int 0]))]) (q0 := 0) (ci := 7) (q := (RX7, TX7, 8)) hP hD hE hS hA [0, 1] rfl (by decide) rfl rfl) rfl rfl hl.1 rfl (lv_room (Nat.le_of_ble_eq_true rfl)) dX7_move_2 ⟨Nat.le_of_ble_eq_true rfl, Nat.le_of_ble_eq_true rfl⟩) hP hD hS hA [0, 1] [] rfl rfl (by decide) (by decide) (fun ce q9 H locs hP hD hS hce hcv hcl => ?_)
  have hP : va_P G.1 vwCl [(x, .inr (7, [.ref wa, .ref wb, .ref su, .ref cu, .ref tr, .ref co, .ref lo, .ref pk])), (wa, .inr (6, [.ref ro, .int 0, .int 0]))] H := hP
  have hD : va_D A [(x, .inr (7, [.ref wa, .ref wb, .ref su, .ref cu, .ref tr, .ref co, .ref lo, .ref pk])), (wa, .inr (6, [.ref ro, .int 0, .int 0]))] := hD
  exact zout ht hlocks hP hD hS hce hcv hcl (Nat.le_of_ble_eq_true rfl) (Nat.le_of_ble_eq_true rfl)

set_option maxHeartbeats 4000000 in
set_option maxRecDepth 100000 in
theorem z_X7_drop (l : Launch) (G : zG) (x : Nat) (wa : Nat) (wb : Nat) (su : Nat) (cu : Nat) (tr : Nat) (co : Nat) (lo : Nat) (pk : Nat) (ro : Nat) (p0 : Int32) (hl0 : l.stackTraces = false) : zT l G yX7_drop wsX7_drop { frames := 7, cells := 1, slots := 6, locals := 103 } [(x, .inr (7, [.ref wa, .ref wb, .ref su, .ref cu, .ref tr, .ref co, .ref lo, .ref pk])), (wa, .inr (6, [.ref ro, .int 0, .int 0]))] [.ref x, .int p0] "java/lang/IndexOutOfBoundsException" [(x, .inr (7, [.ref wa, .ref wb, .ref su, .ref cu, .ref tr, .ref co, .ref lo, .ref pk])), (wa, .inr (6, [.ref ro, .int 0, .int 0]))] 1 6 := by
  refine zT_of (cc := cX7_drop) (maxL := 2) (rt := (some .int)) (by decide) rfl (Nat.le_of_ble_eq_true rfl) ?_
  intro p e s m below meth c A ls hx hb hml hr hts hown hlocks ht hA hE hP hD hS hl
  have hl : lv_has ls 2 [(0, .ref x), (1, .int p0)] := hl
  have hown : s.vm.findClass RX7 = some m.cls := hown
  have hP : va_P G.1 vwCl [(x, .inr (7, [.ref wa, .ref wb, .ref su, .ref cu, .ref tr, .ref co, .ref lo, .ref pk])), (wa, .inr (6, [.ref ro, .int 0, .int 0]))] s.heap := hP
  refine lv_aload_n hx hb dX7_drop_0 rfl (lv_at hl 0 rfl) ?_
  refine lv_iload_n hx hb dX7_drop_1 rfl (lv_at hl 1 rfl) ?_
  refine zcallT (wr := []) (vx_runV (As := [.int p0]) (rest := []) ⟨hx, hb, hml, hown, hts⟩ (z_X7_needRule l G x wa wb su cu tr co lo pk ro p0 hl0 s.heap.size) (cwV 1 hts gX7_drop_X7_needRule rfl rfl rfl (by decide +kernel) ⟨Nat.le_of_ble_eq_true rfl, Nat.le_of_ble_eq_true rfl⟩) (zPreV (Wc := [(x, .inr (7, [.ref wa, .ref wb, .ref su, .ref cu, .ref tr, .ref co, .ref lo, .ref pk])), (wa, .inr (6, [.ref ro, .int 0, .int 0]))]) (q0 := 0) (ci := 7) (q := (RX7, TX7, 8)) hP hD hE hS hA [0, 1] rfl (by decide) rfl rfl) rfl rfl hl.1 rfl (lv_room (Nat.le_of_ble_eq_true rfl)) dX7_drop_2 ⟨Nat.le_of_ble_eq_true rfl, Nat.le_of_ble_eq_true rfl⟩) hP hD hS hA [0, 1] [] rfl rfl (by decide) (by decide) (fun ce q9 H locs hP hD hS hce hcv hcl => ?_)
  have hP : va_P G.1 vwCl [(x, .inr (7, [.ref wa, .ref wb, .ref su, .ref cu, .ref tr, .ref co, .ref lo, .ref pk])), (wa, .inr (6, [.ref ro, .int 0, .int 0]))] H := hP
  have hD : va_D A [(x, .inr (7, [.ref wa, .ref wb, .ref su, .ref cu, .ref tr, .ref co, .ref lo, .ref pk])), (wa, .inr (6, [.ref ro, .int 0, .int 0]))] := hD
  exact zout ht hlocks hP hD hS hce hcv hcl (Nat.le_of_ble_eq_true rfl) (Nat.le_of_ble_eq_true rfl)

set_option maxHeartbeats 4000000 in
set_option maxRecDepth 100000 in
theorem z_X7_ofRule (l : Launch) (G : zG) (x : Nat) (wa : Nat) (wb : Nat) (su : Nat) (cu : Nat) (tr : Nat) (co : Nat) (lo : Nat) (pk : Nat) (ro : Nat) (p0 : Int32) (p1 : Int32) (hl0 : l.stackTraces = false) : zT l G yX7_ofRule wsX7_ofRule { frames := 7, cells := 1, slots := 6, locals := 103 } [(x, .inr (7, [.ref wa, .ref wb, .ref su, .ref cu, .ref tr, .ref co, .ref lo, .ref pk])), (wa, .inr (6, [.ref ro, .int 0, .int 0]))] [.ref x, .int p0, .int p1] "java/lang/IndexOutOfBoundsException" [(x, .inr (7, [.ref wa, .ref wb, .ref su, .ref cu, .ref tr, .ref co, .ref lo, .ref pk])), (wa, .inr (6, [.ref ro, .int 0, .int 0]))] 1 6 := by
  refine zT_of (cc := cX7_ofRule) (maxL := 5) (rt := (some .int)) (by decide) rfl (Nat.le_of_ble_eq_true rfl) ?_
  intro p e s m below meth c A ls hx hb hml hr hts hown hlocks ht hA hE hP hD hS hl
  have hl : lv_has ls 5 [(0, .ref x), (1, .int p0), (2, .int p1)] := hl
  have hown : s.vm.findClass RX7 = some m.cls := hown
  have hP : va_P G.1 vwCl [(x, .inr (7, [.ref wa, .ref wb, .ref su, .ref cu, .ref tr, .ref co, .ref lo, .ref pk])), (wa, .inr (6, [.ref ro, .int 0, .int 0]))] s.heap := hP
  refine lv_aload_n hx hb dX7_ofRule_0 rfl (lv_at hl 0 rfl) ?_
  refine lv_iload_n hx hb dX7_ofRule_1 rfl (lv_at hl 1 rfl) ?_
  refine zcallT (wr := []) (vx_runV (As := [.int p0]) (rest := []) ⟨hx, hb, hml, hown, hts⟩ (z_X7_needRule l G x wa wb su cu tr co lo pk ro p0 hl0 s.heap.size) (cwV 1 hts gX7_ofRule_X7_needRule rfl rfl rfl (by decide +kernel) ⟨Nat.le_of_ble_eq_true rfl, Nat.le_of_ble_eq_true rfl⟩) (zPreV (Wc := [(x, .inr (7, [.ref wa, .ref wb, .ref su, .ref cu, .ref tr, .ref co, .ref lo, .ref pk])), (wa, .inr (6, [.ref ro, .int 0, .int 0]))]) (q0 := 0) (ci := 7) (q := (RX7, TX7, 8)) hP hD hE hS hA [0, 1] rfl (by decide) rfl rfl) rfl rfl hl.1 rfl (lv_room (Nat.le_of_ble_eq_true rfl)) dX7_ofRule_2 ⟨Nat.le_of_ble_eq_true rfl, Nat.le_of_ble_eq_true rfl⟩) hP hD hS hA [0, 1] [] rfl rfl (by decide) (by decide) (fun ce q9 H locs hP hD hS hce hcv hcl => ?_)
  have hP : va_P G.1 vwCl [(x, .inr (7, [.ref wa, .ref wb, .ref su, .ref cu, .ref tr, .ref co, .ref lo, .ref pk])), (wa, .inr (6, [.ref ro, .int 0, .int 0]))] H := hP
  have hD : va_D A [(x, .inr (7, [.ref wa, .ref wb, .ref su, .ref cu, .ref tr, .ref co, .ref lo, .ref pk])), (wa, .inr (6, [.ref ro, .int 0, .int 0]))] := hD
  exact zout ht hlocks hP hD hS hce hcv hcl (Nat.le_of_ble_eq_true rfl) (Nat.le_of_ble_eq_true rfl)

set_option maxHeartbeats 4000000 in
set_option maxRecDepth 100000 in
theorem z_X7_decides (l : Launch) (G : zG) (x : Nat) (wa : Nat) (wb : Nat) (su : Nat) (cu : Nat) (tr : Nat) (co : Nat) (lo : Nat) (pk : Nat) (ro : Nat) (p0 : Int32) (hl0 : l.stackTraces = false) : zT l G yX7_decides wsX7_decides { frames := 7, cells := 1, slots := 6, locals := 103 } [(x, .inr (7, [.ref wa, .ref wb, .ref su, .ref cu, .ref tr, .ref co, .ref lo, .ref pk])), (wa, .inr (6, [.ref ro, .int 0, .int 0]))] [.ref x, .int p0] "java/lang/IndexOutOfBoundsException" [(x, .inr (7, [.ref wa, .ref wb, .ref su, .ref cu, .ref tr, .ref co, .ref lo, .ref pk])), (wa, .inr (6, [.ref ro, .int 0, .int 0]))] 1 6 := by
  refine zT_of (cc := cX7_decides) (maxL := 2) (rt := (some .int)) (by decide) rfl (Nat.le_of_ble_eq_true rfl) ?_
  intro p e s m below meth c A ls hx hb hml hr hts hown hlocks ht hA hE hP hD hS hl
  have hl : lv_has ls 2 [(0, .ref x), (1, .int p0)] := hl
  have hown : s.vm.findClass RX7 = some m.cls := hown
  have hP : va_P G.1 vwCl [(x, .inr (7, [.ref wa, .ref wb, .ref su, .ref cu, .ref tr, .ref co, .ref lo, .ref pk])), (wa, .inr (6, [.ref ro, .int 0, .int 0]))] s.heap := hP
  refine lv_aload_n hx hb dX7_decides_0 rfl (lv_at hl 0 rfl) ?_
  refine lv_iload_n hx hb dX7_decides_1 rfl (lv_at hl 1 rfl) ?_
  refine zcallT (wr := []) (vx_runV (As := [.int p0]) (rest := []) ⟨hx, hb, hml, hown, hts⟩ (z_X7_needRule l G x wa wb su cu tr co lo pk ro p0 hl0 s.heap.size) (cwV 1 hts gX7_decides_X7_needRule rfl rfl rfl (by decide +kernel) ⟨Nat.le_of_ble_eq_true rfl, Nat.le_of_ble_eq_true rfl⟩) (zPreV (Wc := [(x, .inr (7, [.ref wa, .ref wb, .ref su, .ref cu, .ref tr, .ref co, .ref lo, .ref pk])), (wa, .inr (6, [.ref ro, .int 0, .int 0]))]) (q0 := 0) (ci := 7) (q := (RX7, TX7, 8)) hP hD hE hS hA [0, 1] rfl (by decide) rfl rfl) rfl rfl hl.1 rfl (lv_room (Nat.le_of_ble_eq_true rfl)) dX7_decides_2 ⟨Nat.le_of_ble_eq_true rfl, Nat.le_of_ble_eq_true rfl⟩) hP hD hS hA [0, 1] [] rfl rfl (by decide) (by decide) (fun ce q9 H locs hP hD hS hce hcv hcl => ?_)
  have hP : va_P G.1 vwCl [(x, .inr (7, [.ref wa, .ref wb, .ref su, .ref cu, .ref tr, .ref co, .ref lo, .ref pk])), (wa, .inr (6, [.ref ro, .int 0, .int 0]))] H := hP
  have hD : va_D A [(x, .inr (7, [.ref wa, .ref wb, .ref su, .ref cu, .ref tr, .ref co, .ref lo, .ref pk])), (wa, .inr (6, [.ref ro, .int 0, .int 0]))] := hD
  exact zout ht hlocks hP hD hS hce hcv hcl (Nat.le_of_ble_eq_true rfl) (Nat.le_of_ble_eq_true rfl)

set_option maxHeartbeats 4000000 in
set_option maxRecDepth 100000 in
theorem z_X7_state (l : Launch) (G : zG) (x : Nat) (wa : Nat) (wb : Nat) (su : Nat) (cu : Nat) (tr : Nat) (co : Nat) (lo : Nat) (pk : Nat) (ro : Nat) (p0 : Int32) (hl0 : l.stackTraces = false) : zT l G yX7_state wsX7_state { frames := 7, cells := 1, slots := 6, locals := 103 } [(x, .inr (7, [.ref wa, .ref wb, .ref su, .ref cu, .ref tr, .ref co, .ref lo, .ref pk])), (wa, .inr (6, [.ref ro, .int 0, .int 0]))] [.ref x, .int p0] "java/lang/IndexOutOfBoundsException" [(x, .inr (7, [.ref wa, .ref wb, .ref su, .ref cu, .ref tr, .ref co, .ref lo, .ref pk])), (wa, .inr (6, [.ref ro, .int 0, .int 0]))] 1 6 := by
  refine zT_of (cc := cX7_state) (maxL := 3) (rt := (some .int)) (by decide) rfl (Nat.le_of_ble_eq_true rfl) ?_
  intro p e s m below meth c A ls hx hb hml hr hts hown hlocks ht hA hE hP hD hS hl
  have hl : lv_has ls 3 [(0, .ref x), (1, .int p0)] := hl
  have hown : s.vm.findClass RX7 = some m.cls := hown
  have hP : va_P G.1 vwCl [(x, .inr (7, [.ref wa, .ref wb, .ref su, .ref cu, .ref tr, .ref co, .ref lo, .ref pk])), (wa, .inr (6, [.ref ro, .int 0, .int 0]))] s.heap := hP
  refine lv_aload_n hx hb dX7_state_0 rfl (lv_at hl 0 rfl) ?_
  refine lv_iload_n hx hb dX7_state_1 rfl (lv_at hl 1 rfl) ?_
  refine zcallT (wr := []) (vx_runV (As := [.int p0]) (rest := []) ⟨hx, hb, hml, hown, hts⟩ (z_X7_needRule l G x wa wb su cu tr co lo pk ro p0 hl0 s.heap.size) (cwV 1 hts gX7_state_X7_needRule rfl rfl rfl (by decide +kernel) ⟨Nat.le_of_ble_eq_true rfl, Nat.le_of_ble_eq_true rfl⟩) (zPreV (Wc := [(x, .inr (7, [.ref wa, .ref wb, .ref su, .ref cu, .ref tr, .ref co, .ref lo, .ref pk])), (wa, .inr (6, [.ref ro, .int 0, .int 0]))]) (q0 := 0) (ci := 7) (q := (RX7, TX7, 8)) hP hD hE hS hA [0, 1] rfl (by decide) rfl rfl) rfl rfl hl.1 rfl (lv_room (Nat.le_of_ble_eq_true rfl)) dX7_state_2 ⟨Nat.le_of_ble_eq_true rfl, Nat.le_of_ble_eq_true rfl⟩) hP hD hS hA [0, 1] [] rfl rfl (by decide) (by decide) (fun ce q9 H locs hP hD hS hce hcv hcl => ?_)
  have hP : va_P G.1 vwCl [(x, .inr (7, [.ref wa, .ref wb, .ref su, .ref cu, .ref tr, .ref co, .ref lo, .ref pk])), (wa, .inr (6, [.ref ro, .int 0, .int 0]))] H := hP
  have hD : va_D A [(x, .inr (7, [.ref wa, .ref wb, .ref su, .ref cu, .ref tr, .ref co, .ref lo, .ref pk])), (wa, .inr (6, [.ref ro, .int 0, .int 0]))] := hD
  exact zout ht hlocks hP hD hS hce hcv hcl (Nat.le_of_ble_eq_true rfl) (Nat.le_of_ble_eq_true rfl)

set_option maxHeartbeats 4000000 in
set_option maxRecDepth 100000 in
theorem z_X7_coveredBy (l : Launch) (G : zG) (x : Nat) (wa : Nat) (wb : Nat) (su : Nat) (cu : Nat) (tr : Nat) (co : Nat) (lo : Nat) (pk : Nat) (ro : Nat) (p0 : Int32) (hl0 : l.stackTraces = false) : zT l G yX7_coveredBy wsX7_coveredBy { frames := 7, cells := 1, slots := 6, locals := 103 } [(x, .inr (7, [.ref wa, .ref wb, .ref su, .ref cu, .ref tr, .ref co, .ref lo, .ref pk])), (wa, .inr (6, [.ref ro, .int 0, .int 0]))] [.ref x, .int p0] "java/lang/IndexOutOfBoundsException" [(x, .inr (7, [.ref wa, .ref wb, .ref su, .ref cu, .ref tr, .ref co, .ref lo, .ref pk])), (wa, .inr (6, [.ref ro, .int 0, .int 0]))] 1 6 := by
  refine zT_of (cc := cX7_coveredBy) (maxL := 2) (rt := (some .int)) (by decide) rfl (Nat.le_of_ble_eq_true rfl) ?_
  intro p e s m below meth c A ls hx hb hml hr hts hown hlocks ht hA hE hP hD hS hl
  have hl : lv_has ls 2 [(0, .ref x), (1, .int p0)] := hl
  have hown : s.vm.findClass RX7 = some m.cls := hown
  have hP : va_P G.1 vwCl [(x, .inr (7, [.ref wa, .ref wb, .ref su, .ref cu, .ref tr, .ref co, .ref lo, .ref pk])), (wa, .inr (6, [.ref ro, .int 0, .int 0]))] s.heap := hP
  refine lv_aload_n hx hb dX7_coveredBy_0 rfl (lv_at hl 0 rfl) ?_
  refine lv_iload_n hx hb dX7_coveredBy_1 rfl (lv_at hl 1 rfl) ?_
  refine zcallT (wr := []) (vx_runV (As := [.int p0]) (rest := []) ⟨hx, hb, hml, hown, hts⟩ (z_X7_needRule l G x wa wb su cu tr co lo pk ro p0 hl0 s.heap.size) (cwV 1 hts gX7_coveredBy_X7_needRule rfl rfl rfl (by decide +kernel) ⟨Nat.le_of_ble_eq_true rfl, Nat.le_of_ble_eq_true rfl⟩) (zPreV (Wc := [(x, .inr (7, [.ref wa, .ref wb, .ref su, .ref cu, .ref tr, .ref co, .ref lo, .ref pk])), (wa, .inr (6, [.ref ro, .int 0, .int 0]))]) (q0 := 0) (ci := 7) (q := (RX7, TX7, 8)) hP hD hE hS hA [0, 1] rfl (by decide) rfl rfl) rfl rfl hl.1 rfl (lv_room (Nat.le_of_ble_eq_true rfl)) dX7_coveredBy_2 ⟨Nat.le_of_ble_eq_true rfl, Nat.le_of_ble_eq_true rfl⟩) hP hD hS hA [0, 1] [] rfl rfl (by decide) (by decide) (fun ce q9 H locs hP hD hS hce hcv hcl => ?_)
  have hP : va_P G.1 vwCl [(x, .inr (7, [.ref wa, .ref wb, .ref su, .ref cu, .ref tr, .ref co, .ref lo, .ref pk])), (wa, .inr (6, [.ref ro, .int 0, .int 0]))] H := hP
  have hD : va_D A [(x, .inr (7, [.ref wa, .ref wb, .ref su, .ref cu, .ref tr, .ref co, .ref lo, .ref pk])), (wa, .inr (6, [.ref ro, .int 0, .int 0]))] := hD
  exact zout ht hlocks hP hD hS hce hcv hcl (Nat.le_of_ble_eq_true rfl) (Nat.le_of_ble_eq_true rfl)

set_option maxHeartbeats 4000000 in
set_option maxRecDepth 100000 in
theorem z_X7_shared (l : Launch) (G : zG) (x : Nat) (wa : Nat) (wb : Nat) (su : Nat) (cu : Nat) (tr : Nat) (co : Nat) (lo : Nat) (pk : Nat) (ro : Nat) (p0 : Int32) (p1 : Int32) (hl0 : l.stackTraces = false) : zT l G yX7_shared wsX7_shared { frames := 7, cells := 1, slots := 6, locals := 103 } [(x, .inr (7, [.ref wa, .ref wb, .ref su, .ref cu, .ref tr, .ref co, .ref lo, .ref pk])), (wa, .inr (6, [.ref ro, .int 0, .int 0]))] [.ref x, .int p0, .int p1] "java/lang/IndexOutOfBoundsException" [(x, .inr (7, [.ref wa, .ref wb, .ref su, .ref cu, .ref tr, .ref co, .ref lo, .ref pk])), (wa, .inr (6, [.ref ro, .int 0, .int 0]))] 1 6 := by
  refine zT_of (cc := cX7_shared) (maxL := 3) (rt := (some .int)) (by decide) rfl (Nat.le_of_ble_eq_true rfl) ?_
  intro p e s m below meth c A ls hx hb hml hr hts hown hlocks ht hA hE hP hD hS hl
  have hl : lv_has ls 3 [(0, .ref x), (1, .int p0), (2, .int p1)] := hl
  have hown : s.vm.findClass RX7 = some m.cls := hown
  have hP : va_P G.1 vwCl [(x, .inr (7, [.ref wa, .ref wb, .ref su, .ref cu, .ref tr, .ref co, .ref lo, .ref pk])), (wa, .inr (6, [.ref ro, .int 0, .int 0]))] s.heap := hP
  refine lv_aload_n hx hb dX7_shared_0 rfl (lv_at hl 0 rfl) ?_
  refine lv_iload_n hx hb dX7_shared_1 rfl (lv_at hl 1 rfl) ?_
  refine zcallT (wr := []) (vx_runV (As := [.int p0]) (rest := []) ⟨hx, hb, hml, hown, hts⟩ (z_X7_needRule l G x wa wb su cu tr co lo pk ro p0 hl0 s.heap.size) (cwV 1 hts gX7_shared_X7_needRule rfl rfl rfl (by decide +kernel) ⟨Nat.le_of_ble_eq_true rfl, Nat.le_of_ble_eq_true rfl⟩) (zPreV (Wc := [(x, .inr (7, [.ref wa, .ref wb, .ref su, .ref cu, .ref tr, .ref co, .ref lo, .ref pk])), (wa, .inr (6, [.ref ro, .int 0, .int 0]))]) (q0 := 0) (ci := 7) (q := (RX7, TX7, 8)) hP hD hE hS hA [0, 1] rfl (by decide) rfl rfl) rfl rfl hl.1 rfl (lv_room (Nat.le_of_ble_eq_true rfl)) dX7_shared_2 ⟨Nat.le_of_ble_eq_true rfl, Nat.le_of_ble_eq_true rfl⟩) hP hD hS hA [0, 1] [] rfl rfl (by decide) (by decide) (fun ce q9 H locs hP hD hS hce hcv hcl => ?_)
  have hP : va_P G.1 vwCl [(x, .inr (7, [.ref wa, .ref wb, .ref su, .ref cu, .ref tr, .ref co, .ref lo, .ref pk])), (wa, .inr (6, [.ref ro, .int 0, .int 0]))] H := hP
  have hD : va_D A [(x, .inr (7, [.ref wa, .ref wb, .ref su, .ref cu, .ref tr, .ref co, .ref lo, .ref pk])), (wa, .inr (6, [.ref ro, .int 0, .int 0]))] := hD
  exact zout ht hlocks hP hD hS hce hcv hcl (Nat.le_of_ble_eq_true rfl) (Nat.le_of_ble_eq_true rfl)

set_option maxHeartbeats 4000000 in
set_option maxRecDepth 100000 in
theorem z_X7_allowedWithout (l : Launch) (G : zG) (x : Nat) (wa : Nat) (wb : Nat) (su : Nat) (cu : Nat) (tr : Nat) (co : Nat) (lo : Nat) (pk : Nat) (ro : Nat) (p0 : Int32) (hl0 : l.stackTraces = false) : zT l G yX7_allowedWithout wsX7_allowedWithout { frames := 7, cells := 1, slots := 6, locals := 103 } [(x, .inr (7, [.ref wa, .ref wb, .ref su, .ref cu, .ref tr, .ref co, .ref lo, .ref pk])), (wa, .inr (6, [.ref ro, .int 0, .int 0]))] [.ref x, .int p0] "java/lang/IndexOutOfBoundsException" [(x, .inr (7, [.ref wa, .ref wb, .ref su, .ref cu, .ref tr, .ref co, .ref lo, .ref pk])), (wa, .inr (6, [.ref ro, .int 0, .int 0]))] 1 6 := by
  refine zT_of (cc := cX7_allowedWithout) (maxL := 2) (rt := (some .int)) (by decide) rfl (Nat.le_of_ble_eq_true rfl) ?_
  intro p e s m below meth c A ls hx hb hml hr hts hown hlocks ht hA hE hP hD hS hl
  have hl : lv_has ls 2 [(0, .ref x), (1, .int p0)] := hl
  have hown : s.vm.findClass RX7 = some m.cls := hown
  have hP : va_P G.1 vwCl [(x, .inr (7, [.ref wa, .ref wb, .ref su, .ref cu, .ref tr, .ref co, .ref lo, .ref pk])), (wa, .inr (6, [.ref ro, .int 0, .int 0]))] s.heap := hP
  refine lv_aload_n hx hb dX7_allowedWithout_0 rfl (lv_at hl 0 rfl) ?_
  refine lv_iload_n hx hb dX7_allowedWithout_1 rfl (lv_at hl 1 rfl) ?_
  refine zcallT (wr := []) (vx_runV (As := [.int p0]) (rest := []) ⟨hx, hb, hml, hown, hts⟩ (z_X7_needRule l G x wa wb su cu tr co lo pk ro p0 hl0 s.heap.size) (cwV 1 hts gX7_allowedWithout_X7_needRule rfl rfl rfl (by decide +kernel) ⟨Nat.le_of_ble_eq_true rfl, Nat.le_of_ble_eq_true rfl⟩) (zPreV (Wc := [(x, .inr (7, [.ref wa, .ref wb, .ref su, .ref cu, .ref tr, .ref co, .ref lo, .ref pk])), (wa, .inr (6, [.ref ro, .int 0, .int 0]))]) (q0 := 0) (ci := 7) (q := (RX7, TX7, 8)) hP hD hE hS hA [0, 1] rfl (by decide) rfl rfl) rfl rfl hl.1 rfl (lv_room (Nat.le_of_ble_eq_true rfl)) dX7_allowedWithout_2 ⟨Nat.le_of_ble_eq_true rfl, Nat.le_of_ble_eq_true rfl⟩) hP hD hS hA [0, 1] [] rfl rfl (by decide) (by decide) (fun ce q9 H locs hP hD hS hce hcv hcl => ?_)
  have hP : va_P G.1 vwCl [(x, .inr (7, [.ref wa, .ref wb, .ref su, .ref cu, .ref tr, .ref co, .ref lo, .ref pk])), (wa, .inr (6, [.ref ro, .int 0, .int 0]))] H := hP
  have hD : va_D A [(x, .inr (7, [.ref wa, .ref wb, .ref su, .ref cu, .ref tr, .ref co, .ref lo, .ref pk])), (wa, .inr (6, [.ref ro, .int 0, .int 0]))] := hD
  exact zout ht hlocks hP hD hS hce hcv hcl (Nat.le_of_ble_eq_true rfl) (Nat.le_of_ble_eq_true rfl)

set_option maxHeartbeats 4000000 in
set_option maxRecDepth 100000 in
theorem z_X7_changedByMove (l : Launch) (G : zG) (x : Nat) (wa : Nat) (wb : Nat) (su : Nat) (cu : Nat) (tr : Nat) (co : Nat) (lo : Nat) (pk : Nat) (ro : Nat) (p0 : Int32) (p1 : Int32) (hl0 : l.stackTraces = false) : zT l G yX7_changedByMove wsX7_changedByMove { frames := 7, cells := 1, slots := 6, locals := 103 } [(x, .inr (7, [.ref wa, .ref wb, .ref su, .ref cu, .ref tr, .ref co, .ref lo, .ref pk])), (wa, .inr (6, [.ref ro, .int 0, .int 0]))] [.ref x, .int p0, .int p1] "java/lang/IndexOutOfBoundsException" [(x, .inr (7, [.ref wa, .ref wb, .ref su, .ref cu, .ref tr, .ref co, .ref lo, .ref pk])), (wa, .inr (6, [.ref ro, .int 0, .int 0]))] 1 6 := by
  refine zT_of (cc := cX7_changedByMove) (maxL := 3) (rt := (some .int)) (by decide) rfl (Nat.le_of_ble_eq_true rfl) ?_
  intro p e s m below meth c A ls hx hb hml hr hts hown hlocks ht hA hE hP hD hS hl
  have hl : lv_has ls 3 [(0, .ref x), (1, .int p0), (2, .int p1)] := hl
  have hown : s.vm.findClass RX7 = some m.cls := hown
  have hP : va_P G.1 vwCl [(x, .inr (7, [.ref wa, .ref wb, .ref su, .ref cu, .ref tr, .ref co, .ref lo, .ref pk])), (wa, .inr (6, [.ref ro, .int 0, .int 0]))] s.heap := hP
  refine lv_aload_n hx hb dX7_changedByMove_0 rfl (lv_at hl 0 rfl) ?_
  refine lv_iload_n hx hb dX7_changedByMove_1 rfl (lv_at hl 1 rfl) ?_
  refine zcallT (wr := []) (vx_runV (As := [.int p0]) (rest := []) ⟨hx, hb, hml, hown, hts⟩ (z_X7_needRule l G x wa wb su cu tr co lo pk ro p0 hl0 s.heap.size) (cwV 1 hts gX7_changedByMove_X7_needRule rfl rfl rfl (by decide +kernel) ⟨Nat.le_of_ble_eq_true rfl, Nat.le_of_ble_eq_true rfl⟩) (zPreV (Wc := [(x, .inr (7, [.ref wa, .ref wb, .ref su, .ref cu, .ref tr, .ref co, .ref lo, .ref pk])), (wa, .inr (6, [.ref ro, .int 0, .int 0]))]) (q0 := 0) (ci := 7) (q := (RX7, TX7, 8)) hP hD hE hS hA [0, 1] rfl (by decide) rfl rfl) rfl rfl hl.1 rfl (lv_room (Nat.le_of_ble_eq_true rfl)) dX7_changedByMove_2 ⟨Nat.le_of_ble_eq_true rfl, Nat.le_of_ble_eq_true rfl⟩) hP hD hS hA [0, 1] [] rfl rfl (by decide) (by decide) (fun ce q9 H locs hP hD hS hce hcv hcl => ?_)
  have hP : va_P G.1 vwCl [(x, .inr (7, [.ref wa, .ref wb, .ref su, .ref cu, .ref tr, .ref co, .ref lo, .ref pk])), (wa, .inr (6, [.ref ro, .int 0, .int 0]))] H := hP
  have hD : va_D A [(x, .inr (7, [.ref wa, .ref wb, .ref su, .ref cu, .ref tr, .ref co, .ref lo, .ref pk])), (wa, .inr (6, [.ref ro, .int 0, .int 0]))] := hD
  exact zout ht hlocks hP hD hS hce hcv hcl (Nat.le_of_ble_eq_true rfl) (Nat.le_of_ble_eq_true rfl)

set_option maxHeartbeats 4000000 in
set_option maxRecDepth 100000 in
theorem z_X7_setLast0 (l : Launch) (G : zG) (x : Nat) (wa : Nat) (wb : Nat) (su : Nat) (cu : Nat) (tr : Nat) (co : Nat) (lo : Nat) (pk : Nat) (ro : Nat) (sl : Nat) (sh : Nat) (sa : Nat) (cc : Nat) (cs : Nat) (cm : Nat) (tn : Nat) (tc : Nat) (ts : Nat) (cf : Nat) (cp : Nat) (f1 : Int32) (f2 : Int32) (f3 : Int32) (f4 : Int32) : zR l G yX7_setLast wsX7_setLast { frames := 1, cells := 0, slots := 0, locals := 20 } [(x, .inr (7, [.ref wa, .ref wb, .ref su, .ref cu, .ref tr, .ref co, .ref lo, .ref pk])), (wa, .inr (6, [.ref ro, .int 0, .int 0])), (su, .inr (4, [.ref wa, .ref sl, .ref sh, .ref sa, .int f1])), (cu, .inr (1, [.ref wa, .ref wb, .ref cc, .ref cs, .ref cm, .int f2])), (tr, .inr (5, [.ref wa, .ref cu, .ref tn, .ref tc, .ref ts, .int 0, .int f3])), (co, .inr (0, [.ref wa, .ref wb, .ref cu, .ref cf, .ref cp, .int 0, .int f4]))] [.ref x, .int 0] (some (.int 0)) (fun u => [(wa, .inr (6, [.ref ro, .int 0, .int 0])), (x, .inr (7, [.ref wa, .ref wb, .ref su, .ref cu, .ref tr, .ref co, .ref lo, .ref pk])), (su, .inr (4, [.ref wa, .ref sl, .ref sh, .ref sa, .int 0])), (cu, .inr (1, [.ref wa, .ref wb, .ref cc, .ref cs, .ref cm, .int 0])), (tr, .inr (5, [.ref wa, .ref cu, .ref tn, .ref tc, .ref ts, .int 0, .int 0])), (co, .inr (0, [.ref wa, .ref wb, .ref cu, .ref cf, .ref cp, .int 0, .int 0]))]) 0 0 := by
  refine zR_of (cc := cX7_setLast) (maxL := 3) (rt := (some .boolean)) (by decide) rfl (Nat.le_of_ble_eq_true rfl) ?_
  intro p e s m below meth c A ls hx hb hml hr hts hown hlocks hin hA hE hP hD hS hl
  have hl : lv_has ls 3 [(0, .ref x), (1, .int 0)] := hl
  have hown : s.vm.findClass RX7 = some m.cls := hown
  have hP : va_P G.1 vwCl [(x, .inr (7, [.ref wa, .ref wb, .ref su, .ref cu, .ref tr, .ref co, .ref lo, .ref pk])), (wa, .inr (6, [.ref ro, .int 0, .int 0])), (su, .inr (4, [.ref wa, .ref sl, .ref sh, .ref sa, .int f1])), (cu, .inr (1, [.ref wa, .ref wb, .ref cc, .ref cs, .ref cm, .int f2])), (tr, .inr (5, [.ref wa, .ref cu, .ref tn, .ref tc, .ref ts, .int 0, .int f3])), (co, .inr (0, [.ref wa, .ref wb, .ref cu, .ref cf, .ref cp, .int 0, .int f4]))] s.heap := hP
  have hw7 : ∀ w ∈ u_ws RX7 TX7 8, w ∈ wsX7_setLast := by decide +kernel
  have hf10 := hts (.fieldLink RX7 10 "Nettle" "wall" "LNettle$Wall;") (by decide +kernel)
  have hw6 : ∀ w ∈ u_ws RX6 TX6 3, w ∈ wsX7_setLast := by decide +kernel
  have hf135 := hts (.fieldLink RX7 135 "Nettle$Wall" "isLastAllow" "Z") (by decide +kernel)
  refine lv_aload_n hx hb dX7_setLast_0 rfl (lv_at hl 0 rfl) ?_
  refine va_get (D := G.1) (ci := 7) (v := .ref wa) (C := RX7) (T := TX7) (N := 8) hx hb hts hw7 hown hE.1 hP 0 rfl rfl 0 (by decide) hf10 (fun _ h9 => h9) rfl dX7_setLast_1 ?_
  refine va_get (D := G.1) (ci := 6) (v := .int 0) (C := RX6) (T := TX6) (N := 3) hx hb hts hw6 hown hE.1 hP 1 rfl rfl 2 (by decide) hf135 (fun _ h9 => h9) rfl dX7_setLast_4 ?_
  refine lv_istore_n (lv' := [(2, .int 0), (0, .ref x), (1, .int 0)]) hx hb dX7_setLast_7 rfl hl (by decide) rfl (fun ls hl => ?_)
  refine lv_aload_n hx hb dX7_setLast_8 rfl (lv_at hl 1 rfl) ?_
  refine va_get (D := G.1) (ci := 7) (v := .ref wa) (C := RX7) (T := TX7) (N := 8) hx hb hts hw7 hown hE.1 hP 0 rfl rfl 0 (by decide) hf10 (fun _ h9 => h9) rfl dX7_setLast_9 ?_
  refine lv_iload_n hx hb dX7_setLast_12 rfl (lv_at hl 2 rfl) ?_
  refine va_put (D := G.1) (ci := 6) (v := .int 0) (ty := tyX6 2) (C := RX6) (T := TX6) (N := 3) hx hb hts hw6 tyX6 tyX6_ok nmX6 hown hE.1 hP hD hS 1 rfl rfl 2 (by decide) hf135 (fun _ h9 => h9) rfl (by decide +kernel) rfl rfl (Nat.le_of_ble_eq_true rfl) dX7_setLast_13 (fun H locs hP hD hS => ?_)
  have hP : va_P G.1 vwCl [(x, .inr (7, [.ref wa, .ref wb, .ref su, .ref cu, .ref tr, .ref co, .ref lo, .ref pk])), (wa, .inr (6, [.ref ro, .int 0, .int 0])), (su, .inr (4, [.ref wa, .ref sl, .ref sh, .ref sa, .int f1])), (cu, .inr (1, [.ref wa, .ref wb, .ref cc, .ref cs, .ref cm, .int f2])), (tr, .inr (5, [.ref wa, .ref cu, .ref tn, .ref tc, .ref ts, .int 0, .int f3])), (co, .inr (0, [.ref wa, .ref wb, .ref cu, .ref cf, .ref cp, .int 0, .int f4]))] H := hP
  have hD : va_D A [(x, .inr (7, [.ref wa, .ref wb, .ref su, .ref cu, .ref tr, .ref co, .ref lo, .ref pk])), (wa, .inr (6, [.ref ro, .int 0, .int 0])), (su, .inr (4, [.ref wa, .ref sl, .ref sh, .ref sa, .int f1])), (cu, .inr (1, [.ref wa, .ref wb, .ref cc, .ref cs, .ref cm, .int f2])), (tr, .inr (5, [.ref wa, .ref cu, .ref tn, .ref tc, .ref ts, .int 0, .int f3])), (co, .inr (0, [.ref wa, .ref wb, .ref cu, .ref cf, .ref cp, .int 0, .int f4]))] := hD
  refine lv_aload_n hx hb dX7_setLast_16 rfl (lv_at hl 1 rfl) ?_
  refine zcall (wr := [(wa, .inr (6, [.ref ro, .int 0, .int 0]))]) (va_runV (As := []) (rest := []) ⟨hx, hb, hml, hown, hts⟩ (z_X7_outdate l G x wa wb su cu tr co lo pk sl sh sa cc cs cm tn tc ts cf cp f1 f2 f3 f4 H.size) (cwV 0 hts gX7_setLast_X7_outdate rfl rfl rfl (by decide +kernel) ⟨Nat.le_of_ble_eq_true rfl, Nat.le_of_ble_eq_true rfl⟩) (zPreV (Wc := [(x, .inr (7, [.ref wa, .ref wb, .ref su, .ref cu, .ref tr, .ref co, .ref lo, .ref pk])), (su, .inr (4, [.ref wa, .ref sl, .ref sh, .ref sa, .int f1])), (cu, .inr (1, [.ref wa, .ref wb, .ref cc, .ref cs, .ref cm, .int f2])), (tr, .inr (5, [.ref wa, .ref cu, .ref tn, .ref tc, .ref ts, .int 0, .int f3])), (co, .inr (0, [.ref wa, .ref wb, .ref cu, .ref cf, .ref cp, .int 0, .int f4]))]) (q0 := 0) (ci := 7) (q := (RX7, TX7, 8)) hP hD hE hS hA [0, 2, 3, 4, 5] rfl (by decide) rfl rfl) rfl rfl hl.1 rfl (lv_room (Nat.le_of_ble_eq_true rfl)) dX7_setLast_17 ⟨Nat.le_of_ble_eq_true rfl, Nat.le_of_ble_eq_true rfl⟩) hP hD hS hA [0, 2, 3, 4, 5] [1] rfl rfl (by decide) (by decide) (fun u1 H locs hP hD hS => ?_)
  have hP : va_P G.1 vwCl [(wa, .inr (6, [.ref ro, .int 0, .int 0])), (x, .inr (7, [.ref wa, .ref wb, .ref su, .ref cu, .ref tr, .ref co, .ref lo, .ref pk])), (su, .inr (4, [.ref wa, .ref sl, .ref sh, .ref sa, .int 0])), (cu, .inr (1, [.ref wa, .ref wb, .ref cc, .ref cs, .ref cm, .int 0])), (tr, .inr (5, [.ref wa, .ref cu, .ref tn, .ref tc, .ref ts, .int 0, .int 0])), (co, .inr (0, [.ref wa, .ref wb, .ref cu, .ref cf, .ref cp, .int 0, .int 0]))] H := hP
  have hD : va_D A [(wa, .inr (6, [.ref ro, .int 0, .int 0])), (x, .inr (7, [.ref wa, .ref wb, .ref su, .ref cu, .ref tr, .ref co, .ref lo, .ref pk])), (su, .inr (4, [.ref wa, .ref sl, .ref sh, .ref sa, .int 0])), (cu, .inr (1, [.ref wa, .ref wb, .ref cc, .ref cs, .ref cm, .int 0])), (tr, .inr (5, [.ref wa, .ref cu, .ref tn, .ref tc, .ref ts, .int 0, .int 0])), (co, .inr (0, [.ref wa, .ref wb, .ref cu, .ref cf, .ref cp, .int 0, .int 0]))] := hD
  refine W.eq (g2 := F0 m 20 ls []) rfl ?_
  refine lv_iload_n hx hb dX7_setLast_20 rfl (lv_at hl 0 rfl) ?_
  exact zend_z hx hb hr hlocks rfl (fun k => [].getD k 0) hP hD hS (Nat.le_of_ble_eq_true rfl) (Nat.le_of_ble_eq_true rfl) dX7_setLast_21

set_option maxHeartbeats 4000000 in
set_option maxRecDepth 100000 in
theorem z_X7_setLast1 (l : Launch) (G : zG) (x : Nat) (wa : Nat) (wb : Nat) (su : Nat) (cu : Nat) (tr : Nat) (co : Nat) (lo : Nat) (pk : Nat) (ro : Nat) (sl : Nat) (sh : Nat) (sa : Nat) (cc : Nat) (cs : Nat) (cm : Nat) (tn : Nat) (tc : Nat) (ts : Nat) (cf : Nat) (cp : Nat) (f1 : Int32) (f2 : Int32) (f3 : Int32) (f4 : Int32) : zR l G yX7_setLast wsX7_setLast { frames := 1, cells := 0, slots := 0, locals := 20 } [(x, .inr (7, [.ref wa, .ref wb, .ref su, .ref cu, .ref tr, .ref co, .ref lo, .ref pk])), (wa, .inr (6, [.ref ro, .int 0, .int 0])), (su, .inr (4, [.ref wa, .ref sl, .ref sh, .ref sa, .int f1])), (cu, .inr (1, [.ref wa, .ref wb, .ref cc, .ref cs, .ref cm, .int f2])), (tr, .inr (5, [.ref wa, .ref cu, .ref tn, .ref tc, .ref ts, .int 0, .int f3])), (co, .inr (0, [.ref wa, .ref wb, .ref cu, .ref cf, .ref cp, .int 0, .int f4]))] [.ref x, .int 1] (some (.int 0)) (fun u => [(wa, .inr (6, [.ref ro, .int 0, .int 1])), (x, .inr (7, [.ref wa, .ref wb, .ref su, .ref cu, .ref tr, .ref co, .ref lo, .ref pk])), (su, .inr (4, [.ref wa, .ref sl, .ref sh, .ref sa, .int 0])), (cu, .inr (1, [.ref wa, .ref wb, .ref cc, .ref cs, .ref cm, .int 0])), (tr, .inr (5, [.ref wa, .ref cu, .ref tn, .ref tc, .ref ts, .int 0, .int 0])), (co, .inr (0, [.ref wa, .ref wb, .ref cu, .ref cf, .ref cp, .int 0, .int 0]))]) 0 0 := by
  refine zR_of (cc := cX7_setLast) (maxL := 3) (rt := (some .boolean)) (by decide) rfl (Nat.le_of_ble_eq_true rfl) ?_
  intro p e s m below meth c A ls hx hb hml hr hts hown hlocks hin hA hE hP hD hS hl
  have hl : lv_has ls 3 [(0, .ref x), (1, .int 1)] := hl
  have hown : s.vm.findClass RX7 = some m.cls := hown
  have hP : va_P G.1 vwCl [(x, .inr (7, [.ref wa, .ref wb, .ref su, .ref cu, .ref tr, .ref co, .ref lo, .ref pk])), (wa, .inr (6, [.ref ro, .int 0, .int 0])), (su, .inr (4, [.ref wa, .ref sl, .ref sh, .ref sa, .int f1])), (cu, .inr (1, [.ref wa, .ref wb, .ref cc, .ref cs, .ref cm, .int f2])), (tr, .inr (5, [.ref wa, .ref cu, .ref tn, .ref tc, .ref ts, .int 0, .int f3])), (co, .inr (0, [.ref wa, .ref wb, .ref cu, .ref cf, .ref cp, .int 0, .int f4]))] s.heap := hP
  have hw7 : ∀ w ∈ u_ws RX7 TX7 8, w ∈ wsX7_setLast := by decide +kernel
  have hf10 := hts (.fieldLink RX7 10 "Nettle" "wall" "LNettle$Wall;") (by decide +kernel)
  have hw6 : ∀ w ∈ u_ws RX6 TX6 3, w ∈ wsX7_setLast := by decide +kernel
  have hf135 := hts (.fieldLink RX7 135 "Nettle$Wall" "isLastAllow" "Z") (by decide +kernel)
  refine lv_aload_n hx hb dX7_setLast_0 rfl (lv_at hl 0 rfl) ?_
  refine va_get (D := G.1) (ci := 7) (v := .ref wa) (C := RX7) (T := TX7) (N := 8) hx hb hts hw7 hown hE.1 hP 0 rfl rfl 0 (by decide) hf10 (fun _ h9 => h9) rfl dX7_setLast_1 ?_
  refine va_get (D := G.1) (ci := 6) (v := .int 0) (C := RX6) (T := TX6) (N := 3) hx hb hts hw6 hown hE.1 hP 1 rfl rfl 2 (by decide) hf135 (fun _ h9 => h9) rfl dX7_setLast_4 ?_
  refine lv_istore_n (lv' := [(2, .int 0), (0, .ref x), (1, .int 1)]) hx hb dX7_setLast_7 rfl hl (by decide) rfl (fun ls hl => ?_)
  refine lv_aload_n hx hb dX7_setLast_8 rfl (lv_at hl 1 rfl) ?_
  refine va_get (D := G.1) (ci := 7) (v := .ref wa) (C := RX7) (T := TX7) (N := 8) hx hb hts hw7 hown hE.1 hP 0 rfl rfl 0 (by decide) hf10 (fun _ h9 => h9) rfl dX7_setLast_9 ?_
  refine lv_iload_n hx hb dX7_setLast_12 rfl (lv_at hl 2 rfl) ?_
  refine va_put (D := G.1) (ci := 6) (v := .int 1) (ty := tyX6 2) (C := RX6) (T := TX6) (N := 3) hx hb hts hw6 tyX6 tyX6_ok nmX6 hown hE.1 hP hD hS 1 rfl rfl 2 (by decide) hf135 (fun _ h9 => h9) rfl (by decide +kernel) rfl rfl (Nat.le_of_ble_eq_true rfl) dX7_setLast_13 (fun H locs hP hD hS => ?_)
  have hP : va_P G.1 vwCl [(x, .inr (7, [.ref wa, .ref wb, .ref su, .ref cu, .ref tr, .ref co, .ref lo, .ref pk])), (wa, .inr (6, [.ref ro, .int 0, .int 1])), (su, .inr (4, [.ref wa, .ref sl, .ref sh, .ref sa, .int f1])), (cu, .inr (1, [.ref wa, .ref wb, .ref cc, .ref cs, .ref cm, .int f2])), (tr, .inr (5, [.ref wa, .ref cu, .ref tn, .ref tc, .ref ts, .int 0, .int f3])), (co, .inr (0, [.ref wa, .ref wb, .ref cu, .ref cf, .ref cp, .int 0, .int f4]))] H := hP
  have hD : va_D A [(x, .inr (7, [.ref wa, .ref wb, .ref su, .ref cu, .ref tr, .ref co, .ref lo, .ref pk])), (wa, .inr (6, [.ref ro, .int 0, .int 1])), (su, .inr (4, [.ref wa, .ref sl, .ref sh, .ref sa, .int f1])), (cu, .inr (1, [.ref wa, .ref wb, .ref cc, .ref cs, .ref cm, .int f2])), (tr, .inr (5, [.ref wa, .ref cu, .ref tn, .ref tc, .ref ts, .int 0, .int f3])), (co, .inr (0, [.ref wa, .ref wb, .ref cu, .ref cf, .ref cp, .int 0, .int f4]))] := hD
  refine lv_aload_n hx hb dX7_setLast_16 rfl (lv_at hl 1 rfl) ?_
  refine zcall (wr := [(wa, .inr (6, [.ref ro, .int 0, .int 1]))]) (va_runV (As := []) (rest := []) ⟨hx, hb, hml, hown, hts⟩ (z_X7_outdate l G x wa wb su cu tr co lo pk sl sh sa cc cs cm tn tc ts cf cp f1 f2 f3 f4 H.size) (cwV 0 hts gX7_setLast_X7_outdate rfl rfl rfl (by decide +kernel) ⟨Nat.le_of_ble_eq_true rfl, Nat.le_of_ble_eq_true rfl⟩) (zPreV (Wc := [(x, .inr (7, [.ref wa, .ref wb, .ref su, .ref cu, .ref tr, .ref co, .ref lo, .ref pk])), (su, .inr (4, [.ref wa, .ref sl, .ref sh, .ref sa, .int f1])), (cu, .inr (1, [.ref wa, .ref wb, .ref cc, .ref cs, .ref cm, .int f2])), (tr, .inr (5, [.ref wa, .ref cu, .ref tn, .ref tc, .ref ts, .int 0, .int f3])), (co, .inr (0, [.ref wa, .ref wb, .ref cu, .ref cf, .ref cp, .int 0, .int f4]))]) (q0 := 0) (ci := 7) (q := (RX7, TX7, 8)) hP hD hE hS hA [0, 2, 3, 4, 5] rfl (by decide) rfl rfl) rfl rfl hl.1 rfl (lv_room (Nat.le_of_ble_eq_true rfl)) dX7_setLast_17 ⟨Nat.le_of_ble_eq_true rfl, Nat.le_of_ble_eq_true rfl⟩) hP hD hS hA [0, 2, 3, 4, 5] [1] rfl rfl (by decide) (by decide) (fun u1 H locs hP hD hS => ?_)
  have hP : va_P G.1 vwCl [(wa, .inr (6, [.ref ro, .int 0, .int 1])), (x, .inr (7, [.ref wa, .ref wb, .ref su, .ref cu, .ref tr, .ref co, .ref lo, .ref pk])), (su, .inr (4, [.ref wa, .ref sl, .ref sh, .ref sa, .int 0])), (cu, .inr (1, [.ref wa, .ref wb, .ref cc, .ref cs, .ref cm, .int 0])), (tr, .inr (5, [.ref wa, .ref cu, .ref tn, .ref tc, .ref ts, .int 0, .int 0])), (co, .inr (0, [.ref wa, .ref wb, .ref cu, .ref cf, .ref cp, .int 0, .int 0]))] H := hP
  have hD : va_D A [(wa, .inr (6, [.ref ro, .int 0, .int 1])), (x, .inr (7, [.ref wa, .ref wb, .ref su, .ref cu, .ref tr, .ref co, .ref lo, .ref pk])), (su, .inr (4, [.ref wa, .ref sl, .ref sh, .ref sa, .int 0])), (cu, .inr (1, [.ref wa, .ref wb, .ref cc, .ref cs, .ref cm, .int 0])), (tr, .inr (5, [.ref wa, .ref cu, .ref tn, .ref tc, .ref ts, .int 0, .int 0])), (co, .inr (0, [.ref wa, .ref wb, .ref cu, .ref cf, .ref cp, .int 0, .int 0]))] := hD
  refine W.eq (g2 := F0 m 20 ls []) rfl ?_
  refine lv_iload_n hx hb dX7_setLast_20 rfl (lv_at hl 0 rfl) ?_
  exact zend_z hx hb hr hlocks rfl (fun k => [].getD k 0) hP hD hS (Nat.le_of_ble_eq_true rfl) (Nat.le_of_ble_eq_true rfl) dX7_setLast_21

set_option maxHeartbeats 4000000 in
set_option maxRecDepth 100000 in
theorem z_X7_shrink (l : Launch) (G : zG) (x : Nat) (wa : Nat) (wb : Nat) (su : Nat) (cu : Nat) (tr : Nat) (co : Nat) (lo : Nat) (pk : Nat) (ro : Nat) : zR l G yX7_shrink wsX7_shrink { frames := 0, cells := 0, slots := 0, locals := 0 } [(x, .inr (7, [.ref wa, .ref wb, .ref su, .ref cu, .ref tr, .ref co, .ref lo, .ref pk])), (wa, .inr (6, [.ref ro, .int 0, .int 0]))] [.ref x] (some (.int 0)) (fun u => [(x, .inr (7, [.ref wa, .ref wb, .ref su, .ref cu, .ref tr, .ref co, .ref lo, .ref pk])), (wa, .inr (6, [.ref ro, .int 0, .int 0]))]) 0 0 := by
  refine zR_of (cc := cX7_shrink) (maxL := 4) (rt := (some .int)) (by decide) rfl (Nat.le_of_ble_eq_true rfl) ?_
  intro p e s m below meth c A ls hx hb hml hr hts hown hlocks hin hA hE hP hD hS hl
  have hl : lv_has ls 4 [(0, .ref x)] := hl
  have hown : s.vm.findClass RX7 = some m.cls := hown
  have hP : va_P G.1 vwCl [(x, .inr (7, [.ref wa, .ref wb, .ref su, .ref cu, .ref tr, .ref co, .ref lo, .ref pk])), (wa, .inr (6, [.ref ro, .int 0, .int 0]))] s.heap := hP
  have hw7 : ∀ w ∈ u_ws RX7 TX7 8, w ∈ wsX7_shrink := by decide +kernel
  have hf10 := hts (.fieldLink RX7 10 "Nettle" "wall" "LNettle$Wall;") (by decide +kernel)
  have hw6 : ∀ w ∈ u_ws RX6 TX6 3, w ∈ wsX7_shrink := by decide +kernel
  have hf70 := hts (.fieldLink RX7 70 "Nettle$Wall" "count" "I") (by decide +kernel)
  refine lv_aload_n hx hb dX7_shrink_0 rfl (lv_at hl 0 rfl) ?_
  refine va_get (D := G.1) (ci := 7) (v := .ref wa) (C := RX7) (T := TX7) (N := 8) hx hb hts hw7 hown hE.1 hP 0 rfl rfl 0 (by decide) hf10 (fun _ h9 => h9) rfl dX7_shrink_1 ?_
  refine va_get (D := G.1) (ci := 6) (v := .int 0) (C := RX6) (T := TX6) (N := 3) hx hb hts hw6 hown hE.1 hP 1 rfl rfl 1 (by decide) hf70 (fun _ h9 => h9) rfl dX7_shrink_4 ?_
  refine lv_istore_n (lv' := [(1, .int 0), (0, .ref x)]) hx hb dX7_shrink_7 rfl hl (by decide) rfl (fun ls hl => ?_)
  refine lv_iconst (v := 0) hx hb dX7_shrink_8 (by decide) ?_
  refine lv_istore_n (lv' := [(2, .int 0), (1, .int 0), (0, .ref x)]) hx hb dX7_shrink_9 rfl hl (by decide) rfl (fun ls hl => ?_)
  refine lv_iload_n hx hb dX7_shrink_10 rfl (lv_at hl 0 rfl) ?_
  refine lv_iload_n hx hb dX7_shrink_11 rfl (lv_at hl 1 rfl) ?_
  refine lv_icmp_ge (tgt := 45) hx hb dX7_shrink_12 (by decide) (fun _ => ?_) (fun h9 => absurd (by decide) h9)
  refine lv_iload_n hx hb dX7_shrink_45 rfl (lv_at hl 1 rfl) ?_
  refine lv_aload_n hx hb dX7_shrink_46 rfl (lv_at hl 2 rfl) ?_
  refine va_get (D := G.1) (ci := 7) (v := .ref wa) (C := RX7) (T := TX7) (N := 8) hx hb hts hw7 hown hE.1 hP 0 rfl rfl 0 (by decide) hf10 (fun _ h9 => h9) rfl dX7_shrink_47 ?_
  refine va_get (D := G.1) (ci := 6) (v := .int 0) (C := RX6) (T := TX6) (N := 3) hx hb hts hw6 hown hE.1 hP 1 rfl rfl 1 (by decide) hf70 (fun _ h9 => h9) rfl dX7_shrink_50 ?_
  refine lv_isub hx hb dX7_shrink_53 ?_
  refine zti (v := 0) (by decide) ?_
  exact zend_i hx hb hr hlocks (fun k => [].getD k 0) hP hD hS (Nat.le_of_ble_eq_true rfl) (Nat.le_of_ble_eq_true rfl) dX7_shrink_54

set_option maxHeartbeats 4000000 in
set_option maxRecDepth 100000 in
theorem z_X7_rules (l : Launch) (G : zG) (x : Nat) (wa : Nat) (wb : Nat) (su : Nat) (cu : Nat) (tr : Nat) (co : Nat) (lo : Nat) (pk : Nat) (ro : Nat) : zR l G yX7_rules wsX7_rules { frames := 0, cells := 0, slots := 0, locals := 0 } [(x, .inr (7, [.ref wa, .ref wb, .ref su, .ref cu, .ref tr, .ref co, .ref lo, .ref pk])), (wa, .inr (6, [.ref ro, .int 0, .int 0]))] [.ref x] (some (.int 0)) (fun u => [(x, .inr (7, [.ref wa, .ref wb, .ref su, .ref cu, .ref tr, .ref co, .ref lo, .ref pk])), (wa, .inr (6, [.ref ro, .int 0, .int 0]))]) 0 0 := by
  refine zR_of (cc := cX7_rules) (maxL := 1) (rt := (some .int)) (by decide) rfl (Nat.le_of_ble_eq_true rfl) ?_
  intro p e s m below meth c A ls hx hb hml hr hts hown hlocks hin hA hE hP hD hS hl
  have hl : lv_has ls 1 [(0, .ref x)] := hl
  have hown : s.vm.findClass RX7 = some m.cls := hown
  have hP : va_P G.1 vwCl [(x, .inr (7, [.ref wa, .ref wb, .ref su, .ref cu, .ref tr, .ref co, .ref lo, .ref pk])), (wa, .inr (6, [.ref ro, .int 0, .int 0]))] s.heap := hP
  have hw7 : ∀ w ∈ u_ws RX7 TX7 8, w ∈ wsX7_rules := by decide +kernel
  have hf10 := hts (.fieldLink RX7 10 "Nettle" "wall" "LNettle$Wall;") (by decide +kernel)
  have hw6 : ∀ w ∈ u_ws RX6 TX6 3, w ∈ wsX7_rules := by decide +kernel
  have hf70 := hts (.fieldLink RX7 70 "Nettle$Wall" "count" "I") (by decide +kernel)
  refine lv_aload_n hx hb dX7_rules_0 rfl (lv_at hl 0 rfl) ?_
  refine va_get (D := G.1) (ci := 7) (v := .ref wa) (C := RX7) (T := TX7) (N := 8) hx hb hts hw7 hown hE.1 hP 0 rfl rfl 0 (by decide) hf10 (fun _ h9 => h9) rfl dX7_rules_1 ?_
  refine va_get (D := G.1) (ci := 6) (v := .int 0) (C := RX6) (T := TX6) (N := 3) hx hb hts hw6 hown hE.1 hP 1 rfl rfl 1 (by decide) hf70 (fun _ h9 => h9) rfl dX7_rules_4 ?_
  exact zend_i hx hb hr hlocks (fun k => [].getD k 0) hP hD hS (Nat.le_of_ble_eq_true rfl) (Nat.le_of_ble_eq_true rfl) dX7_rules_7

set_option maxHeartbeats 4000000 in
set_option maxRecDepth 100000 in
theorem z_X7_allowed (l : Launch) (G : zG) (x : Nat) (wa : Nat) (wb : Nat) (su : Nat) (cu : Nat) (tr : Nat) (co : Nat) (lo : Nat) (pk : Nat) (ro : Nat) (sl : Nat) (sh : Nat) (sa : Nat) (fl : Nat → Int32) (fh : Nat → Int32) (fa : Nat → Int32) : zR l G yX7_allowed wsX7_allowed { frames := 3, cells := 0, slots := 0, locals := 68 } [(x, .inr (7, [.ref wa, .ref wb, .ref su, .ref cu, .ref tr, .ref co, .ref lo, .ref pk])), (su, .inr (4, [.ref wa, .ref sl, .ref sh, .ref sa, .int 0])), (wa, .inr (6, [.ref ro, .int 0, .int 0])), (sl, .inl (G.2.1, 1024, .inl (fl))), (sh, .inl (G.2.1, 1024, .inl (fh))), (sa, .inl (G.2.1, 256, .inl (fa)))] [.ref x] (some (.int 0)) (fun u => [(x, .inr (7, [.ref wa, .ref wb, .ref su, .ref cu, .ref tr, .ref co, .ref lo, .ref pk])), (sl, .inl (G.2.1, 1024, .inl (upd (upd (upd (upd fl 0 0) 1 0) 2 0) 3 0))), (sh, .inl (G.2.1, 1024, .inl (upd (upd (upd (upd fh 0 255) 1 255) 2 1023) 3 3))), (sa, .inl (G.2.1, 256, .inl (upd fa 0 268435456))), (su, .inr (4, [.ref wa, .ref sl, .ref sh, .ref sa, .int 1])), (wa, .inr (6, [.ref ro, .int 0, .int 0]))]) 0 0 := by
  refine zR_of (cc := cX7_allowed) (maxL := 1) (rt := (some .int)) (by decide) rfl (Nat.le_of_ble_eq_true rfl) ?_
  intro p e s m below meth c A ls hx hb hml hr hts hown hlocks hin hA hE hP hD hS hl
  have hl : lv_has ls 1 [(0, .ref x)] := hl
  have hown : s.vm.findClass RX7 = some m.cls := hown
  have hP : va_P G.1 vwCl [(x, .inr (7, [.ref wa, .ref wb, .ref su, .ref cu, .ref tr, .ref co, .ref lo, .ref pk])), (su, .inr (4, [.ref wa, .ref sl, .ref sh, .ref sa, .int 0])), (wa, .inr (6, [.ref ro, .int 0, .int 0])), (sl, .inl (G.2.1, 1024, .inl (fl))), (sh, .inl (G.2.1, 1024, .inl (fh))), (sa, .inl (G.2.1, 256, .inl (fa)))] s.heap := hP
  refine lv_aload_n hx hb dX7_allowed_0 rfl (lv_at hl 0 rfl) ?_
  refine zcall (wr := []) (va_runV (As := []) (rest := []) ⟨hx, hb, hml, hown, hts⟩ (z_X7_surveyed0 l G x wa wb su cu tr co lo pk ro sl sh sa (fl) (fh) (fa) s.heap.size) (cwV 0 hts gX7_allowed_X7_surveyed rfl rfl rfl (by decide +kernel) ⟨Nat.le_of_ble_eq_true rfl, Nat.le_of_ble_eq_true rfl⟩) (zPreV (Wc := [(x, .inr (7, [.ref wa, .ref wb, .ref su, .ref cu, .ref tr, .ref co, .ref lo, .ref pk])), (su, .inr (4, [.ref wa, .ref sl, .ref sh, .ref sa, .int 0])), (wa, .inr (6, [.ref ro, .int 0, .int 0])), (sl, .inl (G.2.1, 1024, .inl (fl))), (sh, .inl (G.2.1, 1024, .inl (fh))), (sa, .inl (G.2.1, 256, .inl (fa)))]) (q0 := 0) (ci := 7) (q := (RX7, TX7, 8)) hP hD hE hS hA [0, 1, 2, 3, 4, 5] rfl (by decide) rfl rfl) rfl rfl hl.1 rfl (lv_room (Nat.le_of_ble_eq_true rfl)) dX7_allowed_1 ⟨Nat.le_of_ble_eq_true rfl, Nat.le_of_ble_eq_true rfl⟩) hP hD hS hA [0, 1, 2, 3, 4, 5] [] rfl rfl (by decide) (by decide) (fun u1 H locs hP hD hS => ?_)
  have hP : va_P G.1 vwCl [(x, .inr (7, [.ref wa, .ref wb, .ref su, .ref cu, .ref tr, .ref co, .ref lo, .ref pk])), (sl, .inl (G.2.1, 1024, .inl (upd (upd (upd (upd fl 0 0) 1 0) 2 0) 3 0))), (sh, .inl (G.2.1, 1024, .inl (upd (upd (upd (upd fh 0 255) 1 255) 2 1023) 3 3))), (sa, .inl (G.2.1, 256, .inl (upd fa 0 268435456))), (su, .inr (4, [.ref wa, .ref sl, .ref sh, .ref sa, .int 1])), (wa, .inr (6, [.ref ro, .int 0, .int 0]))] H := hP
  have hD : va_D A [(x, .inr (7, [.ref wa, .ref wb, .ref su, .ref cu, .ref tr, .ref co, .ref lo, .ref pk])), (sl, .inl (G.2.1, 1024, .inl (upd (upd (upd (upd fl 0 0) 1 0) 2 0) 3 0))), (sh, .inl (G.2.1, 1024, .inl (upd (upd (upd (upd fh 0 255) 1 255) 2 1023) 3 3))), (sa, .inl (G.2.1, 256, .inl (upd fa 0 268435456))), (su, .inr (4, [.ref wa, .ref sl, .ref sh, .ref sa, .int 1])), (wa, .inr (6, [.ref ro, .int 0, .int 0]))] := hD
  refine W.eq (g2 := F0 m 4 ls [.ref su]) rfl ?_
  refine lv_sipush (v := 255) hx hb dX7_allowed_4 (by decide) ?_
  refine zcall (wr := [(x, .inr (7, [.ref wa, .ref wb, .ref su, .ref cu, .ref tr, .ref co, .ref lo, .ref pk])), (sl, .inl (G.2.1, 1024, .inl (upd (upd (upd (upd fl 0 0) 1 0) 2 0) 3 0))), (sh, .inl (G.2.1, 1024, .inl (upd (upd (upd (upd fh 0 255) 1 255) 2 1023) 3 3))), (sa, .inl (G.2.1, 256, .inl (upd fa 0 268435456)))]) (va_runV (As := [.int 255]) (rest := []) ⟨hx, hb, hml, hown, hts⟩ (z_X4_amountAllowed l G su wa ro sl sh sa 1 H.size) (cwV 1 hts gX7_allowed_X4_amountAllowed rfl rfl rfl (by decide +kernel) ⟨Nat.le_of_ble_eq_true rfl, Nat.le_of_ble_eq_true rfl⟩) (zPreV (Wc := [(su, .inr (4, [.ref wa, .ref sl, .ref sh, .ref sa, .int 1])), (wa, .inr (6, [.ref ro, .int 0, .int 0]))]) (q0 := 4) (ci := 4) (q := (RX4, TX4, 5)) hP hD hE hS hA [4, 5] rfl (by decide) rfl rfl) rfl rfl hl.1 rfl (lv_room (Nat.le_of_ble_eq_true rfl)) dX7_allowed_7 ⟨Nat.le_of_ble_eq_true rfl, Nat.le_of_ble_eq_true rfl⟩) hP hD hS hA [4, 5] [0, 1, 2, 3] rfl rfl (by decide) (by decide) (fun u2 H locs hP hD hS => ?_)
  have hP : va_P G.1 vwCl [(x, .inr (7, [.ref wa, .ref wb, .ref su, .ref cu, .ref tr, .ref co, .ref lo, .ref pk])), (sl, .inl (G.2.1, 1024, .inl (upd (upd (upd (upd fl 0 0) 1 0) 2 0) 3 0))), (sh, .inl (G.2.1, 1024, .inl (upd (upd (upd (upd fh 0 255) 1 255) 2 1023) 3 3))), (sa, .inl (G.2.1, 256, .inl (upd fa 0 268435456))), (su, .inr (4, [.ref wa, .ref sl, .ref sh, .ref sa, .int 1])), (wa, .inr (6, [.ref ro, .int 0, .int 0]))] H := hP
  have hD : va_D A [(x, .inr (7, [.ref wa, .ref wb, .ref su, .ref cu, .ref tr, .ref co, .ref lo, .ref pk])), (sl, .inl (G.2.1, 1024, .inl (upd (upd (upd (upd fl 0 0) 1 0) 2 0) 3 0))), (sh, .inl (G.2.1, 1024, .inl (upd (upd (upd (upd fh 0 255) 1 255) 2 1023) 3 3))), (sa, .inl (G.2.1, 256, .inl (upd fa 0 268435456))), (su, .inr (4, [.ref wa, .ref sl, .ref sh, .ref sa, .int 1])), (wa, .inr (6, [.ref ro, .int 0, .int 0]))] := hD
  refine W.eq (g2 := F0 m 10 ls [.int 0]) rfl ?_
  exact zend_i hx hb hr hlocks (fun k => [].getD k 0) hP hD hS (Nat.le_of_ble_eq_true rfl) (Nat.le_of_ble_eq_true rfl) dX7_allowed_10

set_option maxHeartbeats 4000000 in
set_option maxRecDepth 100000 in
theorem z_X7_quarrels (l : Launch) (G : zG) (x : Nat) (wa : Nat) (wb : Nat) (su : Nat) (cu : Nat) (tr : Nat) (co : Nat) (lo : Nat) (pk : Nat) (ro : Nat) : zR l G yX7_quarrels wsX7_quarrels { frames := 0, cells := 0, slots := 0, locals := 0 } [(x, .inr (7, [.ref wa, .ref wb, .ref su, .ref cu, .ref tr, .ref co, .ref lo, .ref pk])), (wa, .inr (6, [.ref ro, .int 0, .int 0]))] [.ref x] (some (.int 0)) (fun u => [(x, .inr (7, [.ref wa, .ref wb, .ref su, .ref cu, .ref tr, .ref co, .ref lo, .ref pk])), (wa, .inr (6, [.ref ro, .int 0, .int 0]))]) 0 0 := by
  refine zR_of (cc := cX7_quarrels) (maxL := 4) (rt := (some .int)) (by decide) rfl (Nat.le_of_ble_eq_true rfl) ?_
  intro p e s m below meth c A ls hx hb hml hr hts hown hlocks hin hA hE hP hD hS hl
  have hl : lv_has ls 4 [(0, .ref x)] := hl
  have hown : s.vm.findClass RX7 = some m.cls := hown
  have hP : va_P G.1 vwCl [(x, .inr (7, [.ref wa, .ref wb, .ref su, .ref cu, .ref tr, .ref co, .ref lo, .ref pk])), (wa, .inr (6, [.ref ro, .int 0, .int 0]))] s.heap := hP
  have hw7 : ∀ w ∈ u_ws RX7 TX7 8, w ∈ wsX7_quarrels := by decide +kernel
  have hf10 := hts (.fieldLink RX7 10 "Nettle" "wall" "LNettle$Wall;") (by decide +kernel)
  have hw6 : ∀ w ∈ u_ws RX6 TX6 3, w ∈ wsX7_quarrels := by decide +kernel
  have hf70 := hts (.fieldLink RX7 70 "Nettle$Wall" "count" "I") (by decide +kernel)
  refine lv_iconst (v := 0) hx hb dX7_quarrels_0 (by decide) ?_
  refine lv_istore_n (lv' := [(1, .int 0), (0, .ref x)]) hx hb dX7_quarrels_1 rfl hl (by decide) rfl (fun ls hl => ?_)
  refine lv_iconst (v := 0) hx hb dX7_quarrels_2 (by decide) ?_
  refine lv_istore_n (lv' := [(2, .int 0), (1, .int 0), (0, .ref x)]) hx hb dX7_quarrels_3 rfl hl (by decide) rfl (fun ls hl => ?_)
  refine lv_iload_n hx hb dX7_quarrels_4 rfl (lv_at hl 0 rfl) ?_
  refine lv_aload_n hx hb dX7_quarrels_5 rfl (lv_at hl 2 rfl) ?_
  refine va_get (D := G.1) (ci := 7) (v := .ref wa) (C := RX7) (T := TX7) (N := 8) hx hb hts hw7 hown hE.1 hP 0 rfl rfl 0 (by decide) hf10 (fun _ h9 => h9) rfl dX7_quarrels_6 ?_
  refine va_get (D := G.1) (ci := 6) (v := .int 0) (C := RX6) (T := TX6) (N := 3) hx hb hts hw6 hown hE.1 hP 1 rfl rfl 1 (by decide) hf70 (fun _ h9 => h9) rfl dX7_quarrels_9 ?_
  refine lv_icmp_ge (tgt := 69) hx hb dX7_quarrels_12 (by decide) (fun _ => ?_) (fun h9 => absurd (by decide) h9)
  refine lv_iload_n hx hb dX7_quarrels_69 rfl (lv_at hl 1 rfl) ?_
  exact zend_i hx hb hr hlocks (fun k => [].getD k 0) hP hD hS (Nat.le_of_ble_eq_true rfl) (Nat.le_of_ble_eq_true rfl) dX7_quarrels_70

set_option maxHeartbeats 4000000 in
set_option maxRecDepth 100000 in
theorem z_X7_decider (l : Launch) (G : zG) (x : Nat) (wa : Nat) (wb : Nat) (su : Nat) (cu : Nat) (tr : Nat) (co : Nat) (lo : Nat) (pk : Nat) (ro : Nat) (p0 : Int32) (p1 : Int32) (p2 : Int32) (p3 : Int32) (fp : Nat → Int32) (hok : zOk p0 p1 p2 p3) : zR l G yX7_decider wsX7_decider { frames := 2, cells := 0, slots := 0, locals := 45 } [(x, .inr (7, [.ref wa, .ref wb, .ref su, .ref cu, .ref tr, .ref co, .ref lo, .ref pk])), (pk, .inl (G.2.1, 4, .inl (fp))), (wa, .inr (6, [.ref ro, .int 0, .int 0]))] [.ref x, .int p0, .int p1, .int p2, .int p3] (some (.int (-1))) (fun u => [(wa, .inr (6, [.ref ro, .int 0, .int 0])), (x, .inr (7, [.ref wa, .ref wb, .ref su, .ref cu, .ref tr, .ref co, .ref lo, .ref pk])), (pk, .inl (G.2.1, 4, .inl (upd (upd (upd (upd fp 0 p0) 1 p1) 2 p2) 3 p3)))]) 0 0 := by
  refine zR_of (cc := cX7_decider) (maxL := 6) (rt := (some .int)) (by decide) rfl (Nat.le_of_ble_eq_true rfl) ?_
  intro p e s m below meth c A ls hx hb hml hr hts hown hlocks hin hA hE hP hD hS hl
  have hl : lv_has ls 6 [(0, .ref x), (1, .int p0), (2, .int p1), (3, .int p2), (4, .int p3)] := hl
  have hown : s.vm.findClass RX7 = some m.cls := hown
  have hP : va_P G.1 vwCl [(x, .inr (7, [.ref wa, .ref wb, .ref su, .ref cu, .ref tr, .ref co, .ref lo, .ref pk])), (pk, .inl (G.2.1, 4, .inl (fp))), (wa, .inr (6, [.ref ro, .int 0, .int 0]))] s.heap := hP
  have hw7 : ∀ w ∈ u_ws RX7 TX7 8, w ∈ wsX7_decider := by decide +kernel
  have hf10 := hts (.fieldLink RX7 10 "Nettle" "wall" "LNettle$Wall;") (by decide +kernel)
  have hw6 : ∀ w ∈ u_ws RX6 TX6 3, w ∈ wsX7_decider := by decide +kernel
  have hf70 := hts (.fieldLink RX7 70 "Nettle$Wall" "count" "I") (by decide +kernel)
  refine lv_aload_n hx hb dX7_decider_0 rfl (lv_at hl 0 rfl) ?_
  refine lv_iload_n hx hb dX7_decider_1 rfl (lv_at hl 1 rfl) ?_
  refine lv_iload_n hx hb dX7_decider_2 rfl (lv_at hl 2 rfl) ?_
  refine lv_iload_n hx hb dX7_decider_3 rfl (lv_at hl 3 rfl) ?_
  refine lv_iload hx hb dX7_decider_4 (lv_at hl 4 rfl) ?_
  refine zcall (wr := [(wa, .inr (6, [.ref ro, .int 0, .int 0]))]) (va_runV (As := [.int p0, .int p1, .int p2, .int p3]) (rest := []) ⟨hx, hb, hml, hown, hts⟩ (z_X7_takePacket l G x wa wb su cu tr co lo pk p0 p1 p2 p3 (fp) hok s.heap.size) (cwV 4 hts gX7_decider_X7_takePacket rfl rfl rfl (by decide +kernel) ⟨Nat.le_of_ble_eq_true rfl, Nat.le_of_ble_eq_true rfl⟩) (zPreV (Wc := [(x, .inr (7, [.ref wa, .ref wb, .ref su, .ref cu, .ref tr, .ref co, .ref lo, .ref pk])), (pk, .inl (G.2.1, 4, .inl (fp)))]) (q0 := 0) (ci := 7) (q := (RX7, TX7, 8)) hP hD hE hS hA [0, 1] rfl (by decide) rfl rfl) rfl rfl hl.1 rfl (lv_room (Nat.le_of_ble_eq_true rfl)) dX7_decider_6 ⟨Nat.le_of_ble_eq_true rfl, Nat.le_of_ble_eq_true rfl⟩) hP hD hS hA [0, 1] [2] rfl rfl (by decide) (by decide) (fun u1 H locs hP hD hS => ?_)
  have hP : va_P G.1 vwCl [(wa, .inr (6, [.ref ro, .int 0, .int 0])), (x, .inr (7, [.ref wa, .ref wb, .ref su, .ref cu, .ref tr, .ref co, .ref lo, .ref pk])), (pk, .inl (G.2.1, 4, .inl (upd (upd (upd (upd fp 0 p0) 1 p1) 2 p2) 3 p3)))] H := hP
  have hD : va_D A [(wa, .inr (6, [.ref ro, .int 0, .int 0])), (x, .inr (7, [.ref wa, .ref wb, .ref su, .ref cu, .ref tr, .ref co, .ref lo, .ref pk])), (pk, .inl (G.2.1, 4, .inl (upd (upd (upd (upd fp 0 p0) 1 p1) 2 p2) 3 p3)))] := hD
  refine W.eq (g2 := F0 m 9 ls []) rfl ?_
  refine lv_iconst (v := 0) hx hb dX7_decider_9 (by decide) ?_
  refine lv_istore (lv' := [(5, .int 0), (0, .ref x), (1, .int p0), (2, .int p1), (3, .int p2), (4, .int p3)]) hx hb dX7_decider_10 hl (by decide) rfl (fun ls hl => ?_)
  refine lv_iload hx hb dX7_decider_12 (lv_at hl 0 rfl) ?_
  refine lv_aload_n hx hb dX7_decider_14 rfl (lv_at hl 1 rfl) ?_
  refine va_get (D := G.1) (ci := 7) (v := .ref wa) (C := RX7) (T := TX7) (N := 8) hx hb hts hw7 hown hE.1 hP 1 rfl rfl 0 (by decide) hf10 (fun _ h9 => h9) rfl dX7_decider_15 ?_
  refine va_get (D := G.1) (ci := 6) (v := .int 0) (C := RX6) (T := TX6) (N := 3) hx hb hts hw6 hown hE.1 hP 0 rfl rfl 1 (by decide) hf70 (fun _ h9 => h9) rfl dX7_decider_18 ?_
  refine lv_icmp_ge (tgt := 69) hx hb dX7_decider_21 (by decide) (fun _ => ?_) (fun h9 => absurd (by decide) h9)
  refine lv_iconst (v := (-1)) hx hb dX7_decider_69 (by decide) ?_
  exact zend_i hx hb hr hlocks (fun k => [].getD k 0) hP hD hS (Nat.le_of_ble_eq_true rfl) (Nat.le_of_ble_eq_true rfl) dX7_decider_70

set_option maxHeartbeats 4000000 in
set_option maxRecDepth 100000 in
theorem z_X7_deciderT (l : Launch) (G : zG) (x : Nat) (wa : Nat) (wb : Nat) (su : Nat) (cu : Nat) (tr : Nat) (co : Nat) (lo : Nat) (pk : Nat) (p0 : Int32) (p1 : Int32) (p2 : Int32) (p3 : Int32) (hl0 : l.stackTraces = false) (hbad : zBad p0 p1 p2 p3) : zT l G yX7_decider wsX7_decider { frames := 7, cells := 1, slots := 6, locals := 106 } [(x, .inr (7, [.ref wa, .ref wb, .ref su, .ref cu, .ref tr, .ref co, .ref lo, .ref pk]))] [.ref x, .int p0, .int p1, .int p2, .int p3] "java/lang/IllegalArgumentException" [(x, .inr (7, [.ref wa, .ref wb, .ref su, .ref cu, .ref tr, .ref co, .ref lo, .ref pk]))] 1 6 := by
  refine zT_of (cc := cX7_decider) (maxL := 6) (rt := (some .int)) (by decide) rfl (Nat.le_of_ble_eq_true rfl) ?_
  intro p e s m below meth c A ls hx hb hml hr hts hown hlocks ht hA hE hP hD hS hl
  have hl : lv_has ls 6 [(0, .ref x), (1, .int p0), (2, .int p1), (3, .int p2), (4, .int p3)] := hl
  have hown : s.vm.findClass RX7 = some m.cls := hown
  have hP : va_P G.1 vwCl [(x, .inr (7, [.ref wa, .ref wb, .ref su, .ref cu, .ref tr, .ref co, .ref lo, .ref pk]))] s.heap := hP
  refine lv_aload_n hx hb dX7_decider_0 rfl (lv_at hl 0 rfl) ?_
  refine lv_iload_n hx hb dX7_decider_1 rfl (lv_at hl 1 rfl) ?_
  refine lv_iload_n hx hb dX7_decider_2 rfl (lv_at hl 2 rfl) ?_
  refine lv_iload_n hx hb dX7_decider_3 rfl (lv_at hl 3 rfl) ?_
  refine lv_iload hx hb dX7_decider_4 (lv_at hl 4 rfl) ?_
  refine zcallT (wr := []) (vx_runV (As := [.int p0, .int p1, .int p2, .int p3]) (rest := []) ⟨hx, hb, hml, hown, hts⟩ (z_X7_takePacketT l G x wa wb su cu tr co lo pk p0 p1 p2 p3 hl0 hbad s.heap.size) (cwV 4 hts gX7_decider_X7_takePacket rfl rfl rfl (by decide +kernel) ⟨Nat.le_of_ble_eq_true rfl, Nat.le_of_ble_eq_true rfl⟩) (zPreV (Wc := [(x, .inr (7, [.ref wa, .ref wb, .ref su, .ref cu, .ref tr, .ref co, .ref lo, .ref pk]))]) (q0 := 0) (ci := 7) (q := (RX7, TX7, 8)) hP hD hE hS hA [0] rfl (by decide) rfl rfl) rfl rfl hl.1 rfl (lv_room (Nat.le_of_ble_eq_true rfl)) dX7_decider_6 ⟨Nat.le_of_ble_eq_true rfl, Nat.le_of_ble_eq_true rfl⟩) hP hD hS hA [0] [] rfl rfl (by decide) (by decide) (fun ce q9 H locs hP hD hS hce hcv hcl => ?_)
  have hP : va_P G.1 vwCl [(x, .inr (7, [.ref wa, .ref wb, .ref su, .ref cu, .ref tr, .ref co, .ref lo, .ref pk]))] H := hP
  have hD : va_D A [(x, .inr (7, [.ref wa, .ref wb, .ref su, .ref cu, .ref tr, .ref co, .ref lo, .ref pk]))] := hD
  exact zout ht hlocks hP hD hS hce hcv hcl (Nat.le_of_ble_eq_true rfl) (Nat.le_of_ble_eq_true rfl)

set_option maxHeartbeats 4000000 in
set_option maxRecDepth 100000 in
theorem z_X7_nodes0 (l : Launch) (G : zG) (x : Nat) (wa : Nat) (wb : Nat) (su : Nat) (cu : Nat) (tr : Nat) (co : Nat) (lo : Nat) (pk : Nat) (ro : Nat) (rb : Nat) (cc : Nat) (cs : Nat) (cm : Nat) (fc : Nat → Int32) (fs : Nat → Int32) (fm : Nat → Int32) (tn : Nat) (tc : Nat) (ts : Nat) (ft : Nat → Int32) : zR l G yX7_nodes wsX7_nodes { frames := 5, cells := 0, slots := 0, locals := 114 } [(x, .inr (7, [.ref wa, .ref wb, .ref su, .ref cu, .ref tr, .ref co, .ref lo, .ref pk])), (cu, .inr (1, [.ref wa, .ref wb, .ref cc, .ref cs, .ref cm, .int 0])), (wa, .inr (6, [.ref ro, .int 0, .int 0])), (wb, .inr (6, [.ref rb, .int 0, .int 0])), (cc, .inl (G.2.1, 4, .inl (fc))), (cs, .inl (G.2.1, 132, .inl (fs))), (cm, .inl (G.2.1, 132, .inl (fm))), (tr, .inr (5, [.ref wa, .ref cu, .ref tn, .ref tc, .ref ts, .int 0, .int 0])), (tn, .inl (G.2.1, 1024, .inl (ft)))] [.ref x] (some (.int 0)) (fun u => [(x, .inr (7, [.ref wa, .ref wb, .ref su, .ref cu, .ref tr, .ref co, .ref lo, .ref pk])), (cu, .inr (1, [.ref wa, .ref wb, .ref cc, .ref cs, .ref cm, .int 1])), (cc, .inl (G.2.1, 4, .inl (upd (upd (upd (upd fc 0 1) 1 1) 2 1) 3 1))), (cs, .inl (G.2.1, 132, .inl (upd (upd (upd (upd fs 0 0) 33 0) 66 0) 99 0))), (cm, .inl (G.2.1, 132, .inl (upd (upd (upd (upd fm 0 0) 33 0) 66 0) 99 0))), (wb, .inr (6, [.ref rb, .int 0, .int 0])), (tn, .inl (G.2.1, 1024, .inl (zfill 1024 ft))), (tr, .inr (5, [.ref wa, .ref cu, .ref tn, .ref tc, .ref ts, .int 0, .int 1])), (wa, .inr (6, [.ref ro, .int 0, .int 0]))]) 0 0 := by
  refine zR_of (cc := cX7_nodes) (maxL := 1) (rt := (some .int)) (by decide) rfl (Nat.le_of_ble_eq_true rfl) ?_
  intro p e s m below meth c A ls hx hb hml hr hts hown hlocks hin hA hE hP hD hS hl
  have hl : lv_has ls 1 [(0, .ref x)] := hl
  have hown : s.vm.findClass RX7 = some m.cls := hown
  have hP : va_P G.1 vwCl [(x, .inr (7, [.ref wa, .ref wb, .ref su, .ref cu, .ref tr, .ref co, .ref lo, .ref pk])), (cu, .inr (1, [.ref wa, .ref wb, .ref cc, .ref cs, .ref cm, .int 0])), (wa, .inr (6, [.ref ro, .int 0, .int 0])), (wb, .inr (6, [.ref rb, .int 0, .int 0])), (cc, .inl (G.2.1, 4, .inl (fc))), (cs, .inl (G.2.1, 132, .inl (fs))), (cm, .inl (G.2.1, 132, .inl (fm))), (tr, .inr (5, [.ref wa, .ref cu, .ref tn, .ref tc, .ref ts, .int 0, .int 0])), (tn, .inl (G.2.1, 1024, .inl (ft)))] s.heap := hP
  have hw5 : ∀ w ∈ u_ws RX5 TX5 7, w ∈ wsX7_nodes := by decide +kernel
  have hf193 := hts (.fieldLink RX7 193 "Nettle$Tree" "count" "I") (by decide +kernel)
  refine lv_aload_n hx hb dX7_nodes_0 rfl (lv_at hl 0 rfl) ?_
  refine zcall (wr := []) (va_runV (As := []) (rest := []) ⟨hx, hb, hml, hown, hts⟩ (z_X7_compiled0 l G x wa wb su cu tr co lo pk ro rb cc cs cm (fc) (fs) (fm) tn tc ts (ft) s.heap.size) (cwV 0 hts gX7_nodes_X7_compiled rfl rfl rfl (by decide +kernel) ⟨Nat.le_of_ble_eq_true rfl, Nat.le_of_ble_eq_true rfl⟩) (zPreV (Wc := [(x, .inr (7, [.ref wa, .ref wb, .ref su, .ref cu, .ref tr, .ref co, .ref lo, .ref pk])), (cu, .inr (1, [.ref wa, .ref wb, .ref cc, .ref cs, .ref cm, .int 0])), (wa, .inr (6, [.ref ro, .int 0, .int 0])), (wb, .inr (6, [.ref rb, .int 0, .int 0])), (cc, .inl (G.2.1, 4, .inl (fc))), (cs, .inl (G.2.1, 132, .inl (fs))), (cm, .inl (G.2.1, 132, .inl (fm))), (tr, .inr (5, [.ref wa, .ref cu, .ref tn, .ref tc, .ref ts, .int 0, .int 0])), (tn, .inl (G.2.1, 1024, .inl (ft)))]) (q0 := 0) (ci := 7) (q := (RX7, TX7, 8)) hP hD hE hS hA [0, 1, 2, 3, 4, 5, 6, 7, 8] rfl (by decide) rfl rfl) rfl rfl hl.1 rfl (lv_room (Nat.le_of_ble_eq_true rfl)) dX7_nodes_1 ⟨Nat.le_of_ble_eq_true rfl, Nat.le_of_ble_eq_true rfl⟩) hP hD hS hA [0, 1, 2, 3, 4, 5, 6, 7, 8] [] rfl rfl (by decide) (by decide) (fun u1 H locs hP hD hS => ?_)
  have hP : va_P G.1 vwCl [(x, .inr (7, [.ref wa, .ref wb, .ref su, .ref cu, .ref tr, .ref co, .ref lo, .ref pk])), (cu, .inr (1, [.ref wa, .ref wb, .ref cc, .ref cs, .ref cm, .int 1])), (cc, .inl (G.2.1, 4, .inl (upd (upd (upd (upd fc 0 1) 1 1) 2 1) 3 1))), (cs, .inl (G.2.1, 132, .inl (upd (upd (upd (upd fs 0 0) 33 0) 66 0) 99 0))), (cm, .inl (G.2.1, 132, .inl (upd (upd (upd (upd fm 0 0) 33 0) 66 0) 99 0))), (wb, .inr (6, [.ref rb, .int 0, .int 0])), (tn, .inl (G.2.1, 1024, .inl (zfill 1024 ft))), (tr, .inr (5, [.ref wa, .ref cu, .ref tn, .ref tc, .ref ts, .int 0, .int 1])), (wa, .inr (6, [.ref ro, .int 0, .int 0]))] H := hP
  have hD : va_D A [(x, .inr (7, [.ref wa, .ref wb, .ref su, .ref cu, .ref tr, .ref co, .ref lo, .ref pk])), (cu, .inr (1, [.ref wa, .ref wb, .ref cc, .ref cs, .ref cm, .int 1])), (cc, .inl (G.2.1, 4, .inl (upd (upd (upd (upd fc 0 1) 1 1) 2 1) 3 1))), (cs, .inl (G.2.1, 132, .inl (upd (upd (upd (upd fs 0 0) 33 0) 66 0) 99 0))), (cm, .inl (G.2.1, 132, .inl (upd (upd (upd (upd fm 0 0) 33 0) 66 0) 99 0))), (wb, .inr (6, [.ref rb, .int 0, .int 0])), (tn, .inl (G.2.1, 1024, .inl (zfill 1024 ft))), (tr, .inr (5, [.ref wa, .ref cu, .ref tn, .ref tc, .ref ts, .int 0, .int 1])), (wa, .inr (6, [.ref ro, .int 0, .int 0]))] := hD
  refine W.eq (g2 := F0 m 4 ls [.ref tr]) rfl ?_
  refine va_get (D := G.1) (ci := 5) (v := .int 0) (C := RX5) (T := TX5) (N := 7) hx hb hts hw5 hown hE.1 hP 7 rfl rfl 5 (by decide) hf193 (fun _ h9 => h9) rfl dX7_nodes_4 ?_
  exact zend_i hx hb hr hlocks (fun k => [].getD k 0) hP hD hS (Nat.le_of_ble_eq_true rfl) (Nat.le_of_ble_eq_true rfl) dX7_nodes_7

set_option maxHeartbeats 4000000 in
set_option maxRecDepth 100000 in
theorem z_X7_nodes1 (l : Launch) (G : zG) (x : Nat) (wa : Nat) (wb : Nat) (su : Nat) (cu : Nat) (tr : Nat) (co : Nat) (lo : Nat) (pk : Nat) (cc : Nat) (cs : Nat) (cm : Nat) (tn : Nat) (tc : Nat) (ts : Nat) : zR l G yX7_nodes wsX7_nodes { frames := 2, cells := 0, slots := 0, locals := 41 } [(x, .inr (7, [.ref wa, .ref wb, .ref su, .ref cu, .ref tr, .ref co, .ref lo, .ref pk])), (cu, .inr (1, [.ref wa, .ref wb, .ref cc, .ref cs, .ref cm, .int 1])), (tr, .inr (5, [.ref wa, .ref cu, .ref tn, .ref tc, .ref ts, .int 0, .int 1]))] [.ref x] (some (.int 0)) (fun u => [(x, .inr (7, [.ref wa, .ref wb, .ref su, .ref cu, .ref tr, .ref co, .ref lo, .ref pk])), (cu, .inr (1, [.ref wa, .ref wb, .ref cc, .ref cs, .ref cm, .int 1])), (tr, .inr (5, [.ref wa, .ref cu, .ref tn, .ref tc, .ref ts, .int 0, .int 1]))]) 0 0 := by
  refine zR_of (cc := cX7_nodes) (maxL := 1) (rt := (some .int)) (by decide) rfl (Nat.le_of_ble_eq_true rfl) ?_
  intro p e s m below meth c A ls hx hb hml hr hts hown hlocks hin hA hE hP hD hS hl
  have hl : lv_has ls 1 [(0, .ref x)] := hl
  have hown : s.vm.findClass RX7 = some m.cls := hown
  have hP : va_P G.1 vwCl [(x, .inr (7, [.ref wa, .ref wb, .ref su, .ref cu, .ref tr, .ref co, .ref lo, .ref pk])), (cu, .inr (1, [.ref wa, .ref wb, .ref cc, .ref cs, .ref cm, .int 1])), (tr, .inr (5, [.ref wa, .ref cu, .ref tn, .ref tc, .ref ts, .int 0, .int 1]))] s.heap := hP
  have hw5 : ∀ w ∈ u_ws RX5 TX5 7, w ∈ wsX7_nodes := by decide +kernel
  have hf193 := hts (.fieldLink RX7 193 "Nettle$Tree" "count" "I") (by decide +kernel)
  refine lv_aload_n hx hb dX7_nodes_0 rfl (lv_at hl 0 rfl) ?_
  refine zcall (wr := []) (va_runV (As := []) (rest := []) ⟨hx, hb, hml, hown, hts⟩ (z_X7_compiled1 l G x wa wb su cu tr co lo pk cc cs cm tn tc ts s.heap.size) (cwV 0 hts gX7_nodes_X7_compiled rfl rfl rfl (by decide +kernel) ⟨Nat.le_of_ble_eq_true rfl, Nat.le_of_ble_eq_true rfl⟩) (zPreV (Wc := [(x, .inr (7, [.ref wa, .ref wb, .ref su, .ref cu, .ref tr, .ref co, .ref lo, .ref pk])), (cu, .inr (1, [.ref wa, .ref wb, .ref cc, .ref cs, .ref cm, .int 1])), (tr, .inr (5, [.ref wa, .ref cu, .ref tn, .ref tc, .ref ts, .int 0, .int 1]))]) (q0 := 0) (ci := 7) (q := (RX7, TX7, 8)) hP hD hE hS hA [0, 1, 2] rfl (by decide) rfl rfl) rfl rfl hl.1 rfl (lv_room (Nat.le_of_ble_eq_true rfl)) dX7_nodes_1 ⟨Nat.le_of_ble_eq_true rfl, Nat.le_of_ble_eq_true rfl⟩) hP hD hS hA [0, 1, 2] [] rfl rfl (by decide) (by decide) (fun u1 H locs hP hD hS => ?_)
  have hP : va_P G.1 vwCl [(x, .inr (7, [.ref wa, .ref wb, .ref su, .ref cu, .ref tr, .ref co, .ref lo, .ref pk])), (cu, .inr (1, [.ref wa, .ref wb, .ref cc, .ref cs, .ref cm, .int 1])), (tr, .inr (5, [.ref wa, .ref cu, .ref tn, .ref tc, .ref ts, .int 0, .int 1]))] H := hP
  have hD : va_D A [(x, .inr (7, [.ref wa, .ref wb, .ref su, .ref cu, .ref tr, .ref co, .ref lo, .ref pk])), (cu, .inr (1, [.ref wa, .ref wb, .ref cc, .ref cs, .ref cm, .int 1])), (tr, .inr (5, [.ref wa, .ref cu, .ref tn, .ref tc, .ref ts, .int 0, .int 1]))] := hD
  refine W.eq (g2 := F0 m 4 ls [.ref tr]) rfl ?_
  refine va_get (D := G.1) (ci := 5) (v := .int 0) (C := RX5) (T := TX5) (N := 7) hx hb hts hw5 hown hE.1 hP 2 rfl rfl 5 (by decide) hf193 (fun _ h9 => h9) rfl dX7_nodes_4 ?_
  exact zend_i hx hb hr hlocks (fun k => [].getD k 0) hP hD hS (Nat.le_of_ble_eq_true rfl) (Nat.le_of_ble_eq_true rfl) dX7_nodes_7

set_option maxHeartbeats 4000000 in
set_option maxRecDepth 100000 in
theorem z_X7_ofNode (l : Launch) (G : zG) (x : Nat) (wa : Nat) (wb : Nat) (su : Nat) (cu : Nat) (tr : Nat) (co : Nat) (lo : Nat) (pk : Nat) (ro : Nat) (rb : Nat) (cc : Nat) (cs : Nat) (cm : Nat) (fc : Nat → Int32) (fs : Nat → Int32) (fm : Nat → Int32) (tn : Nat) (tc : Nat) (ts : Nat) (ft : Nat → Int32) (p0 : Int32) (p1 : Int32) (hl0 : l.stackTraces = false) : zT l G yX7_ofNode wsX7_ofNode { frames := 7, cells := 1, slots := 6, locals := 114 } [(x, .inr (7, [.ref wa, .ref wb, .ref su, .ref cu, .ref tr, .ref co, .ref lo, .ref pk])), (cu, .inr (1, [.ref wa, .ref wb, .ref cc, .ref cs, .ref cm, .int 0])), (wa, .inr (6, [.ref ro, .int 0, .int 0])), (wb, .inr (6, [.ref rb, .int 0, .int 0])), (cc, .inl (G.2.1, 4, .inl (fc))), (cs, .inl (G.2.1, 132, .inl (fs))), (cm, .inl (G.2.1, 132, .inl (fm))), (tr, .inr (5, [.ref wa, .ref cu, .ref tn, .ref tc, .ref ts, .int 0, .int 0])), (tn, .inl (G.2.1, 1024, .inl (ft)))] [.ref x, .int p0, .int p1] "java/lang/IndexOutOfBoundsException" [(x, .inr (7, [.ref wa, .ref wb, .ref su, .ref cu, .ref tr, .ref co, .ref lo, .ref pk])), (cu, .inr (1, [.ref wa, .ref wb, .ref cc, .ref cs, .ref cm, .int 1])), (cc, .inl (G.2.1, 4, .inl (upd (upd (upd (upd fc 0 1) 1 1) 2 1) 3 1))), (cs, .inl (G.2.1, 132, .inl (upd (upd (upd (upd fs 0 0) 33 0) 66 0) 99 0))), (cm, .inl (G.2.1, 132, .inl (upd (upd (upd (upd fm 0 0) 33 0) 66 0) 99 0))), (wb, .inr (6, [.ref rb, .int 0, .int 0])), (tn, .inl (G.2.1, 1024, .inl (zfill 1024 ft))), (wa, .inr (6, [.ref ro, .int 0, .int 0])), (tr, .inr (5, [.ref wa, .ref cu, .ref tn, .ref tc, .ref ts, .int 0, .int 1]))] 1 6 := by
  refine zT_of (cc := cX7_ofNode) (maxL := 4) (rt := (some .int)) (by decide) rfl (Nat.le_of_ble_eq_true rfl) ?_
  intro p e s m below meth c A ls hx hb hml hr hts hown hlocks ht hA hE hP hD hS hl
  have hl : lv_has ls 4 [(0, .ref x), (1, .int p0), (2, .int p1)] := hl
  have hown : s.vm.findClass RX7 = some m.cls := hown
  have hP : va_P G.1 vwCl [(x, .inr (7, [.ref wa, .ref wb, .ref su, .ref cu, .ref tr, .ref co, .ref lo, .ref pk])), (cu, .inr (1, [.ref wa, .ref wb, .ref cc, .ref cs, .ref cm, .int 0])), (wa, .inr (6, [.ref ro, .int 0, .int 0])), (wb, .inr (6, [.ref rb, .int 0, .int 0])), (cc, .inl (G.2.1, 4, .inl (fc))), (cs, .inl (G.2.1, 132, .inl (fs))), (cm, .inl (G.2.1, 132, .inl (fm))), (tr, .inr (5, [.ref wa, .ref cu, .ref tn, .ref tc, .ref ts, .int 0, .int 0])), (tn, .inl (G.2.1, 1024, .inl (ft)))] s.heap := hP
  refine lv_aload_n hx hb dX7_ofNode_0 rfl (lv_at hl 0 rfl) ?_
  refine zcall (wr := []) (va_runV (As := []) (rest := []) ⟨hx, hb, hml, hown, hts⟩ (z_X7_compiled0 l G x wa wb su cu tr co lo pk ro rb cc cs cm (fc) (fs) (fm) tn tc ts (ft) s.heap.size) (cwV 0 hts gX7_ofNode_X7_compiled rfl rfl rfl (by decide +kernel) ⟨Nat.le_of_ble_eq_true rfl, Nat.le_of_ble_eq_true rfl⟩) (zPreV (Wc := [(x, .inr (7, [.ref wa, .ref wb, .ref su, .ref cu, .ref tr, .ref co, .ref lo, .ref pk])), (cu, .inr (1, [.ref wa, .ref wb, .ref cc, .ref cs, .ref cm, .int 0])), (wa, .inr (6, [.ref ro, .int 0, .int 0])), (wb, .inr (6, [.ref rb, .int 0, .int 0])), (cc, .inl (G.2.1, 4, .inl (fc))), (cs, .inl (G.2.1, 132, .inl (fs))), (cm, .inl (G.2.1, 132, .inl (fm))), (tr, .inr (5, [.ref wa, .ref cu, .ref tn, .ref tc, .ref ts, .int 0, .int 0])), (tn, .inl (G.2.1, 1024, .inl (ft)))]) (q0 := 0) (ci := 7) (q := (RX7, TX7, 8)) hP hD hE hS hA [0, 1, 2, 3, 4, 5, 6, 7, 8] rfl (by decide) rfl rfl) rfl rfl hl.1 rfl (lv_room (Nat.le_of_ble_eq_true rfl)) dX7_ofNode_1 ⟨Nat.le_of_ble_eq_true rfl, Nat.le_of_ble_eq_true rfl⟩) hP hD hS hA [0, 1, 2, 3, 4, 5, 6, 7, 8] [] rfl rfl (by decide) (by decide) (fun u1 H locs hP hD hS => ?_)
  have hP : va_P G.1 vwCl [(x, .inr (7, [.ref wa, .ref wb, .ref su, .ref cu, .ref tr, .ref co, .ref lo, .ref pk])), (cu, .inr (1, [.ref wa, .ref wb, .ref cc, .ref cs, .ref cm, .int 1])), (cc, .inl (G.2.1, 4, .inl (upd (upd (upd (upd fc 0 1) 1 1) 2 1) 3 1))), (cs, .inl (G.2.1, 132, .inl (upd (upd (upd (upd fs 0 0) 33 0) 66 0) 99 0))), (cm, .inl (G.2.1, 132, .inl (upd (upd (upd (upd fm 0 0) 33 0) 66 0) 99 0))), (wb, .inr (6, [.ref rb, .int 0, .int 0])), (tn, .inl (G.2.1, 1024, .inl (zfill 1024 ft))), (tr, .inr (5, [.ref wa, .ref cu, .ref tn, .ref tc, .ref ts, .int 0, .int 1])), (wa, .inr (6, [.ref ro, .int 0, .int 0]))] H := hP
  have hD : va_D A [(x, .inr (7, [.ref wa, .ref wb, .ref su, .ref cu, .ref tr, .ref co, .ref lo, .ref pk])), (cu, .inr (1, [.ref wa, .ref wb, .ref cc, .ref cs, .ref cm, .int 1])), (cc, .inl (G.2.1, 4, .inl (upd (upd (upd (upd fc 0 1) 1 1) 2 1) 3 1))), (cs, .inl (G.2.1, 132, .inl (upd (upd (upd (upd fs 0 0) 33 0) 66 0) 99 0))), (cm, .inl (G.2.1, 132, .inl (upd (upd (upd (upd fm 0 0) 33 0) 66 0) 99 0))), (wb, .inr (6, [.ref rb, .int 0, .int 0])), (tn, .inl (G.2.1, 1024, .inl (zfill 1024 ft))), (tr, .inr (5, [.ref wa, .ref cu, .ref tn, .ref tc, .ref ts, .int 0, .int 1])), (wa, .inr (6, [.ref ro, .int 0, .int 0]))] := hD
  refine W.eq (g2 := F0 m 4 ls [.ref tr]) rfl ?_
  refine lv_astore_n (lv' := [(3, .ref tr), (0, .ref x), (1, .int p0), (2, .int p1)]) hx hb dX7_ofNode_4 rfl hl (by decide) rfl (fun ls hl => ?_)
  refine lv_aload_n hx hb dX7_ofNode_5 rfl (lv_at hl 0 rfl) ?_
  refine lv_iload_n hx hb dX7_ofNode_6 rfl (lv_at hl 2 rfl) ?_
  refine zcallT (wr := [(x, .inr (7, [.ref wa, .ref wb, .ref su, .ref cu, .ref tr, .ref co, .ref lo, .ref pk])), (cu, .inr (1, [.ref wa, .ref wb, .ref cc, .ref cs, .ref cm, .int 1])), (cc, .inl (G.2.1, 4, .inl (upd (upd (upd (upd fc 0 1) 1 1) 2 1) 3 1))), (cs, .inl (G.2.1, 132, .inl (upd (upd (upd (upd fs 0 0) 33 0) 66 0) 99 0))), (cm, .inl (G.2.1, 132, .inl (upd (upd (upd (upd fm 0 0) 33 0) 66 0) 99 0))), (wb, .inr (6, [.ref rb, .int 0, .int 0])), (tn, .inl (G.2.1, 1024, .inl (zfill 1024 ft))), (wa, .inr (6, [.ref ro, .int 0, .int 0]))]) (vx_runS (As := [.ref tr, .int p0]) (rest := []) ⟨hx, hb, hml, hown, hts⟩ (z_X7_needNode l G tr wa cu tn tc ts 1 p0 hl0 H.size) (va_cwS 2 hts gX7_ofNode_X7_needNode rfl rfl rfl (by decide +kernel) ⟨Nat.le_of_ble_eq_true rfl, Nat.le_of_ble_eq_true rfl⟩) (zPre (Wc := [(tr, .inr (5, [.ref wa, .ref cu, .ref tn, .ref tc, .ref ts, .int 0, .int 1]))]) hP hD hE hS hA [7] rfl (by decide)) rfl rfl hl.1 rfl (lv_room (Nat.le_of_ble_eq_true rfl)) dX7_ofNode_7 ⟨Nat.le_of_ble_eq_true rfl, Nat.le_of_ble_eq_true rfl⟩) hP hD hS hA [7] [0, 1, 2, 3, 4, 5, 6, 8] rfl rfl (by decide) (by decide) (fun ce q9 H locs hP hD hS hce hcv hcl => ?_)
  have hP : va_P G.1 vwCl [(x, .inr (7, [.ref wa, .ref wb, .ref su, .ref cu, .ref tr, .ref co, .ref lo, .ref pk])), (cu, .inr (1, [.ref wa, .ref wb, .ref cc, .ref cs, .ref cm, .int 1])), (cc, .inl (G.2.1, 4, .inl (upd (upd (upd (upd fc 0 1) 1 1) 2 1) 3 1))), (cs, .inl (G.2.1, 132, .inl (upd (upd (upd (upd fs 0 0) 33 0) 66 0) 99 0))), (cm, .inl (G.2.1, 132, .inl (upd (upd (upd (upd fm 0 0) 33 0) 66 0) 99 0))), (wb, .inr (6, [.ref rb, .int 0, .int 0])), (tn, .inl (G.2.1, 1024, .inl (zfill 1024 ft))), (wa, .inr (6, [.ref ro, .int 0, .int 0])), (tr, .inr (5, [.ref wa, .ref cu, .ref tn, .ref tc, .ref ts, .int 0, .int 1]))] H := hP
  have hD : va_D A [(x, .inr (7, [.ref wa, .ref wb, .ref su, .ref cu, .ref tr, .ref co, .ref lo, .ref pk])), (cu, .inr (1, [.ref wa, .ref wb, .ref cc, .ref cs, .ref cm, .int 1])), (cc, .inl (G.2.1, 4, .inl (upd (upd (upd (upd fc 0 1) 1 1) 2 1) 3 1))), (cs, .inl (G.2.1, 132, .inl (upd (upd (upd (upd fs 0 0) 33 0) 66 0) 99 0))), (cm, .inl (G.2.1, 132, .inl (upd (upd (upd (upd fm 0 0) 33 0) 66 0) 99 0))), (wb, .inr (6, [.ref rb, .int 0, .int 0])), (tn, .inl (G.2.1, 1024, .inl (zfill 1024 ft))), (wa, .inr (6, [.ref ro, .int 0, .int 0])), (tr, .inr (5, [.ref wa, .ref cu, .ref tn, .ref tc, .ref ts, .int 0, .int 1]))] := hD
  exact zout ht hlocks hP hD hS hce hcv hcl (Nat.le_of_ble_eq_true rfl) (Nat.le_of_ble_eq_true rfl)

set_option maxHeartbeats 4000000 in
set_option maxRecDepth 100000 in
theorem z_X7_piece (l : Launch) (G : zG) (x : Nat) (wa : Nat) (wb : Nat) (su : Nat) (cu : Nat) (tr : Nat) (co : Nat) (lo : Nat) (pk : Nat) (ro : Nat) (rb : Nat) (cc : Nat) (cs : Nat) (cm : Nat) (fc : Nat → Int32) (fs : Nat → Int32) (fm : Nat → Int32) (tn : Nat) (tc : Nat) (ts : Nat) (ft : Nat → Int32) (p0 : Int32) (p1 : Int32) (p2 : Int32) (hl0 : l.stackTraces = false) : zT l G yX7_piece wsX7_piece { frames := 7, cells := 1, slots := 6, locals := 114 } [(x, .inr (7, [.ref wa, .ref wb, .ref su, .ref cu, .ref tr, .ref co, .ref lo, .ref pk])), (cu, .inr (1, [.ref wa, .ref wb, .ref cc, .ref cs, .ref cm, .int 0])), (wa, .inr (6, [.ref ro, .int 0, .int 0])), (wb, .inr (6, [.ref rb, .int 0, .int 0])), (cc, .inl (G.2.1, 4, .inl (fc))), (cs, .inl (G.2.1, 132, .inl (fs))), (cm, .inl (G.2.1, 132, .inl (fm))), (tr, .inr (5, [.ref wa, .ref cu, .ref tn, .ref tc, .ref ts, .int 0, .int 0])), (tn, .inl (G.2.1, 1024, .inl (ft)))] [.ref x, .int p0, .int p1, .int p2] "java/lang/IndexOutOfBoundsException" [(x, .inr (7, [.ref wa, .ref wb, .ref su, .ref cu, .ref tr, .ref co, .ref lo, .ref pk])), (cu, .inr (1, [.ref wa, .ref wb, .ref cc, .ref cs, .ref cm, .int 1])), (cc, .inl (G.2.1, 4, .inl (upd (upd (upd (upd fc 0 1) 1 1) 2 1) 3 1))), (cs, .inl (G.2.1, 132, .inl (upd (upd (upd (upd fs 0 0) 33 0) 66 0) 99 0))), (cm, .inl (G.2.1, 132, .inl (upd (upd (upd (upd fm 0 0) 33 0) 66 0) 99 0))), (wb, .inr (6, [.ref rb, .int 0, .int 0])), (tn, .inl (G.2.1, 1024, .inl (zfill 1024 ft))), (wa, .inr (6, [.ref ro, .int 0, .int 0])), (tr, .inr (5, [.ref wa, .ref cu, .ref tn, .ref tc, .ref ts, .int 0, .int 1]))] 1 6 := by
  refine zT_of (cc := cX7_piece) (maxL := 7) (rt := (some .int)) (by decide) rfl (Nat.le_of_ble_eq_true rfl) ?_
  intro p e s m below meth c A ls hx hb hml hr hts hown hlocks ht hA hE hP hD hS hl
  have hl : lv_has ls 7 [(0, .ref x), (1, .int p0), (2, .int p1), (3, .int p2)] := hl
  have hown : s.vm.findClass RX7 = some m.cls := hown
  have hP : va_P G.1 vwCl [(x, .inr (7, [.ref wa, .ref wb, .ref su, .ref cu, .ref tr, .ref co, .ref lo, .ref pk])), (cu, .inr (1, [.ref wa, .ref wb, .ref cc, .ref cs, .ref cm, .int 0])), (wa, .inr (6, [.ref ro, .int 0, .int 0])), (wb, .inr (6, [.ref rb, .int 0, .int 0])), (cc, .inl (G.2.1, 4, .inl (fc))), (cs, .inl (G.2.1, 132, .inl (fs))), (cm, .inl (G.2.1, 132, .inl (fm))), (tr, .inr (5, [.ref wa, .ref cu, .ref tn, .ref tc, .ref ts, .int 0, .int 0])), (tn, .inl (G.2.1, 1024, .inl (ft)))] s.heap := hP
  refine lv_aload_n hx hb dX7_piece_0 rfl (lv_at hl 0 rfl) ?_
  refine zcall (wr := []) (va_runV (As := []) (rest := []) ⟨hx, hb, hml, hown, hts⟩ (z_X7_compiled0 l G x wa wb su cu tr co lo pk ro rb cc cs cm (fc) (fs) (fm) tn tc ts (ft) s.heap.size) (cwV 0 hts gX7_piece_X7_compiled rfl rfl rfl (by decide +kernel) ⟨Nat.le_of_ble_eq_true rfl, Nat.le_of_ble_eq_true rfl⟩) (zPreV (Wc := [(x, .inr (7, [.ref wa, .ref wb, .ref su, .ref cu, .ref tr, .ref co, .ref lo, .ref pk])), (cu, .inr (1, [.ref wa, .ref wb, .ref cc, .ref cs, .ref cm, .int 0])), (wa, .inr (6, [.ref ro, .int 0, .int 0])), (wb, .inr (6, [.ref rb, .int 0, .int 0])), (cc, .inl (G.2.1, 4, .inl (fc))), (cs, .inl (G.2.1, 132, .inl (fs))), (cm, .inl (G.2.1, 132, .inl (fm))), (tr, .inr (5, [.ref wa, .ref cu, .ref tn, .ref tc, .ref ts, .int 0, .int 0])), (tn, .inl (G.2.1, 1024, .inl (ft)))]) (q0 := 0) (ci := 7) (q := (RX7, TX7, 8)) hP hD hE hS hA [0, 1, 2, 3, 4, 5, 6, 7, 8] rfl (by decide) rfl rfl) rfl rfl hl.1 rfl (lv_room (Nat.le_of_ble_eq_true rfl)) dX7_piece_1 ⟨Nat.le_of_ble_eq_true rfl, Nat.le_of_ble_eq_true rfl⟩) hP hD hS hA [0, 1, 2, 3, 4, 5, 6, 7, 8] [] rfl rfl (by decide) (by decide) (fun u1 H locs hP hD hS => ?_)
  have hP : va_P G.1 vwCl [(x, .inr (7, [.ref wa, .ref wb, .ref su, .ref cu, .ref tr, .ref co, .ref lo, .ref pk])), (cu, .inr (1, [.ref wa, .ref wb, .ref cc, .ref cs, .ref cm, .int 1])), (cc, .inl (G.2.1, 4, .inl (upd (upd (upd (upd fc 0 1) 1 1) 2 1) 3 1))), (cs, .inl (G.2.1, 132, .inl (upd (upd (upd (upd fs 0 0) 33 0) 66 0) 99 0))), (cm, .inl (G.2.1, 132, .inl (upd (upd (upd (upd fm 0 0) 33 0) 66 0) 99 0))), (wb, .inr (6, [.ref rb, .int 0, .int 0])), (tn, .inl (G.2.1, 1024, .inl (zfill 1024 ft))), (tr, .inr (5, [.ref wa, .ref cu, .ref tn, .ref tc, .ref ts, .int 0, .int 1])), (wa, .inr (6, [.ref ro, .int 0, .int 0]))] H := hP
  have hD : va_D A [(x, .inr (7, [.ref wa, .ref wb, .ref su, .ref cu, .ref tr, .ref co, .ref lo, .ref pk])), (cu, .inr (1, [.ref wa, .ref wb, .ref cc, .ref cs, .ref cm, .int 1])), (cc, .inl (G.2.1, 4, .inl (upd (upd (upd (upd fc 0 1) 1 1) 2 1) 3 1))), (cs, .inl (G.2.1, 132, .inl (upd (upd (upd (upd fs 0 0) 33 0) 66 0) 99 0))), (cm, .inl (G.2.1, 132, .inl (upd (upd (upd (upd fm 0 0) 33 0) 66 0) 99 0))), (wb, .inr (6, [.ref rb, .int 0, .int 0])), (tn, .inl (G.2.1, 1024, .inl (zfill 1024 ft))), (tr, .inr (5, [.ref wa, .ref cu, .ref tn, .ref tc, .ref ts, .int 0, .int 1])), (wa, .inr (6, [.ref ro, .int 0, .int 0]))] := hD
  refine W.eq (g2 := F0 m 4 ls [.ref tr]) rfl ?_
  refine lv_astore (lv' := [(4, .ref tr), (0, .ref x), (1, .int p0), (2, .int p1), (3, .int p2)]) hx hb dX7_piece_4 hl (by decide) rfl (fun ls hl => ?_)
  refine lv_aload hx hb dX7_piece_6 (lv_at hl 0 rfl) ?_
  refine lv_iload_n hx hb dX7_piece_8 rfl (lv_at hl 2 rfl) ?_
  refine zcallT (wr := [(x, .inr (7, [.ref wa, .ref wb, .ref su, .ref cu, .ref tr, .ref co, .ref lo, .ref pk])), (cu, .inr (1, [.ref wa, .ref wb, .ref cc, .ref cs, .ref cm, .int 1])), (cc, .inl (G.2.1, 4, .inl (upd (upd (upd (upd fc 0 1) 1 1) 2 1) 3 1))), (cs, .inl (G.2.1, 132, .inl (upd (upd (upd (upd fs 0 0) 33 0) 66 0) 99 0))), (cm, .inl (G.2.1, 132, .inl (upd (upd (upd (upd fm 0 0) 33 0) 66 0) 99 0))), (wb, .inr (6, [.ref rb, .int 0, .int 0])), (tn, .inl (G.2.1, 1024, .inl (zfill 1024 ft))), (wa, .inr (6, [.ref ro, .int 0, .int 0]))]) (vx_runS (As := [.ref tr, .int p0]) (rest := []) ⟨hx, hb, hml, hown, hts⟩ (z_X7_needNode l G tr wa cu tn tc ts 1 p0 hl0 H.size) (va_cwS 2 hts gX7_piece_X7_needNode rfl rfl rfl (by decide +kernel) ⟨Nat.le_of_ble_eq_true rfl, Nat.le_of_ble_eq_true rfl⟩) (zPre (Wc := [(tr, .inr (5, [.ref wa, .ref cu, .ref tn, .ref tc, .ref ts, .int 0, .int 1]))]) hP hD hE hS hA [7] rfl (by decide)) rfl rfl hl.1 rfl (lv_room (Nat.le_of_ble_eq_true rfl)) dX7_piece_9 ⟨Nat.le_of_ble_eq_true rfl, Nat.le_of_ble_eq_true rfl⟩) hP hD hS hA [7] [0, 1, 2, 3, 4, 5, 6, 8] rfl rfl (by decide) (by decide) (fun ce q9 H locs hP hD hS hce hcv hcl => ?_)
  have hP : va_P G.1 vwCl [(x, .inr (7, [.ref wa, .ref wb, .ref su, .ref cu, .ref tr, .ref co, .ref lo, .ref pk])), (cu, .inr (1, [.ref wa, .ref wb, .ref cc, .ref cs, .ref cm, .int 1])), (cc, .inl (G.2.1, 4, .inl (upd (upd (upd (upd fc 0 1) 1 1) 2 1) 3 1))), (cs, .inl (G.2.1, 132, .inl (upd (upd (upd (upd fs 0 0) 33 0) 66 0) 99 0))), (cm, .inl (G.2.1, 132, .inl (upd (upd (upd (upd fm 0 0) 33 0) 66 0) 99 0))), (wb, .inr (6, [.ref rb, .int 0, .int 0])), (tn, .inl (G.2.1, 1024, .inl (zfill 1024 ft))), (wa, .inr (6, [.ref ro, .int 0, .int 0])), (tr, .inr (5, [.ref wa, .ref cu, .ref tn, .ref tc, .ref ts, .int 0, .int 1]))] H := hP
  have hD : va_D A [(x, .inr (7, [.ref wa, .ref wb, .ref su, .ref cu, .ref tr, .ref co, .ref lo, .ref pk])), (cu, .inr (1, [.ref wa, .ref wb, .ref cc, .ref cs, .ref cm, .int 1])), (cc, .inl (G.2.1, 4, .inl (upd (upd (upd (upd fc 0 1) 1 1) 2 1) 3 1))), (cs, .inl (G.2.1, 132, .inl (upd (upd (upd (upd fs 0 0) 33 0) 66 0) 99 0))), (cm, .inl (G.2.1, 132, .inl (upd (upd (upd (upd fm 0 0) 33 0) 66 0) 99 0))), (wb, .inr (6, [.ref rb, .int 0, .int 0])), (tn, .inl (G.2.1, 1024, .inl (zfill 1024 ft))), (wa, .inr (6, [.ref ro, .int 0, .int 0])), (tr, .inr (5, [.ref wa, .ref cu, .ref tn, .ref tc, .ref ts, .int 0, .int 1]))] := hD
  exact zout ht hlocks hP hD hS hce hcv hcl (Nat.le_of_ble_eq_true rfl) (Nat.le_of_ble_eq_true rfl)

set_option maxHeartbeats 4000000 in
set_option maxRecDepth 100000 in
theorem z_X7_steps (l : Launch) (G : zG) (x : Nat) (wa : Nat) (wb : Nat) (su : Nat) (cu : Nat) (tr : Nat) (co : Nat) (lo : Nat) (pk : Nat) (ro : Nat) (p0 : Int32) (p1 : Int32) (p2 : Int32) (p3 : Int32) (fp : Nat → Int32) (hok : zOk p0 p1 p2 p3) : zR l G yX7_steps wsX7_steps { frames := 2, cells := 0, slots := 0, locals := 45 } [(x, .inr (7, [.ref wa, .ref wb, .ref su, .ref cu, .ref tr, .ref co, .ref lo, .ref pk])), (pk, .inl (G.2.1, 4, .inl (fp))), (wa, .inr (6, [.ref ro, .int 0, .int 0]))] [.ref x, .int p0, .int p1, .int p2, .int p3] (some (.int 0)) (fun u => [(x, .inr (7, [.ref wa, .ref wb, .ref su, .ref cu, .ref tr, .ref co, .ref lo, .ref pk])), (pk, .inl (G.2.1, 4, .inl (upd (upd (upd (upd fp 0 p0) 1 p1) 2 p2) 3 p3))), (wa, .inr (6, [.ref ro, .int 0, .int 0]))]) 0 0 := by
  refine zR_of (cc := cX7_steps) (maxL := 8) (rt := (some .int)) (by decide) rfl (Nat.le_of_ble_eq_true rfl) ?_
  intro p e s m below meth c A ls hx hb hml hr hts hown hlocks hin hA hE hP hD hS hl
  have hl : lv_has ls 8 [(0, .ref x), (1, .int p0), (2, .int p1), (3, .int p2), (4, .int p3)] := hl
  have hown : s.vm.findClass RX7 = some m.cls := hown
  have hP : va_P G.1 vwCl [(x, .inr (7, [.ref wa, .ref wb, .ref su, .ref cu, .ref tr, .ref co, .ref lo, .ref pk])), (pk, .inl (G.2.1, 4, .inl (fp))), (wa, .inr (6, [.ref ro, .int 0, .int 0]))] s.heap := hP
  have hw7 : ∀ w ∈ u_ws RX7 TX7 8, w ∈ wsX7_steps := by decide +kernel
  have hf10 := hts (.fieldLink RX7 10 "Nettle" "wall" "LNettle$Wall;") (by decide +kernel)
  refine lv_aload_n hx hb dX7_steps_0 rfl (lv_at hl 0 rfl) ?_
  refine lv_iload_n hx hb dX7_steps_1 rfl (lv_at hl 1 rfl) ?_
  refine lv_iload_n hx hb dX7_steps_2 rfl (lv_at hl 2 rfl) ?_
  refine lv_iload_n hx hb dX7_steps_3 rfl (lv_at hl 3 rfl) ?_
  refine lv_iload hx hb dX7_steps_4 (lv_at hl 4 rfl) ?_
  refine zcall (wr := [(wa, .inr (6, [.ref ro, .int 0, .int 0]))]) (va_runV (As := [.int p0, .int p1, .int p2, .int p3]) (rest := []) ⟨hx, hb, hml, hown, hts⟩ (z_X7_takePacket l G x wa wb su cu tr co lo pk p0 p1 p2 p3 (fp) hok s.heap.size) (cwV 4 hts gX7_steps_X7_takePacket rfl rfl rfl (by decide +kernel) ⟨Nat.le_of_ble_eq_true rfl, Nat.le_of_ble_eq_true rfl⟩) (zPreV (Wc := [(x, .inr (7, [.ref wa, .ref wb, .ref su, .ref cu, .ref tr, .ref co, .ref lo, .ref pk])), (pk, .inl (G.2.1, 4, .inl (fp)))]) (q0 := 0) (ci := 7) (q := (RX7, TX7, 8)) hP hD hE hS hA [0, 1] rfl (by decide) rfl rfl) rfl rfl hl.1 rfl (lv_room (Nat.le_of_ble_eq_true rfl)) dX7_steps_6 ⟨Nat.le_of_ble_eq_true rfl, Nat.le_of_ble_eq_true rfl⟩) hP hD hS hA [0, 1] [2] rfl rfl (by decide) (by decide) (fun u1 H locs hP hD hS => ?_)
  have hP : va_P G.1 vwCl [(wa, .inr (6, [.ref ro, .int 0, .int 0])), (x, .inr (7, [.ref wa, .ref wb, .ref su, .ref cu, .ref tr, .ref co, .ref lo, .ref pk])), (pk, .inl (G.2.1, 4, .inl (upd (upd (upd (upd fp 0 p0) 1 p1) 2 p2) 3 p3)))] H := hP
  have hD : va_D A [(wa, .inr (6, [.ref ro, .int 0, .int 0])), (x, .inr (7, [.ref wa, .ref wb, .ref su, .ref cu, .ref tr, .ref co, .ref lo, .ref pk])), (pk, .inl (G.2.1, 4, .inl (upd (upd (upd (upd fp 0 p0) 1 p1) 2 p2) 3 p3)))] := hD
  refine W.eq (g2 := F0 m 9 ls []) rfl ?_
  refine lv_aload_n hx hb dX7_steps_9 rfl (lv_at hl 0 rfl) ?_
  refine va_get (D := G.1) (ci := 7) (v := .ref wa) (C := RX7) (T := TX7) (N := 8) hx hb hts hw7 hown hE.1 hP 1 rfl rfl 0 (by decide) hf10 (fun _ h9 => h9) rfl dX7_steps_10 ?_
  refine zcall (wr := [(x, .inr (7, [.ref wa, .ref wb, .ref su, .ref cu, .ref tr, .ref co, .ref lo, .ref pk])), (pk, .inl (G.2.1, 4, .inl (upd (upd (upd (upd fp 0 p0) 1 p1) 2 p2) 3 p3)))]) (va_runV (As := []) (rest := []) ⟨hx, hb, hml, hown, hts⟩ (z_X6_deciders l G wa ro H.size) (cwV 0 hts gX7_steps_X6_deciders rfl rfl rfl (by decide +kernel) ⟨Nat.le_of_ble_eq_true rfl, Nat.le_of_ble_eq_true rfl⟩) (zPreV (Wc := [(wa, .inr (6, [.ref ro, .int 0, .int 0]))]) (q0 := 0) (ci := 6) (q := (RX6, TX6, 3)) hP hD hE hS hA [0] rfl (by decide) rfl rfl) rfl rfl hl.1 rfl (lv_room (Nat.le_of_ble_eq_true rfl)) dX7_steps_13 ⟨Nat.le_of_ble_eq_true rfl, Nat.le_of_ble_eq_true rfl⟩) hP hD hS hA [0] [1, 2] rfl rfl (by decide) (by decide) (fun u2 H locs hP hD hS => ?_)
  have hP : va_P G.1 vwCl [(x, .inr (7, [.ref wa, .ref wb, .ref su, .ref cu, .ref tr, .ref co, .ref lo, .ref pk])), (pk, .inl (G.2.1, 4, .inl (upd (upd (upd (upd fp 0 p0) 1 p1) 2 p2) 3 p3))), (wa, .inr (6, [.ref ro, .int 0, .int 0]))] H := hP
  have hD : va_D A [(x, .inr (7, [.ref wa, .ref wb, .ref su, .ref cu, .ref tr, .ref co, .ref lo, .ref pk])), (pk, .inl (G.2.1, 4, .inl (upd (upd (upd (upd fp 0 p0) 1 p1) 2 p2) 3 p3))), (wa, .inr (6, [.ref ro, .int 0, .int 0]))] := hD
  refine W.eq (g2 := F0 m 16 ls [.int 0]) rfl ?_
  refine lv_istore (lv' := [(5, .int 0), (0, .ref x), (1, .int p0), (2, .int p1), (3, .int p2), (4, .int p3)]) hx hb dX7_steps_16 hl (by decide) rfl (fun ls hl => ?_)
  refine lv_iconst (v := 0) hx hb dX7_steps_18 (by decide) ?_
  refine lv_istore (lv' := [(6, .int 0), (5, .int 0), (0, .ref x), (1, .int p0), (2, .int p1), (3, .int p2), (4, .int p3)]) hx hb dX7_steps_19 hl (by decide) rfl (fun ls hl => ?_)
  refine lv_iconst (v := 0) hx hb dX7_steps_21 (by decide) ?_
  refine lv_istore (lv' := [(7, .int 0), (6, .int 0), (5, .int 0), (0, .ref x), (1, .int p0), (2, .int p1), (3, .int p2), (4, .int p3)]) hx hb dX7_steps_22 hl (by decide) rfl (fun ls hl => ?_)
  refine lv_iload hx hb dX7_steps_24 (lv_at hl 0 rfl) ?_
  refine lv_iconst (v := 4) hx hb dX7_steps_26 (by decide) ?_
  refine lv_icmp_ge (tgt := 77) hx hb dX7_steps_27 (by decide) (fun h9 => absurd h9 (by decide)) (fun _ => ?_)
  refine lv_aload_n hx hb dX7_steps_30 rfl (lv_at hl 3 rfl) ?_
  refine va_get (D := G.1) (ci := 7) (v := .ref wa) (C := RX7) (T := TX7) (N := 8) hx hb hts hw7 hown hE.1 hP 0 rfl rfl 0 (by decide) hf10 (fun _ h9 => h9) rfl dX7_steps_31 ?_
  refine lv_iload hx hb dX7_steps_34 (lv_at hl 0 rfl) ?_
  refine lv_iload hx hb dX7_steps_36 (lv_at hl 2 rfl) ?_
  refine zcall (wr := [(x, .inr (7, [.ref wa, .ref wb, .ref su, .ref cu, .ref tr, .ref co, .ref lo, .ref pk])), (pk, .inl (G.2.1, 4, .inl (upd (upd (upd (upd fp 0 p0) 1 p1) 2 p2) 3 p3)))]) (va_runV (As := [.int 0, .int 0]) (rest := []) ⟨hx, hb, hml, hown, hts⟩ (z_X6_isSettled l G wa ro 0 0 H.size) (cwV 2 hts gX7_steps_X6_isSettled rfl rfl rfl (by decide +kernel) ⟨Nat.le_of_ble_eq_true rfl, Nat.le_of_ble_eq_true rfl⟩) (zPreV (Wc := [(wa, .inr (6, [.ref ro, .int 0, .int 0]))]) (q0 := 2) (ci := 6) (q := (RX6, TX6, 3)) hP hD hE hS hA [2] rfl (by decide) rfl rfl) rfl rfl hl.1 rfl (lv_room (Nat.le_of_ble_eq_true rfl)) dX7_steps_38 ⟨Nat.le_of_ble_eq_true rfl, Nat.le_of_ble_eq_true rfl⟩) hP hD hS hA [2] [0, 1] rfl rfl (by decide) (by decide) (fun u3 H locs hP hD hS => ?_)
  have hP : va_P G.1 vwCl [(x, .inr (7, [.ref wa, .ref wb, .ref su, .ref cu, .ref tr, .ref co, .ref lo, .ref pk])), (pk, .inl (G.2.1, 4, .inl (upd (upd (upd (upd fp 0 p0) 1 p1) 2 p2) 3 p3))), (wa, .inr (6, [.ref ro, .int 0, .int 0]))] H := hP
  have hD : va_D A [(x, .inr (7, [.ref wa, .ref wb, .ref su, .ref cu, .ref tr, .ref co, .ref lo, .ref pk])), (pk, .inl (G.2.1, 4, .inl (upd (upd (upd (upd fp 0 p0) 1 p1) 2 p2) 3 p3))), (wa, .inr (6, [.ref ro, .int 0, .int 0]))] := hD
  refine W.eq (g2 := F0 m 41 ls [.int 1]) rfl ?_
  refine lv_if_eq (tgt := 47) hx hb dX7_steps_41 (by decide) (fun h9 => absurd h9 (by decide)) (fun _ => ?_)
  refine lv_goto (tgt := 77) hx hb dX7_steps_44 (by decide) ?_
  refine lv_iload hx hb dX7_steps_77 (lv_at hl 1 rfl) ?_
  exact zend_i hx hb hr hlocks (fun k => [].getD k 0) hP hD hS (Nat.le_of_ble_eq_true rfl) (Nat.le_of_ble_eq_true rfl) dX7_steps_79

set_option maxHeartbeats 4000000 in
set_option maxRecDepth 100000 in
theorem z_X7_stepsT (l : Launch) (G : zG) (x : Nat) (wa : Nat) (wb : Nat) (su : Nat) (cu : Nat) (tr : Nat) (co : Nat) (lo : Nat) (pk : Nat) (p0 : Int32) (p1 : Int32) (p2 : Int32) (p3 : Int32) (hl0 : l.stackTraces = false) (hbad : zBad p0 p1 p2 p3) : zT l G yX7_steps wsX7_steps { frames := 7, cells := 1, slots := 6, locals := 106 } [(x, .inr (7, [.ref wa, .ref wb, .ref su, .ref cu, .ref tr, .ref co, .ref lo, .ref pk]))] [.ref x, .int p0, .int p1, .int p2, .int p3] "java/lang/IllegalArgumentException" [(x, .inr (7, [.ref wa, .ref wb, .ref su, .ref cu, .ref tr, .ref co, .ref lo, .ref pk]))] 1 6 := by
  refine zT_of (cc := cX7_steps) (maxL := 8) (rt := (some .int)) (by decide) rfl (Nat.le_of_ble_eq_true rfl) ?_
  intro p e s m below meth c A ls hx hb hml hr hts hown hlocks ht hA hE hP hD hS hl
  have hl : lv_has ls 8 [(0, .ref x), (1, .int p0), (2, .int p1), (3, .int p2), (4, .int p3)] := hl
  have hown : s.vm.findClass RX7 = some m.cls := hown
  have hP : va_P G.1 vwCl [(x, .inr (7, [.ref wa, .ref wb, .ref su, .ref cu, .ref tr, .ref co, .ref lo, .ref pk]))] s.heap := hP
  refine lv_aload_n hx hb dX7_steps_0 rfl (lv_at hl 0 rfl) ?_
  refine lv_iload_n hx hb dX7_steps_1 rfl (lv_at hl 1 rfl) ?_
  refine lv_iload_n hx hb dX7_steps_2 rfl (lv_at hl 2 rfl) ?_
  refine lv_iload_n hx hb dX7_steps_3 rfl (lv_at hl 3 rfl) ?_
  refine lv_iload hx hb dX7_steps_4 (lv_at hl 4 rfl) ?_
  refine zcallT (wr := []) (vx_runV (As := [.int p0, .int p1, .int p2, .int p3]) (rest := []) ⟨hx, hb, hml, hown, hts⟩ (z_X7_takePacketT l G x wa wb su cu tr co lo pk p0 p1 p2 p3 hl0 hbad s.heap.size) (cwV 4 hts gX7_steps_X7_takePacket rfl rfl rfl (by decide +kernel) ⟨Nat.le_of_ble_eq_true rfl, Nat.le_of_ble_eq_true rfl⟩) (zPreV (Wc := [(x, .inr (7, [.ref wa, .ref wb, .ref su, .ref cu, .ref tr, .ref co, .ref lo, .ref pk]))]) (q0 := 0) (ci := 7) (q := (RX7, TX7, 8)) hP hD hE hS hA [0] rfl (by decide) rfl rfl) rfl rfl hl.1 rfl (lv_room (Nat.le_of_ble_eq_true rfl)) dX7_steps_6 ⟨Nat.le_of_ble_eq_true rfl, Nat.le_of_ble_eq_true rfl⟩) hP hD hS hA [0] [] rfl rfl (by decide) (by decide) (fun ce q9 H locs hP hD hS hce hcv hcl => ?_)
  have hP : va_P G.1 vwCl [(x, .inr (7, [.ref wa, .ref wb, .ref su, .ref cu, .ref tr, .ref co, .ref lo, .ref pk]))] H := hP
  have hD : va_D A [(x, .inr (7, [.ref wa, .ref wb, .ref su, .ref cu, .ref tr, .ref co, .ref lo, .ref pk]))] := hD
  exact zout ht hlocks hP hD hS hce hcv hcl (Nat.le_of_ble_eq_true rfl) (Nat.le_of_ble_eq_true rfl)

set_option maxHeartbeats 4000000 in
set_option maxRecDepth 100000 in
theorem z_X7_meanSteps (l : Launch) (G : zG) (x : Nat) (wa : Nat) (wb : Nat) (su : Nat) (cu : Nat) (tr : Nat) (co : Nat) (lo : Nat) (pk : Nat) (ro : Nat) (rb : Nat) (cc : Nat) (cs : Nat) (cm : Nat) (fc : Nat → Int32) (fs : Nat → Int32) (fm : Nat → Int32) (tn : Nat) (tc : Nat) (ts : Nat) (ft : Nat → Int32) : zR l G yX7_meanSteps wsX7_meanSteps { frames := 5, cells := 0, slots := 0, locals := 114 } [(x, .inr (7, [.ref wa, .ref wb, .ref su, .ref cu, .ref tr, .ref co, .ref lo, .ref pk])), (cu, .inr (1, [.ref wa, .ref wb, .ref cc, .ref cs, .ref cm, .int 0])), (wa, .inr (6, [.ref ro, .int 0, .int 0])), (wb, .inr (6, [.ref rb, .int 0, .int 0])), (cc, .inl (G.2.1, 4, .inl (fc))), (cs, .inl (G.2.1, 132, .inl (fs))), (cm, .inl (G.2.1, 132, .inl (fm))), (tr, .inr (5, [.ref wa, .ref cu, .ref tn, .ref tc, .ref ts, .int 0, .int 0])), (tn, .inl (G.2.1, 1024, .inl (ft)))] [.ref x] (some (.double 0)) (fun u => [(x, .inr (7, [.ref wa, .ref wb, .ref su, .ref cu, .ref tr, .ref co, .ref lo, .ref pk])), (cu, .inr (1, [.ref wa, .ref wb, .ref cc, .ref cs, .ref cm, .int 1])), (cc, .inl (G.2.1, 4, .inl (upd (upd (upd (upd fc 0 1) 1 1) 2 1) 3 1))), (cs, .inl (G.2.1, 132, .inl (upd (upd (upd (upd fs 0 0) 33 0) 66 0) 99 0))), (cm, .inl (G.2.1, 132, .inl (upd (upd (upd (upd fm 0 0) 33 0) 66 0) 99 0))), (wb, .inr (6, [.ref rb, .int 0, .int 0])), (tn, .inl (G.2.1, 1024, .inl (zfill 1024 ft))), (wa, .inr (6, [.ref ro, .int 0, .int 0])), (tr, .inr (5, [.ref wa, .ref cu, .ref tn, .ref tc, .ref ts, .int 0, .int 1]))]) 0 0 := by
  refine zR_of (cc := cX7_meanSteps) (maxL := 1) (rt := (some .double)) (by decide) rfl (Nat.le_of_ble_eq_true rfl) ?_
  intro p e s m below meth c A ls hx hb hml hr hts hown hlocks hin hA hE hP hD hS hl
  have hl : lv_has ls 1 [(0, .ref x)] := hl
  have hown : s.vm.findClass RX7 = some m.cls := hown
  have hP : va_P G.1 vwCl [(x, .inr (7, [.ref wa, .ref wb, .ref su, .ref cu, .ref tr, .ref co, .ref lo, .ref pk])), (cu, .inr (1, [.ref wa, .ref wb, .ref cc, .ref cs, .ref cm, .int 0])), (wa, .inr (6, [.ref ro, .int 0, .int 0])), (wb, .inr (6, [.ref rb, .int 0, .int 0])), (cc, .inl (G.2.1, 4, .inl (fc))), (cs, .inl (G.2.1, 132, .inl (fs))), (cm, .inl (G.2.1, 132, .inl (fm))), (tr, .inr (5, [.ref wa, .ref cu, .ref tn, .ref tc, .ref ts, .int 0, .int 0])), (tn, .inl (G.2.1, 1024, .inl (ft)))] s.heap := hP
  have hf235 := hts (.fieldLink RX7 235 "Nettle" "AMOUNTS" "[I") (by decide +kernel)
  refine lv_aload_n hx hb dX7_meanSteps_0 rfl (lv_at hl 0 rfl) ?_
  refine zcall (wr := []) (va_runV (As := []) (rest := []) ⟨hx, hb, hml, hown, hts⟩ (z_X7_compiled0 l G x wa wb su cu tr co lo pk ro rb cc cs cm (fc) (fs) (fm) tn tc ts (ft) s.heap.size) (cwV 0 hts gX7_meanSteps_X7_compiled rfl rfl rfl (by decide +kernel) ⟨Nat.le_of_ble_eq_true rfl, Nat.le_of_ble_eq_true rfl⟩) (zPreV (Wc := [(x, .inr (7, [.ref wa, .ref wb, .ref su, .ref cu, .ref tr, .ref co, .ref lo, .ref pk])), (cu, .inr (1, [.ref wa, .ref wb, .ref cc, .ref cs, .ref cm, .int 0])), (wa, .inr (6, [.ref ro, .int 0, .int 0])), (wb, .inr (6, [.ref rb, .int 0, .int 0])), (cc, .inl (G.2.1, 4, .inl (fc))), (cs, .inl (G.2.1, 132, .inl (fs))), (cm, .inl (G.2.1, 132, .inl (fm))), (tr, .inr (5, [.ref wa, .ref cu, .ref tn, .ref tc, .ref ts, .int 0, .int 0])), (tn, .inl (G.2.1, 1024, .inl (ft)))]) (q0 := 0) (ci := 7) (q := (RX7, TX7, 8)) hP hD hE hS hA [0, 1, 2, 3, 4, 5, 6, 7, 8] rfl (by decide) rfl rfl) rfl rfl hl.1 rfl (lv_room (Nat.le_of_ble_eq_true rfl)) dX7_meanSteps_1 ⟨Nat.le_of_ble_eq_true rfl, Nat.le_of_ble_eq_true rfl⟩) hP hD hS hA [0, 1, 2, 3, 4, 5, 6, 7, 8] [] rfl rfl (by decide) (by decide) (fun u1 H locs hP hD hS => ?_)
  have hP : va_P G.1 vwCl [(x, .inr (7, [.ref wa, .ref wb, .ref su, .ref cu, .ref tr, .ref co, .ref lo, .ref pk])), (cu, .inr (1, [.ref wa, .ref wb, .ref cc, .ref cs, .ref cm, .int 1])), (cc, .inl (G.2.1, 4, .inl (upd (upd (upd (upd fc 0 1) 1 1) 2 1) 3 1))), (cs, .inl (G.2.1, 132, .inl (upd (upd (upd (upd fs 0 0) 33 0) 66 0) 99 0))), (cm, .inl (G.2.1, 132, .inl (upd (upd (upd (upd fm 0 0) 33 0) 66 0) 99 0))), (wb, .inr (6, [.ref rb, .int 0, .int 0])), (tn, .inl (G.2.1, 1024, .inl (zfill 1024 ft))), (tr, .inr (5, [.ref wa, .ref cu, .ref tn, .ref tc, .ref ts, .int 0, .int 1])), (wa, .inr (6, [.ref ro, .int 0, .int 0]))] H := hP
  have hD : va_D A [(x, .inr (7, [.ref wa, .ref wb, .ref su, .ref cu, .ref tr, .ref co, .ref lo, .ref pk])), (cu, .inr (1, [.ref wa, .ref wb, .ref cc, .ref cs, .ref cm, .int 1])), (cc, .inl (G.2.1, 4, .inl (upd (upd (upd (upd fc 0 1) 1 1) 2 1) 3 1))), (cs, .inl (G.2.1, 132, .inl (upd (upd (upd (upd fs 0 0) 33 0) 66 0) 99 0))), (cm, .inl (G.2.1, 132, .inl (upd (upd (upd (upd fm 0 0) 33 0) 66 0) 99 0))), (wb, .inr (6, [.ref rb, .int 0, .int 0])), (tn, .inl (G.2.1, 1024, .inl (zfill 1024 ft))), (tr, .inr (5, [.ref wa, .ref cu, .ref tn, .ref tc, .ref ts, .int 0, .int 1])), (wa, .inr (6, [.ref ro, .int 0, .int 0]))] := hD
  refine W.eq (g2 := F0 m 4 ls [.ref tr]) rfl ?_
  refine zcall (wr := [(x, .inr (7, [.ref wa, .ref wb, .ref su, .ref cu, .ref tr, .ref co, .ref lo, .ref pk])), (cu, .inr (1, [.ref wa, .ref wb, .ref cc, .ref cs, .ref cm, .int 1])), (cc, .inl (G.2.1, 4, .inl (upd (upd (upd (upd fc 0 1) 1 1) 2 1) 3 1))), (cs, .inl (G.2.1, 132, .inl (upd (upd (upd (upd fs 0 0) 33 0) 66 0) 99 0))), (cm, .inl (G.2.1, 132, .inl (upd (upd (upd (upd fm 0 0) 33 0) 66 0) 99 0))), (wb, .inr (6, [.ref rb, .int 0, .int 0])), (tn, .inl (G.2.1, 1024, .inl (zfill 1024 ft))), (wa, .inr (6, [.ref ro, .int 0, .int 0]))]) (va_runV (As := []) (rest := []) ⟨hx, hb, hml, hown, hts⟩ (z_X5_allSteps l G tr wa cu tn tc ts 1 H.size) (cwV 0 hts gX7_meanSteps_X5_allSteps rfl rfl rfl (by decide +kernel) ⟨Nat.le_of_ble_eq_true rfl, Nat.le_of_ble_eq_true rfl⟩) (zPreV (Wc := [(tr, .inr (5, [.ref wa, .ref cu, .ref tn, .ref tc, .ref ts, .int 0, .int 1]))]) (q0 := 7) (ci := 5) (q := (RX5, TX5, 7)) hP hD hE hS hA [7] rfl (by decide) rfl rfl) rfl rfl hl.1 rfl (lv_room (Nat.le_of_ble_eq_true rfl)) dX7_meanSteps_4 ⟨Nat.le_of_ble_eq_true rfl, Nat.le_of_ble_eq_true rfl⟩) hP hD hS hA [7] [0, 1, 2, 3, 4, 5, 6, 8] rfl rfl (by decide) (by decide) (fun u2 H locs hP hD hS => ?_)
  have hP : va_P G.1 vwCl [(x, .inr (7, [.ref wa, .ref wb, .ref su, .ref cu, .ref tr, .ref co, .ref lo, .ref pk])), (cu, .inr (1, [.ref wa, .ref wb, .ref cc, .ref cs, .ref cm, .int 1])), (cc, .inl (G.2.1, 4, .inl (upd (upd (upd (upd fc 0 1) 1 1) 2 1) 3 1))), (cs, .inl (G.2.1, 132, .inl (upd (upd (upd (upd fs 0 0) 33 0) 66 0) 99 0))), (cm, .inl (G.2.1, 132, .inl (upd (upd (upd (upd fm 0 0) 33 0) 66 0) 99 0))), (wb, .inr (6, [.ref rb, .int 0, .int 0])), (tn, .inl (G.2.1, 1024, .inl (zfill 1024 ft))), (wa, .inr (6, [.ref ro, .int 0, .int 0])), (tr, .inr (5, [.ref wa, .ref cu, .ref tn, .ref tc, .ref ts, .int 0, .int 1]))] H := hP
  have hD : va_D A [(x, .inr (7, [.ref wa, .ref wb, .ref su, .ref cu, .ref tr, .ref co, .ref lo, .ref pk])), (cu, .inr (1, [.ref wa, .ref wb, .ref cc, .ref cs, .ref cm, .int 1])), (cc, .inl (G.2.1, 4, .inl (upd (upd (upd (upd fc 0 1) 1 1) 2 1) 3 1))), (cs, .inl (G.2.1, 132, .inl (upd (upd (upd (upd fs 0 0) 33 0) 66 0) 99 0))), (cm, .inl (G.2.1, 132, .inl (upd (upd (upd (upd fm 0 0) 33 0) 66 0) 99 0))), (wb, .inr (6, [.ref rb, .int 0, .int 0])), (tn, .inl (G.2.1, 1024, .inl (zfill 1024 ft))), (wa, .inr (6, [.ref ro, .int 0, .int 0])), (tr, .inr (5, [.ref wa, .ref cu, .ref tn, .ref tc, .ref ts, .int 0, .int 1]))] := hD
  refine W.eq (g2 := F0 m 7 ls [.int 0]) rfl ?_
  refine lv_i2d hx hb dX7_meanSteps_7 ?_
  refine ztd (v := 0) (by decide +kernel) ?_
  refine va_gets hx hb hE.2.2.1.1 hS hown hf235 (fun _ h9 => h9) dX7_meanSteps_8 ?_
  refine lv_iconst (v := 0) hx hb dX7_meanSteps_11 (by decide) ?_
  refine va_ti (v := .int 268435456) hx hb hE.2.2.1.2 hS (zin (by decide +kernel)) rfl dX7_meanSteps_12 ?_
  refine lv_i2d hx hb dX7_meanSteps_13 ?_
  refine ztd (v := 4733283208366391296) (by decide +kernel) ?_
  refine lv_ddiv hx hb dX7_meanSteps_14 (by unfold vf_n64; decide +kernel) ?_
  refine ztd (v := 0) (by decide +kernel) ?_
  exact zend_d hx hb hr hlocks (fun k => [].getD k 0) hP hD hS (Nat.le_of_ble_eq_true rfl) (Nat.le_of_ble_eq_true rfl) dX7_meanSteps_15
