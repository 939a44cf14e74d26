/-! the reference: rules, what they decide, the tree -/
theorem dX9_thrown_0 : decode cX9_thrown 0 = .ok (.aload_n 0, 1) := by decide +kernel
theorem dX9_thrown_1 : decode cX9_thrown 1 = .ok (.getfield 40, 3) := by decide +kernel
theorem dX9_thrown_4 : decode cX9_thrown 4 = .ok (.ireturn, 1) := by decide +kernel
theorem dX9_no_0 : decode cX9_no 0 = .ok (.aload_n 0, 1) := by decide +kernel
theorem dX9_no_1 : decode cX9_no 1 = .ok (.iload_n 1, 1) := by decide +kernel
theorem dX9_no_2 : decode cX9_no 2 = .ok (.putfield 40, 3) := by decide +kernel
theorem dX9_no_5 : decode cX9_no 5 = .ok (.iconst 0, 1) := by decide +kernel
theorem dX9_no_6 : decode cX9_no 6 = .ok (.ireturn, 1) := by decide +kernel
theorem dX9_ok_0 : decode cX9_ok 0 = .ok (.aload_n 0, 1) := by decide +kernel
theorem dX9_ok_1 : decode cX9_ok 1 = .ok (.iconst 0, 1) := by decide +kernel
theorem dX9_ok_2 : decode cX9_ok 2 = .ok (.putfield 40, 3) := by decide +kernel
theorem dX9_ok_5 : decode cX9_ok 5 = .ok (.iload_n 1, 1) := by decide +kernel
theorem dX9_ok_6 : decode cX9_ok 6 = .ok (.ireturn, 1) := by decide +kernel
theorem dX9_isRule_0 : decode cX9_isRule 0 = .ok (.iload_n 1, 1) := by decide +kernel
theorem dX9_isRule_1 : decode cX9_isRule 1 = .ok (.iconst 0, 1) := by decide +kernel
theorem dX9_isRule_2 : decode cX9_isRule 2 = .ok (.aload_n 0, 1) := by decide +kernel
theorem dX9_isRule_3 : decode cX9_isRule 3 = .ok (.getfield 10, 3) := by decide +kernel
theorem dX9_isRule_6 : decode cX9_isRule 6 = .ok (.getfield 83, 3) := by decide +kernel
theorem dX9_isRule_9 : decode cX9_isRule 9 = .ok (.iconst 1, 1) := by decide +kernel
theorem dX9_isRule_10 : decode cX9_isRule 10 = .ok (.isub, 1) := by decide +kernel
set_option maxRecDepth 20000 in
theorem ggX9_isRule_X9_isIn : GoodIn wsX9_isRule wsX9_isIn := goodIn_r _ [6] (by decide +kernel) (by decide +kernel)
set_option maxRecDepth 20000 in
theorem gX9_isRule_X9_isIn : GoodIn wsX9_isRule (va_wsS RX9 86 yX9_isIn wsX9_isIn) := goodIn_app (goodIn_of _ (by decide +kernel)) ggX9_isRule_X9_isIn
theorem dX9_isRule_11 : decode cX9_isRule 11 = .ok (.invokestatic 86, 3) := by decide +kernel
theorem dX9_isRule_14 : decode cX9_isRule 14 = .ok (.ireturn, 1) := by decide +kernel
theorem dX9_rule_0 : decode cX9_rule 0 = .ok (.aload_n 0, 1) := by decide +kernel
theorem dX9_rule_1 : decode cX9_rule 1 = .ok (.iconst 0, 1) := by decide +kernel
theorem dX9_rule_2 : decode cX9_rule 2 = .ok (.putfield 40, 3) := by decide +kernel
theorem dX9_rule_5 : decode cX9_rule 5 = .ok (.iload_n 1, 1) := by decide +kernel
theorem dX9_rule_6 : decode cX9_rule 6 = .ok (.iconst 0, 1) := by decide +kernel
theorem dX9_rule_7 : decode cX9_rule 7 = .ok (.iconst 2, 1) := by decide +kernel
set_option maxRecDepth 20000 in
theorem ggX9_rule_X9_isIn : GoodIn wsX9_rule wsX9_isIn := goodIn_r _ [11] (by decide +kernel) (by decide +kernel)
set_option maxRecDepth 20000 in
theorem gX9_rule_X9_isIn : GoodIn wsX9_rule (va_wsS RX9 86 yX9_isIn wsX9_isIn) := goodIn_app (goodIn_of _ (by decide +kernel)) ggX9_rule_X9_isIn
theorem dX9_rule_8 : decode cX9_rule 8 = .ok (.invokestatic 86, 3) := by decide +kernel
theorem dX9_rule_11 : decode cX9_rule 11 = .ok (.ifCond .ne 9, 3) := by decide +kernel
theorem dX9_rule_20 : decode cX9_rule 20 = .ok (.aload_n 0, 1) := by decide +kernel
theorem dX9_rule_21 : decode cX9_rule 21 = .ok (.getfield 10, 3) := by decide +kernel
theorem dX9_rule_24 : decode cX9_rule 24 = .ok (.getfield 83, 3) := by decide +kernel
theorem dX9_rule_27 : decode cX9_rule 27 = .ok (.bipush 8, 2) := by decide +kernel
theorem dX9_rule_29 : decode cX9_rule 29 = .ok (.if_icmp .ne 9, 3) := by decide +kernel
theorem dX9_rule_38 : decode cX9_rule 38 = .ok (.aload_n 0, 1) := by decide +kernel
theorem dX9_rule_39 : decode cX9_rule 39 = .ok (.getfield 10, 3) := by decide +kernel
theorem dX9_rule_42 : decode cX9_rule 42 = .ok (.getfield 93, 3) := by decide +kernel
theorem dX9_rule_45 : decode cX9_rule 45 = .ok (.aload_n 0, 1) := by decide +kernel
theorem dX9_rule_46 : decode cX9_rule 46 = .ok (.getfield 10, 3) := by decide +kernel
theorem dX9_rule_49 : decode cX9_rule 49 = .ok (.getfield 83, 3) := by decide +kernel
theorem dX9_rule_52 : decode cX9_rule 52 = .ok (.iload_n 1, 1) := by decide +kernel
theorem dX9_rule_53 : decode cX9_rule 53 = .ok (.iastore, 1) := by decide +kernel
theorem dX9_rule_54 : decode cX9_rule 54 = .ok (.iconst 0, 1) := by decide +kernel
theorem dX9_rule_55 : decode cX9_rule 55 = .ok (.istore_n 2, 1) := by decide +kernel
theorem dX9_rule_56 : decode cX9_rule 56 = .ok (.iload_n 2, 1) := by decide +kernel
theorem dX9_rule_57 : decode cX9_rule 57 = .ok (.iconst 4, 1) := by decide +kernel
theorem dX9_rule_58 : decode cX9_rule 58 = .ok (.if_icmp .ge 54, 3) := by decide +kernel
theorem dX9_rule_61 : decode cX9_rule 61 = .ok (.aload_n 0, 1) := by decide +kernel
theorem dX9_rule_62 : decode cX9_rule 62 = .ok (.getfield 10, 3) := by decide +kernel
theorem dX9_rule_65 : decode cX9_rule 65 = .ok (.getfield 96, 3) := by decide +kernel
theorem dX9_rule_68 : decode cX9_rule 68 = .ok (.aload_n 0, 1) := by decide +kernel
theorem dX9_rule_69 : decode cX9_rule 69 = .ok (.getfield 10, 3) := by decide +kernel
theorem dX9_rule_72 : decode cX9_rule 72 = .ok (.getfield 83, 3) := by decide +kernel
theorem dX9_rule_75 : decode cX9_rule 75 = .ok (.iconst 4, 1) := by decide +kernel
theorem dX9_rule_76 : decode cX9_rule 76 = .ok (.imul, 1) := by decide +kernel
theorem dX9_rule_77 : decode cX9_rule 77 = .ok (.iload_n 2, 1) := by decide +kernel
theorem dX9_rule_78 : decode cX9_rule 78 = .ok (.iadd, 1) := by decide +kernel
theorem dX9_rule_79 : decode cX9_rule 79 = .ok (.iconst 0, 1) := by decide +kernel
theorem dX9_rule_80 : decode cX9_rule 80 = .ok (.iastore, 1) := by decide +kernel
theorem dX9_rule_81 : decode cX9_rule 81 = .ok (.aload_n 0, 1) := by decide +kernel
theorem dX9_rule_82 : decode cX9_rule 82 = .ok (.getfield 10, 3) := by decide +kernel
theorem dX9_rule_85 : decode cX9_rule 85 = .ok (.getfield 99, 3) := by decide +kernel
theorem dX9_rule_88 : decode cX9_rule 88 = .ok (.aload_n 0, 1) := by decide +kernel
theorem dX9_rule_89 : decode cX9_rule 89 = .ok (.getfield 10, 3) := by decide +kernel
theorem dX9_rule_92 : decode cX9_rule 92 = .ok (.getfield 83, 3) := by decide +kernel
theorem dX9_rule_95 : decode cX9_rule 95 = .ok (.iconst 4, 1) := by decide +kernel
theorem dX9_rule_96 : decode cX9_rule 96 = .ok (.imul, 1) := by decide +kernel
theorem dX9_rule_97 : decode cX9_rule 97 = .ok (.iload_n 2, 1) := by decide +kernel
theorem dX9_rule_98 : decode cX9_rule 98 = .ok (.iadd, 1) := by decide +kernel
theorem dX9_rule_99 : decode cX9_rule 99 = .ok (.iload_n 2, 1) := by decide +kernel
set_option maxRecDepth 20000 in
theorem ggX9_rule_X9_values : GoodIn wsX9_rule wsX9_values := goodIn_r _ [18] (by decide +kernel) (by decide +kernel)
set_option maxRecDepth 20000 in
theorem gX9_rule_X9_values : GoodIn wsX9_rule (va_wsS RX9 61 yX9_values wsX9_values) := goodIn_app (goodIn_of _ (by decide +kernel)) ggX9_rule_X9_values
theorem dX9_rule_100 : decode cX9_rule 100 = .ok (.invokestatic 61, 3) := by decide +kernel
theorem dX9_rule_103 : decode cX9_rule 103 = .ok (.iconst 1, 1) := by decide +kernel
theorem dX9_rule_104 : decode cX9_rule 104 = .ok (.isub, 1) := by decide +kernel
theorem dX9_rule_105 : decode cX9_rule 105 = .ok (.iastore, 1) := by decide +kernel
theorem dX9_rule_106 : decode cX9_rule 106 = .ok (.iinc 2 1, 3) := by decide +kernel
theorem dX9_rule_109 : decode cX9_rule 109 = .ok (.goto (-53), 3) := by decide +kernel
theorem dX9_rule_112 : decode cX9_rule 112 = .ok (.aload_n 0, 1) := by decide +kernel
theorem dX9_rule_113 : decode cX9_rule 113 = .ok (.getfield 19, 3) := by decide +kernel
theorem dX9_rule_116 : decode cX9_rule 116 = .ok (.aload_n 0, 1) := by decide +kernel
theorem dX9_rule_117 : decode cX9_rule 117 = .ok (.getfield 10, 3) := by decide +kernel
theorem dX9_rule_120 : decode cX9_rule 120 = .ok (.getfield 83, 3) := by decide +kernel
theorem dX9_rule_123 : decode cX9_rule 123 = .ok (.iconst 0, 1) := by decide +kernel
theorem dX9_rule_124 : decode cX9_rule 124 = .ok (.iastore, 1) := by decide +kernel
theorem dX9_rule_125 : decode cX9_rule 125 = .ok (.aload_n 0, 1) := by decide +kernel
theorem dX9_rule_126 : decode cX9_rule 126 = .ok (.getfield 10, 3) := by decide +kernel
theorem dX9_rule_129 : decode cX9_rule 129 = .ok (.dup, 1) := by decide +kernel
theorem dX9_rule_130 : decode cX9_rule 130 = .ok (.getfield 83, 3) := by decide +kernel
theorem dX9_rule_133 : decode cX9_rule 133 = .ok (.dup_x1, 1) := by decide +kernel
theorem dX9_rule_134 : decode cX9_rule 134 = .ok (.iconst 1, 1) := by decide +kernel
theorem dX9_rule_135 : decode cX9_rule 135 = .ok (.iadd, 1) := by decide +kernel
theorem dX9_rule_136 : decode cX9_rule 136 = .ok (.putfield 83, 3) := by decide +kernel
theorem dX9_rule_139 : decode cX9_rule 139 = .ok (.ireturn, 1) := by decide +kernel
theorem dX9_rule_14 : decode cX9_rule 14 = .ok (.aload_n 0, 1) := by decide +kernel
theorem dX9_rule_15 : decode cX9_rule 15 = .ok (.iconst 1, 1) := by decide +kernel
set_option maxRecDepth 20000 in
theorem ggX9_rule_X9_no : GoodIn wsX9_rule wsX9_no := goodIn_r _ [15, 1, 19, 20, 21, 22, 23, 24, 25, 26, 27, 28, 29] (by decide +kernel) (by decide +kernel)
set_option maxRecDepth 20000 in
theorem gX9_rule_X9_no : GoodIn wsX9_rule (wsV RX9 90 RX9 yX9_no wsX9_no) := goodIn_app (goodIn_of _ (by decide +kernel)) ggX9_rule_X9_no
theorem dX9_rule_16 : decode cX9_rule 16 = .ok (.invokevirtual 90, 3) := by decide +kernel
theorem dX9_rule_19 : decode cX9_rule 19 = .ok (.ireturn, 1) := by decide +kernel
theorem dX9_narrow_0 : decode cX9_narrow 0 = .ok (.aload_n 0, 1) := by decide +kernel
theorem dX9_narrow_1 : decode cX9_narrow 1 = .ok (.iconst 0, 1) := by decide +kernel
theorem dX9_narrow_2 : decode cX9_narrow 2 = .ok (.putfield 40, 3) := by decide +kernel
theorem dX9_narrow_5 : decode cX9_narrow 5 = .ok (.aload_n 0, 1) := by decide +kernel
theorem dX9_narrow_6 : decode cX9_narrow 6 = .ok (.iload_n 1, 1) := by decide +kernel
set_option maxRecDepth 20000 in
theorem ggX9_narrow_X9_isRule : GoodIn wsX9_narrow wsX9_isRule := goodIn_r _ [9, 2, 10, 11, 12, 8, 13, 21, 22, 23, 24, 25, 26, 27, 28, 29, 30, 31, 32, 33, 34, 35, 36, 37] (by decide +kernel) (by decide +kernel)
set_option maxRecDepth 20000 in
theorem gX9_narrow_X9_isRule : GoodIn wsX9_narrow (wsV RX9 102 RX9 yX9_isRule wsX9_isRule) := goodIn_app (goodIn_of _ (by decide +kernel)) ggX9_narrow_X9_isRule
theorem dX9_narrow_7 : decode cX9_narrow 7 = .ok (.invokevirtual 102, 3) := by decide +kernel
theorem dX9_narrow_10 : decode cX9_narrow 10 = .ok (.ifCond .eq 12, 3) := by decide +kernel
theorem dX9_narrow_22 : decode cX9_narrow 22 = .ok (.aload_n 0, 1) := by decide +kernel
theorem dX9_narrow_23 : decode cX9_narrow 23 = .ok (.iconst 1, 1) := by decide +kernel
set_option maxRecDepth 20000 in
theorem ggX9_narrow_X9_no : GoodIn wsX9_narrow wsX9_no := goodIn_r _ [17, 1, 21, 22, 23, 24, 25, 26, 27, 28, 29, 30, 31] (by decide +kernel) (by decide +kernel)
set_option maxRecDepth 20000 in
theorem gX9_narrow_X9_no : GoodIn wsX9_narrow (wsV RX9 90 RX9 yX9_no wsX9_no) := goodIn_app (goodIn_of _ (by decide +kernel)) ggX9_narrow_X9_no
theorem dX9_narrow_24 : decode cX9_narrow 24 = .ok (.invokevirtual 90, 3) := by decide +kernel
theorem dX9_narrow_27 : decode cX9_narrow 27 = .ok (.ireturn, 1) := by decide +kernel
theorem dX9_turn_0 : decode cX9_turn 0 = .ok (.aload_n 0, 1) := by decide +kernel
theorem dX9_turn_1 : decode cX9_turn 1 = .ok (.iconst 0, 1) := by decide +kernel
theorem dX9_turn_2 : decode cX9_turn 2 = .ok (.putfield 40, 3) := by decide +kernel
theorem dX9_turn_5 : decode cX9_turn 5 = .ok (.aload_n 0, 1) := by decide +kernel
theorem dX9_turn_6 : decode cX9_turn 6 = .ok (.iload_n 1, 1) := by decide +kernel
set_option maxRecDepth 20000 in
theorem ggX9_turn_X9_isRule : GoodIn wsX9_turn wsX9_isRule := goodIn_r _ [8, 2, 9, 10, 11, 7, 12, 17, 18, 19, 20, 21, 22, 23, 24, 25, 26, 27, 28, 29, 30, 31, 32, 33] (by decide +kernel) (by decide +kernel)
set_option maxRecDepth 20000 in
theorem gX9_turn_X9_isRule : GoodIn wsX9_turn (wsV RX9 102 RX9 yX9_isRule wsX9_isRule) := goodIn_app (goodIn_of _ (by decide +kernel)) ggX9_turn_X9_isRule
theorem dX9_turn_7 : decode cX9_turn 7 = .ok (.invokevirtual 102, 3) := by decide +kernel
theorem dX9_turn_10 : decode cX9_turn 10 = .ok (.ifCond .ne 9, 3) := by decide +kernel
theorem dX9_turn_13 : decode cX9_turn 13 = .ok (.aload_n 0, 1) := by decide +kernel
theorem dX9_turn_14 : decode cX9_turn 14 = .ok (.iconst 1, 1) := by decide +kernel
set_option maxRecDepth 20000 in
theorem ggX9_turn_X9_no : GoodIn wsX9_turn wsX9_no := goodIn_r _ [16, 1, 17, 18, 19, 20, 21, 22, 23, 24, 25, 26, 27] (by decide +kernel) (by decide +kernel)
set_option maxRecDepth 20000 in
theorem gX9_turn_X9_no : GoodIn wsX9_turn (wsV RX9 90 RX9 yX9_no wsX9_no) := goodIn_app (goodIn_of _ (by decide +kernel)) ggX9_turn_X9_no
theorem dX9_turn_15 : decode cX9_turn 15 = .ok (.invokevirtual 90, 3) := by decide +kernel
theorem dX9_turn_18 : decode cX9_turn 18 = .ok (.ireturn, 1) := by decide +kernel
theorem dX9_move_0 : decode cX9_move 0 = .ok (.aload_n 0, 1) := by decide +kernel
theorem dX9_move_1 : decode cX9_move 1 = .ok (.iconst 0, 1) := by decide +kernel
theorem dX9_move_2 : decode cX9_move 2 = .ok (.putfield 40, 3) := by decide +kernel
theorem dX9_move_5 : decode cX9_move 5 = .ok (.aload_n 0, 1) := by decide +kernel
theorem dX9_move_6 : decode cX9_move 6 = .ok (.iload_n 1, 1) := by decide +kernel
set_option maxRecDepth 20000 in
theorem ggX9_move_X9_isRule : GoodIn wsX9_move wsX9_isRule := goodIn_r _ [18, 2, 9, 19, 20, 17, 21, 57, 58, 59, 60, 61, 62, 63, 64, 65, 66, 67, 68, 69, 70, 71, 72, 73] (by decide +kernel) (by decide +kernel)
set_option maxRecDepth 20000 in
theorem gX9_move_X9_isRule : GoodIn wsX9_move (wsV RX9 102 RX9 yX9_isRule wsX9_isRule) := goodIn_app (goodIn_of _ (by decide +kernel)) ggX9_move_X9_isRule
theorem dX9_move_7 : decode cX9_move 7 = .ok (.invokevirtual 102, 3) := by decide +kernel
theorem dX9_move_10 : decode cX9_move 10 = .ok (.ifCond .eq 11, 3) := by decide +kernel
theorem dX9_move_21 : decode cX9_move 21 = .ok (.aload_n 0, 1) := by decide +kernel
theorem dX9_move_22 : decode cX9_move 22 = .ok (.iconst 1, 1) := by decide +kernel
set_option maxRecDepth 20000 in
theorem ggX9_move_X9_no : GoodIn wsX9_move wsX9_no := goodIn_r _ [25, 1, 57, 58, 59, 60, 61, 62, 63, 64, 65, 66, 67] (by decide +kernel) (by decide +kernel)
set_option maxRecDepth 20000 in
theorem gX9_move_X9_no : GoodIn wsX9_move (wsV RX9 90 RX9 yX9_no wsX9_no) := goodIn_app (goodIn_of _ (by decide +kernel)) ggX9_move_X9_no
theorem dX9_move_23 : decode cX9_move 23 = .ok (.invokevirtual 90, 3) := by decide +kernel
theorem dX9_move_26 : decode cX9_move 26 = .ok (.ireturn, 1) := by decide +kernel
theorem dX9_drop_0 : decode cX9_drop 0 = .ok (.aload_n 0, 1) := by decide +kernel
theorem dX9_drop_1 : decode cX9_drop 1 = .ok (.iconst 0, 1) := by decide +kernel
theorem dX9_drop_2 : decode cX9_drop 2 = .ok (.putfield 40, 3) := by decide +kernel
theorem dX9_drop_5 : decode cX9_drop 5 = .ok (.aload_n 0, 1) := by decide +kernel
theorem dX9_drop_6 : decode cX9_drop 6 = .ok (.iload_n 1, 1) := by decide +kernel
set_option maxRecDepth 20000 in
theorem ggX9_drop_X9_isRule : GoodIn wsX9_drop wsX9_isRule := goodIn_r _ [8, 2, 3, 9, 10, 7, 11, 65, 66, 67, 68, 69, 70, 71, 72, 73, 74, 75, 76, 77, 78, 79, 80, 81] (by decide +kernel) (by decide +kernel)
set_option maxRecDepth 20000 in
theorem gX9_drop_X9_isRule : GoodIn wsX9_drop (wsV RX9 102 RX9 yX9_isRule wsX9_isRule) := goodIn_app (goodIn_of _ (by decide +kernel)) ggX9_drop_X9_isRule
theorem dX9_drop_7 : decode cX9_drop 7 = .ok (.invokevirtual 102, 3) := by decide +kernel
theorem dX9_drop_10 : decode cX9_drop 10 = .ok (.ifCond .ne 9, 3) := by decide +kernel
theorem dX9_drop_13 : decode cX9_drop 13 = .ok (.aload_n 0, 1) := by decide +kernel
theorem dX9_drop_14 : decode cX9_drop 14 = .ok (.iconst 1, 1) := by decide +kernel
set_option maxRecDepth 20000 in
theorem ggX9_drop_X9_no : GoodIn wsX9_drop wsX9_no := goodIn_r _ [15, 1, 65, 66, 67, 68, 69, 70, 71, 72, 73, 74, 75] (by decide +kernel) (by decide +kernel)
set_option maxRecDepth 20000 in
theorem gX9_drop_X9_no : GoodIn wsX9_drop (wsV RX9 90 RX9 yX9_no wsX9_no) := goodIn_app (goodIn_of _ (by decide +kernel)) ggX9_drop_X9_no
theorem dX9_drop_15 : decode cX9_drop 15 = .ok (.invokevirtual 90, 3) := by decide +kernel
theorem dX9_drop_18 : decode cX9_drop 18 = .ok (.ireturn, 1) := by decide +kernel
theorem dX9_ofRule_0 : decode cX9_ofRule 0 = .ok (.aload_n 0, 1) := by decide +kernel
theorem dX9_ofRule_1 : decode cX9_ofRule 1 = .ok (.iconst 0, 1) := by decide +kernel
theorem dX9_ofRule_2 : decode cX9_ofRule 2 = .ok (.putfield 40, 3) := by decide +kernel
theorem dX9_ofRule_5 : decode cX9_ofRule 5 = .ok (.aload_n 0, 1) := by decide +kernel
theorem dX9_ofRule_6 : decode cX9_ofRule 6 = .ok (.iload_n 1, 1) := by decide +kernel
set_option maxRecDepth 20000 in
theorem ggX9_ofRule_X9_isRule : GoodIn wsX9_ofRule wsX9_isRule := goodIn_r _ [6, 7, 8, 9, 10, 5, 11, 24, 25, 26, 27, 28, 29, 30, 31, 32, 33, 34, 35, 36, 37, 38, 39, 40] (by decide +kernel) (by decide +kernel)
set_option maxRecDepth 20000 in
theorem gX9_ofRule_X9_isRule : GoodIn wsX9_ofRule (wsV RX9 102 RX9 yX9_isRule wsX9_isRule) := goodIn_app (goodIn_of _ (by decide +kernel)) ggX9_ofRule_X9_isRule
theorem dX9_ofRule_7 : decode cX9_ofRule 7 = .ok (.invokevirtual 102, 3) := by decide +kernel
theorem dX9_ofRule_10 : decode cX9_ofRule 10 = .ok (.ifCond .ne 9, 3) := by decide +kernel
theorem dX9_ofRule_13 : decode cX9_ofRule 13 = .ok (.aload_n 0, 1) := by decide +kernel
theorem dX9_ofRule_14 : decode cX9_ofRule 14 = .ok (.iconst 1, 1) := by decide +kernel
set_option maxRecDepth 20000 in
theorem ggX9_ofRule_X9_no : GoodIn wsX9_ofRule wsX9_no := goodIn_r _ [15, 1, 24, 25, 26, 27, 28, 29, 30, 31, 32, 33, 34] (by decide +kernel) (by decide +kernel)
set_option maxRecDepth 20000 in
theorem gX9_ofRule_X9_no : GoodIn wsX9_ofRule (wsV RX9 90 RX9 yX9_no wsX9_no) := goodIn_app (goodIn_of _ (by decide +kernel)) ggX9_ofRule_X9_no
theorem dX9_ofRule_15 : decode cX9_ofRule 15 = .ok (.invokevirtual 90, 3) := by decide +kernel
theorem dX9_ofRule_18 : decode cX9_ofRule 18 = .ok (.ireturn, 1) := by decide +kernel
theorem dX9_decides_0 : decode cX9_decides 0 = .ok (.aload_n 0, 1) := by decide +kernel
theorem dX9_decides_1 : decode cX9_decides 1 = .ok (.iconst 0, 1) := by decide +kernel
theorem dX9_decides_2 : decode cX9_decides 2 = .ok (.putfield 40, 3) := by decide +kernel
theorem dX9_decides_5 : decode cX9_decides 5 = .ok (.aload_n 0, 1) := by decide +kernel
theorem dX9_decides_6 : decode cX9_decides 6 = .ok (.iload_n 1, 1) := by decide +kernel
set_option maxRecDepth 20000 in
theorem ggX9_decides_X9_isRule : GoodIn wsX9_decides wsX9_isRule := goodIn_r _ [7, 2, 8, 9, 10, 6, 11, 67, 68, 69, 70, 71, 72, 73, 74, 75, 76, 77, 78, 79, 80, 81, 82, 83] (by decide +kernel) (by decide +kernel)
set_option maxRecDepth 20000 in
theorem gX9_decides_X9_isRule : GoodIn wsX9_decides (wsV RX9 102 RX9 yX9_isRule wsX9_isRule) := goodIn_app (goodIn_of _ (by decide +kernel)) ggX9_decides_X9_isRule
theorem dX9_decides_7 : decode cX9_decides 7 = .ok (.invokevirtual 102, 3) := by decide +kernel
theorem dX9_decides_10 : decode cX9_decides 10 = .ok (.ifCond .eq 14, 3) := by decide +kernel
theorem dX9_decides_24 : decode cX9_decides 24 = .ok (.aload_n 0, 1) := by decide +kernel
theorem dX9_decides_25 : decode cX9_decides 25 = .ok (.iconst 1, 1) := by decide +kernel
set_option maxRecDepth 20000 in
theorem ggX9_decides_X9_no : GoodIn wsX9_decides wsX9_no := goodIn_r _ [66, 1, 67, 68, 69, 70, 71, 72, 73, 74, 75, 76, 77] (by decide +kernel) (by decide +kernel)
set_option maxRecDepth 20000 in
theorem gX9_decides_X9_no : GoodIn wsX9_decides (wsV RX9 90 RX9 yX9_no wsX9_no) := goodIn_app (goodIn_of _ (by decide +kernel)) ggX9_decides_X9_no
theorem dX9_decides_26 : decode cX9_decides 26 = .ok (.invokevirtual 90, 3) := by decide +kernel
theorem dX9_decides_29 : decode cX9_decides 29 = .ok (.ireturn, 1) := by decide +kernel
theorem dX9_state_0 : decode cX9_state 0 = .ok (.aload_n 0, 1) := by decide +kernel
theorem dX9_state_1 : decode cX9_state 1 = .ok (.iconst 0, 1) := by decide +kernel
theorem dX9_state_2 : decode cX9_state 2 = .ok (.putfield 40, 3) := by decide +kernel
theorem dX9_state_5 : decode cX9_state 5 = .ok (.aload_n 0, 1) := by decide +kernel
theorem dX9_state_6 : decode cX9_state 6 = .ok (.iload_n 1, 1) := by decide +kernel
set_option maxRecDepth 20000 in
theorem ggX9_state_X9_isRule : GoodIn wsX9_state wsX9_isRule := goodIn_r _ [6, 7, 8, 9, 10, 5, 11, 126, 127, 128, 129, 130, 131, 132, 133, 134, 135, 136, 137, 138, 139, 140, 141, 142] (by decide +kernel) (by decide +kernel)
set_option maxRecDepth 20000 in
theorem gX9_state_X9_isRule : GoodIn wsX9_state (wsV RX9 102 RX9 yX9_isRule wsX9_isRule) := goodIn_app (goodIn_of _ (by decide +kernel)) ggX9_state_X9_isRule
theorem dX9_state_7 : decode cX9_state 7 = .ok (.invokevirtual 102, 3) := by decide +kernel
theorem dX9_state_10 : decode cX9_state 10 = .ok (.ifCond .eq 11, 3) := by decide +kernel
theorem dX9_state_21 : decode cX9_state 21 = .ok (.aload_n 0, 1) := by decide +kernel
theorem dX9_state_22 : decode cX9_state 22 = .ok (.iconst 1, 1) := by decide +kernel
set_option maxRecDepth 20000 in
theorem ggX9_state_X9_no : GoodIn wsX9_state wsX9_no := goodIn_r _ [125, 1, 126, 127, 128, 129, 130, 131, 132, 133, 134, 135, 136] (by decide +kernel) (by decide +kernel)
set_option maxRecDepth 20000 in
theorem gX9_state_X9_no : GoodIn wsX9_state (wsV RX9 90 RX9 yX9_no wsX9_no) := goodIn_app (goodIn_of _ (by decide +kernel)) ggX9_state_X9_no
theorem dX9_state_23 : decode cX9_state 23 = .ok (.invokevirtual 90, 3) := by decide +kernel
theorem dX9_state_26 : decode cX9_state 26 = .ok (.ireturn, 1) := by decide +kernel
theorem dX9_coveredBy_0 : decode cX9_coveredBy 0 = .ok (.aload_n 0, 1) := by decide +kernel
theorem dX9_coveredBy_1 : decode cX9_coveredBy 1 = .ok (.iconst 0, 1) := by decide +kernel
theorem dX9_coveredBy_2 : decode cX9_coveredBy 2 = .ok (.putfield 40, 3) := by decide +kernel
theorem dX9_coveredBy_5 : decode cX9_coveredBy 5 = .ok (.aload_n 0, 1) := by decide +kernel
theorem dX9_coveredBy_6 : decode cX9_coveredBy 6 = .ok (.iload_n 1, 1) := by decide +kernel
set_option maxRecDepth 20000 in
theorem ggX9_coveredBy_X9_isRule : GoodIn wsX9_coveredBy wsX9_isRule := goodIn_r _ [6, 7, 8, 9, 10, 5, 11, 23, 24, 25, 26, 27, 28, 29, 30, 31, 32, 33, 34, 35, 36, 37, 38, 39] (by decide +kernel) (by decide +kernel)
set_option maxRecDepth 20000 in
theorem gX9_coveredBy_X9_isRule : GoodIn wsX9_coveredBy (wsV RX9 102 RX9 yX9_isRule wsX9_isRule) := goodIn_app (goodIn_of _ (by decide +kernel)) ggX9_coveredBy_X9_isRule
theorem dX9_coveredBy_7 : decode cX9_coveredBy 7 = .ok (.invokevirtual 102, 3) := by decide +kernel
theorem dX9_coveredBy_10 : decode cX9_coveredBy 10 = .ok (.ifCond .eq 11, 3) := by decide +kernel
theorem dX9_coveredBy_21 : decode cX9_coveredBy 21 = .ok (.aload_n 0, 1) := by decide +kernel
theorem dX9_coveredBy_22 : decode cX9_coveredBy 22 = .ok (.iconst 1, 1) := by decide +kernel
set_option maxRecDepth 20000 in
theorem ggX9_coveredBy_X9_no : GoodIn wsX9_coveredBy wsX9_no := goodIn_r _ [22, 1, 23, 24, 25, 26, 27, 28, 29, 30, 31, 32, 33] (by decide +kernel) (by decide +kernel)
set_option maxRecDepth 20000 in
theorem gX9_coveredBy_X9_no : GoodIn wsX9_coveredBy (wsV RX9 90 RX9 yX9_no wsX9_no) := goodIn_app (goodIn_of _ (by decide +kernel)) ggX9_coveredBy_X9_no
theorem dX9_coveredBy_23 : decode cX9_coveredBy 23 = .ok (.invokevirtual 90, 3) := by decide +kernel
theorem dX9_coveredBy_26 : decode cX9_coveredBy 26 = .ok (.ireturn, 1) := by decide +kernel
theorem dX9_shared_0 : decode cX9_shared 0 = .ok (.aload_n 0, 1) := by decide +kernel
theorem dX9_shared_1 : decode cX9_shared 1 = .ok (.iconst 0, 1) := by decide +kernel
theorem dX9_shared_2 : decode cX9_shared 2 = .ok (.putfield 40, 3) := by decide +kernel
theorem dX9_shared_5 : decode cX9_shared 5 = .ok (.aload_n 0, 1) := by decide +kernel
theorem dX9_shared_6 : decode cX9_shared 6 = .ok (.iload_n 1, 1) := by decide +kernel
set_option maxRecDepth 20000 in
theorem ggX9_shared_X9_isRule : GoodIn wsX9_shared wsX9_isRule := goodIn_r _ [6, 7, 8, 9, 10, 5, 11, 29, 30, 31, 32, 33, 34, 35, 36, 37, 38, 39, 40, 41, 42, 43, 44, 45] (by decide +kernel) (by decide +kernel)
set_option maxRecDepth 20000 in
theorem gX9_shared_X9_isRule : GoodIn wsX9_shared (wsV RX9 102 RX9 yX9_isRule wsX9_isRule) := goodIn_app (goodIn_of _ (by decide +kernel)) ggX9_shared_X9_isRule
theorem dX9_shared_7 : decode cX9_shared 7 = .ok (.invokevirtual 102, 3) := by decide +kernel
theorem dX9_shared_10 : decode cX9_shared 10 = .ok (.ifCond .eq 20, 3) := by decide +kernel
theorem dX9_shared_30 : decode cX9_shared 30 = .ok (.aload_n 0, 1) := by decide +kernel
theorem dX9_shared_31 : decode cX9_shared 31 = .ok (.iconst 1, 1) := by decide +kernel
set_option maxRecDepth 20000 in
theorem ggX9_shared_X9_no : GoodIn wsX9_shared wsX9_no := goodIn_r _ [28, 1, 29, 30, 31, 32, 33, 34, 35, 36, 37, 38, 39] (by decide +kernel) (by decide +kernel)
set_option maxRecDepth 20000 in
theorem gX9_shared_X9_no : GoodIn wsX9_shared (wsV RX9 90 RX9 yX9_no wsX9_no) := goodIn_app (goodIn_of _ (by decide +kernel)) ggX9_shared_X9_no
theorem dX9_shared_32 : decode cX9_shared 32 = .ok (.invokevirtual 90, 3) := by decide +kernel
theorem dX9_shared_35 : decode cX9_shared 35 = .ok (.ireturn, 1) := by decide +kernel
theorem dX9_allowedWithout_0 : decode cX9_allowedWithout 0 = .ok (.aload_n 0, 1) := by decide +kernel
theorem dX9_allowedWithout_1 : decode cX9_allowedWithout 1 = .ok (.iconst 0, 1) := by decide +kernel
theorem dX9_allowedWithout_2 : decode cX9_allowedWithout 2 = .ok (.putfield 40, 3) := by decide +kernel
theorem dX9_allowedWithout_5 : decode cX9_allowedWithout 5 = .ok (.aload_n 0, 1) := by decide +kernel
theorem dX9_allowedWithout_6 : decode cX9_allowedWithout 6 = .ok (.iload_n 1, 1) := by decide +kernel
set_option maxRecDepth 20000 in
theorem ggX9_allowedWithout_X9_isRule : GoodIn wsX9_allowedWithout wsX9_isRule := goodIn_r _ [7, 2, 8, 9, 10, 6, 11, 74, 75, 76, 77, 78, 79, 80, 81, 82, 83, 84, 85, 86, 87, 88, 89, 90] (by decide +kernel) (by decide +kernel)
set_option maxRecDepth 20000 in
theorem gX9_allowedWithout_X9_isRule : GoodIn wsX9_allowedWithout (wsV RX9 102 RX9 yX9_isRule wsX9_isRule) := goodIn_app (goodIn_of _ (by decide +kernel)) ggX9_allowedWithout_X9_isRule
theorem dX9_allowedWithout_7 : decode cX9_allowedWithout 7 = .ok (.invokevirtual 102, 3) := by decide +kernel
theorem dX9_allowedWithout_10 : decode cX9_allowedWithout 10 = .ok (.ifCond .eq 23, 3) := by decide +kernel
theorem dX9_allowedWithout_33 : decode cX9_allowedWithout 33 = .ok (.aload_n 0, 1) := by decide +kernel
theorem dX9_allowedWithout_34 : decode cX9_allowedWithout 34 = .ok (.iconst 1, 1) := by decide +kernel
set_option maxRecDepth 20000 in
theorem ggX9_allowedWithout_X9_no : GoodIn wsX9_allowedWithout wsX9_no := goodIn_r _ [73, 1, 74, 75, 76, 77, 78, 79, 80, 81, 82, 83, 84] (by decide +kernel) (by decide +kernel)
set_option maxRecDepth 20000 in
theorem gX9_allowedWithout_X9_no : GoodIn wsX9_allowedWithout (wsV RX9 90 RX9 yX9_no wsX9_no) := goodIn_app (goodIn_of _ (by decide +kernel)) ggX9_allowedWithout_X9_no
theorem dX9_allowedWithout_35 : decode cX9_allowedWithout 35 = .ok (.invokevirtual 90, 3) := by decide +kernel
theorem dX9_allowedWithout_38 : decode cX9_allowedWithout 38 = .ok (.ireturn, 1) := by decide +kernel
theorem dX9_changedByMove_0 : decode cX9_changedByMove 0 = .ok (.aload_n 0, 1) := by decide +kernel
theorem dX9_changedByMove_1 : decode cX9_changedByMove 1 = .ok (.iconst 0, 1) := by decide +kernel
theorem dX9_changedByMove_2 : decode cX9_changedByMove 2 = .ok (.putfield 40, 3) := by decide +kernel
theorem dX9_changedByMove_5 : decode cX9_changedByMove 5 = .ok (.aload_n 0, 1) := by decide +kernel
theorem dX9_changedByMove_6 : decode cX9_changedByMove 6 = .ok (.iload_n 1, 1) := by decide +kernel
set_option maxRecDepth 20000 in
theorem ggX9_changedByMove_X9_isRule : GoodIn wsX9_changedByMove wsX9_isRule := goodIn_r _ [7, 2, 8, 9, 10, 6, 11, 110, 111, 112, 113, 114, 115, 116, 117, 118, 119, 120, 121, 122, 123, 124, 125, 126] (by decide +kernel) (by decide +kernel)
set_option maxRecDepth 20000 in
theorem gX9_changedByMove_X9_isRule : GoodIn wsX9_changedByMove (wsV RX9 102 RX9 yX9_isRule wsX9_isRule) := goodIn_app (goodIn_of _ (by decide +kernel)) ggX9_changedByMove_X9_isRule
theorem dX9_changedByMove_7 : decode cX9_changedByMove 7 = .ok (.invokevirtual 102, 3) := by decide +kernel
theorem dX9_changedByMove_10 : decode cX9_changedByMove 10 = .ok (.ifCond .eq 11, 3) := by decide +kernel
theorem dX9_changedByMove_21 : decode cX9_changedByMove 21 = .ok (.aload_n 0, 1) := by decide +kernel
theorem dX9_changedByMove_22 : decode cX9_changedByMove 22 = .ok (.iconst 1, 1) := by decide +kernel
set_option maxRecDepth 20000 in
theorem ggX9_changedByMove_X9_no : GoodIn wsX9_changedByMove wsX9_no := goodIn_r _ [15, 1, 110, 111, 112, 113, 114, 115, 116, 117, 118, 119, 120] (by decide +kernel) (by decide +kernel)
set_option maxRecDepth 20000 in
theorem gX9_changedByMove_X9_no : GoodIn wsX9_changedByMove (wsV RX9 90 RX9 yX9_no wsX9_no) := goodIn_app (goodIn_of _ (by decide +kernel)) ggX9_changedByMove_X9_no
theorem dX9_changedByMove_23 : decode cX9_changedByMove 23 = .ok (.invokevirtual 90, 3) := by decide +kernel
theorem dX9_changedByMove_26 : decode cX9_changedByMove 26 = .ok (.ireturn, 1) := by decide +kernel
theorem dX9_setLast_0 : decode cX9_setLast 0 = .ok (.aload_n 0, 1) := by decide +kernel
theorem dX9_setLast_1 : decode cX9_setLast 1 = .ok (.iconst 0, 1) := by decide +kernel
theorem dX9_setLast_2 : decode cX9_setLast 2 = .ok (.putfield 40, 3) := by decide +kernel
theorem dX9_setLast_5 : decode cX9_setLast 5 = .ok (.aload_n 0, 1) := by decide +kernel
theorem dX9_setLast_6 : decode cX9_setLast 6 = .ok (.getfield 10, 3) := by decide +kernel
theorem dX9_setLast_9 : decode cX9_setLast 9 = .ok (.getfield 136, 3) := by decide +kernel
theorem dX9_setLast_12 : decode cX9_setLast 12 = .ok (.iconst 1, 1) := by decide +kernel
theorem dX9_setLast_13 : decode cX9_setLast 13 = .ok (.if_icmp .ne 7, 3) := by decide +kernel
theorem dX9_setLast_20 : decode cX9_setLast 20 = .ok (.iconst 0, 1) := by decide +kernel
theorem dX9_setLast_21 : decode cX9_setLast 21 = .ok (.istore_n 2, 1) := by decide +kernel
theorem dX9_setLast_22 : decode cX9_setLast 22 = .ok (.aload_n 0, 1) := by decide +kernel
theorem dX9_setLast_23 : decode cX9_setLast 23 = .ok (.getfield 10, 3) := by decide +kernel
theorem dX9_setLast_26 : decode cX9_setLast 26 = .ok (.iload_n 1, 1) := by decide +kernel
theorem dX9_setLast_27 : decode cX9_setLast 27 = .ok (.ifCond .eq 7, 3) := by decide +kernel
theorem dX9_setLast_34 : decode cX9_setLast 34 = .ok (.iconst 0, 1) := by decide +kernel
theorem dX9_setLast_35 : decode cX9_setLast 35 = .ok (.putfield 136, 3) := by decide +kernel
theorem dX9_setLast_38 : decode cX9_setLast 38 = .ok (.iload_n 2, 1) := by decide +kernel
theorem dX9_setLast_39 : decode cX9_setLast 39 = .ok (.ireturn, 1) := by decide +kernel
theorem dX9_setLast_30 : decode cX9_setLast 30 = .ok (.iconst 1, 1) := by decide +kernel
theorem dX9_setLast_31 : decode cX9_setLast 31 = .ok (.goto 4, 3) := by decide +kernel
theorem dX9_shrink_0 : decode cX9_shrink 0 = .ok (.iconst 0, 1) := by decide +kernel
theorem dX9_shrink_1 : decode cX9_shrink 1 = .ok (.istore_n 1, 1) := by decide +kernel
theorem dX9_shrink_2 : decode cX9_shrink 2 = .ok (.iconst 0, 1) := by decide +kernel
theorem dX9_shrink_3 : decode cX9_shrink 3 = .ok (.istore_n 2, 1) := by decide +kernel
theorem dX9_shrink_4 : decode cX9_shrink 4 = .ok (.iload_n 2, 1) := by decide +kernel
theorem dX9_shrink_5 : decode cX9_shrink 5 = .ok (.aload_n 0, 1) := by decide +kernel
theorem dX9_shrink_6 : decode cX9_shrink 6 = .ok (.getfield 10, 3) := by decide +kernel
theorem dX9_shrink_9 : decode cX9_shrink 9 = .ok (.getfield 83, 3) := by decide +kernel
theorem dX9_shrink_12 : decode cX9_shrink 12 = .ok (.if_icmp .ge 30, 3) := by decide +kernel
theorem dX9_shrink_42 : decode cX9_shrink 42 = .ok (.aload_n 0, 1) := by decide +kernel
theorem dX9_shrink_43 : decode cX9_shrink 43 = .ok (.iconst 0, 1) := by decide +kernel
theorem dX9_shrink_44 : decode cX9_shrink 44 = .ok (.putfield 40, 3) := by decide +kernel
theorem dX9_shrink_47 : decode cX9_shrink 47 = .ok (.iload_n 1, 1) := by decide +kernel
theorem dX9_shrink_48 : decode cX9_shrink 48 = .ok (.ireturn, 1) := by decide +kernel
theorem dX9_rules_0 : decode cX9_rules 0 = .ok (.aload_n 0, 1) := by decide +kernel
theorem dX9_rules_1 : decode cX9_rules 1 = .ok (.aload_n 0, 1) := by decide +kernel
theorem dX9_rules_2 : decode cX9_rules 2 = .ok (.getfield 10, 3) := by decide +kernel
theorem dX9_rules_5 : decode cX9_rules 5 = .ok (.getfield 83, 3) := by decide +kernel
set_option maxRecDepth 20000 in
theorem ggX9_rules_X9_ok : GoodIn wsX9_rules wsX9_ok := goodIn_r _ [7, 8, 9, 10, 11, 12, 13, 14, 15, 16, 17, 18, 19] (by decide +kernel) (by decide +kernel)
set_option maxRecDepth 20000 in
theorem gX9_rules_X9_ok : GoodIn wsX9_rules (wsV RX9 142 RX9 yX9_ok wsX9_ok) := goodIn_app (goodIn_of _ (by decide +kernel)) ggX9_rules_X9_ok
theorem dX9_rules_8 : decode cX9_rules 8 = .ok (.invokevirtual 142, 3) := by decide +kernel
theorem dX9_rules_11 : decode cX9_rules 11 = .ok (.ireturn, 1) := by decide +kernel
theorem dX9_allowedBy_0 : decode cX9_allowedBy 0 = .ok (.aload_n 0, 1) := by decide +kernel
theorem dX9_allowedBy_1 : decode cX9_allowedBy 1 = .ok (.getfield 10, 3) := by decide +kernel
set_option maxRecDepth 20000 in
theorem ggX9_allowedBy_X8_forget : GoodIn wsX9_allowedBy wsX8_forget := goodIn_r _ [6, 7, 8, 62, 63, 64, 65, 66, 67] (by decide +kernel) (by decide +kernel)
set_option maxRecDepth 20000 in
theorem gX9_allowedBy_X8_forget : GoodIn wsX9_allowedBy (wsV RX9 80 RX8 yX8_forget wsX8_forget) := goodIn_app (goodIn_of _ (by decide +kernel)) ggX9_allowedBy_X8_forget
theorem dX9_allowedBy_4 : decode cX9_allowedBy 4 = .ok (.invokevirtual 80, 3) := by decide +kernel
theorem dX9_allowedBy_7 : decode cX9_allowedBy 7 = .ok (.aload_n 0, 1) := by decide +kernel
theorem dX9_allowedBy_8 : decode cX9_allowedBy 8 = .ok (.getfield 10, 3) := by decide +kernel
theorem dX9_allowedBy_11 : decode cX9_allowedBy 11 = .ok (.iconst 0, 1) := by decide +kernel
theorem dX9_allowedBy_12 : decode cX9_allowedBy 12 = .ok (.iload_n 1, 1) := by decide +kernel
set_option maxRecDepth 20000 in
theorem ggX9_allowedBy_X8_allowed : GoodIn wsX9_allowedBy wsX8_allowed := goodIn_r _ [12, 8, 13, 14, 15, 5, 16, 17, 18, 19, 20, 21, 22, 23, 24, 25, 26, 27, 28, 29, 30, 31, 32, 33, 34, 35, 36, 37, 38, 39, 40, 41, 42, 43, 44, 45, 46, 47, 48, 49, 50, 10, 11, 62, 63, 64, 65, 66, 67] (by decide +kernel) (by decide +kernel)
set_option maxRecDepth 20000 in
theorem gX9_allowedBy_X8_allowed : GoodIn wsX9_allowedBy (wsV RX9 50 RX8 yX8_allowed wsX8_allowed) := goodIn_app (goodIn_of _ (by decide +kernel)) ggX9_allowedBy_X8_allowed
theorem dX9_allowedBy_13 : decode cX9_allowedBy 13 = .ok (.invokevirtual 50, 3) := by decide +kernel
theorem dX9_allowedBy_16 : decode cX9_allowedBy 16 = .ok (.ireturn, 1) := by decide +kernel
theorem dX9_allowed_0 : decode cX9_allowed 0 = .ok (.aload_n 0, 1) := by decide +kernel
theorem dX9_allowed_1 : decode cX9_allowed 1 = .ok (.aload_n 0, 1) := by decide +kernel
theorem dX9_allowed_2 : decode cX9_allowed 2 = .ok (.aload_n 0, 1) := by decide +kernel
theorem dX9_allowed_3 : decode cX9_allowed 3 = .ok (.getfield 10, 3) := by decide +kernel
set_option maxRecDepth 20000 in
theorem ggX9_allowed_X8_all : GoodIn wsX9_allowed wsX8_all := goodIn_r _ [6, 7, 8, 9, 10, 5, 11, 12, 79, 80, 81, 82, 83, 84] (by decide +kernel) (by decide +kernel)
set_option maxRecDepth 20000 in
theorem gX9_allowed_X8_all : GoodIn wsX9_allowed (wsV RX9 151 RX8 yX8_all wsX8_all) := goodIn_app (goodIn_of _ (by decide +kernel)) ggX9_allowed_X8_all
theorem dX9_allowed_6 : decode cX9_allowed 6 = .ok (.invokevirtual 151, 3) := by decide +kernel
set_option maxRecDepth 20000 in
theorem ggX9_allowed_X9_allowedBy : GoodIn wsX9_allowed wsX9_allowedBy := goodIn_r _ [17, 1, 18, 19, 20, 5, 21, 22, 23, 24, 25, 26, 27, 28, 29, 30, 31, 32, 33, 34, 35, 36, 37, 16, 38, 39, 40, 41, 42, 43, 12, 44, 45, 46, 47, 48, 49, 50, 51, 7, 52, 53, 54, 55, 56, 57, 58, 59, 60, 61, 62, 68, 69, 70, 71, 72, 73, 74, 75, 76, 77, 78, 79, 80, 81, 82, 83, 84] (by decide +kernel) (by decide +kernel)
set_option maxRecDepth 20000 in
theorem gX9_allowed_X9_allowedBy : GoodIn wsX9_allowed (wsV RX9 155 RX9 yX9_allowedBy wsX9_allowedBy) := goodIn_app (goodIn_of _ (by decide +kernel)) ggX9_allowed_X9_allowedBy
theorem dX9_allowed_9 : decode cX9_allowed 9 = .ok (.invokevirtual 155, 3) := by decide +kernel
set_option maxRecDepth 20000 in
theorem ggX9_allowed_X9_ok : GoodIn wsX9_allowed wsX9_ok := goodIn_r _ [66, 67, 68, 69, 70, 71, 72, 73, 74, 75, 76, 77, 78] (by decide +kernel) (by decide +kernel)
set_option maxRecDepth 20000 in
theorem gX9_allowed_X9_ok : GoodIn wsX9_allowed (wsV RX9 142 RX9 yX9_ok wsX9_ok) := goodIn_app (goodIn_of _ (by decide +kernel)) ggX9_allowed_X9_ok
theorem dX9_allowed_12 : decode cX9_allowed 12 = .ok (.invokevirtual 142, 3) := by decide +kernel
theorem dX9_allowed_15 : decode cX9_allowed 15 = .ok (.ireturn, 1) := by decide +kernel
theorem dX9_quarrelsNow_0 : decode cX9_quarrelsNow 0 = .ok (.iconst 0, 1) := by decide +kernel
theorem dX9_quarrelsNow_1 : decode cX9_quarrelsNow 1 = .ok (.istore_n 1, 1) := by decide +kernel
theorem dX9_quarrelsNow_2 : decode cX9_quarrelsNow 2 = .ok (.iconst 0, 1) := by decide +kernel
theorem dX9_quarrelsNow_3 : decode cX9_quarrelsNow 3 = .ok (.istore_n 2, 1) := by decide +kernel
theorem dX9_quarrelsNow_4 : decode cX9_quarrelsNow 4 = .ok (.iload_n 2, 1) := by decide +kernel
theorem dX9_quarrelsNow_5 : decode cX9_quarrelsNow 5 = .ok (.aload_n 0, 1) := by decide +kernel
theorem dX9_quarrelsNow_6 : decode cX9_quarrelsNow 6 = .ok (.getfield 10, 3) := by decide +kernel
theorem dX9_quarrelsNow_9 : decode cX9_quarrelsNow 9 = .ok (.getfield 83, 3) := by decide +kernel
theorem dX9_quarrelsNow_12 : decode cX9_quarrelsNow 12 = .ok (.if_icmp .ge 62, 3) := by decide +kernel
theorem dX9_quarrelsNow_74 : decode cX9_quarrelsNow 74 = .ok (.iload_n 1, 1) := by decide +kernel
theorem dX9_quarrelsNow_75 : decode cX9_quarrelsNow 75 = .ok (.ireturn, 1) := by decide +kernel
theorem dX9_quarrels_0 : decode cX9_quarrels 0 = .ok (.aload_n 0, 1) := by decide +kernel
theorem dX9_quarrels_1 : decode cX9_quarrels 1 = .ok (.aload_n 0, 1) := by decide +kernel
set_option maxRecDepth 20000 in
theorem ggX9_quarrels_X9_quarrelsNow : GoodIn wsX9_quarrels wsX9_quarrelsNow := goodIn_r _ [5, 6, 7, 8, 9, 10, 11, 4, 12, 13, 14, 15, 16, 17, 18, 19, 20, 21, 27, 28, 29, 30, 31, 32, 33, 34, 35, 36, 37, 38, 39, 40, 41, 42, 43] (by decide +kernel) (by decide +kernel)
set_option maxRecDepth 20000 in
theorem gX9_quarrels_X9_quarrelsNow : GoodIn wsX9_quarrels (wsV RX9 171 RX9 yX9_quarrelsNow wsX9_quarrelsNow) := goodIn_app (goodIn_of _ (by decide +kernel)) ggX9_quarrels_X9_quarrelsNow
theorem dX9_quarrels_2 : decode cX9_quarrels 2 = .ok (.invokevirtual 171, 3) := by decide +kernel
set_option maxRecDepth 20000 in
theorem ggX9_quarrels_X9_ok : GoodIn wsX9_quarrels wsX9_ok := goodIn_r _ [25, 26, 27, 28, 29, 30, 31, 32, 33, 34, 35, 36, 37] (by decide +kernel) (by decide +kernel)
set_option maxRecDepth 20000 in
theorem gX9_quarrels_X9_ok : GoodIn wsX9_quarrels (wsV RX9 142 RX9 yX9_ok wsX9_ok) := goodIn_app (goodIn_of _ (by decide +kernel)) ggX9_quarrels_X9_ok
theorem dX9_quarrels_5 : decode cX9_quarrels 5 = .ok (.invokevirtual 142, 3) := by decide +kernel
theorem dX9_quarrels_8 : decode cX9_quarrels 8 = .ok (.ireturn, 1) := by decide +kernel
theorem dX9_build_0 : decode cX9_build 0 = .ok (.aload_n 0, 1) := by decide +kernel
theorem dX9_build_1 : decode cX9_build 1 = .ok (.getfield 10, 3) := by decide +kernel
theorem dX9_build_4 : decode cX9_build 4 = .ok (.iload_n 1, 1) := by decide +kernel
theorem dX9_build_5 : decode cX9_build 5 = .ok (.iload_n 2, 1) := by decide +kernel
set_option maxRecDepth 20000 in
theorem ggX9_build_X8_isLed : GoodIn wsX9_build wsX8_isLed := goodIn_r _ [15, 16, 17, 18, 19, 14, 20, 21, 22, 23, 57, 58, 59, 60, 61, 62] (by decide +kernel) (by decide +kernel)
set_option maxRecDepth 20000 in
theorem gX9_build_X8_isLed : GoodIn wsX9_build (wsV RX9 46 RX8 yX8_isLed wsX8_isLed) := goodIn_app (goodIn_of _ (by decide +kernel)) ggX9_build_X8_isLed
theorem dX9_build_6 : decode cX9_build 6 = .ok (.invokevirtual 46, 3) := by decide +kernel
theorem dX9_build_9 : decode cX9_build 9 = .ok (.ifCond .eq 19, 3) := by decide +kernel
theorem dX9_build_12 : decode cX9_build 12 = .ok (.iload_n 2, 1) := by decide +kernel
theorem dX9_build_13 : decode cX9_build 13 = .ok (.ifCond .ne 7, 3) := by decide +kernel
theorem dX9_build_16 : decode cX9_build 16 = .ok (.iconst (-1), 1) := by decide +kernel
theorem dX9_build_17 : decode cX9_build 17 = .ok (.goto 10, 3) := by decide +kernel
theorem dX9_build_27 : decode cX9_build 27 = .ok (.ireturn, 1) := by decide +kernel
theorem dX9_buildAll_0 : decode cX9_buildAll 0 = .ok (.aload_n 0, 1) := by decide +kernel
theorem dX9_buildAll_1 : decode cX9_buildAll 1 = .ok (.iconst 0, 1) := by decide +kernel
theorem dX9_buildAll_2 : decode cX9_buildAll 2 = .ok (.putfield 189, 3) := by decide +kernel
theorem dX9_buildAll_5 : decode cX9_buildAll 5 = .ok (.aload_n 0, 1) := by decide +kernel
theorem dX9_buildAll_6 : decode cX9_buildAll 6 = .ok (.iconst 0, 1) := by decide +kernel
theorem dX9_buildAll_7 : decode cX9_buildAll 7 = .ok (.aload_n 0, 1) := by decide +kernel
theorem dX9_buildAll_8 : decode cX9_buildAll 8 = .ok (.getfield 10, 3) := by decide +kernel
set_option maxRecDepth 20000 in
theorem ggX9_buildAll_X8_all : GoodIn wsX9_buildAll wsX8_all := goodIn_r _ [7, 8, 9, 10, 11, 6, 12, 13, 67, 68, 69, 70, 71, 72] (by decide +kernel) (by decide +kernel)
set_option maxRecDepth 20000 in
theorem gX9_buildAll_X8_all : GoodIn wsX9_buildAll (wsV RX9 151 RX8 yX8_all wsX8_all) := goodIn_app (goodIn_of _ (by decide +kernel)) ggX9_buildAll_X8_all
theorem dX9_buildAll_11 : decode cX9_buildAll 11 = .ok (.invokevirtual 151, 3) := by decide +kernel
set_option maxRecDepth 20000 in
theorem ggX9_buildAll_X9_build : GoodIn wsX9_buildAll wsX9_build := goodIn_r _ [18, 2, 1, 19, 20, 21, 22, 23, 24, 25, 26, 27, 28, 29, 6, 30, 31, 32, 33, 34, 35, 36, 17, 37, 38, 39, 40, 41, 42, 43, 44, 45, 8, 46, 47, 48, 49, 50, 51, 52, 53, 54, 55, 14, 15, 16, 56, 57, 58, 59, 60, 61, 62, 63, 64, 65, 66, 67, 68, 69, 70, 71, 72] (by decide +kernel) (by decide +kernel)
set_option maxRecDepth 20000 in
theorem gX9_buildAll_X9_build : GoodIn wsX9_buildAll (wsV RX9 192 RX9 yX9_build wsX9_build) := goodIn_app (goodIn_of _ (by decide +kernel)) ggX9_buildAll_X9_build
theorem dX9_buildAll_14 : decode cX9_buildAll 14 = .ok (.invokevirtual 192, 3) := by decide +kernel
theorem dX9_buildAll_17 : decode cX9_buildAll 17 = .ok (.pop, 1) := by decide +kernel
theorem dX9_buildAll_18 : decode cX9_buildAll 18 = .ok (.return_, 1) := by decide +kernel
theorem dX9_nodes_0 : decode cX9_nodes 0 = .ok (.aload_n 0, 1) := by decide +kernel
theorem dX9_nodes_1 : decode cX9_nodes 1 = .ok (.iconst 0, 1) := by decide +kernel
theorem dX9_nodes_2 : decode cX9_nodes 2 = .ok (.putfield 40, 3) := by decide +kernel
theorem dX9_nodes_5 : decode cX9_nodes 5 = .ok (.aload_n 0, 1) := by decide +kernel
set_option maxRecDepth 20000 in
theorem ggX9_nodes_X9_buildAll : GoodIn wsX9_nodes wsX9_buildAll := goodIn_r _ [7, 2, 8, 9, 10, 11, 12, 13, 14, 15, 16, 17, 18, 19, 20, 21, 22, 6, 23, 24, 25, 26, 27, 28, 29, 30, 31, 32, 33, 34, 35, 36, 37, 38, 39, 40, 41, 42, 43, 44, 45, 46, 47, 48, 49, 50, 51, 52, 53, 54, 55, 56, 57, 58, 59, 60, 61, 62, 63, 64, 65, 66, 67, 68, 69, 70, 71, 72, 73, 74, 75, 76, 77] (by decide +kernel) (by decide +kernel)
set_option maxRecDepth 20000 in
theorem gX9_nodes_X9_buildAll : GoodIn wsX9_nodes (wsV RX9 195 RX9 yX9_buildAll wsX9_buildAll) := goodIn_app (goodIn_of _ (by decide +kernel)) ggX9_nodes_X9_buildAll
theorem dX9_nodes_6 : decode cX9_nodes 6 = .ok (.invokevirtual 195, 3) := by decide +kernel
theorem dX9_nodes_9 : decode cX9_nodes 9 = .ok (.aload_n 0, 1) := by decide +kernel
theorem dX9_nodes_10 : decode cX9_nodes 10 = .ok (.getfield 189, 3) := by decide +kernel
theorem dX9_nodes_13 : decode cX9_nodes 13 = .ok (.ireturn, 1) := by decide +kernel
theorem dX9_ofNode_0 : decode cX9_ofNode 0 = .ok (.aload_n 0, 1) := by decide +kernel
theorem dX9_ofNode_1 : decode cX9_ofNode 1 = .ok (.iconst 0, 1) := by decide +kernel
theorem dX9_ofNode_2 : decode cX9_ofNode 2 = .ok (.putfield 40, 3) := by decide +kernel
theorem dX9_ofNode_5 : decode cX9_ofNode 5 = .ok (.aload_n 0, 1) := by decide +kernel
set_option maxRecDepth 20000 in
theorem ggX9_ofNode_X9_buildAll : GoodIn wsX9_ofNode wsX9_buildAll := goodIn_r _ [7, 2, 8, 9, 10, 11, 12, 13, 14, 15, 16, 17, 18, 19, 20, 21, 22, 6, 23, 24, 25, 26, 27, 28, 29, 30, 31, 32, 33, 34, 35, 36, 37, 38, 39, 40, 41, 42, 43, 44, 45, 46, 47, 48, 49, 50, 51, 52, 53, 54, 55, 56, 57, 58, 59, 60, 70, 71, 72, 73, 74, 75, 76, 77, 78, 79, 80, 81, 82, 83, 84, 85, 86] (by decide +kernel) (by decide +kernel)
set_option maxRecDepth 20000 in
theorem gX9_ofNode_X9_buildAll : GoodIn wsX9_ofNode (wsV RX9 195 RX9 yX9_buildAll wsX9_buildAll) := goodIn_app (goodIn_of _ (by decide +kernel)) ggX9_ofNode_X9_buildAll
theorem dX9_ofNode_6 : decode cX9_ofNode 6 = .ok (.invokevirtual 195, 3) := by decide +kernel
theorem dX9_ofNode_9 : decode cX9_ofNode 9 = .ok (.iload_n 1, 1) := by decide +kernel
theorem dX9_ofNode_10 : decode cX9_ofNode 10 = .ok (.iconst 0, 1) := by decide +kernel
theorem dX9_ofNode_11 : decode cX9_ofNode 11 = .ok (.aload_n 0, 1) := by decide +kernel
theorem dX9_ofNode_12 : decode cX9_ofNode 12 = .ok (.getfield 189, 3) := by decide +kernel
theorem dX9_ofNode_15 : decode cX9_ofNode 15 = .ok (.iconst 1, 1) := by decide +kernel
theorem dX9_ofNode_16 : decode cX9_ofNode 16 = .ok (.isub, 1) := by decide +kernel
set_option maxRecDepth 20000 in
theorem ggX9_ofNode_X9_isIn : GoodIn wsX9_ofNode wsX9_isIn := goodIn_r _ [60] (by decide +kernel) (by decide +kernel)
set_option maxRecDepth 20000 in
theorem gX9_ofNode_X9_isIn : GoodIn wsX9_ofNode (va_wsS RX9 86 yX9_isIn wsX9_isIn) := goodIn_app (goodIn_of _ (by decide +kernel)) ggX9_ofNode_X9_isIn
theorem dX9_ofNode_17 : decode cX9_ofNode 17 = .ok (.invokestatic 86, 3) := by decide +kernel
theorem dX9_ofNode_20 : decode cX9_ofNode 20 = .ok (.ifCond .ne 9, 3) := by decide +kernel
theorem dX9_ofNode_23 : decode cX9_ofNode 23 = .ok (.aload_n 0, 1) := by decide +kernel
theorem dX9_ofNode_24 : decode cX9_ofNode 24 = .ok (.iconst 1, 1) := by decide +kernel
set_option maxRecDepth 20000 in
theorem ggX9_ofNode_X9_no : GoodIn wsX9_ofNode wsX9_no := goodIn_r _ [65, 1, 70, 71, 72, 73, 74, 75, 76, 77, 78, 79, 80] (by decide +kernel) (by decide +kernel)
set_option maxRecDepth 20000 in
theorem gX9_ofNode_X9_no : GoodIn wsX9_ofNode (wsV RX9 90 RX9 yX9_no wsX9_no) := goodIn_app (goodIn_of _ (by decide +kernel)) ggX9_ofNode_X9_no
theorem dX9_ofNode_25 : decode cX9_ofNode 25 = .ok (.invokevirtual 90, 3) := by decide +kernel
theorem dX9_ofNode_28 : decode cX9_ofNode 28 = .ok (.ireturn, 1) := by decide +kernel
theorem dX9_piece_0 : decode cX9_piece 0 = .ok (.aload_n 0, 1) := by decide +kernel
theorem dX9_piece_1 : decode cX9_piece 1 = .ok (.iconst 0, 1) := by decide +kernel
theorem dX9_piece_2 : decode cX9_piece 2 = .ok (.putfield 40, 3) := by decide +kernel
theorem dX9_piece_5 : decode cX9_piece 5 = .ok (.aload_n 0, 1) := by decide +kernel
set_option maxRecDepth 20000 in
theorem ggX9_piece_X9_buildAll : GoodIn wsX9_piece wsX9_buildAll := goodIn_r _ [8, 2, 9, 10, 11, 12, 13, 14, 15, 16, 17, 18, 19, 20, 21, 22, 23, 7, 24, 25, 26, 27, 3, 28, 29, 30, 31, 32, 33, 34, 35, 36, 37, 38, 39, 40, 41, 42, 43, 44, 45, 46, 47, 48, 49, 50, 51, 52, 53, 54, 55, 56, 57, 58, 59, 60, 66, 67, 68, 69, 70, 71, 72, 73, 74, 75, 76, 77, 78, 79, 80, 81, 82] (by decide +kernel) (by decide +kernel)
set_option maxRecDepth 20000 in
theorem gX9_piece_X9_buildAll : GoodIn wsX9_piece (wsV RX9 195 RX9 yX9_buildAll wsX9_buildAll) := goodIn_app (goodIn_of _ (by decide +kernel)) ggX9_piece_X9_buildAll
theorem dX9_piece_6 : decode cX9_piece 6 = .ok (.invokevirtual 195, 3) := by decide +kernel
theorem dX9_piece_9 : decode cX9_piece 9 = .ok (.iload_n 1, 1) := by decide +kernel
theorem dX9_piece_10 : decode cX9_piece 10 = .ok (.iconst 0, 1) := by decide +kernel
theorem dX9_piece_11 : decode cX9_piece 11 = .ok (.aload_n 0, 1) := by decide +kernel
theorem dX9_piece_12 : decode cX9_piece 12 = .ok (.getfield 189, 3) := by decide +kernel
theorem dX9_piece_15 : decode cX9_piece 15 = .ok (.iconst 1, 1) := by decide +kernel
theorem dX9_piece_16 : decode cX9_piece 16 = .ok (.isub, 1) := by decide +kernel
set_option maxRecDepth 20000 in
theorem ggX9_piece_X9_isIn : GoodIn wsX9_piece wsX9_isIn := goodIn_r _ [60] (by decide +kernel) (by decide +kernel)
set_option maxRecDepth 20000 in
theorem gX9_piece_X9_isIn : GoodIn wsX9_piece (va_wsS RX9 86 yX9_isIn wsX9_isIn) := goodIn_app (goodIn_of _ (by decide +kernel)) ggX9_piece_X9_isIn
theorem dX9_piece_17 : decode cX9_piece 17 = .ok (.invokestatic 86, 3) := by decide +kernel
theorem dX9_piece_20 : decode cX9_piece 20 = .ok (.ifCond .eq 22, 3) := by decide +kernel
theorem dX9_piece_42 : decode cX9_piece 42 = .ok (.aload_n 0, 1) := by decide +kernel
theorem dX9_piece_43 : decode cX9_piece 43 = .ok (.iconst 1, 1) := by decide +kernel
set_option maxRecDepth 20000 in
theorem ggX9_piece_X9_no : GoodIn wsX9_piece wsX9_no := goodIn_r _ [65, 1, 66, 67, 68, 69, 70, 71, 72, 73, 74, 75, 76] (by decide +kernel) (by decide +kernel)
set_option maxRecDepth 20000 in
theorem gX9_piece_X9_no : GoodIn wsX9_piece (wsV RX9 90 RX9 yX9_no wsX9_no) := goodIn_app (goodIn_of _ (by decide +kernel)) ggX9_piece_X9_no
theorem dX9_piece_44 : decode cX9_piece 44 = .ok (.invokevirtual 90, 3) := by decide +kernel
theorem dX9_piece_47 : decode cX9_piece 47 = .ok (.ireturn, 1) := by decide +kernel
theorem dX9_meanSteps_0 : decode cX9_meanSteps 0 = .ok (.aload_n 0, 1) := by decide +kernel
theorem dX9_meanSteps_1 : decode cX9_meanSteps 1 = .ok (.iconst 0, 1) := by decide +kernel
theorem dX9_meanSteps_2 : decode cX9_meanSteps 2 = .ok (.putfield 40, 3) := by decide +kernel
theorem dX9_meanSteps_5 : decode cX9_meanSteps 5 = .ok (.aload_n 0, 1) := by decide +kernel
theorem dX9_meanSteps_6 : decode cX9_meanSteps 6 = .ok (.getfield 10, 3) := by decide +kernel
theorem dX9_meanSteps_9 : decode cX9_meanSteps 9 = .ok (.iconst 0, 1) := by decide +kernel
theorem dX9_meanSteps_10 : decode cX9_meanSteps 10 = .ok (.aload_n 0, 1) := by decide +kernel
theorem dX9_meanSteps_11 : decode cX9_meanSteps 11 = .ok (.getfield 10, 3) := by decide +kernel
set_option maxRecDepth 20000 in
theorem ggX9_meanSteps_X8_all : GoodIn wsX9_meanSteps wsX8_all := goodIn_r _ [7, 8, 9, 10, 11, 6, 12, 13, 61, 62, 63, 64, 65, 66] (by decide +kernel) (by decide +kernel)
set_option maxRecDepth 20000 in
theorem gX9_meanSteps_X8_all : GoodIn wsX9_meanSteps (wsV RX9 151 RX8 yX8_all wsX8_all) := goodIn_app (goodIn_of _ (by decide +kernel)) ggX9_meanSteps_X8_all
theorem dX9_meanSteps_14 : decode cX9_meanSteps 14 = .ok (.invokevirtual 151, 3) := by decide +kernel
set_option maxRecDepth 20000 in
theorem ggX9_meanSteps_X8_steps : GoodIn wsX9_meanSteps wsX8_steps := goodIn_r _ [17, 18, 19, 20, 6, 21, 22, 23, 24, 25, 26, 27, 28, 29, 30, 31, 32, 33, 34, 35, 36, 37, 8, 38, 39, 40, 41, 42, 43, 44, 45, 46, 47, 48, 15, 16, 61, 62, 63, 64, 65, 66] (by decide +kernel) (by decide +kernel)
set_option maxRecDepth 20000 in
theorem gX9_meanSteps_X8_steps : GoodIn wsX9_meanSteps (wsV RX9 201 RX8 yX8_steps wsX8_steps) := goodIn_app (goodIn_of _ (by decide +kernel)) ggX9_meanSteps_X8_steps
theorem dX9_meanSteps_17 : decode cX9_meanSteps 17 = .ok (.invokevirtual 201, 3) := by decide +kernel
theorem dX9_meanSteps_20 : decode cX9_meanSteps 20 = .ok (.l2d, 1) := by decide +kernel
theorem dX9_meanSteps_21 : decode cX9_meanSteps 21 = .ok (.iconst 0, 1) := by decide +kernel
set_option maxRecDepth 20000 in
theorem ggX9_meanSteps_X9_size : GoodIn wsX9_meanSteps wsX9_size := goodIn_r _ [31, 32, 33] (by decide +kernel) (by decide +kernel)
set_option maxRecDepth 20000 in
theorem gX9_meanSteps_X9_size : GoodIn wsX9_meanSteps (va_wsS RX9 58 yX9_size wsX9_size) := goodIn_app (goodIn_of _ (by decide +kernel)) ggX9_meanSteps_X9_size
theorem dX9_meanSteps_22 : decode cX9_meanSteps 22 = .ok (.invokestatic 58, 3) := by decide +kernel
theorem dX9_meanSteps_25 : decode cX9_meanSteps 25 = .ok (.i2d, 1) := by decide +kernel
theorem dX9_meanSteps_26 : decode cX9_meanSteps 26 = .ok (.ddiv, 1) := by decide +kernel
theorem dX9_meanSteps_27 : decode cX9_meanSteps 27 = .ok (.dreturn, 1) := by decide +kernel
set_option maxHeartbeats 4000000 in
set_option maxRecDepth 100000 in
theorem z_X9_thrown (l : Launch) (G : zG) (mm : Nat) (nw : Nat) (cq : Nat) (hi : Nat) (ko : Nat) (se : Nat) (nf : Nat) (ns : Nat) (pi : Nat) (th : Int32) : zR l G yX9_thrown wsX9_thrown { frames := 0, cells := 0, slots := 0, locals := 0 } [(mm, .inr (9, [.int th, .ref nw, .ref cq, .ref hi, .int 0, .ref ko, .ref se, .int 0, .ref nf, .ref ns, .ref pi]))] [.ref mm] (some (.int th)) (fun u => [(mm, .inr (9, [.int th, .ref nw, .ref cq, .ref hi, .int 0, .ref ko, .ref se, .int 0, .ref nf, .ref ns, .ref pi]))]) 0 0 := by
  refine zR_of (cc := cX9_thrown) (maxL := 1) (rt := (some .int)) (by decide) rfl (Nat.le_of_ble_eq_true rfl) ?_
  intro p e s m below meth c A ls hx hb hml hr hts hown hlocks hin hA hE hP hD hS hl
  have hl : lv_has ls 1 [(0, .ref mm)] := hl
  have hown : s.vm.findClass RX9 = some m.cls := hown
  have hP : va_P G.1 vwCl [(mm, .inr (9, [.int th, .ref nw, .ref cq, .ref hi, .int 0, .ref ko, .ref se, .int 0, .ref nf, .ref ns, .ref pi]))] s.heap := hP
  have hw9 : ∀ w ∈ u_ws RX9 TX9 11, w ∈ wsX9_thrown := by decide +kernel
  have hf40 := hts (.fieldLink RX9 40 "NettleModel" "thrown" "I") (by decide +kernel)
  refine lv_aload_n hx hb dX9_thrown_0 rfl (lv_at hl 0 rfl) ?_
  refine va_get (D := G.1) (ci := 9) (v := .int th) (C := RX9) (T := TX9) (N := 11) hx hb hts hw9 hown hE.1 hP 0 rfl rfl 0 (by decide) hf40 (fun _ h9 => h9) rfl dX9_thrown_1 ?_
  exact zend_i hx hb hr hlocks (fun k => [].getD k 0) hP hD hS (Nat.le_of_ble_eq_true rfl) (Nat.le_of_ble_eq_true rfl) dX9_thrown_4

set_option maxHeartbeats 4000000 in
set_option maxRecDepth 100000 in
theorem z_X9_no (l : Launch) (G : zG) (mm : Nat) (nw : Nat) (cq : Nat) (hi : Nat) (ko : Nat) (se : Nat) (nf : Nat) (ns : Nat) (pi : Nat) (th : Int32) (p0 : Int32) : zR l G yX9_no wsX9_no { frames := 0, cells := 0, slots := 0, locals := 0 } [(mm, .inr (9, [.int th, .ref nw, .ref cq, .ref hi, .int 0, .ref ko, .ref se, .int 0, .ref nf, .ref ns, .ref pi]))] [.ref mm, .int p0] (some (.int 0)) (fun u => [(mm, .inr (9, [.int p0, .ref nw, .ref cq, .ref hi, .int 0, .ref ko, .ref se, .int 0, .ref nf, .ref ns, .ref pi]))]) 0 0 := by
  refine zR_of (cc := cX9_no) (maxL := 2) (rt := (some .int)) (by decide) rfl (Nat.le_of_ble_eq_true rfl) ?_
  intro p e s m below meth c A ls hx hb hml hr hts hown hlocks hin hA hE hP hD hS hl
  have hl : lv_has ls 2 [(0, .ref mm), (1, .int p0)] := hl
  have hown : s.vm.findClass RX9 = some m.cls := hown
  have hP : va_P G.1 vwCl [(mm, .inr (9, [.int th, .ref nw, .ref cq, .ref hi, .int 0, .ref ko, .ref se, .int 0, .ref nf, .ref ns, .ref pi]))] s.heap := hP
  have hw9 : ∀ w ∈ u_ws RX9 TX9 11, w ∈ wsX9_no := by decide +kernel
  have hf40 := hts (.fieldLink RX9 40 "NettleModel" "thrown" "I") (by decide +kernel)
  refine lv_aload_n hx hb dX9_no_0 rfl (lv_at hl 0 rfl) ?_
  refine lv_iload_n hx hb dX9_no_1 rfl (lv_at hl 1 rfl) ?_
  refine va_put (D := G.1) (ci := 9) (v := .int p0) (ty := tyX9 0) (C := RX9) (T := TX9) (N := 11) hx hb hts hw9 tyX9 tyX9_ok nmX9 hown hE.1 hP hD hS 0 rfl rfl 0 (by decide) hf40 (fun _ h9 => h9) rfl (by decide +kernel) rfl rfl (Nat.le_of_ble_eq_true rfl) dX9_no_2 (fun H locs hP hD hS => ?_)
  have hP : va_P G.1 vwCl [(mm, .inr (9, [.int p0, .ref nw, .ref cq, .ref hi, .int 0, .ref ko, .ref se, .int 0, .ref nf, .ref ns, .ref pi]))] H := hP
  have hD : va_D A [(mm, .inr (9, [.int p0, .ref nw, .ref cq, .ref hi, .int 0, .ref ko, .ref se, .int 0, .ref nf, .ref ns, .ref pi]))] := hD
  refine lv_iconst (v := 0) hx hb dX9_no_5 (by decide) ?_
  exact zend_i hx hb hr hlocks (fun k => [].getD k 0) hP hD hS (Nat.le_of_ble_eq_true rfl) (Nat.le_of_ble_eq_true rfl) dX9_no_6

set_option maxHeartbeats 4000000 in
set_option maxRecDepth 100000 in
theorem z_X9_ok (l : Launch) (G : zG) (mm : Nat) (nw : Nat) (cq : Nat) (hi : Nat) (ko : Nat) (se : Nat) (nf : Nat) (ns : Nat) (pi : Nat) (th : Int32) (p0 : Int32) : zR l G yX9_ok wsX9_ok { frames := 0, cells := 0, slots := 0, locals := 0 } [(mm, .inr (9, [.int th, .ref nw, .ref cq, .ref hi, .int 0, .ref ko, .ref se, .int 0, .ref nf, .ref ns, .ref pi]))] [.ref mm, .int p0] (some (.int p0)) (fun u => [(mm, .inr (9, [.int 0, .ref nw, .ref cq, .ref hi, .int 0, .ref ko, .ref se, .int 0, .ref nf, .ref ns, .ref pi]))]) 0 0 := by
  refine zR_of (cc := cX9_ok) (maxL := 2) (rt := (some .int)) (by decide) rfl (Nat.le_of_ble_eq_true rfl) ?_
  intro p e s m below meth c A ls hx hb hml hr hts hown hlocks hin hA hE hP hD hS hl
  have hl : lv_has ls 2 [(0, .ref mm), (1, .int p0)] := hl
  have hown : s.vm.findClass RX9 = some m.cls := hown
  have hP : va_P G.1 vwCl [(mm, .inr (9, [.int th, .ref nw, .ref cq, .ref hi, .int 0, .ref ko, .ref se, .int 0, .ref nf, .ref ns, .ref pi]))] s.heap := hP
  have hw9 : ∀ w ∈ u_ws RX9 TX9 11, w ∈ wsX9_ok := by decide +kernel
  have hf40 := hts (.fieldLink RX9 40 "NettleModel" "thrown" "I") (by decide +kernel)
  refine lv_aload_n hx hb dX9_ok_0 rfl (lv_at hl 0 rfl) ?_
  refine lv_iconst (v := 0) hx hb dX9_ok_1 (by decide) ?_
  refine va_put (D := G.1) (ci := 9) (v := .int 0) (ty := tyX9 0) (C := RX9) (T := TX9) (N := 11) hx hb hts hw9 tyX9 tyX9_ok nmX9 hown hE.1 hP hD hS 0 rfl rfl 0 (by decide) hf40 (fun _ h9 => h9) rfl (by decide +kernel) rfl rfl (Nat.le_of_ble_eq_true rfl) dX9_ok_2 (fun H locs hP hD hS => ?_)
  have hP : va_P G.1 vwCl [(mm, .inr (9, [.int 0, .ref nw, .ref cq, .ref hi, .int 0, .ref ko, .ref se, .int 0, .ref nf, .ref ns, .ref pi]))] H := hP
  have hD : va_D A [(mm, .inr (9, [.int 0, .ref nw, .ref cq, .ref hi, .int 0, .ref ko, .ref se, .int 0, .ref nf, .ref ns, .ref pi]))] := hD
  refine lv_iload_n hx hb dX9_ok_5 rfl (lv_at hl 1 rfl) ?_
  exact zend_i hx hb hr hlocks (fun k => [].getD k 0) hP hD hS (Nat.le_of_ble_eq_true rfl) (Nat.le_of_ble_eq_true rfl) dX9_ok_6

set_option maxHeartbeats 4000000 in
set_option maxRecDepth 100000 in
theorem z_X9_isRule (l : Launch) (G : zG) (mm : Nat) (nw : Nat) (cq : Nat) (hi : Nat) (ko : Nat) (se : Nat) (nf : Nat) (ns : Nat) (pi : Nat) (th : Int32) (vd : Nat) (lw : Nat) (hg : Nat) (rk : Nat) (p0 : Int32) : zR l G yX9_isRule wsX9_isRule { frames := 1, cells := 0, slots := 0, locals := 22 } [(mm, .inr (9, [.int th, .ref nw, .ref cq, .ref hi, .int 0, .ref ko, .ref se, .int 0, .ref nf, .ref ns, .ref pi])), (nw, .inr (8, [.int 0, .int 0, .ref vd, .ref lw, .ref hg, .ref rk]))] [.ref mm, .int p0] (some (.int 0)) (fun u => [(mm, .inr (9, [.int th, .ref nw, .ref cq, .ref hi, .int 0, .ref ko, .ref se, .int 0, .ref nf, .ref ns, .ref pi])), (nw, .inr (8, [.int 0, .int 0, .ref vd, .ref lw, .ref hg, .ref rk]))]) 0 0 := by
  refine zR_of (cc := cX9_isRule) (maxL := 2) (rt := (some .boolean)) (by decide) rfl (Nat.le_of_ble_eq_true rfl) ?_
  intro p e s m below meth c A ls hx hb hml hr hts hown hlocks hin hA hE hP hD hS hl
  have hl : lv_has ls 2 [(0, .ref mm), (1, .int p0)] := hl
  have hown : s.vm.findClass RX9 = some m.cls := hown
  have hP : va_P G.1 vwCl [(mm, .inr (9, [.int th, .ref nw, .ref cq, .ref hi, .int 0, .ref ko, .ref se, .int 0, .ref nf, .ref ns, .ref pi])), (nw, .inr (8, [.int 0, .int 0, .ref vd, .ref lw, .ref hg, .ref rk]))] s.heap := hP
  have hw9 : ∀ w ∈ u_ws RX9 TX9 11, w ∈ wsX9_isRule := by decide +kernel
  have hf10 := hts (.fieldLink RX9 10 "NettleModel" "now" "LNettleModel$Wall;") (by decide +kernel)
  have hw8 : ∀ w ∈ u_ws RX8 TX8 6, w ∈ wsX9_isRule := by decide +kernel
  have hf83 := hts (.fieldLink RX9 83 "NettleModel$Wall" "many" "I") (by decide +kernel)
  by_cases h1 : p0 < 0
  · refine lv_iload_n hx hb dX9_isRule_0 rfl (lv_at hl 1 rfl) ?_
    refine lv_iconst (v := 0) hx hb dX9_isRule_1 (by decide) ?_
    refine lv_aload_n hx hb dX9_isRule_2 rfl (lv_at hl 0 rfl) ?_
    refine va_get (D := G.1) (ci := 9) (v := .ref nw) (C := RX9) (T := TX9) (N := 11) hx hb hts hw9 hown hE.1 hP 0 rfl rfl 1 (by decide) hf10 (fun _ h9 => h9) rfl dX9_isRule_3 ?_
    refine va_get (D := G.1) (ci := 8) (v := .int 0) (C := RX8) (T := TX8) (N := 6) hx hb hts hw8 hown hE.1 hP 1 rfl rfl 0 (by decide) hf83 (fun _ h9 => h9) rfl dX9_isRule_6 ?_
    refine lv_iconst (v := 1) hx hb dX9_isRule_9 (by decide) ?_
    refine lv_isub hx hb dX9_isRule_10 ?_
    refine zti (v := (-1)) (by decide) ?_
    refine zcall (wr := [(mm, .inr (9, [.int th, .ref nw, .ref cq, .ref hi, .int 0, .ref ko, .ref se, .int 0, .ref nf, .ref ns, .ref pi])), (nw, .inr (8, [.int 0, .int 0, .ref vd, .ref lw, .ref hg, .ref rk]))]) (va_runS (As := [.int p0, .int 0, .int (-1)]) (rest := []) ⟨hx, hb, hml, hown, hts⟩ (z_X9_isInL l G p0 0 (-1) h1 s.heap.size) (va_cwS 3 hts gX9_isRule_X9_isIn rfl rfl rfl (by decide +kernel) ⟨Nat.le_of_ble_eq_true rfl, Nat.le_of_ble_eq_true rfl⟩) (zPre (Wc := []) hP hD hE hS hA [] rfl (by decide)) rfl rfl hl.1 rfl (lv_room (Nat.le_of_ble_eq_true rfl)) dX9_isRule_11 ⟨Nat.le_of_ble_eq_true rfl, Nat.le_of_ble_eq_true rfl⟩) hP hD hS hA [] [0, 1] rfl rfl (by decide) (by decide) (fun u1 H locs hP hD hS => ?_)
    have hP : va_P G.1 vwCl [(mm, .inr (9, [.int th, .ref nw, .ref cq, .ref hi, .int 0, .ref ko, .ref se, .int 0, .ref nf, .ref ns, .ref pi])), (nw, .inr (8, [.int 0, .int 0, .ref vd, .ref lw, .ref hg, .ref rk]))] H := hP
    have hD : va_D A [(mm, .inr (9, [.int th, .ref nw, .ref cq, .ref hi, .int 0, .ref ko, .ref se, .int 0, .ref nf, .ref ns, .ref pi])), (nw, .inr (8, [.int 0, .int 0, .ref vd, .ref lw, .ref hg, .ref rk]))] := hD
    refine W.eq (g2 := F0 m 14 ls [.int 0]) rfl ?_
    exact zend_z hx hb hr hlocks rfl (fun k => [].getD k 0) hP hD hS (Nat.le_of_ble_eq_true rfl) (Nat.le_of_ble_eq_true rfl) dX9_isRule_14
  · refine lv_iload_n hx hb dX9_isRule_0 rfl (lv_at hl 1 rfl) ?_
    refine lv_iconst (v := 0) hx hb dX9_isRule_1 (by decide) ?_
    refine lv_aload_n hx hb dX9_isRule_2 rfl (lv_at hl 0 rfl) ?_
    refine va_get (D := G.1) (ci := 9) (v := .ref nw) (C := RX9) (T := TX9) (N := 11) hx hb hts hw9 hown hE.1 hP 0 rfl rfl 1 (by decide) hf10 (fun _ h9 => h9) rfl dX9_isRule_3 ?_
    refine va_get (D := G.1) (ci := 8) (v := .int 0) (C := RX8) (T := TX8) (N := 6) hx hb hts hw8 hown hE.1 hP 1 rfl rfl 0 (by decide) hf83 (fun _ h9 => h9) rfl dX9_isRule_6 ?_
    refine lv_iconst (v := 1) hx hb dX9_isRule_9 (by decide) ?_
    refine lv_isub hx hb dX9_isRule_10 ?_
    refine zti (v := (-1)) (by decide) ?_
    refine zcall (wr := [(mm, .inr (9, [.int th, .ref nw, .ref cq, .ref hi, .int 0, .ref ko, .ref se, .int 0, .ref nf, .ref ns, .ref pi])), (nw, .inr (8, [.int 0, .int 0, .ref vd, .ref lw, .ref hg, .ref rk]))]) (va_runS (As := [.int p0, .int 0, .int (-1)]) (rest := []) ⟨hx, hb, hml, hown, hts⟩ (z_X9_isInH l G p0 0 (-1) h1 (zm1 h1) s.heap.size) (va_cwS 3 hts gX9_isRule_X9_isIn rfl rfl rfl (by decide +kernel) ⟨Nat.le_of_ble_eq_true rfl, Nat.le_of_ble_eq_true rfl⟩) (zPre (Wc := []) hP hD hE hS hA [] rfl (by decide)) rfl rfl hl.1 rfl (lv_room (Nat.le_of_ble_eq_true rfl)) dX9_isRule_11 ⟨Nat.le_of_ble_eq_true rfl, Nat.le_of_ble_eq_true rfl⟩) hP hD hS hA [] [0, 1] rfl rfl (by decide) (by decide) (fun u1 H locs hP hD hS => ?_)
    have hP : va_P G.1 vwCl [(mm, .inr (9, [.int th, .ref nw, .ref cq, .ref hi, .int 0, .ref ko, .ref se, .int 0, .ref nf, .ref ns, .ref pi])), (nw, .inr (8, [.int 0, .int 0, .ref vd, .ref lw, .ref hg, .ref rk]))] H := hP
    have hD : va_D A [(mm, .inr (9, [.int th, .ref nw, .ref cq, .ref hi, .int 0, .ref ko, .ref se, .int 0, .ref nf, .ref ns, .ref pi])), (nw, .inr (8, [.int 0, .int 0, .ref vd, .ref lw, .ref hg, .ref rk]))] := hD
    refine W.eq (g2 := F0 m 14 ls [.int 0]) rfl ?_
    exact zend_z hx hb hr hlocks rfl (fun k => [].getD k 0) hP hD hS (Nat.le_of_ble_eq_true rfl) (Nat.le_of_ble_eq_true rfl) dX9_isRule_14

set_option maxHeartbeats 4000000 in
set_option maxRecDepth 100000 in
theorem z_X9_rule (l : Launch) (G : zG) (mm : Nat) (nw : Nat) (cq : Nat) (hi : Nat) (ko : Nat) (se : Nat) (nf : Nat) (ns : Nat) (pi : Nat) (th : Int32) (vd : Nat) (lw : Nat) (hg : Nat) (rk : Nat) (p0 : Int32) (fv : Nat → Int32) (fl : Nat → Int32) (fh : Nat → Int32) (fi : Nat → Int32) (hv1 : ¬ p0 < 0) (hv2 : ¬ 2 < p0) : zR l G yX9_rule wsX9_rule { frames := 1, cells := 0, slots := 0, locals := 22 } [(mm, .inr (9, [.int th, .ref nw, .ref cq, .ref hi, .int 0, .ref ko, .ref se, .int 0, .ref nf, .ref ns, .ref pi])), (nw, .inr (8, [.int 0, .int 0, .ref vd, .ref lw, .ref hg, .ref rk])), (vd, .inl (G.2.1, 8, .inl (fv))), (lw, .inl (G.2.1, 32, .inl (fl))), (hg, .inl (G.2.1, 32, .inl (fh))), (hi, .inl (G.2.1, 8, .inl (fi)))] [.ref mm, .int p0] (some (.int 0)) (fun u => [(mm, .inr (9, [.int 0, .ref nw, .ref cq, .ref hi, .int 0, .ref ko, .ref se, .int 0, .ref nf, .ref ns, .ref pi])), (nw, .inr (8, [.int 1, .int 0, .ref vd, .ref lw, .ref hg, .ref rk])), (vd, .inl (G.2.1, 8, .inl (upd fv 0 p0))), (lw, .inl (G.2.1, 32, .inl (upd (upd (upd (upd fl 0 0) 1 0) 2 0) 3 0))), (hg, .inl (G.2.1, 32, .inl (upd (upd (upd (upd fh 0 255) 1 255) 2 1023) 3 3))), (hi, .inl (G.2.1, 8, .inl (upd fi 0 0)))]) 0 0 := by
  refine zR_of (cc := cX9_rule) (maxL := 3) (rt := (some .int)) (by decide) rfl (Nat.le_of_ble_eq_true rfl) ?_
  intro p e s m below meth c A ls hx hb hml hr hts hown hlocks hin hA hE hP hD hS hl
  have hl : lv_has ls 3 [(0, .ref mm), (1, .int p0)] := hl
  have hown : s.vm.findClass RX9 = some m.cls := hown
  have hP : va_P G.1 vwCl [(mm, .inr (9, [.int th, .ref nw, .ref cq, .ref hi, .int 0, .ref ko, .ref se, .int 0, .ref nf, .ref ns, .ref pi])), (nw, .inr (8, [.int 0, .int 0, .ref vd, .ref lw, .ref hg, .ref rk])), (vd, .inl (G.2.1, 8, .inl (fv))), (lw, .inl (G.2.1, 32, .inl (fl))), (hg, .inl (G.2.1, 32, .inl (fh))), (hi, .inl (G.2.1, 8, .inl (fi)))] s.heap := hP
  have hw9 : ∀ w ∈ u_ws RX9 TX9 11, w ∈ wsX9_rule := by decide +kernel
  have hf40 := hts (.fieldLink RX9 40 "NettleModel" "thrown" "I") (by decide +kernel)
  have hf10 := hts (.fieldLink RX9 10 "NettleModel" "now" "LNettleModel$Wall;") (by decide +kernel)
  have hw8 : ∀ w ∈ u_ws RX8 TX8 6, w ∈ wsX9_rule := by decide +kernel
  have hf83 := hts (.fieldLink RX9 83 "NettleModel$Wall" "many" "I") (by decide +kernel)
  have hf93 := hts (.fieldLink RX9 93 "NettleModel$Wall" "verdict" "[I") (by decide +kernel)
  have hf96 := hts (.fieldLink RX9 96 "NettleModel$Wall" "low" "[I") (by decide +kernel)
  have hf99 := hts (.fieldLink RX9 99 "NettleModel$Wall" "high" "[I") (by decide +kernel)
  have hf19 := hts (.fieldLink RX9 19 "NettleModel" "hits" "[I") (by decide +kernel)
  refine lv_aload_n hx hb dX9_rule_0 rfl (lv_at hl 0 rfl) ?_
  refine lv_iconst (v := 0) hx hb dX9_rule_1 (by decide) ?_
  refine va_put (D := G.1) (ci := 9) (v := .int 0) (ty := tyX9 0) (C := RX9) (T := TX9) (N := 11) hx hb hts hw9 tyX9 tyX9_ok nmX9 hown hE.1 hP hD hS 0 rfl rfl 0 (by decide) hf40 (fun _ h9 => h9) rfl (by decide +kernel) rfl rfl (Nat.le_of_ble_eq_true rfl) dX9_rule_2 (fun H locs hP hD hS => ?_)
  have hP : va_P G.1 vwCl [(mm, .inr (9, [.int 0, .ref nw, .ref cq, .ref hi, .int 0, .ref ko, .ref se, .int 0, .ref nf, .ref ns, .ref pi])), (nw, .inr (8, [.int 0, .int 0, .ref vd, .ref lw, .ref hg, .ref rk])), (vd, .inl (G.2.1, 8, .inl (fv))), (lw, .inl (G.2.1, 32, .inl (fl))), (hg, .inl (G.2.1, 32, .inl (fh))), (hi, .inl (G.2.1, 8, .inl (fi)))] H := hP
  have hD : va_D A [(mm, .inr (9, [.int 0, .ref nw, .ref cq, .ref hi, .int 0, .ref ko, .ref se, .int 0, .ref nf, .ref ns, .ref pi])), (nw, .inr (8, [.int 0, .int 0, .ref vd, .ref lw, .ref hg, .ref rk])), (vd, .inl (G.2.1, 8, .inl (fv))), (lw, .inl (G.2.1, 32, .inl (fl))), (hg, .inl (G.2.1, 32, .inl (fh))), (hi, .inl (G.2.1, 8, .inl (fi)))] := hD
  refine lv_iload_n hx hb dX9_rule_5 rfl (lv_at hl 1 rfl) ?_
  refine lv_iconst (v := 0) hx hb dX9_rule_6 (by decide) ?_
  refine lv_iconst (v := 2) hx hb dX9_rule_7 (by decide) ?_
  refine zcall (wr := [(mm, .inr (9, [.int 0, .ref nw, .ref cq, .ref hi, .int 0, .ref ko, .ref se, .int 0, .ref nf, .ref ns, .ref pi])), (nw, .inr (8, [.int 0, .int 0, .ref vd, .ref lw, .ref hg, .ref rk])), (vd, .inl (G.2.1, 8, .inl (fv))), (lw, .inl (G.2.1, 32, .inl (fl))), (hg, .inl (G.2.1, 32, .inl (fh))), (hi, .inl (G.2.1, 8, .inl (fi)))]) (va_runS (As := [.int p0, .int 0, .int 2]) (rest := []) ⟨hx, hb, hml, hown, hts⟩ (z_X9_isIn l G p0 0 2 hv1 hv2 H.size) (va_cwS 3 hts gX9_rule_X9_isIn rfl rfl rfl (by decide +kernel) ⟨Nat.le_of_ble_eq_true rfl, Nat.le_of_ble_eq_true rfl⟩) (zPre (Wc := []) hP hD hE hS hA [] rfl (by decide)) rfl rfl hl.1 rfl (lv_room (Nat.le_of_ble_eq_true rfl)) dX9_rule_8 ⟨Nat.le_of_ble_eq_true rfl, Nat.le_of_ble_eq_true rfl⟩) hP hD hS hA [] [0, 1, 2, 3, 4, 5] rfl rfl (by decide) (by decide) (fun u1 H locs hP hD hS => ?_)
  have hP : va_P G.1 vwCl [(mm, .inr (9, [.int 0, .ref nw, .ref cq, .ref hi, .int 0, .ref ko, .ref se, .int 0, .ref nf, .ref ns, .ref pi])), (nw, .inr (8, [.int 0, .int 0, .ref vd, .ref lw, .ref hg, .ref rk])), (vd, .inl (G.2.1, 8, .inl (fv))), (lw, .inl (G.2.1, 32, .inl (fl))), (hg, .inl (G.2.1, 32, .inl (fh))), (hi, .inl (G.2.1, 8, .inl (fi)))] H := hP
  have hD : va_D A [(mm, .inr (9, [.int 0, .ref nw, .ref cq, .ref hi, .int 0, .ref ko, .ref se, .int 0, .ref nf, .ref ns, .ref pi])), (nw, .inr (8, [.int 0, .int 0, .ref vd, .ref lw, .ref hg, .ref rk])), (vd, .inl (G.2.1, 8, .inl (fv))), (lw, .inl (G.2.1, 32, .inl (fl))), (hg, .inl (G.2.1, 32, .inl (fh))), (hi, .inl (G.2.1, 8, .inl (fi)))] := hD
  refine W.eq (g2 := F0 m 11 ls [.int 1]) rfl ?_
  refine lv_if_ne (tgt := 20) hx hb dX9_rule_11 (by decide) (fun _ => ?_) (fun h9 => absurd h9 (by decide))
  refine lv_aload_n hx hb dX9_rule_20 rfl (lv_at hl 0 rfl) ?_
  refine va_get (D := G.1) (ci := 9) (v := .ref nw) (C := RX9) (T := TX9) (N := 11) hx hb hts hw9 hown hE.1 hP 0 rfl rfl 1 (by decide) hf10 (fun _ h9 => h9) rfl dX9_rule_21 ?_
  refine va_get (D := G.1) (ci := 8) (v := .int 0) (C := RX8) (T := TX8) (N := 6) hx hb hts hw8 hown hE.1 hP 1 rfl rfl 0 (by decide) hf83 (fun _ h9 => h9) rfl dX9_rule_24 ?_
  refine lv_bipush (v := 8) hx hb dX9_rule_27 (by decide) ?_
  refine lv_icmp_ne (tgt := 38) hx hb dX9_rule_29 (by decide) (fun _ => ?_) (fun h9 => absurd h9 (by decide))
  refine lv_aload_n hx hb dX9_rule_38 rfl (lv_at hl 0 rfl) ?_
  refine va_get (D := G.1) (ci := 9) (v := .ref nw) (C := RX9) (T := TX9) (N := 11) hx hb hts hw9 hown hE.1 hP 0 rfl rfl 1 (by decide) hf10 (fun _ h9 => h9) rfl dX9_rule_39 ?_
  refine va_get (D := G.1) (ci := 8) (v := .ref vd) (C := RX8) (T := TX8) (N := 6) hx hb hts hw8 hown hE.1 hP 1 rfl rfl 2 (by decide) hf93 (fun _ h9 => h9) rfl dX9_rule_42 ?_
  refine lv_aload_n hx hb dX9_rule_45 rfl (lv_at hl 0 rfl) ?_
  refine va_get (D := G.1) (ci := 9) (v := .ref nw) (C := RX9) (T := TX9) (N := 11) hx hb hts hw9 hown hE.1 hP 0 rfl rfl 1 (by decide) hf10 (fun _ h9 => h9) rfl dX9_rule_46 ?_
  refine va_get (D := G.1) (ci := 8) (v := .int 0) (C := RX8) (T := TX8) (N := 6) hx hb hts hw8 hown hE.1 hP 1 rfl rfl 0 (by decide) hf83 (fun _ h9 => h9) rfl dX9_rule_49 ?_
  refine lv_iload_n hx hb dX9_rule_52 rfl (lv_at hl 1 rfl) ?_
  refine va_iast hx hb hE.1 hP hD hS 2 0 rfl rfl (zin (by decide +kernel)) dX9_rule_53 (fun H locs hP hD hS => ?_)
  have hP : va_P G.1 vwCl [(mm, .inr (9, [.int 0, .ref nw, .ref cq, .ref hi, .int 0, .ref ko, .ref se, .int 0, .ref nf, .ref ns, .ref pi])), (nw, .inr (8, [.int 0, .int 0, .ref vd, .ref lw, .ref hg, .ref rk])), (vd, .inl (G.2.1, 8, .inl (upd fv 0 p0))), (lw, .inl (G.2.1, 32, .inl (fl))), (hg, .inl (G.2.1, 32, .inl (fh))), (hi, .inl (G.2.1, 8, .inl (fi)))] H := hP
  have hD : va_D A [(mm, .inr (9, [.int 0, .ref nw, .ref cq, .ref hi, .int 0, .ref ko, .ref se, .int 0, .ref nf, .ref ns, .ref pi])), (nw, .inr (8, [.int 0, .int 0, .ref vd, .ref lw, .ref hg, .ref rk])), (vd, .inl (G.2.1, 8, .inl (upd fv 0 p0))), (lw, .inl (G.2.1, 32, .inl (fl))), (hg, .inl (G.2.1, 32, .inl (fh))), (hi, .inl (G.2.1, 8, .inl (fi)))] := hD
  refine lv_iconst (v := 0) hx hb dX9_rule_54 (by decide) ?_
  refine lv_istore_n (lv' := [(2, .int 0), (0, .ref mm), (1, .int p0)]) hx hb dX9_rule_55 rfl hl (by decide) rfl (fun ls hl => ?_)
  refine lv_iload_n hx hb dX9_rule_56 rfl (lv_at hl 0 rfl) ?_
  refine lv_iconst (v := 4) hx hb dX9_rule_57 (by decide) ?_
  refine lv_icmp_ge (tgt := 112) hx hb dX9_rule_58 (by decide) (fun h9 => absurd h9 (by decide)) (fun _ => ?_)
  refine lv_aload_n hx hb dX9_rule_61 rfl (lv_at hl 1 rfl) ?_
  refine va_get (D := G.1) (ci := 9) (v := .ref nw) (C := RX9) (T := TX9) (N := 11) hx hb hts hw9 hown hE.1 hP 0 rfl rfl 1 (by decide) hf10 (fun _ h9 => h9) rfl dX9_rule_62 ?_
  refine va_get (D := G.1) (ci := 8) (v := .ref lw) (C := RX8) (T := TX8) (N := 6) hx hb hts hw8 hown hE.1 hP 1 rfl rfl 3 (by decide) hf96 (fun _ h9 => h9) rfl dX9_rule_65 ?_
  refine lv_aload_n hx hb dX9_rule_68 rfl (lv_at hl 1 rfl) ?_
  refine va_get (D := G.1) (ci := 9) (v := .ref nw) (C := RX9) (T := TX9) (N := 11) hx hb hts hw9 hown hE.1 hP 0 rfl rfl 1 (by decide) hf10 (fun _ h9 => h9) rfl dX9_rule_69 ?_
  refine va_get (D := G.1) (ci := 8) (v := .int 0) (C := RX8) (T := TX8) (N := 6) hx hb hts hw8 hown hE.1 hP 1 rfl rfl 0 (by decide) hf83 (fun _ h9 => h9) rfl dX9_rule_72 ?_
  refine lv_iconst (v := 4) hx hb dX9_rule_75 (by decide) ?_
  refine lv_imul hx hb dX9_rule_76 ?_
  refine zti (v := 0) (by decide) ?_
  refine lv_iload_n hx hb dX9_rule_77 rfl (lv_at hl 0 rfl) ?_
  refine lv_iadd hx hb dX9_rule_78 ?_
  refine zti (v := 0) (by decide) ?_
  refine lv_iconst (v := 0) hx hb dX9_rule_79 (by decide) ?_
  refine va_iast hx hb hE.1 hP hD hS 3 0 rfl rfl (zin (by decide +kernel)) dX9_rule_80 (fun H locs hP hD hS => ?_)
  have hP : va_P G.1 vwCl [(mm, .inr (9, [.int 0, .ref nw, .ref cq, .ref hi, .int 0, .ref ko, .ref se, .int 0, .ref nf, .ref ns, .ref pi])), (nw, .inr (8, [.int 0, .int 0, .ref vd, .ref lw, .ref hg, .ref rk])), (vd, .inl (G.2.1, 8, .inl (upd fv 0 p0))), (lw, .inl (G.2.1, 32, .inl (upd fl 0 0))), (hg, .inl (G.2.1, 32, .inl (fh))), (hi, .inl (G.2.1, 8, .inl (fi)))] H := hP
  have hD : va_D A [(mm, .inr (9, [.int 0, .ref nw, .ref cq, .ref hi, .int 0, .ref ko, .ref se, .int 0, .ref nf, .ref ns, .ref pi])), (nw, .inr (8, [.int 0, .int 0, .ref vd, .ref lw, .ref hg, .ref rk])), (vd, .inl (G.2.1, 8, .inl (upd fv 0 p0))), (lw, .inl (G.2.1, 32, .inl (upd fl 0 0))), (hg, .inl (G.2.1, 32, .inl (fh))), (hi, .inl (G.2.1, 8, .inl (fi)))] := hD
  refine lv_aload_n hx hb dX9_rule_81 rfl (lv_at hl 1 rfl) ?_
  refine va_get (D := G.1) (ci := 9) (v := .ref nw) (C := RX9) (T := TX9) (N := 11) hx hb hts hw9 hown hE.1 hP 0 rfl rfl 1 (by decide) hf10 (fun _ h9 => h9) rfl dX9_rule_82 ?_
  refine va_get (D := G.1) (ci := 8) (v := .ref hg) (C := RX8) (T := TX8) (N := 6) hx hb hts hw8 hown hE.1 hP 1 rfl rfl 4 (by decide) hf99 (fun _ h9 => h9) rfl dX9_rule_85 ?_
  refine lv_aload_n hx hb dX9_rule_88 rfl (lv_at hl 1 rfl) ?_
  refine va_get (D := G.1) (ci := 9) (v := .ref nw) (C := RX9) (T := TX9) (N := 11) hx hb hts hw9 hown hE.1 hP 0 rfl rfl 1 (by decide) hf10 (fun _ h9 => h9) rfl dX9_rule_89 ?_
  refine va_get (D := G.1) (ci := 8) (v := .int 0) (C := RX8) (T := TX8) (N := 6) hx hb hts hw8 hown hE.1 hP 1 rfl rfl 0 (by decide) hf83 (fun _ h9 => h9) rfl dX9_rule_92 ?_
  refine lv_iconst (v := 4) hx hb dX9_rule_95 (by decide) ?_
  refine lv_imul hx hb dX9_rule_96 ?_
  refine zti (v := 0) (by decide) ?_
  refine lv_iload_n hx hb dX9_rule_97 rfl (lv_at hl 0 rfl) ?_
  refine lv_iadd hx hb dX9_rule_98 ?_
  refine zti (v := 0) (by decide) ?_
  refine lv_iload_n hx hb dX9_rule_99 rfl (lv_at hl 0 rfl) ?_
  refine zcall (wr := [(mm, .inr (9, [.int 0, .ref nw, .ref cq, .ref hi, .int 0, .ref ko, .ref se, .int 0, .ref nf, .ref ns, .ref pi])), (nw, .inr (8, [.int 0, .int 0, .ref vd, .ref lw, .ref hg, .ref rk])), (vd, .inl (G.2.1, 8, .inl (upd fv 0 p0))), (lw, .inl (G.2.1, 32, .inl (upd fl 0 0))), (hg, .inl (G.2.1, 32, .inl (fh))), (hi, .inl (G.2.1, 8, .inl (fi)))]) (va_runS (As := [.int 0]) (rest := [.int 0, .ref hg]) ⟨hx, hb, hml, hown, hts⟩ (z_X9_values0 l G H.size) (va_cwS 1 hts gX9_rule_X9_values rfl rfl rfl (by decide +kernel) ⟨Nat.le_of_ble_eq_true rfl, Nat.le_of_ble_eq_true rfl⟩) (zPre (Wc := []) hP hD hE hS hA [] rfl (by decide)) rfl rfl hl.1 rfl (lv_room (Nat.le_of_ble_eq_true rfl)) dX9_rule_100 ⟨Nat.le_of_ble_eq_true rfl, Nat.le_of_ble_eq_true rfl⟩) hP hD hS hA [] [0, 1, 2, 3, 4, 5] rfl rfl (by decide) (by decide) (fun u2 H locs hP hD hS => ?_)
  have hP : va_P G.1 vwCl [(mm, .inr (9, [.int 0, .ref nw, .ref cq, .ref hi, .int 0, .ref ko, .ref se, .int 0, .ref nf, .ref ns, .ref pi])), (nw, .inr (8, [.int 0, .int 0, .ref vd, .ref lw, .ref hg, .ref rk])), (vd, .inl (G.2.1, 8, .inl (upd fv 0 p0))), (lw, .inl (G.2.1, 32, .inl (upd fl 0 0))), (hg, .inl (G.2.1, 32, .inl (fh))), (hi, .inl (G.2.1, 8, .inl (fi)))] H := hP
  have hD : va_D A [(mm, .inr (9, [.int 0, .ref nw, .ref cq, .ref hi, .int 0, .ref ko, .ref se, .int 0, .ref nf, .ref ns, .ref pi])), (nw, .inr (8, [.int 0, .int 0, .ref vd, .ref lw, .ref hg, .ref rk])), (vd, .inl (G.2.1, 8, .inl (upd fv 0 p0))), (lw, .inl (G.2.1, 32, .inl (upd fl 0 0))), (hg, .inl (G.2.1, 32, .inl (fh))), (hi, .inl (G.2.1, 8, .inl (fi)))] := hD
  refine W.eq (g2 := F0 m 103 ls [.int 256, .int 0, .ref hg]) rfl ?_
  refine lv_iconst (v := 1) hx hb dX9_rule_103 (by decide) ?_
  refine lv_isub hx hb dX9_rule_104 ?_
  refine zti (v := 255) (by decide) ?_
  refine va_iast hx hb hE.1 hP hD hS 4 0 rfl rfl (zin (by decide +kernel)) dX9_rule_105 (fun H locs hP hD hS => ?_)
  have hP : va_P G.1 vwCl [(mm, .inr (9, [.int 0, .ref nw, .ref cq, .ref hi, .int 0, .ref ko, .ref se, .int 0, .ref nf, .ref ns, .ref pi])), (nw, .inr (8, [.int 0, .int 0, .ref vd, .ref lw, .ref hg, .ref rk])), (vd, .inl (G.2.1, 8, .inl (upd fv 0 p0))), (lw, .inl (G.2.1, 32, .inl (upd fl 0 0))), (hg, .inl (G.2.1, 32, .inl (upd fh 0 255))), (hi, .inl (G.2.1, 8, .inl (fi)))] H := hP
  have hD : va_D A [(mm, .inr (9, [.int 0, .ref nw, .ref cq, .ref hi, .int 0, .ref ko, .ref se, .int 0, .ref nf, .ref ns, .ref pi])), (nw, .inr (8, [.int 0, .int 0, .ref vd, .ref lw, .ref hg, .ref rk])), (vd, .inl (G.2.1, 8, .inl (upd fv 0 p0))), (lw, .inl (G.2.1, 32, .inl (upd fl 0 0))), (hg, .inl (G.2.1, 32, .inl (upd fh 0 255))), (hi, .inl (G.2.1, 8, .inl (fi)))] := hD
  refine lv_iinc (v := 1) (lv' := [(2, .int 1), (0, .ref mm), (1, .int p0)]) hx hb dX9_rule_106 hl (k := 0) rfl (by decide) (by decide) rfl (fun ls hl => ?_)
  refine lv_goto (tgt := 56) hx hb dX9_rule_109 (by decide) ?_
  refine lv_iload_n hx hb dX9_rule_56 rfl (lv_at hl 0 rfl) ?_
  refine lv_iconst (v := 4) hx hb dX9_rule_57 (by decide) ?_
  refine lv_icmp_ge (tgt := 112) hx hb dX9_rule_58 (by decide) (fun h9 => absurd h9 (by decide)) (fun _ => ?_)
  refine lv_aload_n hx hb dX9_rule_61 rfl (lv_at hl 1 rfl) ?_
  refine va_get (D := G.1) (ci := 9) (v := .ref nw) (C := RX9) (T := TX9) (N := 11) hx hb hts hw9 hown hE.1 hP 0 rfl rfl 1 (by decide) hf10 (fun _ h9 => h9) rfl dX9_rule_62 ?_
  refine va_get (D := G.1) (ci := 8) (v := .ref lw) (C := RX8) (T := TX8) (N := 6) hx hb hts hw8 hown hE.1 hP 1 rfl rfl 3 (by decide) hf96 (fun _ h9 => h9) rfl dX9_rule_65 ?_
  refine lv_aload_n hx hb dX9_rule_68 rfl (lv_at hl 1 rfl) ?_
  refine va_get (D := G.1) (ci := 9) (v := .ref nw) (C := RX9) (T := TX9) (N := 11) hx hb hts hw9 hown hE.1 hP 0 rfl rfl 1 (by decide) hf10 (fun _ h9 => h9) rfl dX9_rule_69 ?_
  refine va_get (D := G.1) (ci := 8) (v := .int 0) (C := RX8) (T := TX8) (N := 6) hx hb hts hw8 hown hE.1 hP 1 rfl rfl 0 (by decide) hf83 (fun _ h9 => h9) rfl dX9_rule_72 ?_
  refine lv_iconst (v := 4) hx hb dX9_rule_75 (by decide) ?_
  refine lv_imul hx hb dX9_rule_76 ?_
  refine zti (v := 0) (by decide) ?_
  refine lv_iload_n hx hb dX9_rule_77 rfl (lv_at hl 0 rfl) ?_
  refine lv_iadd hx hb dX9_rule_78 ?_
  refine zti (v := 1) (by decide) ?_
  refine lv_iconst (v := 0) hx hb dX9_rule_79 (by decide) ?_
  refine va_iast hx hb hE.1 hP hD hS 3 0 rfl rfl (zin (by decide +kernel)) dX9_rule_80 (fun H locs hP hD hS => ?_)
  have hP : va_P G.1 vwCl [(mm, .inr (9, [.int 0, .ref nw, .ref cq, .ref hi, .int 0, .ref ko, .ref se, .int 0, .ref nf, .ref ns, .ref pi])), (nw, .inr (8, [.int 0, .int 0, .ref vd, .ref lw, .ref hg, .ref rk])), (vd, .inl (G.2.1, 8, .inl (upd fv 0 p0))), (lw, .inl (G.2.1, 32, .inl (upd (upd fl 0 0) 1 0))), (hg, .inl (G.2.1, 32, .inl (upd fh 0 255))), (hi, .inl (G.2.1, 8, .inl (fi)))] H := hP
  have hD : va_D A [(mm, .inr (9, [.int 0, .ref nw, .ref cq, .ref hi, .int 0, .ref ko, .ref se, .int 0, .ref nf, .ref ns, .ref pi])), (nw, .inr (8, [.int 0, .int 0, .ref vd, .ref lw, .ref hg, .ref rk])), (vd, .inl (G.2.1, 8, .inl (upd fv 0 p0))), (lw, .inl (G.2.1, 32, .inl (upd (upd fl 0 0) 1 0))), (hg, .inl (G.2.1, 32, .inl (upd fh 0 255))), (hi, .inl (G.2.1, 8, .inl (fi)))] := hD
  refine lv_aload_n hx hb dX9_rule_81 rfl (lv_at hl 1 rfl) ?_
  refine va_get (D := G.1) (ci := 9) (v := .ref nw) (C := RX9) (T := TX9) (N := 11) hx hb hts hw9 hown hE.1 hP 0 rfl rfl 1 (by decide) hf10 (fun _ h9 => h9) rfl dX9_rule_82 ?_
  refine va_get (D := G.1) (ci := 8) (v := .ref hg) (C := RX8) (T := TX8) (N := 6) hx hb hts hw8 hown hE.1 hP 1 rfl rfl 4 (by decide) hf99 (fun _ h9 => h9) rfl dX9_rule_85 ?_
  refine lv_aload_n hx hb dX9_rule_88 rfl (lv_at hl 1 rfl) ?_
  refine va_get (D := G.1) (ci := 9) (v := .ref nw) (C := RX9) (T := TX9) (N := 11) hx hb hts hw9 hown hE.1 hP 0 rfl rfl 1 (by decide) hf10 (fun _ h9 => h9) rfl dX9_rule_89 ?_
  refine va_get (D := G.1) (ci := 8) (v := .int 0) (C := RX8) (T := TX8) (N := 6) hx hb hts hw8 hown hE.1 hP 1 rfl rfl 0 (by decide) hf83 (fun _ h9 => h9) rfl dX9_rule_92 ?_
  refine lv_iconst (v := 4) hx hb dX9_rule_95 (by decide) ?_
  refine lv_imul hx hb dX9_rule_96 ?_
  refine zti (v := 0) (by decide) ?_
  refine lv_iload_n hx hb dX9_rule_97 rfl (lv_at hl 0 rfl) ?_
  refine lv_iadd hx hb dX9_rule_98 ?_
  refine zti (v := 1) (by decide) ?_
  refine lv_iload_n hx hb dX9_rule_99 rfl (lv_at hl 0 rfl) ?_
  refine zcall (wr := [(mm, .inr (9, [.int 0, .ref nw, .ref cq, .ref hi, .int 0, .ref ko, .ref se, .int 0, .ref nf, .ref ns, .ref pi])), (nw, .inr (8, [.int 0, .int 0, .ref vd, .ref lw, .ref hg, .ref rk])), (vd, .inl (G.2.1, 8, .inl (upd fv 0 p0))), (lw, .inl (G.2.1, 32, .inl (upd (upd fl 0 0) 1 0))), (hg, .inl (G.2.1, 32, .inl (upd fh 0 255))), (hi, .inl (G.2.1, 8, .inl (fi)))]) (va_runS (As := [.int 1]) (rest := [.int 1, .ref hg]) ⟨hx, hb, hml, hown, hts⟩ (z_X9_values1 l G H.size) (va_cwS 1 hts gX9_rule_X9_values rfl rfl rfl (by decide +kernel) ⟨Nat.le_of_ble_eq_true rfl, Nat.le_of_ble_eq_true rfl⟩) (zPre (Wc := []) hP hD hE hS hA [] rfl (by decide)) rfl rfl hl.1 rfl (lv_room (Nat.le_of_ble_eq_true rfl)) dX9_rule_100 ⟨Nat.le_of_ble_eq_true rfl, Nat.le_of_ble_eq_true rfl⟩) hP hD hS hA [] [0, 1, 2, 3, 4, 5] rfl rfl (by decide) (by decide) (fun u3 H locs hP hD hS => ?_)
  have hP : va_P G.1 vwCl [(mm, .inr (9, [.int 0, .ref nw, .ref cq, .ref hi, .int 0, .ref ko, .ref se, .int 0, .ref nf, .ref ns, .ref pi])), (nw, .inr (8, [.int 0, .int 0, .ref vd, .ref lw, .ref hg, .ref rk])), (vd, .inl (G.2.1, 8, .inl (upd fv 0 p0))), (lw, .inl (G.2.1, 32, .inl (upd (upd fl 0 0) 1 0))), (hg, .inl (G.2.1, 32, .inl (upd fh 0 255))), (hi, .inl (G.2.1, 8, .inl (fi)))] H := hP
  have hD : va_D A [(mm, .inr (9, [.int 0, .ref nw, .ref cq, .ref hi, .int 0, .ref ko, .ref se, .int 0, .ref nf, .ref ns, .ref pi])), (nw, .inr (8, [.int 0, .int 0, .ref vd, .ref lw, .ref hg, .ref rk])), (vd, .inl (G.2.1, 8, .inl (upd fv 0 p0))), (lw, .inl (G.2.1, 32, .inl (upd (upd fl 0 0) 1 0))), (hg, .inl (G.2.1, 32, .inl (upd fh 0 255))), (hi, .inl (G.2.1, 8, .inl (fi)))] := hD
  refine W.eq (g2 := F0 m 103 ls [.int 256, .int 1, .ref hg]) rfl ?_
  refine lv_iconst (v := 1) hx hb dX9_rule_103 (by decide) ?_
  refine lv_isub hx hb dX9_rule_104 ?_
  refine zti (v := 255) (by decide) ?_
  refine va_iast hx hb hE.1 hP hD hS 4 0 rfl rfl (zin (by decide +kernel)) dX9_rule_105 (fun H locs hP hD hS => ?_)
  have hP : va_P G.1 vwCl [(mm, .inr (9, [.int 0, .ref nw, .ref cq, .ref hi, .int 0, .ref ko, .ref se, .int 0, .ref nf, .ref ns, .ref pi])), (nw, .inr (8, [.int 0, .int 0, .ref vd, .ref lw, .ref hg, .ref rk])), (vd, .inl (G.2.1, 8, .inl (upd fv 0 p0))), (lw, .inl (G.2.1, 32, .inl (upd (upd fl 0 0) 1 0))), (hg, .inl (G.2.1, 32, .inl (upd (upd fh 0 255) 1 255))), (hi, .inl (G.2.1, 8, .inl (fi)))] H := hP
  have hD : va_D A [(mm, .inr (9, [.int 0, .ref nw, .ref cq, .ref hi, .int 0, .ref ko, .ref se, .int 0, .ref nf, .ref ns, .ref pi])), (nw, .inr (8, [.int 0, .int 0, .ref vd, .ref lw, .ref hg, .ref rk])), (vd, .inl (G.2.1, 8, .inl (upd fv 0 p0))), (lw, .inl (G.2.1, 32, .inl (upd (upd fl 0 0) 1 0))), (hg, .inl (G.2.1, 32, .inl (upd (upd fh 0 255) 1 255))), (hi, .inl (G.2.1, 8, .inl (fi)))] := hD
  refine lv_iinc (v := 2) (lv' := [(2, .int 2), (0, .ref mm), (1, .int p0)]) hx hb dX9_rule_106 hl (k := 0) rfl (by decide) (by decide) rfl (fun ls hl => ?_)
  refine lv_goto (tgt := 56) hx hb dX9_rule_109 (by decide) ?_
  refine lv_iload_n hx hb dX9_rule_56 rfl (lv_at hl 0 rfl) ?_
  refine lv_iconst (v := 4) hx hb dX9_rule_57 (by decide) ?_
  refine lv_icmp_ge (tgt := 112) hx hb dX9_rule_58 (by decide) (fun h9 => absurd h9 (by decide)) (fun _ => ?_)
  refine lv_aload_n hx hb dX9_rule_61 rfl (lv_at hl 1 rfl) ?_
  refine va_get (D := G.1) (ci := 9) (v := .ref nw) (C := RX9) (T := TX9) (N := 11) hx hb hts hw9 hown hE.1 hP 0 rfl rfl 1 (by decide) hf10 (fun _ h9 => h9) rfl dX9_rule_62 ?_
  refine va_get (D := G.1) (ci := 8) (v := .ref lw) (C := RX8) (T := TX8) (N := 6) hx hb hts hw8 hown hE.1 hP 1 rfl rfl 3 (by decide) hf96 (fun _ h9 => h9) rfl dX9_rule_65 ?_
  refine lv_aload_n hx hb dX9_rule_68 rfl (lv_at hl 1 rfl) ?_
  refine va_get (D := G.1) (ci := 9) (v := .ref nw) (C := RX9) (T := TX9) (N := 11) hx hb hts hw9 hown hE.1 hP 0 rfl rfl 1 (by decide) hf10 (fun _ h9 => h9) rfl dX9_rule_69 ?_
  refine va_get (D := G.1) (ci := 8) (v := .int 0) (C := RX8) (T := TX8) (N := 6) hx hb hts hw8 hown hE.1 hP 1 rfl rfl 0 (by decide) hf83 (fun _ h9 => h9) rfl dX9_rule_72 ?_
  refine lv_iconst (v := 4) hx hb dX9_rule_75 (by decide) ?_
  refine lv_imul hx hb dX9_rule_76 ?_
  refine zti (v := 0) (by decide) ?_
  refine lv_iload_n hx hb dX9_rule_77 rfl (lv_at hl 0 rfl) ?_
  refine lv_iadd hx hb dX9_rule_78 ?_
  refine zti (v := 2) (by decide) ?_
  refine lv_iconst (v := 0) hx hb dX9_rule_79 (by decide) ?_
  refine va_iast hx hb hE.1 hP hD hS 3 0 rfl rfl (zin (by decide +kernel)) dX9_rule_80 (fun H locs hP hD hS => ?_)
  have hP : va_P G.1 vwCl [(mm, .inr (9, [.int 0, .ref nw, .ref cq, .ref hi, .int 0, .ref ko, .ref se, .int 0, .ref nf, .ref ns, .ref pi])), (nw, .inr (8, [.int 0, .int 0, .ref vd, .ref lw, .ref hg, .ref rk])), (vd, .inl (G.2.1, 8, .inl (upd fv 0 p0))), (lw, .inl (G.2.1, 32, .inl (upd (upd (upd fl 0 0) 1 0) 2 0))), (hg, .inl (G.2.1, 32, .inl (upd (upd fh 0 255) 1 255))), (hi, .inl (G.2.1, 8, .inl (fi)))] H := hP
  have hD : va_D A [(mm, .inr (9, [.int 0, .ref nw, .ref cq, .ref hi, .int 0, .ref ko, .ref se, .int 0, .ref nf, .ref ns, .ref pi])), (nw, .inr (8, [.int 0, .int 0, .ref vd, .ref lw, .ref hg, .ref rk])), (vd, .inl (G.2.1, 8, .inl (upd fv 0 p0))), (lw, .inl (G.2.1, 32, .inl (upd (upd (upd fl 0 0) 1 0) 2 0))), (hg, .inl (G.2.1, 32, .inl (upd (upd fh 0 255) 1 255))), (hi, .inl (G.2.1, 8, .inl (fi)))] := hD
  refine lv_aload_n hx hb dX9_rule_81 rfl (lv_at hl 1 rfl) ?_
  refine va_get (D := G.1) (ci := 9) (v := .ref nw) (C := RX9) (T := TX9) (N := 11) hx hb hts hw9 hown hE.1 hP 0 rfl rfl 1 (by decide) hf10 (fun _ h9 => h9) rfl dX9_rule_82 ?_
  refine va_get (D := G.1) (ci := 8) (v := .ref hg) (C := RX8) (T := TX8) (N := 6) hx hb hts hw8 hown hE.1 hP 1 rfl rfl 4 (by decide) hf99 (fun _ h9 => h9) rfl dX9_rule_85 ?_
  refine lv_aload_n hx hb dX9_rule_88 rfl (lv_at hl 1 rfl) ?_
  refine va_get (D := G.1) (ci := 9) (v := .ref nw) (C := RX9) (T := TX9) (N := 11) hx hb hts hw9 hown hE.1 hP 0 rfl rfl 1 (by decide) hf10 (fun _ h9 => h9) rfl dX9_rule_89 ?_
  refine va_get (D := G.1) (ci := 8) (v := .int 0) (C := RX8) (T := TX8) (N := 6) hx hb hts hw8 hown hE.1 hP 1 rfl rfl 0 (by decide) hf83 (fun _ h9 => h9) rfl dX9_rule_92 ?_
  refine lv_iconst (v := 4) hx hb dX9_rule_95 (by decide) ?_
  refine lv_imul hx hb dX9_rule_96 ?_
  refine zti (v := 0) (by decide) ?_
  refine lv_iload_n hx hb dX9_rule_97 rfl (lv_at hl 0 rfl) ?_
  refine lv_iadd hx hb dX9_rule_98 ?_
  refine zti (v := 2) (by decide) ?_
  refine lv_iload_n hx hb dX9_rule_99 rfl (lv_at hl 0 rfl) ?_
  refine zcall (wr := [(mm, .inr (9, [.int 0, .ref nw, .ref cq, .ref hi, .int 0, .ref ko, .ref se, .int 0, .ref nf, .ref ns, .ref pi])), (nw, .inr (8, [.int 0, .int 0, .ref vd, .ref lw, .ref hg, .ref rk])), (vd, .inl (G.2.1, 8, .inl (upd fv 0 p0))), (lw, .inl (G.2.1, 32, .inl (upd (upd (upd fl 0 0) 1 0) 2 0))), (hg, .inl (G.2.1, 32, .inl (upd (upd fh 0 255) 1 255))), (hi, .inl (G.2.1, 8, .inl (fi)))]) (va_runS (As := [.int 2]) (rest := [.int 2, .ref hg]) ⟨hx, hb, hml, hown, hts⟩ (z_X9_values2 l G H.size) (va_cwS 1 hts gX9_rule_X9_values rfl rfl rfl (by decide +kernel) ⟨Nat.le_of_ble_eq_true rfl, Nat.le_of_ble_eq_true rfl⟩) (zPre (Wc := []) hP hD hE hS hA [] rfl (by decide)) rfl rfl hl.1 rfl (lv_room (Nat.le_of_ble_eq_true rfl)) dX9_rule_100 ⟨Nat.le_of_ble_eq_true rfl, Nat.le_of_ble_eq_true rfl⟩) hP hD hS hA [] [0, 1, 2, 3, 4, 5] rfl rfl (by decide) (by decide) (fun u4 H locs hP hD hS => ?_)
  have hP : va_P G.1 vwCl [(mm, .inr (9, [.int 0, .ref nw, .ref cq, .ref hi, .int 0, .ref ko, .ref se, .int 0, .ref nf, .ref ns, .ref pi])), (nw, .inr (8, [.int 0, .int 0, .ref vd, .ref lw, .ref hg, .ref rk])), (vd, .inl (G.2.1, 8, .inl (upd fv 0 p0))), (lw, .inl (G.2.1, 32, .inl (upd (upd (upd fl 0 0) 1 0) 2 0))), (hg, .inl (G.2.1, 32, .inl (upd (upd fh 0 255) 1 255))), (hi, .inl (G.2.1, 8, .inl (fi)))] H := hP
  have hD : va_D A [(mm, .inr (9, [.int 0, .ref nw, .ref cq, .ref hi, .int 0, .ref ko, .ref se, .int 0, .ref nf, .ref ns, .ref pi])), (nw, .inr (8, [.int 0, .int 0, .ref vd, .ref lw, .ref hg, .ref rk])), (vd, .inl (G.2.1, 8, .inl (upd fv 0 p0))), (lw, .inl (G.2.1, 32, .inl (upd (upd (upd fl 0 0) 1 0) 2 0))), (hg, .inl (G.2.1, 32, .inl (upd (upd fh 0 255) 1 255))), (hi, .inl (G.2.1, 8, .inl (fi)))] := hD
  refine W.eq (g2 := F0 m 103 ls [.int 1024, .int 2, .ref hg]) rfl ?_
  refine lv_iconst (v := 1) hx hb dX9_rule_103 (by decide) ?_
  refine lv_isub hx hb dX9_rule_104 ?_
  refine zti (v := 1023) (by decide) ?_
  refine va_iast hx hb hE.1 hP hD hS 4 0 rfl rfl (zin (by decide +kernel)) dX9_rule_105 (fun H locs hP hD hS => ?_)
  have hP : va_P G.1 vwCl [(mm, .inr (9, [.int 0, .ref nw, .ref cq, .ref hi, .int 0, .ref ko, .ref se, .int 0, .ref nf, .ref ns, .ref pi])), (nw, .inr (8, [.int 0, .int 0, .ref vd, .ref lw, .ref hg, .ref rk])), (vd, .inl (G.2.1, 8, .inl (upd fv 0 p0))), (lw, .inl (G.2.1, 32, .inl (upd (upd (upd fl 0 0) 1 0) 2 0))), (hg, .inl (G.2.1, 32, .inl (upd (upd (upd fh 0 255) 1 255) 2 1023))), (hi, .inl (G.2.1, 8, .inl (fi)))] H := hP
  have hD : va_D A [(mm, .inr (9, [.int 0, .ref nw, .ref cq, .ref hi, .int 0, .ref ko, .ref se, .int 0, .ref nf, .ref ns, .ref pi])), (nw, .inr (8, [.int 0, .int 0, .ref vd, .ref lw, .ref hg, .ref rk])), (vd, .inl (G.2.1, 8, .inl (upd fv 0 p0))), (lw, .inl (G.2.1, 32, .inl (upd (upd (upd fl 0 0) 1 0) 2 0))), (hg, .inl (G.2.1, 32, .inl (upd (upd (upd fh 0 255) 1 255) 2 1023))), (hi, .inl (G.2.1, 8, .inl (fi)))] := hD
  refine lv_iinc (v := 3) (lv' := [(2, .int 3), (0, .ref mm), (1, .int p0)]) hx hb dX9_rule_106 hl (k := 0) rfl (by decide) (by decide) rfl (fun ls hl => ?_)
  refine lv_goto (tgt := 56) hx hb dX9_rule_109 (by decide) ?_
  refine lv_iload_n hx hb dX9_rule_56 rfl (lv_at hl 0 rfl) ?_
  refine lv_iconst (v := 4) hx hb dX9_rule_57 (by decide) ?_
  refine lv_icmp_ge (tgt := 112) hx hb dX9_rule_58 (by decide) (fun h9 => absurd h9 (by decide)) (fun _ => ?_)
  refine lv_aload_n hx hb dX9_rule_61 rfl (lv_at hl 1 rfl) ?_
  refine va_get (D := G.1) (ci := 9) (v := .ref nw) (C := RX9) (T := TX9) (N := 11) hx hb hts hw9 hown hE.1 hP 0 rfl rfl 1 (by decide) hf10 (fun _ h9 => h9) rfl dX9_rule_62 ?_
  refine va_get (D := G.1) (ci := 8) (v := .ref lw) (C := RX8) (T := TX8) (N := 6) hx hb hts hw8 hown hE.1 hP 1 rfl rfl 3 (by decide) hf96 (fun _ h9 => h9) rfl dX9_rule_65 ?_
  refine lv_aload_n hx hb dX9_rule_68 rfl (lv_at hl 1 rfl) ?_
  refine va_get (D := G.1) (ci := 9) (v := .ref nw) (C := RX9) (T := TX9) (N := 11) hx hb hts hw9 hown hE.1 hP 0 rfl rfl 1 (by decide) hf10 (fun _ h9 => h9) rfl dX9_rule_69 ?_
  refine va_get (D := G.1) (ci := 8) (v := .int 0) (C := RX8) (T := TX8) (N := 6) hx hb hts hw8 hown hE.1 hP 1 rfl rfl 0 (by decide) hf83 (fun _ h9 => h9) rfl dX9_rule_72 ?_
  refine lv_iconst (v := 4) hx hb dX9_rule_75 (by decide) ?_
  refine lv_imul hx hb dX9_rule_76 ?_
  refine zti (v := 0) (by decide) ?_
  refine lv_iload_n hx hb dX9_rule_77 rfl (lv_at hl 0 rfl) ?_
  refine lv_iadd hx hb dX9_rule_78 ?_
  refine zti (v := 3) (by decide) ?_
  refine lv_iconst (v := 0) hx hb dX9_rule_79 (by decide) ?_
  refine va_iast hx hb hE.1 hP hD hS 3 0 rfl rfl (zin (by decide +kernel)) dX9_rule_80 (fun H locs hP hD hS => ?_)
  have hP : va_P G.1 vwCl [(mm, .inr (9, [.int 0, .ref nw, .ref cq, .ref hi, .int 0, .ref ko, .ref se, .int 0, .ref nf, .ref ns, .ref pi])), (nw, .inr (8, [.int 0, .int 0, .ref vd, .ref lw, .ref hg, .ref rk])), (vd, .inl (G.2.1, 8, .inl (upd fv 0 p0))), (lw, .inl (G.2.1, 32, .inl (upd (upd (upd (upd fl 0 0) 1 0) 2 0) 3 0))), (hg, .inl (G.2.1, 32, .inl (upd (upd (upd fh 0 255) 1 255) 2 1023))), (hi, .inl (G.2.1, 8, .inl (fi)))] H := hP
  have hD : va_D A [(mm, .inr (9, [.int 0, .ref nw, .ref cq, .ref hi, .int 0, .ref ko, .ref se, .int 0, .ref nf, .ref ns, .ref pi])), (nw, .inr (8, [.int 0, .int 0, .ref vd, .ref lw, .ref hg, .ref rk])), (vd, .inl (G.2.1, 8, .inl (upd fv 0 p0))), (lw, .inl (G.2.1, 32, .inl (upd (upd (upd (upd fl 0 0) 1 0) 2 0) 3 0))), (hg, .inl (G.2.1, 32, .inl (upd (upd (upd fh 0 255) 1 255) 2 1023))), (hi, .inl (G.2.1, 8, .inl (fi)))] := hD
  refine lv_aload_n hx hb dX9_rule_81 rfl (lv_at hl 1 rfl) ?_
  refine va_get (D := G.1) (ci := 9) (v := .ref nw) (C := RX9) (T := TX9) (N := 11) hx hb hts hw9 hown hE.1 hP 0 rfl rfl 1 (by decide) hf10 (fun _ h9 => h9) rfl dX9_rule_82 ?_
  refine va_get (D := G.1) (ci := 8) (v := .ref hg) (C := RX8) (T := TX8) (N := 6) hx hb hts hw8 hown hE.1 hP 1 rfl rfl 4 (by decide) hf99 (fun _ h9 => h9) rfl dX9_rule_85 ?_
  refine lv_aload_n hx hb dX9_rule_88 rfl (lv_at hl 1 rfl) ?_
  refine va_get (D := G.1) (ci := 9) (v := .ref nw) (C := RX9) (T := TX9) (N := 11) hx hb hts hw9 hown hE.1 hP 0 rfl rfl 1 (by decide) hf10 (fun _ h9 => h9) rfl dX9_rule_89 ?_
  refine va_get (D := G.1) (ci := 8) (v := .int 0) (C := RX8) (T := TX8) (N := 6) hx hb hts hw8 hown hE.1 hP 1 rfl rfl 0 (by decide) hf83 (fun _ h9 => h9) rfl dX9_rule_92 ?_
  refine lv_iconst (v := 4) hx hb dX9_rule_95 (by decide) ?_
  refine lv_imul hx hb dX9_rule_96 ?_
  refine zti (v := 0) (by decide) ?_
  refine lv_iload_n hx hb dX9_rule_97 rfl (lv_at hl 0 rfl) ?_
  refine lv_iadd hx hb dX9_rule_98 ?_
  refine zti (v := 3) (by decide) ?_
  refine lv_iload_n hx hb dX9_rule_99 rfl (lv_at hl 0 rfl) ?_
  refine zcall (wr := [(mm, .inr (9, [.int 0, .ref nw, .ref cq, .ref hi, .int 0, .ref ko, .ref se, .int 0, .ref nf, .ref ns, .ref pi])), (nw, .inr (8, [.int 0, .int 0, .ref vd, .ref lw, .ref hg, .ref rk])), (vd, .inl (G.2.1, 8, .inl (upd fv 0 p0))), (lw, .inl (G.2.1, 32, .inl (upd (upd (upd (upd fl 0 0) 1 0) 2 0) 3 0))), (hg, .inl (G.2.1, 32, .inl (upd (upd (upd fh 0 255) 1 255) 2 1023))), (hi, .inl (G.2.1, 8, .inl (fi)))]) (va_runS (As := [.int 3]) (rest := [.int 3, .ref hg]) ⟨hx, hb, hml, hown, hts⟩ (z_X9_values3 l G H.size) (va_cwS 1 hts gX9_rule_X9_values rfl rfl rfl (by decide +kernel) ⟨Nat.le_of_ble_eq_true rfl, Nat.le_of_ble_eq_true rfl⟩) (zPre (Wc := []) hP hD hE hS hA [] rfl (by decide)) rfl rfl hl.1 rfl (lv_room (Nat.le_of_ble_eq_true rfl)) dX9_rule_100 ⟨Nat.le_of_ble_eq_true rfl, Nat.le_of_ble_eq_true rfl⟩) hP hD hS hA [] [0, 1, 2, 3, 4, 5] rfl rfl (by decide) (by decide) (fun u5 H locs hP hD hS => ?_)
  have hP : va_P G.1 vwCl [(mm, .inr (9, [.int 0, .ref nw, .ref cq, .ref hi, .int 0, .ref ko, .ref se, .int 0, .ref nf, .ref ns, .ref pi])), (nw, .inr (8, [.int 0, .int 0, .ref vd, .ref lw, .ref hg, .ref rk])), (vd, .inl (G.2.1, 8, .inl (upd fv 0 p0))), (lw, .inl (G.2.1, 32, .inl (upd (upd (upd (upd fl 0 0) 1 0) 2 0) 3 0))), (hg, .inl (G.2.1, 32, .inl (upd (upd (upd fh 0 255) 1 255) 2 1023))), (hi, .inl (G.2.1, 8, .inl (fi)))] H := hP
  have hD : va_D A [(mm, .inr (9, [.int 0, .ref nw, .ref cq, .ref hi, .int 0, .ref ko, .ref se, .int 0, .ref nf, .ref ns, .ref pi])), (nw, .inr (8, [.int 0, .int 0, .ref vd, .ref lw, .ref hg, .ref rk])), (vd, .inl (G.2.1, 8, .inl (upd fv 0 p0))), (lw, .inl (G.2.1, 32, .inl (upd (upd (upd (upd fl 0 0) 1 0) 2 0) 3 0))), (hg, .inl (G.2.1, 32, .inl (upd (upd (upd fh 0 255) 1 255) 2 1023))), (hi, .inl (G.2.1, 8, .inl (fi)))] := hD
  refine W.eq (g2 := F0 m 103 ls [.int 4, .int 3, .ref hg]) rfl ?_
  refine lv_iconst (v := 1) hx hb dX9_rule_103 (by decide) ?_
  refine lv_isub hx hb dX9_rule_104 ?_
  refine zti (v := 3) (by decide) ?_
  refine va_iast hx hb hE.1 hP hD hS 4 0 rfl rfl (zin (by decide +kernel)) dX9_rule_105 (fun H locs hP hD hS => ?_)
  have hP : va_P G.1 vwCl [(mm, .inr (9, [.int 0, .ref nw, .ref cq, .ref hi, .int 0, .ref ko, .ref se, .int 0, .ref nf, .ref ns, .ref pi])), (nw, .inr (8, [.int 0, .int 0, .ref vd, .ref lw, .ref hg, .ref rk])), (vd, .inl (G.2.1, 8, .inl (upd fv 0 p0))), (lw, .inl (G.2.1, 32, .inl (upd (upd (upd (upd fl 0 0) 1 0) 2 0) 3 0))), (hg, .inl (G.2.1, 32, .inl (upd (upd (upd (upd fh 0 255) 1 255) 2 1023) 3 3))), (hi, .inl (G.2.1, 8, .inl (fi)))] H := hP
  have hD : va_D A [(mm, .inr (9, [.int 0, .ref nw, .ref cq, .ref hi, .int 0, .ref ko, .ref se, .int 0, .ref nf, .ref ns, .ref pi])), (nw, .inr (8, [.int 0, .int 0, .ref vd, .ref lw, .ref hg, .ref rk])), (vd, .inl (G.2.1, 8, .inl (upd fv 0 p0))), (lw, .inl (G.2.1, 32, .inl (upd (upd (upd (upd fl 0 0) 1 0) 2 0) 3 0))), (hg, .inl (G.2.1, 32, .inl (upd (upd (upd (upd fh 0 255) 1 255) 2 1023) 3 3))), (hi, .inl (G.2.1, 8, .inl (fi)))] := hD
  refine lv_iinc (v := 4) (lv' := [(2, .int 4), (0, .ref mm), (1, .int p0)]) hx hb dX9_rule_106 hl (k := 0) rfl (by decide) (by decide) rfl (fun ls hl => ?_)
  refine lv_goto (tgt := 56) hx hb dX9_rule_109 (by decide) ?_
  refine lv_iload_n hx hb dX9_rule_56 rfl (lv_at hl 0 rfl) ?_
  refine lv_iconst (v := 4) hx hb dX9_rule_57 (by decide) ?_
  refine lv_icmp_ge (tgt := 112) hx hb dX9_rule_58 (by decide) (fun _ => ?_) (fun h9 => absurd (by decide) h9)
  refine lv_aload_n hx hb dX9_rule_112 rfl (lv_at hl 1 rfl) ?_
  refine va_get (D := G.1) (ci := 9) (v := .ref hi) (C := RX9) (T := TX9) (N := 11) hx hb hts hw9 hown hE.1 hP 0 rfl rfl 3 (by decide) hf19 (fun _ h9 => h9) rfl dX9_rule_113 ?_
  refine lv_aload_n hx hb dX9_rule_116 rfl (lv_at hl 1 rfl) ?_
  refine va_get (D := G.1) (ci := 9) (v := .ref nw) (C := RX9) (T := TX9) (N := 11) hx hb hts hw9 hown hE.1 hP 0 rfl rfl 1 (by decide) hf10 (fun _ h9 => h9) rfl dX9_rule_117 ?_
  refine va_get (D := G.1) (ci := 8) (v := .int 0) (C := RX8) (T := TX8) (N := 6) hx hb hts hw8 hown hE.1 hP 1 rfl rfl 0 (by decide) hf83 (fun _ h9 => h9) rfl dX9_rule_120 ?_
  refine lv_iconst (v := 0) hx hb dX9_rule_123 (by decide) ?_
  refine va_iast hx hb hE.1 hP hD hS 5 0 rfl rfl (zin (by decide +kernel)) dX9_rule_124 (fun H locs hP hD hS => ?_)
  have hP : va_P G.1 vwCl [(mm, .inr (9, [.int 0, .ref nw, .ref cq, .ref hi, .int 0, .ref ko, .ref se, .int 0, .ref nf, .ref ns, .ref pi])), (nw, .inr (8, [.int 0, .int 0, .ref vd, .ref lw, .ref hg, .ref rk])), (vd, .inl (G.2.1, 8, .inl (upd fv 0 p0))), (lw, .inl (G.2.1, 32, .inl (upd (upd (upd (upd fl 0 0) 1 0) 2 0) 3 0))), (hg, .inl (G.2.1, 32, .inl (upd (upd (upd (upd fh 0 255) 1 255) 2 1023) 3 3))), (hi, .inl (G.2.1, 8, .inl (upd fi 0 0)))] H := hP
  have hD : va_D A [(mm, .inr (9, [.int 0, .ref nw, .ref cq, .ref hi, .int 0, .ref ko, .ref se, .int 0, .ref nf, .ref ns, .ref pi])), (nw, .inr (8, [.int 0, .int 0, .ref vd, .ref lw, .ref hg, .ref rk])), (vd, .inl (G.2.1, 8, .inl (upd fv 0 p0))), (lw, .inl (G.2.1, 32, .inl (upd (upd (upd (upd fl 0 0) 1 0) 2 0) 3 0))), (hg, .inl (G.2.1, 32, .inl (upd (upd (upd (upd fh 0 255) 1 255) 2 1023) 3 3))), (hi, .inl (G.2.1, 8, .inl (upd fi 0 0)))] := hD
  refine lv_aload_n hx hb dX9_rule_125 rfl (lv_at hl 1 rfl) ?_
  refine va_get (D := G.1) (ci := 9) (v := .ref nw) (C := RX9) (T := TX9) (N := 11) hx hb hts hw9 hown hE.1 hP 0 rfl rfl 1 (by decide) hf10 (fun _ h9 => h9) rfl dX9_rule_126 ?_
  refine lv_dup hx hb dX9_rule_129 rfl ?_
  refine va_get (D := G.1) (ci := 8) (v := .int 0) (C := RX8) (T := TX8) (N := 6) hx hb hts hw8 hown hE.1 hP 1 rfl rfl 0 (by decide) hf83 (fun _ h9 => h9) rfl dX9_rule_130 ?_
  refine lv_dup_x1 hx hb dX9_rule_133 rfl rfl ?_
  refine lv_iconst (v := 1) hx hb dX9_rule_134 (by decide) ?_
  refine lv_iadd hx hb dX9_rule_135 ?_
  refine zti (v := 1) (by decide) ?_
  refine va_put (D := G.1) (ci := 8) (v := .int 1) (ty := tyX8 0) (C := RX8) (T := TX8) (N := 6) hx hb hts hw8 tyX8 tyX8_ok nmX8 hown hE.1 hP hD hS 1 rfl rfl 0 (by decide) hf83 (fun _ h9 => h9) rfl (by decide +kernel) rfl rfl (Nat.le_of_ble_eq_true rfl) dX9_rule_136 (fun H locs hP hD hS => ?_)
  have hP : va_P G.1 vwCl [(mm, .inr (9, [.int 0, .ref nw, .ref cq, .ref hi, .int 0, .ref ko, .ref se, .int 0, .ref nf, .ref ns, .ref pi])), (nw, .inr (8, [.int 1, .int 0, .ref vd, .ref lw, .ref hg, .ref rk])), (vd, .inl (G.2.1, 8, .inl (upd fv 0 p0))), (lw, .inl (G.2.1, 32, .inl (upd (upd (upd (upd fl 0 0) 1 0) 2 0) 3 0))), (hg, .inl (G.2.1, 32, .inl (upd (upd (upd (upd fh 0 255) 1 255) 2 1023) 3 3))), (hi, .inl (G.2.1, 8, .inl (upd fi 0 0)))] H := hP
  have hD : va_D A [(mm, .inr (9, [.int 0, .ref nw, .ref cq, .ref hi, .int 0, .ref ko, .ref se, .int 0, .ref nf, .ref ns, .ref pi])), (nw, .inr (8, [.int 1, .int 0, .ref vd, .ref lw, .ref hg, .ref rk])), (vd, .inl (G.2.1, 8, .inl (upd fv 0 p0))), (lw, .inl (G.2.1, 32, .inl (upd (upd (upd (upd fl 0 0) 1 0) 2 0) 3 0))), (hg, .inl (G.2.1, 32, .inl (upd (upd (upd (upd fh 0 255) 1 255) 2 1023) 3 3))), (hi, .inl (G.2.1, 8, .inl (upd fi 0 0)))] := hD
  exact zend_i hx hb hr hlocks (fun k => [].getD k 0) hP hD hS (Nat.le_of_ble_eq_true rfl) (Nat.le_of_ble_eq_true rfl) dX9_rule_139

set_option maxHeartbeats 4000000 in
set_option maxRecDepth 100000 in
theorem z_X9_ruleT (l : Launch) (G : zG) (mm : Nat) (nw : Nat) (cq : Nat) (hi : Nat) (ko : Nat) (se : Nat) (nf : Nat) (ns : Nat) (pi : Nat) (th : Int32) (p0 : Int32) (hv : p0 < 0 ∨ (¬ p0 < 0 ∧ 2 < p0)) : zR l G yX9_rule wsX9_rule { frames := 1, cells := 0, slots := 0, locals := 22 } [(mm, .inr (9, [.int th, .ref nw, .ref cq, .ref hi, .int 0, .ref ko, .ref se, .int 0, .ref nf, .ref ns, .ref pi]))] [.ref mm, .int p0] (some (.int 0)) (fun u => [(mm, .inr (9, [.int 1, .ref nw, .ref cq, .ref hi, .int 0, .ref ko, .ref se, .int 0, .ref nf, .ref ns, .ref pi]))]) 0 0 := by
  refine zR_of (cc := cX9_rule) (maxL := 3) (rt := (some .int)) (by decide) rfl (Nat.le_of_ble_eq_true rfl) ?_
  intro p e s m below meth c A ls hx hb hml hr hts hown hlocks hin hA hE hP hD hS hl
  have hl : lv_has ls 3 [(0, .ref mm), (1, .int p0)] := hl
  have hown : s.vm.findClass RX9 = some m.cls := hown
  have hP : va_P G.1 vwCl [(mm, .inr (9, [.int th, .ref nw, .ref cq, .ref hi, .int 0, .ref ko, .ref se, .int 0, .ref nf, .ref ns, .ref pi]))] s.heap := hP
  have hw9 : ∀ w ∈ u_ws RX9 TX9 11, w ∈ wsX9_rule := by decide +kernel
  have hf40 := hts (.fieldLink RX9 40 "NettleModel" "thrown" "I") (by decide +kernel)
  rcases hv with h1 | ⟨h1, h2⟩
  · refine lv_aload_n hx hb dX9_rule_0 rfl (lv_at hl 0 rfl) ?_
    refine lv_iconst (v := 0) hx hb dX9_rule_1 (by decide) ?_
    refine va_put (D := G.1) (ci := 9) (v := .int 0) (ty := tyX9 0) (C := RX9) (T := TX9) (N := 11) hx hb hts hw9 tyX9 tyX9_ok nmX9 hown hE.1 hP hD hS 0 rfl rfl 0 (by decide) hf40 (fun _ h9 => h9) rfl (by decide +kernel) rfl rfl (Nat.le_of_ble_eq_true rfl) dX9_rule_2 (fun H locs hP hD hS => ?_)
    have hP : va_P G.1 vwCl [(mm, .inr (9, [.int 0, .ref nw, .ref cq, .ref hi, .int 0, .ref ko, .ref se, .int 0, .ref nf, .ref ns, .ref pi]))] H := hP
    have hD : va_D A [(mm, .inr (9, [.int 0, .ref nw, .ref cq, .ref hi, .int 0, .ref ko, .ref se, .int 0, .ref nf, .ref ns, .ref pi]))] := hD
    refine lv_iload_n hx hb dX9_rule_5 rfl (lv_at hl 1 rfl) ?_
    refine lv_iconst (v := 0) hx hb dX9_rule_6 (by decide) ?_
    refine lv_iconst (v := 2) hx hb dX9_rule_7 (by decide) ?_
    refine zcall (wr := [(mm, .inr (9, [.int 0, .ref nw, .ref cq, .ref hi, .int 0, .ref ko, .ref se, .int 0, .ref nf, .ref ns, .ref pi]))]) (va_runS (As := [.int p0, .int 0, .int 2]) (rest := []) ⟨hx, hb, hml, hown, hts⟩ (z_X9_isInL l G p0 0 2 h1 H.size) (va_cwS 3 hts gX9_rule_X9_isIn rfl rfl rfl (by decide +kernel) ⟨Nat.le_of_ble_eq_true rfl, Nat.le_of_ble_eq_true rfl⟩) (zPre (Wc := []) hP hD hE hS hA [] rfl (by decide)) rfl rfl hl.1 rfl (lv_room (Nat.le_of_ble_eq_true rfl)) dX9_rule_8 ⟨Nat.le_of_ble_eq_true rfl, Nat.le_of_ble_eq_true rfl⟩) hP hD hS hA [] [0] rfl rfl (by decide) (by decide) (fun u1 H locs hP hD hS => ?_)
    have hP : va_P G.1 vwCl [(mm, .inr (9, [.int 0, .ref nw, .ref cq, .ref hi, .int 0, .ref ko, .ref se, .int 0, .ref nf, .ref ns, .ref pi]))] H := hP
    have hD : va_D A [(mm, .inr (9, [.int 0, .ref nw, .ref cq, .ref hi, .int 0, .ref ko, .ref se, .int 0, .ref nf, .ref ns, .ref pi]))] := hD
    refine W.eq (g2 := F0 m 11 ls [.int 0]) rfl ?_
    refine lv_if_ne (tgt := 20) hx hb dX9_rule_11 (by decide) (fun h9 => absurd (by decide) h9) (fun _ => ?_)
    refine lv_aload_n hx hb dX9_rule_14 rfl (lv_at hl 0 rfl) ?_
    refine lv_iconst (v := 1) hx hb dX9_rule_15 (by decide) ?_
    refine zcall (wr := []) (va_runV (As := [.int 1]) (rest := []) ⟨hx, hb, hml, hown, hts⟩ (z_X9_no l G mm nw cq hi ko se nf ns pi 0 1 H.size) (cwV 1 hts gX9_rule_X9_no rfl rfl rfl (by decide +kernel) ⟨Nat.le_of_ble_eq_true rfl, Nat.le_of_ble_eq_true rfl⟩) (zPreV (Wc := [(mm, .inr (9, [.int 0, .ref nw, .ref cq, .ref hi, .int 0, .ref ko, .ref se, .int 0, .ref nf, .ref ns, .ref pi]))]) (q0 := 0) (ci := 9) (q := (RX9, TX9, 11)) hP hD hE hS hA [0] rfl (by decide) rfl rfl) rfl rfl hl.1 rfl (lv_room (Nat.le_of_ble_eq_true rfl)) dX9_rule_16 ⟨Nat.le_of_ble_eq_true rfl, Nat.le_of_ble_eq_true rfl⟩) hP hD hS hA [0] [] rfl rfl (by decide) (by decide) (fun u2 H locs hP hD hS => ?_)
    have hP : va_P G.1 vwCl [(mm, .inr (9, [.int 1, .ref nw, .ref cq, .ref hi, .int 0, .ref ko, .ref se, .int 0, .ref nf, .ref ns, .ref pi]))] H := hP
    have hD : va_D A [(mm, .inr (9, [.int 1, .ref nw, .ref cq, .ref hi, .int 0, .ref ko, .ref se, .int 0, .ref nf, .ref ns, .ref pi]))] := hD
    refine W.eq (g2 := F0 m 19 ls [.int 0]) rfl ?_
    exact zend_i hx hb hr hlocks (fun k => [].getD k 0) hP hD hS (Nat.le_of_ble_eq_true rfl) (Nat.le_of_ble_eq_true rfl) dX9_rule_19
  · refine lv_aload_n hx hb dX9_rule_0 rfl (lv_at hl 0 rfl) ?_
    refine lv_iconst (v := 0) hx hb dX9_rule_1 (by decide) ?_
    refine va_put (D := G.1) (ci := 9) (v := .int 0) (ty := tyX9 0) (C := RX9) (T := TX9) (N := 11) hx hb hts hw9 tyX9 tyX9_ok nmX9 hown hE.1 hP hD hS 0 rfl rfl 0 (by decide) hf40 (fun _ h9 => h9) rfl (by decide +kernel) rfl rfl (Nat.le_of_ble_eq_true rfl) dX9_rule_2 (fun H locs hP hD hS => ?_)
    have hP : va_P G.1 vwCl [(mm, .inr (9, [.int 0, .ref nw, .ref cq, .ref hi, .int 0, .ref ko, .ref se, .int 0, .ref nf, .ref ns, .ref pi]))] H := hP
    have hD : va_D A [(mm, .inr (9, [.int 0, .ref nw, .ref cq, .ref hi, .int 0, .ref ko, .ref se, .int 0, .ref nf, .ref ns, .ref pi]))] := hD
    refine lv_iload_n hx hb dX9_rule_5 rfl (lv_at hl 1 rfl) ?_
    refine lv_iconst (v := 0) hx hb dX9_rule_6 (by decide) ?_
    refine lv_iconst (v := 2) hx hb dX9_rule_7 (by decide) ?_
    refine zcall (wr := [(mm, .inr (9, [.int 0, .ref nw, .ref cq, .ref hi, .int 0, .ref ko, .ref se, .int 0, .ref nf, .ref ns, .ref pi]))]) (va_runS (As := [.int p0, .int 0, .int 2]) (rest := []) ⟨hx, hb, hml, hown, hts⟩ (z_X9_isInH l G p0 0 2 h1 h2 H.size) (va_cwS 3 hts gX9_rule_X9_isIn rfl rfl rfl (by decide +kernel) ⟨Nat.le_of_ble_eq_true rfl, Nat.le_of_ble_eq_true rfl⟩) (zPre (Wc := []) hP hD hE hS hA [] rfl (by decide)) rfl rfl hl.1 rfl (lv_room (Nat.le_of_ble_eq_true rfl)) dX9_rule_8 ⟨Nat.le_of_ble_eq_true rfl, Nat.le_of_ble_eq_true rfl⟩) hP hD hS hA [] [0] rfl rfl (by decide) (by decide) (fun u1 H locs hP hD hS => ?_)
    have hP : va_P G.1 vwCl [(mm, .inr (9, [.int 0, .ref nw, .ref cq, .ref hi, .int 0, .ref ko, .ref se, .int 0, .ref nf, .ref ns, .ref pi]))] H := hP
    have hD : va_D A [(mm, .inr (9, [.int 0, .ref nw, .ref cq, .ref hi, .int 0, .ref ko, .ref se, .int 0, .ref nf, .ref ns, .ref pi]))] := hD
    refine W.eq (g2 := F0 m 11 ls [.int 0]) rfl ?_
    refine lv_if_ne (tgt := 20) hx hb dX9_rule_11 (by decide) (fun h9 => absurd (by decide) h9) (fun _ => ?_)
    refine lv_aload_n hx hb dX9_rule_14 rfl (lv_at hl 0 rfl) ?_
    refine lv_iconst (v := 1) hx hb dX9_rule_15 (by decide) ?_
    refine zcall (wr := []) (va_runV (As := [.int 1]) (rest := []) ⟨hx, hb, hml, hown, hts⟩ (z_X9_no l G mm nw cq hi ko se nf ns pi 0 1 H.size) (cwV 1 hts gX9_rule_X9_no rfl rfl rfl (by decide +kernel) ⟨Nat.le_of_ble_eq_true rfl, Nat.le_of_ble_eq_true rfl⟩) (zPreV (Wc := [(mm, .inr (9, [.int 0, .ref nw, .ref cq, .ref hi, .int 0, .ref ko, .ref se, .int 0, .ref nf, .ref ns, .ref pi]))]) (q0 := 0) (ci := 9) (q := (RX9, TX9, 11)) hP hD hE hS hA [0] rfl (by decide) rfl rfl) rfl rfl hl.1 rfl (lv_room (Nat.le_of_ble_eq_true rfl)) dX9_rule_16 ⟨Nat.le_of_ble_eq_true rfl, Nat.le_of_ble_eq_true rfl⟩) hP hD hS hA [0] [] rfl rfl (by decide) (by decide) (fun u2 H locs hP hD hS => ?_)
    have hP : va_P G.1 vwCl [(mm, .inr (9, [.int 1, .ref nw, .ref cq, .ref hi, .int 0, .ref ko, .ref se, .int 0, .ref nf, .ref ns, .ref pi]))] H := hP
    have hD : va_D A [(mm, .inr (9, [.int 1, .ref nw, .ref cq, .ref hi, .int 0, .ref ko, .ref se, .int 0, .ref nf, .ref ns, .ref pi]))] := hD
    refine W.eq (g2 := F0 m 19 ls [.int 0]) rfl ?_
    exact zend_i hx hb hr hlocks (fun k => [].getD k 0) hP hD hS (Nat.le_of_ble_eq_true rfl) (Nat.le_of_ble_eq_true rfl) dX9_rule_19

set_option maxHeartbeats 4000000 in
set_option maxRecDepth 100000 in
theorem z_X9_narrow (l : Launch) (G : zG) (mm : Nat) (nw : Nat) (cq : Nat) (hi : Nat) (ko : Nat) (se : Nat) (nf : Nat) (ns : Nat) (pi : Nat) (th : Int32) (vd : Nat) (lw : Nat) (hg : Nat) (rk : Nat) (p0 : Int32) (p1 : Int32) (p2 : Int32) (p3 : Int32) : zR l G yX9_narrow wsX9_narrow { frames := 2, cells := 0, slots := 0, locals := 43 } [(mm, .inr (9, [.int th, .ref nw, .ref cq, .ref hi, .int 0, .ref ko, .ref se, .int 0, .ref nf, .ref ns, .ref pi])), (nw, .inr (8, [.int 0, .int 0, .ref vd, .ref lw, .ref hg, .ref rk]))] [.ref mm, .int p0, .int p1, .int p2, .int p3] (some (.int 0)) (fun u => [(nw, .inr (8, [.int 0, .int 0, .ref vd, .ref lw, .ref hg, .ref rk])), (mm, .inr (9, [.int 1, .ref nw, .ref cq, .ref hi, .int 0, .ref ko, .ref se, .int 0, .ref nf, .ref ns, .ref pi]))]) 0 0 := by
  refine zR_of (cc := cX9_narrow) (maxL := 7) (rt := (some .int)) (by decide) rfl (Nat.le_of_ble_eq_true rfl) ?_
  intro p e s m below meth c A ls hx hb hml hr hts hown hlocks hin hA hE hP hD hS hl
  have hl : lv_has ls 7 [(0, .ref mm), (1, .int p0), (2, .int p1), (3, .int p2), (4, .int p3)] := hl
  have hown : s.vm.findClass RX9 = some m.cls := hown
  have hP : va_P G.1 vwCl [(mm, .inr (9, [.int th, .ref nw, .ref cq, .ref hi, .int 0, .ref ko, .ref se, .int 0, .ref nf, .ref ns, .ref pi])), (nw, .inr (8, [.int 0, .int 0, .ref vd, .ref lw, .ref hg, .ref rk]))] s.heap := hP
  have hw9 : ∀ w ∈ u_ws RX9 TX9 11, w ∈ wsX9_narrow := by decide +kernel
  have hf40 := hts (.fieldLink RX9 40 "NettleModel" "thrown" "I") (by decide +kernel)
  refine lv_aload_n hx hb dX9_narrow_0 rfl (lv_at hl 0 rfl) ?_
  refine lv_iconst (v := 0) hx hb dX9_narrow_1 (by decide) ?_
  refine va_put (D := G.1) (ci := 9) (v := .int 0) (ty := tyX9 0) (C := RX9) (T := TX9) (N := 11) hx hb hts hw9 tyX9 tyX9_ok nmX9 hown hE.1 hP hD hS 0 rfl rfl 0 (by decide) hf40 (fun _ h9 => h9) rfl (by decide +kernel) rfl rfl (Nat.le_of_ble_eq_true rfl) dX9_narrow_2 (fun H locs hP hD hS => ?_)
  have hP : va_P G.1 vwCl [(mm, .inr (9, [.int 0, .ref nw, .ref cq, .ref hi, .int 0, .ref ko, .ref se, .int 0, .ref nf, .ref ns, .ref pi])), (nw, .inr (8, [.int 0, .int 0, .ref vd, .ref lw, .ref hg, .ref rk]))] H := hP
  have hD : va_D A [(mm, .inr (9, [.int 0, .ref nw, .ref cq, .ref hi, .int 0, .ref ko, .ref se, .int 0, .ref nf, .ref ns, .ref pi])), (nw, .inr (8, [.int 0, .int 0, .ref vd, .ref lw, .ref hg, .ref rk]))] := hD
  refine lv_aload_n hx hb dX9_narrow_5 rfl (lv_at hl 0 rfl) ?_
  refine lv_iload_n hx hb dX9_narrow_6 rfl (lv_at hl 1 rfl) ?_
  refine zcall (wr := []) (va_runV (As := [.int p0]) (rest := []) ⟨hx, hb, hml, hown, hts⟩ (z_X9_isRule l G mm nw cq hi ko se nf ns pi 0 vd lw hg rk p0 H.size) (cwV 1 hts gX9_narrow_X9_isRule rfl rfl rfl (by decide +kernel) ⟨Nat.le_of_ble_eq_true rfl, Nat.le_of_ble_eq_true rfl⟩) (zPreV (Wc := [(mm, .inr (9, [.int 0, .ref nw, .ref cq, .ref hi, .int 0, .ref ko, .ref se, .int 0, .ref nf, .ref ns, .ref pi])), (nw, .inr (8, [.int 0, .int 0, .ref vd, .ref lw, .ref hg, .ref rk]))]) (q0 := 0) (ci := 9) (q := (RX9, TX9, 11)) hP hD hE hS hA [0, 1] rfl (by decide) rfl rfl) rfl rfl hl.1 rfl (lv_room (Nat.le_of_ble_eq_true rfl)) dX9_narrow_7 ⟨Nat.le_of_ble_eq_true rfl, Nat.le_of_ble_eq_true rfl⟩) hP hD hS hA [0, 1] [] rfl rfl (by decide) (by decide) (fun u1 H locs hP hD hS => ?_)
  have hP : va_P G.1 vwCl [(mm, .inr (9, [.int 0, .ref nw, .ref cq, .ref hi, .int 0, .ref ko, .ref se, .int 0, .ref nf, .ref ns, .ref pi])), (nw, .inr (8, [.int 0, .int 0, .ref vd, .ref lw, .ref hg, .ref rk]))] H := hP
  have hD : va_D A [(mm, .inr (9, [.int 0, .ref nw, .ref cq, .ref hi, .int 0, .ref ko, .ref se, .int 0, .ref nf, .ref ns, .ref pi])), (nw, .inr (8, [.int 0, .int 0, .ref vd, .ref lw, .ref hg, .ref rk]))] := hD
  refine W.eq (g2 := F0 m 10 ls [.int 0]) rfl ?_
  refine lv_if_eq (tgt := 22) hx hb dX9_narrow_10 (by decide) (fun _ => ?_) (fun h9 => absurd (by decide) h9)
  refine lv_aload_n hx hb dX9_narrow_22 rfl (lv_at hl 0 rfl) ?_
  refine lv_iconst (v := 1) hx hb dX9_narrow_23 (by decide) ?_
  refine zcall (wr := [(nw, .inr (8, [.int 0, .int 0, .ref vd, .ref lw, .ref hg, .ref rk]))]) (va_runV (As := [.int 1]) (rest := []) ⟨hx, hb, hml, hown, hts⟩ (z_X9_no l G mm nw cq hi ko se nf ns pi 0 1 H.size) (cwV 1 hts gX9_narrow_X9_no rfl rfl rfl (by decide +kernel) ⟨Nat.le_of_ble_eq_true rfl, Nat.le_of_ble_eq_true rfl⟩) (zPreV (Wc := [(mm, .inr (9, [.int 0, .ref nw, .ref cq, .ref hi, .int 0, .ref ko, .ref se, .int 0, .ref nf, .ref ns, .ref pi]))]) (q0 := 0) (ci := 9) (q := (RX9, TX9, 11)) hP hD hE hS hA [0] rfl (by decide) rfl rfl) rfl rfl hl.1 rfl (lv_room (Nat.le_of_ble_eq_true rfl)) dX9_narrow_24 ⟨Nat.le_of_ble_eq_true rfl, Nat.le_of_ble_eq_true rfl⟩) hP hD hS hA [0] [1] rfl rfl (by decide) (by decide) (fun u2 H locs hP hD hS => ?_)
  have hP : va_P G.1 vwCl [(nw, .inr (8, [.int 0, .int 0, .ref vd, .ref lw, .ref hg, .ref rk])), (mm, .inr (9, [.int 1, .ref nw, .ref cq, .ref hi, .int 0, .ref ko, .ref se, .int 0, .ref nf, .ref ns, .ref pi]))] H := hP
  have hD : va_D A [(nw, .inr (8, [.int 0, .int 0, .ref vd, .ref lw, .ref hg, .ref rk])), (mm, .inr (9, [.int 1, .ref nw, .ref cq, .ref hi, .int 0, .ref ko, .ref se, .int 0, .ref nf, .ref ns, .ref pi]))] := hD
  refine W.eq (g2 := F0 m 27 ls [.int 0]) rfl ?_
  exact zend_i hx hb hr hlocks (fun k => [].getD k 0) hP hD hS (Nat.le_of_ble_eq_true rfl) (Nat.le_of_ble_eq_true rfl) dX9_narrow_27

set_option maxHeartbeats 4000000 in
set_option maxRecDepth 100000 in
theorem z_X9_turn (l : Launch) (G : zG) (mm : Nat) (nw : Nat) (cq : Nat) (hi : Nat) (ko : Nat) (se : Nat) (nf : Nat) (ns : Nat) (pi : Nat) (th : Int32) (vd : Nat) (lw : Nat) (hg : Nat) (rk : Nat) (p0 : Int32) (p1 : Int32) : zR l G yX9_turn wsX9_turn { frames := 2, cells := 0, slots := 0, locals := 43 } [(mm, .inr (9, [.int th, .ref nw, .ref cq, .ref hi, .int 0, .ref ko, .ref se, .int 0, .ref nf, .ref ns, .ref pi])), (nw, .inr (8, [.int 0, .int 0, .ref vd, .ref lw, .ref hg, .ref rk]))] [.ref mm, .int p0, .int p1] (some (.int 0)) (fun u => [(nw, .inr (8, [.int 0, .int 0, .ref vd, .ref lw, .ref hg, .ref rk])), (mm, .inr (9, [.int 1, .ref nw, .ref cq, .ref hi, .int 0, .ref ko, .ref se, .int 0, .ref nf, .ref ns, .ref pi]))]) 0 0 := by
  refine zR_of (cc := cX9_turn) (maxL := 4) (rt := (some .int)) (by decide) rfl (Nat.le_of_ble_eq_true rfl) ?_
  intro p e s m below meth c A ls hx hb hml hr hts hown hlocks hin hA hE hP hD hS hl
  have hl : lv_has ls 4 [(0, .ref mm), (1, .int p0), (2, .int p1)] := hl
  have hown : s.vm.findClass RX9 = some m.cls := hown
  have hP : va_P G.1 vwCl [(mm, .inr (9, [.int th, .ref nw, .ref cq, .ref hi, .int 0, .ref ko, .ref se, .int 0, .ref nf, .ref ns, .ref pi])), (nw, .inr (8, [.int 0, .int 0, .ref vd, .ref lw, .ref hg, .ref rk]))] s.heap := hP
  have hw9 : ∀ w ∈ u_ws RX9 TX9 11, w ∈ wsX9_turn := by decide +kernel
  have hf40 := hts (.fieldLink RX9 40 "NettleModel" "thrown" "I") (by decide +kernel)
  refine lv_aload_n hx hb dX9_turn_0 rfl (lv_at hl 0 rfl) ?_
  refine lv_iconst (v := 0) hx hb dX9_turn_1 (by decide) ?_
  refine va_put (D := G.1) (ci := 9) (v := .int 0) (ty := tyX9 0) (C := RX9) (T := TX9) (N := 11) hx hb hts hw9 tyX9 tyX9_ok nmX9 hown hE.1 hP hD hS 0 rfl rfl 0 (by decide) hf40 (fun _ h9 => h9) rfl (by decide +kernel) rfl rfl (Nat.le_of_ble_eq_true rfl) dX9_turn_2 (fun H locs hP hD hS => ?_)
  have hP : va_P G.1 vwCl [(mm, .inr (9, [.int 0, .ref nw, .ref cq, .ref hi, .int 0, .ref ko, .ref se, .int 0, .ref nf, .ref ns, .ref pi])), (nw, .inr (8, [.int 0, .int 0, .ref vd, .ref lw, .ref hg, .ref rk]))] H := hP
  have hD : va_D A [(mm, .inr (9, [.int 0, .ref nw, .ref cq, .ref hi, .int 0, .ref ko, .ref se, .int 0, .ref nf, .ref ns, .ref pi])), (nw, .inr (8, [.int 0, .int 0, .ref vd, .ref lw, .ref hg, .ref rk]))] := hD
  refine lv_aload_n hx hb dX9_turn_5 rfl (lv_at hl 0 rfl) ?_
  refine lv_iload_n hx hb dX9_turn_6 rfl (lv_at hl 1 rfl) ?_
  refine zcall (wr := []) (va_runV (As := [.int p0]) (rest := []) ⟨hx, hb, hml, hown, hts⟩ (z_X9_isRule l G mm nw cq hi ko se nf ns pi 0 vd lw hg rk p0 H.size) (cwV 1 hts gX9_turn_X9_isRule rfl rfl rfl (by decide +kernel) ⟨Nat.le_of_ble_eq_true rfl, Nat.le_of_ble_eq_true rfl⟩) (zPreV (Wc := [(mm, .inr (9, [.int 0, .ref nw, .ref cq, .ref hi, .int 0, .ref ko, .ref se, .int 0, .ref nf, .ref ns, .ref pi])), (nw, .inr (8, [.int 0, .int 0, .ref vd, .ref lw, .ref hg, .ref rk]))]) (q0 := 0) (ci := 9) (q := (RX9, TX9, 11)) hP hD hE hS hA [0, 1] rfl (by decide) rfl rfl) rfl rfl hl.1 rfl (lv_room (Nat.le_of_ble_eq_true rfl)) dX9_turn_7 ⟨Nat.le_of_ble_eq_true rfl, Nat.le_of_ble_eq_true rfl⟩) hP hD hS hA [0, 1] [] rfl rfl (by decide) (by decide) (fun u1 H locs hP hD hS => ?_)
  have hP : va_P G.1 vwCl [(mm, .inr (9, [.int 0, .ref nw, .ref cq, .ref hi, .int 0, .ref ko, .ref se, .int 0, .ref nf, .ref ns, .ref pi])), (nw, .inr (8, [.int 0, .int 0, .ref vd, .ref lw, .ref hg, .ref rk]))] H := hP
  have hD : va_D A [(mm, .inr (9, [.int 0, .ref nw, .ref cq, .ref hi, .int 0, .ref ko, .ref se, .int 0, .ref nf, .ref ns, .ref pi])), (nw, .inr (8, [.int 0, .int 0, .ref vd, .ref lw, .ref hg, .ref rk]))] := hD
  refine W.eq (g2 := F0 m 10 ls [.int 0]) rfl ?_
  refine lv_if_ne (tgt := 19) hx hb dX9_turn_10 (by decide) (fun h9 => absurd (by decide) h9) (fun _ => ?_)
  refine lv_aload_n hx hb dX9_turn_13 rfl (lv_at hl 0 rfl) ?_
  refine lv_iconst (v := 1) hx hb dX9_turn_14 (by decide) ?_
  refine zcall (wr := [(nw, .inr (8, [.int 0, .int 0, .ref vd, .ref lw, .ref hg, .ref rk]))]) (va_runV (As := [.int 1]) (rest := []) ⟨hx, hb, hml, hown, hts⟩ (z_X9_no l G mm nw cq hi ko se nf ns pi 0 1 H.size) (cwV 1 hts gX9_turn_X9_no rfl rfl rfl (by decide +kernel) ⟨Nat.le_of_ble_eq_true rfl, Nat.le_of_ble_eq_true rfl⟩) (zPreV (Wc := [(mm, .inr (9, [.int 0, .ref nw, .ref cq, .ref hi, .int 0, .ref ko, .ref se, .int 0, .ref nf, .ref ns, .ref pi]))]) (q0 := 0) (ci := 9) (q := (RX9, TX9, 11)) hP hD hE hS hA [0] rfl (by decide) rfl rfl) rfl rfl hl.1 rfl (lv_room (Nat.le_of_ble_eq_true rfl)) dX9_turn_15 ⟨Nat.le_of_ble_eq_true rfl, Nat.le_of_ble_eq_true rfl⟩) hP hD hS hA [0] [1] rfl rfl (by decide) (by decide) (fun u2 H locs hP hD hS => ?_)
  have hP : va_P G.1 vwCl [(nw, .inr (8, [.int 0, .int 0, .ref vd, .ref lw, .ref hg, .ref rk])), (mm, .inr (9, [.int 1, .ref nw, .ref cq, .ref hi, .int 0, .ref ko, .ref se, .int 0, .ref nf, .ref ns, .ref pi]))] H := hP
  have hD : va_D A [(nw, .inr (8, [.int 0, .int 0, .ref vd, .ref lw, .ref hg, .ref rk])), (mm, .inr (9, [.int 1, .ref nw, .ref cq, .ref hi, .int 0, .ref ko, .ref se, .int 0, .ref nf, .ref ns, .ref pi]))] := hD
  refine W.eq (g2 := F0 m 18 ls [.int 0]) rfl ?_
  exact zend_i hx hb hr hlocks (fun k => [].getD k 0) hP hD hS (Nat.le_of_ble_eq_true rfl) (Nat.le_of_ble_eq_true rfl) dX9_turn_18

set_option maxHeartbeats 4000000 in
set_option maxRecDepth 100000 in
theorem z_X9_move (l : Launch) (G : zG) (mm : Nat) (nw : Nat) (cq : Nat) (hi : Nat) (ko : Nat) (se : Nat) (nf : Nat) (ns : Nat) (pi : Nat) (th : Int32) (vd : Nat) (lw : Nat) (hg : Nat) (rk : Nat) (p0 : Int32) (p1 : Int32) : zR l G yX9_move wsX9_move { frames := 2, cells := 0, slots := 0, locals := 43 } [(mm, .inr (9, [.int th, .ref nw, .ref cq, .ref hi, .int 0, .ref ko, .ref se, .int 0, .ref nf, .ref ns, .ref pi])), (nw, .inr (8, [.int 0, .int 0, .ref vd, .ref lw, .ref hg, .ref rk]))] [.ref mm, .int p0, .int p1] (some (.int 0)) (fun u => [(nw, .inr (8, [.int 0, .int 0, .ref vd, .ref lw, .ref hg, .ref rk])), (mm, .inr (9, [.int 1, .ref nw, .ref cq, .ref hi, .int 0, .ref ko, .ref se, .int 0, .ref nf, .ref ns, .ref pi]))]) 0 0 := by
  refine zR_of (cc := cX9_move) (maxL := 5) (rt := (some .int)) (by decide) rfl (Nat.le_of_ble_eq_true rfl) ?_
  intro p e s m below meth c A ls hx hb hml hr hts hown hlocks hin hA hE hP hD hS hl
  have hl : lv_has ls 5 [(0, .ref mm), (1, .int p0), (2, .int p1)] := hl
  have hown : s.vm.findClass RX9 = some m.cls := hown
  have hP : va_P G.1 vwCl [(mm, .inr (9, [.int th, .ref nw, .ref cq, .ref hi, .int 0, .ref ko, .ref se, .int 0, .ref nf, .ref ns, .ref pi])), (nw, .inr (8, [.int 0, .int 0, .ref vd, .ref lw, .ref hg, .ref rk]))] s.heap := hP
  have hw9 : ∀ w ∈ u_ws RX9 TX9 11, w ∈ wsX9_move := by decide +kernel
  have hf40 := hts (.fieldLink RX9 40 "NettleModel" "thrown" "I") (by decide +kernel)
  refine lv_aload_n hx hb dX9_move_0 rfl (lv_at hl 0 rfl) ?_
  refine lv_iconst (v := 0) hx hb dX9_move_1 (by decide) ?_
  refine va_put (D := G.1) (ci := 9) (v := .int 0) (ty := tyX9 0) (C := RX9) (T := TX9) (N := 11) hx hb hts hw9 tyX9 tyX9_ok nmX9 hown hE.1 hP hD hS 0 rfl rfl 0 (by decide) hf40 (fun _ h9 => h9) rfl (by decide +kernel) rfl rfl (Nat.le_of_ble_eq_true rfl) dX9_move_2 (fun H locs hP hD hS => ?_)
  have hP : va_P G.1 vwCl [(mm, .inr (9, [.int 0, .ref nw, .ref cq, .ref hi, .int 0, .ref ko, .ref se, .int 0, .ref nf, .ref ns, .ref pi])), (nw, .inr (8, [.int 0, .int 0, .ref vd, .ref lw, .ref hg, .ref rk]))] H := hP
  have hD : va_D A [(mm, .inr (9, [.int 0, .ref nw, .ref cq, .ref hi, .int 0, .ref ko, .ref se, .int 0, .ref nf, .ref ns, .ref pi])), (nw, .inr (8, [.int 0, .int 0, .ref vd, .ref lw, .ref hg, .ref rk]))] := hD
  refine lv_aload_n hx hb dX9_move_5 rfl (lv_at hl 0 rfl) ?_
  refine lv_iload_n hx hb dX9_move_6 rfl (lv_at hl 1 rfl) ?_
  refine zcall (wr := []) (va_runV (As := [.int p0]) (rest := []) ⟨hx, hb, hml, hown, hts⟩ (z_X9_isRule l G mm nw cq hi ko se nf ns pi 0 vd lw hg rk p0 H.size) (cwV 1 hts gX9_move_X9_isRule rfl rfl rfl (by decide +kernel) ⟨Nat.le_of_ble_eq_true rfl, Nat.le_of_ble_eq_true rfl⟩) (zPreV (Wc := [(mm, .inr (9, [.int 0, .ref nw, .ref cq, .ref hi, .int 0, .ref ko, .ref se, .int 0, .ref nf, .ref ns, .ref pi])), (nw, .inr (8, [.int 0, .int 0, .ref vd, .ref lw, .ref hg, .ref rk]))]) (q0 := 0) (ci := 9) (q := (RX9, TX9, 11)) hP hD hE hS hA [0, 1] rfl (by decide) rfl rfl) rfl rfl hl.1 rfl (lv_room (Nat.le_of_ble_eq_true rfl)) dX9_move_7 ⟨Nat.le_of_ble_eq_true rfl, Nat.le_of_ble_eq_true rfl⟩) hP hD hS hA [0, 1] [] rfl rfl (by decide) (by decide) (fun u1 H locs hP hD hS => ?_)
  have hP : va_P G.1 vwCl [(mm, .inr (9, [.int 0, .ref nw, .ref cq, .ref hi, .int 0, .ref ko, .ref se, .int 0, .ref nf, .ref ns, .ref pi])), (nw, .inr (8, [.int 0, .int 0, .ref vd, .ref lw, .ref hg, .ref rk]))] H := hP
  have hD : va_D A [(mm, .inr (9, [.int 0, .ref nw, .ref cq, .ref hi, .int 0, .ref ko, .ref se, .int 0, .ref nf, .ref ns, .ref pi])), (nw, .inr (8, [.int 0, .int 0, .ref vd, .ref lw, .ref hg, .ref rk]))] := hD
  refine W.eq (g2 := F0 m 10 ls [.int 0]) rfl ?_
  refine lv_if_eq (tgt := 21) hx hb dX9_move_10 (by decide) (fun _ => ?_) (fun h9 => absurd (by decide) h9)
  refine lv_aload_n hx hb dX9_move_21 rfl (lv_at hl 0 rfl) ?_
  refine lv_iconst (v := 1) hx hb dX9_move_22 (by decide) ?_
  refine zcall (wr := [(nw, .inr (8, [.int 0, .int 0, .ref vd, .ref lw, .ref hg, .ref rk]))]) (va_runV (As := [.int 1]) (rest := []) ⟨hx, hb, hml, hown, hts⟩ (z_X9_no l G mm nw cq hi ko se nf ns pi 0 1 H.size) (cwV 1 hts gX9_move_X9_no rfl rfl rfl (by decide +kernel) ⟨Nat.le_of_ble_eq_true rfl, Nat.le_of_ble_eq_true rfl⟩) (zPreV (Wc := [(mm, .inr (9, [.int 0, .ref nw, .ref cq, .ref hi, .int 0, .ref ko, .ref se, .int 0, .ref nf, .ref ns, .ref pi]))]) (q0 := 0) (ci := 9) (q := (RX9, TX9, 11)) hP hD hE hS hA [0] rfl (by decide) rfl rfl) rfl rfl hl.1 rfl (lv_room (Nat.le_of_ble_eq_true rfl)) dX9_move_23 ⟨Nat.le_of_ble_eq_true rfl, Nat.le_of_ble_eq_true rfl⟩) hP hD hS hA [0] [1] rfl rfl (by decide) (by decide) (fun u2 H locs hP hD hS => ?_)
  have hP : va_P G.1 vwCl [(nw, .inr (8, [.int 0, .int 0, .ref vd, .ref lw, .ref hg, .ref rk])), (mm, .inr (9, [.int 1, .ref nw, .ref cq, .ref hi, .int 0, .ref ko, .ref se, .int 0, .ref nf, .ref ns, .ref pi]))] H := hP
  have hD : va_D A [(nw, .inr (8, [.int 0, .int 0, .ref vd, .ref lw, .ref hg, .ref rk])), (mm, .inr (9, [.int 1, .ref nw, .ref cq, .ref hi, .int 0, .ref ko, .ref se, .int 0, .ref nf, .ref ns, .ref pi]))] := hD
  refine W.eq (g2 := F0 m 26 ls [.int 0]) rfl ?_
  exact zend_i hx hb hr hlocks (fun k => [].getD k 0) hP hD hS (Nat.le_of_ble_eq_true rfl) (Nat.le_of_ble_eq_true rfl) dX9_move_26

set_option maxHeartbeats 4000000 in
set_option maxRecDepth 100000 in
theorem z_X9_drop (l : Launch) (G : zG) (mm : Nat) (nw : Nat) (cq : Nat) (hi : Nat) (ko : Nat) (se : Nat) (nf : Nat) (ns : Nat) (pi : Nat) (th : Int32) (vd : Nat) (lw : Nat) (hg : Nat) (rk : Nat) (p0 : Int32) : zR l G yX9_drop wsX9_drop { frames := 2, cells := 0, slots := 0, locals := 43 } [(mm, .inr (9, [.int th, .ref nw, .ref cq, .ref hi, .int 0, .ref ko, .ref se, .int 0, .ref nf, .ref ns, .ref pi])), (nw, .inr (8, [.int 0, .int 0, .ref vd, .ref lw, .ref hg, .ref rk]))] [.ref mm, .int p0] (some (.int 0)) (fun u => [(nw, .inr (8, [.int 0, .int 0, .ref vd, .ref lw, .ref hg, .ref rk])), (mm, .inr (9, [.int 1, .ref nw, .ref cq, .ref hi, .int 0, .ref ko, .ref se, .int 0, .ref nf, .ref ns, .ref pi]))]) 0 0 := by
  refine zR_of (cc := cX9_drop) (maxL := 2) (rt := (some .int)) (by decide) rfl (Nat.le_of_ble_eq_true rfl) ?_
  intro p e s m below meth c A ls hx hb hml hr hts hown hlocks hin hA hE hP hD hS hl
  have hl : lv_has ls 2 [(0, .ref mm), (1, .int p0)] := hl
  have hown : s.vm.findClass RX9 = some m.cls := hown
  have hP : va_P G.1 vwCl [(mm, .inr (9, [.int th, .ref nw, .ref cq, .ref hi, .int 0, .ref ko, .ref se, .int 0, .ref nf, .ref ns, .ref pi])), (nw, .inr (8, [.int 0, .int 0, .ref vd, .ref lw, .ref hg, .ref rk]))] s.heap := hP
  have hw9 : ∀ w ∈ u_ws RX9 TX9 11, w ∈ wsX9_drop := by decide +kernel
  have hf40 := hts (.fieldLink RX9 40 "NettleModel" "thrown" "I") (by decide +kernel)
  refine lv_aload_n hx hb dX9_drop_0 rfl (lv_at hl 0 rfl) ?_
  refine lv_iconst (v := 0) hx hb dX9_drop_1 (by decide) ?_
  refine va_put (D := G.1) (ci := 9) (v := .int 0) (ty := tyX9 0) (C := RX9) (T := TX9) (N := 11) hx hb hts hw9 tyX9 tyX9_ok nmX9 hown hE.1 hP hD hS 0 rfl rfl 0 (by decide) hf40 (fun _ h9 => h9) rfl (by decide +kernel) rfl rfl (Nat.le_of_ble_eq_true rfl) dX9_drop_2 (fun H locs hP hD hS => ?_)
  have hP : va_P G.1 vwCl [(mm, .inr (9, [.int 0, .ref nw, .ref cq, .ref hi, .int 0, .ref ko, .ref se, .int 0, .ref nf, .ref ns, .ref pi])), (nw, .inr (8, [.int 0, .int 0, .ref vd, .ref lw, .ref hg, .ref rk]))] H := hP
  have hD : va_D A [(mm, .inr (9, [.int 0, .ref nw, .ref cq, .ref hi, .int 0, .ref ko, .ref se, .int 0, .ref nf, .ref ns, .ref pi])), (nw, .inr (8, [.int 0, .int 0, .ref vd, .ref lw, .ref hg, .ref rk]))] := hD
  refine lv_aload_n hx hb dX9_drop_5 rfl (lv_at hl 0 rfl) ?_
  refine lv_iload_n hx hb dX9_drop_6 rfl (lv_at hl 1 rfl) ?_
  refine zcall (wr := []) (va_runV (As := [.int p0]) (rest := []) ⟨hx, hb, hml, hown, hts⟩ (z_X9_isRule l G mm nw cq hi ko se nf ns pi 0 vd lw hg rk p0 H.size) (cwV 1 hts gX9_drop_X9_isRule rfl rfl rfl (by decide +kernel) ⟨Nat.le_of_ble_eq_true rfl, Nat.le_of_ble_eq_true rfl⟩) (zPreV (Wc := [(mm, .inr (9, [.int 0, .ref nw, .ref cq, .ref hi, .int 0, .ref ko, .ref se, .int 0, .ref nf, .ref ns, .ref pi])), (nw, .inr (8, [.int 0, .int 0, .ref vd, .ref lw, .ref hg, .ref rk]))]) (q0 := 0) (ci := 9) (q := (RX9, TX9, 11)) hP hD hE hS hA [0, 1] rfl (by decide) rfl rfl) rfl rfl hl.1 rfl (lv_room (Nat.le_of_ble_eq_true rfl)) dX9_drop_7 ⟨Nat.le_of_ble_eq_true rfl, Nat.le_of_ble_eq_true rfl⟩) hP hD hS hA [0, 1] [] rfl rfl (by decide) (by decide) (fun u1 H locs hP hD hS => ?_)
  have hP : va_P G.1 vwCl [(mm, .inr (9, [.int 0, .ref nw, .ref cq, .ref hi, .int 0, .ref ko, .ref se, .int 0, .ref nf, .ref ns, .ref pi])), (nw, .inr (8, [.int 0, .int 0, .ref vd, .ref lw, .ref hg, .ref rk]))] H := hP
  have hD : va_D A [(mm, .inr (9, [.int 0, .ref nw, .ref cq, .ref hi, .int 0, .ref ko, .ref se, .int 0, .ref nf, .ref ns, .ref pi])), (nw, .inr (8, [.int 0, .int 0, .ref vd, .ref lw, .ref hg, .ref rk]))] := hD
  refine W.eq (g2 := F0 m 10 ls [.int 0]) rfl ?_
  refine lv_if_ne (tgt := 19) hx hb dX9_drop_10 (by decide) (fun h9 => absurd (by decide) h9) (fun _ => ?_)
  refine lv_aload_n hx hb dX9_drop_13 rfl (lv_at hl 0 rfl) ?_
  refine lv_iconst (v := 1) hx hb dX9_drop_14 (by decide) ?_
  refine zcall (wr := [(nw, .inr (8, [.int 0, .int 0, .ref vd, .ref lw, .ref hg, .ref rk]))]) (va_runV (As := [.int 1]) (rest := []) ⟨hx, hb, hml, hown, hts⟩ (z_X9_no l G mm nw cq hi ko se nf ns pi 0 1 H.size) (cwV 1 hts gX9_drop_X9_no rfl rfl rfl (by decide +kernel) ⟨Nat.le_of_ble_eq_true rfl, Nat.le_of_ble_eq_true rfl⟩) (zPreV (Wc := [(mm, .inr (9, [.int 0, .ref nw, .ref cq, .ref hi, .int 0, .ref ko, .ref se, .int 0, .ref nf, .ref ns, .ref pi]))]) (q0 := 0) (ci := 9) (q := (RX9, TX9, 11)) hP hD hE hS hA [0] rfl (by decide) rfl rfl) rfl rfl hl.1 rfl (lv_room (Nat.le_of_ble_eq_true rfl)) dX9_drop_15 ⟨Nat.le_of_ble_eq_true rfl, Nat.le_of_ble_eq_true rfl⟩) hP hD hS hA [0] [1] rfl rfl (by decide) (by decide) (fun u2 H locs hP hD hS => ?_)
  have hP : va_P G.1 vwCl [(nw, .inr (8, [.int 0, .int 0, .ref vd, .ref lw, .ref hg, .ref rk])), (mm, .inr (9, [.int 1, .ref nw, .ref cq, .ref hi, .int 0, .ref ko, .ref se, .int 0, .ref nf, .ref ns, .ref pi]))] H := hP
  have hD : va_D A [(nw, .inr (8, [.int 0, .int 0, .ref vd, .ref lw, .ref hg, .ref rk])), (mm, .inr (9, [.int 1, .ref nw, .ref cq, .ref hi, .int 0, .ref ko, .ref se, .int 0, .ref nf, .ref ns, .ref pi]))] := hD
  refine W.eq (g2 := F0 m 18 ls [.int 0]) rfl ?_
  exact zend_i hx hb hr hlocks (fun k => [].getD k 0) hP hD hS (Nat.le_of_ble_eq_true rfl) (Nat.le_of_ble_eq_true rfl) dX9_drop_18

set_option maxHeartbeats 4000000 in
set_option maxRecDepth 100000 in
theorem z_X9_ofRule (l : Launch) (G : zG) (mm : Nat) (nw : Nat) (cq : Nat) (hi : Nat) (ko : Nat) (se : Nat) (nf : Nat) (ns : Nat) (pi : Nat) (th : Int32) (vd : Nat) (lw : Nat) (hg : Nat) (rk : Nat) (p0 : Int32) (p1 : Int32) : zR l G yX9_ofRule wsX9_ofRule { frames := 2, cells := 0, slots := 0, locals := 43 } [(mm, .inr (9, [.int th, .ref nw, .ref cq, .ref hi, .int 0, .ref ko, .ref se, .int 0, .ref nf, .ref ns, .ref pi])), (nw, .inr (8, [.int 0, .int 0, .ref vd, .ref lw, .ref hg, .ref rk]))] [.ref mm, .int p0, .int p1] (some (.int 0)) (fun u => [(nw, .inr (8, [.int 0, .int 0, .ref vd, .ref lw, .ref hg, .ref rk])), (mm, .inr (9, [.int 1, .ref nw, .ref cq, .ref hi, .int 0, .ref ko, .ref se, .int 0, .ref nf, .ref ns, .ref pi]))]) 0 0 := by
  refine zR_of (cc := cX9_ofRule) (maxL := 3) (rt := (some .int)) (by decide) rfl (Nat.le_of_ble_eq_true rfl) ?_
  intro p e s m below meth c A ls hx hb hml hr hts hown hlocks hin hA hE hP hD hS hl
  have hl : lv_has ls 3 [(0, .ref mm), (1, .int p0), (2, .int p1)] := hl
  have hown : s.vm.findClass RX9 = some m.cls := hown
  have hP : va_P G.1 vwCl [(mm, .inr (9, [.int th, .ref nw, .ref cq, .ref hi, .int 0, .ref ko, .ref se, .int 0, .ref nf, .ref ns, .ref pi])), (nw, .inr (8, [.int 0, .int 0, .ref vd, .ref lw, .ref hg, .ref rk]))] s.heap := hP
  have hw9 : ∀ w ∈ u_ws RX9 TX9 11, w ∈ wsX9_ofRule := by decide +kernel
  have hf40 := hts (.fieldLink RX9 40 "NettleModel" "thrown" "I") (by decide +kernel)
  refine lv_aload_n hx hb dX9_ofRule_0 rfl (lv_at hl 0 rfl) ?_
  refine lv_iconst (v := 0) hx hb dX9_ofRule_1 (by decide) ?_
  refine va_put (D := G.1) (ci := 9) (v := .int 0) (ty := tyX9 0) (C := RX9) (T := TX9) (N := 11) hx hb hts hw9 tyX9 tyX9_ok nmX9 hown hE.1 hP hD hS 0 rfl rfl 0 (by decide) hf40 (fun _ h9 => h9) rfl (by decide +kernel) rfl rfl (Nat.le_of_ble_eq_true rfl) dX9_ofRule_2 (fun H locs hP hD hS => ?_)
  have hP : va_P G.1 vwCl [(mm, .inr (9, [.int 0, .ref nw, .ref cq, .ref hi, .int 0, .ref ko, .ref se, .int 0, .ref nf, .ref ns, .ref pi])), (nw, .inr (8, [.int 0, .int 0, .ref vd, .ref lw, .ref hg, .ref rk]))] H := hP
  have hD : va_D A [(mm, .inr (9, [.int 0, .ref nw, .ref cq, .ref hi, .int 0, .ref ko, .ref se, .int 0, .ref nf, .ref ns, .ref pi])), (nw, .inr (8, [.int 0, .int 0, .ref vd, .ref lw, .ref hg, .ref rk]))] := hD
  refine lv_aload_n hx hb dX9_ofRule_5 rfl (lv_at hl 0 rfl) ?_
  refine lv_iload_n hx hb dX9_ofRule_6 rfl (lv_at hl 1 rfl) ?_
  refine zcall (wr := []) (va_runV (As := [.int p0]) (rest := []) ⟨hx, hb, hml, hown, hts⟩ (z_X9_isRule l G mm nw cq hi ko se nf ns pi 0 vd lw hg rk p0 H.size) (cwV 1 hts gX9_ofRule_X9_isRule rfl rfl rfl (by decide +kernel) ⟨Nat.le_of_ble_eq_true rfl, Nat.le_of_ble_eq_true rfl⟩) (zPreV (Wc := [(mm, .inr (9, [.int 0, .ref nw, .ref cq, .ref hi, .int 0, .ref ko, .ref se, .int 0, .ref nf, .ref ns, .ref pi])), (nw, .inr (8, [.int 0, .int 0, .ref vd, .ref lw, .ref hg, .ref rk]))]) (q0 := 0) (ci := 9) (q := (RX9, TX9, 11)) hP hD hE hS hA [0, 1] rfl (by decide) rfl rfl) rfl rfl hl.1 rfl (lv_room (Nat.le_of_ble_eq_true rfl)) dX9_ofRule_7 ⟨Nat.le_of_ble_eq_true rfl, Nat.le_of_ble_eq_true rfl⟩) hP hD hS hA [0, 1] [] rfl rfl (by decide) (by decide) (fun u1 H locs hP hD hS => ?_)
  have hP : va_P G.1 vwCl [(mm, .inr (9, [.int 0, .ref nw, .ref cq, .ref hi, .int 0, .ref ko, .ref se, .int 0, .ref nf, .ref ns, .ref pi])), (nw, .inr (8, [.int 0, .int 0, .ref vd, .ref lw, .ref hg, .ref rk]))] H := hP
  have hD : va_D A [(mm, .inr (9, [.int 0, .ref nw, .ref cq, .ref hi, .int 0, .ref ko, .ref se, .int 0, .ref nf, .ref ns, .ref pi])), (nw, .inr (8, [.int 0, .int 0, .ref vd, .ref lw, .ref hg, .ref rk]))] := hD
  refine W.eq (g2 := F0 m 10 ls [.int 0]) rfl ?_
  refine lv_if_ne (tgt := 19) hx hb dX9_ofRule_10 (by decide) (fun h9 => absurd (by decide) h9) (fun _ => ?_)
  refine lv_aload_n hx hb dX9_ofRule_13 rfl (lv_at hl 0 rfl) ?_
  refine lv_iconst (v := 1) hx hb dX9_ofRule_14 (by decide) ?_
  refine zcall (wr := [(nw, .inr (8, [.int 0, .int 0, .ref vd, .ref lw, .ref hg, .ref rk]))]) (va_runV (As := [.int 1]) (rest := []) ⟨hx, hb, hml, hown, hts⟩ (z_X9_no l G mm nw cq hi ko se nf ns pi 0 1 H.size) (cwV 1 hts gX9_ofRule_X9_no rfl rfl rfl (by decide +kernel) ⟨Nat.le_of_ble_eq_true rfl, Nat.le_of_ble_eq_true rfl⟩) (zPreV (Wc := [(mm, .inr (9, [.int 0, .ref nw, .ref cq, .ref hi, .int 0, .ref ko, .ref se, .int 0, .ref nf, .ref ns, .ref pi]))]) (q0 := 0) (ci := 9) (q := (RX9, TX9, 11)) hP hD hE hS hA [0] rfl (by decide) rfl rfl) rfl rfl hl.1 rfl (lv_room (Nat.le_of_ble_eq_true rfl)) dX9_ofRule_15 ⟨Nat.le_of_ble_eq_true rfl, Nat.le_of_ble_eq_true rfl⟩) hP hD hS hA [0] [1] rfl rfl (by decide) (by decide) (fun u2 H locs hP hD hS => ?_)
  have hP : va_P G.1 vwCl [(nw, .inr (8, [.int 0, .int 0, .ref vd, .ref lw, .ref hg, .ref rk])), (mm, .inr (9, [.int 1, .ref nw, .ref cq, .ref hi, .int 0, .ref ko, .ref se, .int 0, .ref nf, .ref ns, .ref pi]))] H := hP
  have hD : va_D A [(nw, .inr (8, [.int 0, .int 0, .ref vd, .ref lw, .ref hg, .ref rk])), (mm, .inr (9, [.int 1, .ref nw, .ref cq, .ref hi, .int 0, .ref ko, .ref se, .int 0, .ref nf, .ref ns, .ref pi]))] := hD
  refine W.eq (g2 := F0 m 18 ls [.int 0]) rfl ?_
  exact zend_i hx hb hr hlocks (fun k => [].getD k 0) hP hD hS (Nat.le_of_ble_eq_true rfl) (Nat.le_of_ble_eq_true rfl) dX9_ofRule_18

set_option maxHeartbeats 4000000 in
set_option maxRecDepth 100000 in
theorem z_X9_decides (l : Launch) (G : zG) (mm : Nat) (nw : Nat) (cq : Nat) (hi : Nat) (ko : Nat) (se : Nat) (nf : Nat) (ns : Nat) (pi : Nat) (th : Int32) (vd : Nat) (lw : Nat) (hg : Nat) (rk : Nat) (p0 : Int32) : zR l G yX9_decides wsX9_decides { frames := 2, cells := 0, slots := 0, locals := 43 } [(mm, .inr (9, [.int th, .ref nw, .ref cq, .ref hi, .int 0, .ref ko, .ref se, .int 0, .ref nf, .ref ns, .ref pi])), (nw, .inr (8, [.int 0, .int 0, .ref vd, .ref lw, .ref hg, .ref rk]))] [.ref mm, .int p0] (some (.int 0)) (fun u => [(nw, .inr (8, [.int 0, .int 0, .ref vd, .ref lw, .ref hg, .ref rk])), (mm, .inr (9, [.int 1, .ref nw, .ref cq, .ref hi, .int 0, .ref ko, .ref se, .int 0, .ref nf, .ref ns, .ref pi]))]) 0 0 := by
  refine zR_of (cc := cX9_decides) (maxL := 2) (rt := (some .int)) (by decide) rfl (Nat.le_of_ble_eq_true rfl) ?_
  intro p e s m below meth c A ls hx hb hml hr hts hown hlocks hin hA hE hP hD hS hl
  have hl : lv_has ls 2 [(0, .ref mm), (1, .int p0)] := hl
  have hown : s.vm.findClass RX9 = some m.cls := hown
  have hP : va_P G.1 vwCl [(mm, .inr (9, [.int th, .ref nw, .ref cq, .ref hi, .int 0, .ref ko, .ref se, .int 0, .ref nf, .ref ns, .ref pi])), (nw, .inr (8, [.int 0, .int 0, .ref vd, .ref lw, .ref hg, .ref rk]))] s.heap := hP
  have hw9 : ∀ w ∈ u_ws RX9 TX9 11, w ∈ wsX9_decides := by decide +kernel
  have hf40 := hts (.fieldLink RX9 40 "NettleModel" "thrown" "I") (by decide +kernel)
  refine lv_aload_n hx hb dX9_decides_0 rfl (lv_at hl 0 rfl) ?_
  refine lv_iconst (v := 0) hx hb dX9_decides_1 (by decide) ?_
  refine va_put (D := G.1) (ci := 9) (v := .int 0) (ty := tyX9 0) (C := RX9) (T := TX9) (N := 11) hx hb hts hw9 tyX9 tyX9_ok nmX9 hown hE.1 hP hD hS 0 rfl rfl 0 (by decide) hf40 (fun _ h9 => h9) rfl (by decide +kernel) rfl rfl (Nat.le_of_ble_eq_true rfl) dX9_decides_2 (fun H locs hP hD hS => ?_)
  have hP : va_P G.1 vwCl [(mm, .inr (9, [.int 0, .ref nw, .ref cq, .ref hi, .int 0, .ref ko, .ref se, .int 0, .ref nf, .ref ns, .ref pi])), (nw, .inr (8, [.int 0, .int 0, .ref vd, .ref lw, .ref hg, .ref rk]))] H := hP
  have hD : va_D A [(mm, .inr (9, [.int 0, .ref nw, .ref cq, .ref hi, .int 0, .ref ko, .ref se, .int 0, .ref nf, .ref ns, .ref pi])), (nw, .inr (8, [.int 0, .int 0, .ref vd, .ref lw, .ref hg, .ref rk]))] := hD
  refine lv_aload_n hx hb dX9_decides_5 rfl (lv_at hl 0 rfl) ?_
  refine lv_iload_n hx hb dX9_decides_6 rfl (lv_at hl 1 rfl) ?_
  refine zcall (wr := []) (va_runV (As := [.int p0]) (rest := []) ⟨hx, hb, hml, hown, hts⟩ (z_X9_isRule l G mm nw cq hi ko se nf ns pi 0 vd lw hg rk p0 H.size) (cwV 1 hts gX9_decides_X9_isRule rfl rfl rfl (by decide +kernel) ⟨Nat.le_of_ble_eq_true rfl, Nat.le_of_ble_eq_true rfl⟩) (zPreV (Wc := [(mm, .inr (9, [.int 0, .ref nw, .ref cq, .ref hi, .int 0, .ref ko, .ref se, .int 0, .ref nf, .ref ns, .ref pi])), (nw, .inr (8, [.int 0, .int 0, .ref vd, .ref lw, .ref hg, .ref rk]))]) (q0 := 0) (ci := 9) (q := (RX9, TX9, 11)) hP hD hE hS hA [0, 1] rfl (by decide) rfl rfl) rfl rfl hl.1 rfl (lv_room (Nat.le_of_ble_eq_true rfl)) dX9_decides_7 ⟨Nat.le_of_ble_eq_true rfl, Nat.le_of_ble_eq_true rfl⟩) hP hD hS hA [0, 1] [] rfl rfl (by decide) (by decide) (fun u1 H locs hP hD hS => ?_)
  have hP : va_P G.1 vwCl [(mm, .inr (9, [.int 0, .ref nw, .ref cq, .ref hi, .int 0, .ref ko, .ref se, .int 0, .ref nf, .ref ns, .ref pi])), (nw, .inr (8, [.int 0, .int 0, .ref vd, .ref lw, .ref hg, .ref rk]))] H := hP
  have hD : va_D A [(mm, .inr (9, [.int 0, .ref nw, .ref cq, .ref hi, .int 0, .ref ko, .ref se, .int 0, .ref nf, .ref ns, .ref pi])), (nw, .inr (8, [.int 0, .int 0, .ref vd, .ref lw, .ref hg, .ref rk]))] := hD
  refine W.eq (g2 := F0 m 10 ls [.int 0]) rfl ?_
  refine lv_if_eq (tgt := 24) hx hb dX9_decides_10 (by decide) (fun _ => ?_) (fun h9 => absurd (by decide) h9)
  refine lv_aload_n hx hb dX9_decides_24 rfl (lv_at hl 0 rfl) ?_
  refine lv_iconst (v := 1) hx hb dX9_decides_25 (by decide) ?_
  refine zcall (wr := [(nw, .inr (8, [.int 0, .int 0, .ref vd, .ref lw, .ref hg, .ref rk]))]) (va_runV (As := [.int 1]) (rest := []) ⟨hx, hb, hml, hown, hts⟩ (z_X9_no l G mm nw cq hi ko se nf ns pi 0 1 H.size) (cwV 1 hts gX9_decides_X9_no rfl rfl rfl (by decide +kernel) ⟨Nat.le_of_ble_eq_true rfl, Nat.le_of_ble_eq_true rfl⟩) (zPreV (Wc := [(mm, .inr (9, [.int 0, .ref nw, .ref cq, .ref hi, .int 0, .ref ko, .ref se, .int 0, .ref nf, .ref ns, .ref pi]))]) (q0 := 0) (ci := 9) (q := (RX9, TX9, 11)) hP hD hE hS hA [0] rfl (by decide) rfl rfl) rfl rfl hl.1 rfl (lv_room (Nat.le_of_ble_eq_true rfl)) dX9_decides_26 ⟨Nat.le_of_ble_eq_true rfl, Nat.le_of_ble_eq_true rfl⟩) hP hD hS hA [0] [1] rfl rfl (by decide) (by decide) (fun u2 H locs hP hD hS => ?_)
  have hP : va_P G.1 vwCl [(nw, .inr (8, [.int 0, .int 0, .ref vd, .ref lw, .ref hg, .ref rk])), (mm, .inr (9, [.int 1, .ref nw, .ref cq, .ref hi, .int 0, .ref ko, .ref se, .int 0, .ref nf, .ref ns, .ref pi]))] H := hP
  have hD : va_D A [(nw, .inr (8, [.int 0, .int 0, .ref vd, .ref lw, .ref hg, .ref rk])), (mm, .inr (9, [.int 1, .ref nw, .ref cq, .ref hi, .int 0, .ref ko, .ref se, .int 0, .ref nf, .ref ns, .ref pi]))] := hD
  refine W.eq (g2 := F0 m 29 ls [.int 0]) rfl ?_
  exact zend_i hx hb hr hlocks (fun k => [].getD k 0) hP hD hS (Nat.le_of_ble_eq_true rfl) (Nat.le_of_ble_eq_true rfl) dX9_decides_29

set_option maxHeartbeats 4000000 in
set_option maxRecDepth 100000 in
theorem z_X9_state (l : Launch) (G : zG) (mm : Nat) (nw : Nat) (cq : Nat) (hi : Nat) (ko : Nat) (se : Nat) (nf : Nat) (ns : Nat) (pi : Nat) (th : Int32) (vd : Nat) (lw : Nat) (hg : Nat) (rk : Nat) (p0 : Int32) : zR l G yX9_state wsX9_state { frames := 2, cells := 0, slots := 0, locals := 43 } [(mm, .inr (9, [.int th, .ref nw, .ref cq, .ref hi, .int 0, .ref ko, .ref se, .int 0, .ref nf, .ref ns, .ref pi])), (nw, .inr (8, [.int 0, .int 0, .ref vd, .ref lw, .ref hg, .ref rk]))] [.ref mm, .int p0] (some (.int 0)) (fun u => [(nw, .inr (8, [.int 0, .int 0, .ref vd, .ref lw, .ref hg, .ref rk])), (mm, .inr (9, [.int 1, .ref nw, .ref cq, .ref hi, .int 0, .ref ko, .ref se, .int 0, .ref nf, .ref ns, .ref pi]))]) 0 0 := by
  refine zR_of (cc := cX9_state) (maxL := 2) (rt := (some .int)) (by decide) rfl (Nat.le_of_ble_eq_true rfl) ?_
  intro p e s m below meth c A ls hx hb hml hr hts hown hlocks hin hA hE hP hD hS hl
  have hl : lv_has ls 2 [(0, .ref mm), (1, .int p0)] := hl
  have hown : s.vm.findClass RX9 = some m.cls := hown
  have hP : va_P G.1 vwCl [(mm, .inr (9, [.int th, .ref nw, .ref cq, .ref hi, .int 0, .ref ko, .ref se, .int 0, .ref nf, .ref ns, .ref pi])), (nw, .inr (8, [.int 0, .int 0, .ref vd, .ref lw, .ref hg, .ref rk]))] s.heap := hP
  have hw9 : ∀ w ∈ u_ws RX9 TX9 11, w ∈ wsX9_state := by decide +kernel
  have hf40 := hts (.fieldLink RX9 40 "NettleModel" "thrown" "I") (by decide +kernel)
  refine lv_aload_n hx hb dX9_state_0 rfl (lv_at hl 0 rfl) ?_
  refine lv_iconst (v := 0) hx hb dX9_state_1 (by decide) ?_
  refine va_put (D := G.1) (ci := 9) (v := .int 0) (ty := tyX9 0) (C := RX9) (T := TX9) (N := 11) hx hb hts hw9 tyX9 tyX9_ok nmX9 hown hE.1 hP hD hS 0 rfl rfl 0 (by decide) hf40 (fun _ h9 => h9) rfl (by decide +kernel) rfl rfl (Nat.le_of_ble_eq_true rfl) dX9_state_2 (fun H locs hP hD hS => ?_)
  have hP : va_P G.1 vwCl [(mm, .inr (9, [.int 0, .ref nw, .ref cq, .ref hi, .int 0, .ref ko, .ref se, .int 0, .ref nf, .ref ns, .ref pi])), (nw, .inr (8, [.int 0, .int 0, .ref vd, .ref lw, .ref hg, .ref rk]))] H := hP
  have hD : va_D A [(mm, .inr (9, [.int 0, .ref nw, .ref cq, .ref hi, .int 0, .ref ko, .ref se, .int 0, .ref nf, .ref ns, .ref pi])), (nw, .inr (8, [.int 0, .int 0, .ref vd, .ref lw, .ref hg, .ref rk]))] := hD
  refine lv_aload_n hx hb dX9_state_5 rfl (lv_at hl 0 rfl) ?_
  refine lv_iload_n hx hb dX9_state_6 rfl (lv_at hl 1 rfl) ?_
  refine zcall (wr := []) (va_runV (As := [.int p0]) (rest := []) ⟨hx, hb, hml, hown, hts⟩ (z_X9_isRule l G mm nw cq hi ko se nf ns pi 0 vd lw hg rk p0 H.size) (cwV 1 hts gX9_state_X9_isRule rfl rfl rfl (by decide +kernel) ⟨Nat.le_of_ble_eq_true rfl, Nat.le_of_ble_eq_true rfl⟩) (zPreV (Wc := [(mm, .inr (9, [.int 0, .ref nw, .ref cq, .ref hi, .int 0, .ref ko, .ref se, .int 0, .ref nf, .ref ns, .ref pi])), (nw, .inr (8, [.int 0, .int 0, .ref vd, .ref lw, .ref hg, .ref rk]))]) (q0 := 0) (ci := 9) (q := (RX9, TX9, 11)) hP hD hE hS hA [0, 1] rfl (by decide) rfl rfl) rfl rfl hl.1 rfl (lv_room (Nat.le_of_ble_eq_true rfl)) dX9_state_7 ⟨Nat.le_of_ble_eq_true rfl, Nat.le_of_ble_eq_true rfl⟩) hP hD hS hA [0, 1] [] rfl rfl (by decide) (by decide) (fun u1 H locs hP hD hS => ?_)
  have hP : va_P G.1 vwCl [(mm, .inr (9, [.int 0, .ref nw, .ref cq, .ref hi, .int 0, .ref ko, .ref se, .int 0, .ref nf, .ref ns, .ref pi])), (nw, .inr (8, [.int 0, .int 0, .ref vd, .ref lw, .ref hg, .ref rk]))] H := hP
  have hD : va_D A [(mm, .inr (9, [.int 0, .ref nw, .ref cq, .ref hi, .int 0, .ref ko, .ref se, .int 0, .ref nf, .ref ns, .ref pi])), (nw, .inr (8, [.int 0, .int 0, .ref vd, .ref lw, .ref hg, .ref rk]))] := hD
  refine W.eq (g2 := F0 m 10 ls [.int 0]) rfl ?_
  refine lv_if_eq (tgt := 21) hx hb dX9_state_10 (by decide) (fun _ => ?_) (fun h9 => absurd (by decide) h9)
  refine lv_aload_n hx hb dX9_state_21 rfl (lv_at hl 0 rfl) ?_
  refine lv_iconst (v := 1) hx hb dX9_state_22 (by decide) ?_
  refine zcall (wr := [(nw, .inr (8, [.int 0, .int 0, .ref vd, .ref lw, .ref hg, .ref rk]))]) (va_runV (As := [.int 1]) (rest := []) ⟨hx, hb, hml, hown, hts⟩ (z_X9_no l G mm nw cq hi ko se nf ns pi 0 1 H.size) (cwV 1 hts gX9_state_X9_no rfl rfl rfl (by decide +kernel) ⟨Nat.le_of_ble_eq_true rfl, Nat.le_of_ble_eq_true rfl⟩) (zPreV (Wc := [(mm, .inr (9, [.int 0, .ref nw, .ref cq, .ref hi, .int 0, .ref ko, .ref se, .int 0, .ref nf, .ref ns, .ref pi]))]) (q0 := 0) (ci := 9) (q := (RX9, TX9, 11)) hP hD hE hS hA [0] rfl (by decide) rfl rfl) rfl rfl hl.1 rfl (lv_room (Nat.le_of_ble_eq_true rfl)) dX9_state_23 ⟨Nat.le_of_ble_eq_true rfl, Nat.le_of_ble_eq_true rfl⟩) hP hD hS hA [0] [1] rfl rfl (by decide) (by decide) (fun u2 H locs hP hD hS => ?_)
  have hP : va_P G.1 vwCl [(nw, .inr (8, [.int 0, .int 0, .ref vd, .ref lw, .ref hg, .ref rk])), (mm, .inr (9, [.int 1, .ref nw, .ref cq, .ref hi, .int 0, .ref ko, .ref se, .int 0, .ref nf, .ref ns, .ref pi]))] H := hP
  have hD : va_D A [(nw, .inr (8, [.int 0, .int 0, .ref vd, .ref lw, .ref hg, .ref rk])), (mm, .inr (9, [.int 1, .ref nw, .ref cq, .ref hi, .int 0, .ref ko, .ref se, .int 0, .ref nf, .ref ns, .ref pi]))] := hD
  refine W.eq (g2 := F0 m 26 ls [.int 0]) rfl ?_
  exact zend_i hx hb hr hlocks (fun k => [].getD k 0) hP hD hS (Nat.le_of_ble_eq_true rfl) (Nat.le_of_ble_eq_true rfl) dX9_state_26

set_option maxHeartbeats 4000000 in
set_option maxRecDepth 100000 in
theorem z_X9_coveredBy (l : Launch) (G : zG) (mm : Nat) (nw : Nat) (cq : Nat) (hi : Nat) (ko : Nat) (se : Nat) (nf : Nat) (ns : Nat) (pi : Nat) (th : Int32) (vd : Nat) (lw : Nat) (hg : Nat) (rk : Nat) (p0 : Int32) : zR l G yX9_coveredBy wsX9_coveredBy { frames := 2, cells := 0, slots := 0, locals := 43 } [(mm, .inr (9, [.int th, .ref nw, .ref cq, .ref hi, .int 0, .ref ko, .ref se, .int 0, .ref nf, .ref ns, .ref pi])), (nw, .inr (8, [.int 0, .int 0, .ref vd, .ref lw, .ref hg, .ref rk]))] [.ref mm, .int p0] (some (.int 0)) (fun u => [(nw, .inr (8, [.int 0, .int 0, .ref vd, .ref lw, .ref hg, .ref rk])), (mm, .inr (9, [.int 1, .ref nw, .ref cq, .ref hi, .int 0, .ref ko, .ref se, .int 0, .ref nf, .ref ns, .ref pi]))]) 0 0 := by
  refine zR_of (cc := cX9_coveredBy) (maxL := 2) (rt := (some .int)) (by decide) rfl (Nat.le_of_ble_eq_true rfl) ?_
  intro p e s m below meth c A ls hx hb hml hr hts hown hlocks hin hA hE hP hD hS hl
  have hl : lv_has ls 2 [(0, .ref mm), (1, .int p0)] := hl
  have hown : s.vm.findClass RX9 = some m.cls := hown
  have hP : va_P G.1 vwCl [(mm, .inr (9, [.int th, .ref nw, .ref cq, .ref hi, .int 0, .ref ko, .ref se, .int 0, .ref nf, .ref ns, .ref pi])), (nw, .inr (8, [.int 0, .int 0, .ref vd, .ref lw, .ref hg, .ref rk]))] s.heap := hP
  have hw9 : ∀ w ∈ u_ws RX9 TX9 11, w ∈ wsX9_coveredBy := by decide +kernel
  have hf40 := hts (.fieldLink RX9 40 "NettleModel" "thrown" "I") (by decide +kernel)
  refine lv_aload_n hx hb dX9_coveredBy_0 rfl (lv_at hl 0 rfl) ?_
  refine lv_iconst (v := 0) hx hb dX9_coveredBy_1 (by decide) ?_
  refine va_put (D := G.1) (ci := 9) (v := .int 0) (ty := tyX9 0) (C := RX9) (T := TX9) (N := 11) hx hb hts hw9 tyX9 tyX9_ok nmX9 hown hE.1 hP hD hS 0 rfl rfl 0 (by decide) hf40 (fun _ h9 => h9) rfl (by decide +kernel) rfl rfl (Nat.le_of_ble_eq_true rfl) dX9_coveredBy_2 (fun H locs hP hD hS => ?_)
  have hP : va_P G.1 vwCl [(mm, .inr (9, [.int 0, .ref nw, .ref cq, .ref hi, .int 0, .ref ko, .ref se, .int 0, .ref nf, .ref ns, .ref pi])), (nw, .inr (8, [.int 0, .int 0, .ref vd, .ref lw, .ref hg, .ref rk]))] H := hP
  have hD : va_D A [(mm, .inr (9, [.int 0, .ref nw, .ref cq, .ref hi, .int 0, .ref ko, .ref se, .int 0, .ref nf, .ref ns, .ref pi])), (nw, .inr (8, [.int 0, .int 0, .ref vd, .ref lw, .ref hg, .ref rk]))] := hD
  refine lv_aload_n hx hb dX9_coveredBy_5 rfl (lv_at hl 0 rfl) ?_
  refine lv_iload_n hx hb dX9_coveredBy_6 rfl (lv_at hl 1 rfl) ?_
  refine zcall (wr := []) (va_runV (As := [.int p0]) (rest := []) ⟨hx, hb, hml, hown, hts⟩ (z_X9_isRule l G mm nw cq hi ko se nf ns pi 0 vd lw hg rk p0 H.size) (cwV 1 hts gX9_coveredBy_X9_isRule rfl rfl rfl (by decide +kernel) ⟨Nat.le_of_ble_eq_true rfl, Nat.le_of_ble_eq_true rfl⟩) (zPreV (Wc := [(mm, .inr (9, [.int 0, .ref nw, .ref cq, .ref hi, .int 0, .ref ko, .ref se, .int 0, .ref nf, .ref ns, .ref pi])), (nw, .inr (8, [.int 0, .int 0, .ref vd, .ref lw, .ref hg, .ref rk]))]) (q0 := 0) (ci := 9) (q := (RX9, TX9, 11)) hP hD hE hS hA [0, 1] rfl (by decide) rfl rfl) rfl rfl hl.1 rfl (lv_room (Nat.le_of_ble_eq_true rfl)) dX9_coveredBy_7 ⟨Nat.le_of_ble_eq_true rfl, Nat.le_of_ble_eq_true rfl⟩) hP hD hS hA [0, 1] [] rfl rfl (by decide) (by decide) (fun u1 H locs hP hD hS => ?_)
  have hP : va_P G.1 vwCl [(mm, .inr (9, [.int 0, .ref nw, .ref cq, .ref hi, .int 0, .ref ko, .ref se, .int 0, .ref nf, .ref ns, .ref pi])), (nw, .inr (8, [.int 0, .int 0, .ref vd, .ref lw, .ref hg, .ref rk]))] H := hP
  have hD : va_D A [(mm, .inr (9, [.int 0, .ref nw, .ref cq, .ref hi, .int 0, .ref ko, .ref se, .int 0, .ref nf, .ref ns, .ref pi])), (nw, .inr (8, [.int 0, .int 0, .ref vd, .ref lw, .ref hg, .ref rk]))] := hD
  refine W.eq (g2 := F0 m 10 ls [.int 0]) rfl ?_
  refine lv_if_eq (tgt := 21) hx hb dX9_coveredBy_10 (by decide) (fun _ => ?_) (fun h9 => absurd (by decide) h9)
  refine lv_aload_n hx hb dX9_coveredBy_21 rfl (lv_at hl 0 rfl) ?_
  refine lv_iconst (v := 1) hx hb dX9_coveredBy_22 (by decide) ?_
  refine zcall (wr := [(nw, .inr (8, [.int 0, .int 0, .ref vd, .ref lw, .ref hg, .ref rk]))]) (va_runV (As := [.int 1]) (rest := []) ⟨hx, hb, hml, hown, hts⟩ (z_X9_no l G mm nw cq hi ko se nf ns pi 0 1 H.size) (cwV 1 hts gX9_coveredBy_X9_no rfl rfl rfl (by decide +kernel) ⟨Nat.le_of_ble_eq_true rfl, Nat.le_of_ble_eq_true rfl⟩) (zPreV (Wc := [(mm, .inr (9, [.int 0, .ref nw, .ref cq, .ref hi, .int 0, .ref ko, .ref se, .int 0, .ref nf, .ref ns, .ref pi]))]) (q0 := 0) (ci := 9) (q := (RX9, TX9, 11)) hP hD hE hS hA [0] rfl (by decide) rfl rfl) rfl rfl hl.1 rfl (lv_room (Nat.le_of_ble_eq_true rfl)) dX9_coveredBy_23 ⟨Nat.le_of_ble_eq_true rfl, Nat.le_of_ble_eq_true rfl⟩) hP hD hS hA [0] [1] rfl rfl (by decide) (by decide) (fun u2 H locs hP hD hS => ?_)
  have hP : va_P G.1 vwCl [(nw, .inr (8, [.int 0, .int 0, .ref vd, .ref lw, .ref hg, .ref rk])), (mm, .inr (9, [.int 1, .ref nw, .ref cq, .ref hi, .int 0, .ref ko, .ref se, .int 0, .ref nf, .ref ns, .ref pi]))] H := hP
  have hD : va_D A [(nw, .inr (8, [.int 0, .int 0, .ref vd, .ref lw, .ref hg, .ref rk])), (mm, .inr (9, [.int 1, .ref nw, .ref cq, .ref hi, .int 0, .ref ko, .ref se, .int 0, .ref nf, .ref ns, .ref pi]))] := hD
  refine W.eq (g2 := F0 m 26 ls [.int 0]) rfl ?_
  exact zend_i hx hb hr hlocks (fun k => [].getD k 0) hP hD hS (Nat.le_of_ble_eq_true rfl) (Nat.le_of_ble_eq_true rfl) dX9_coveredBy_26

set_option maxHeartbeats 4000000 in
set_option maxRecDepth 100000 in
theorem z_X9_shared (l : Launch) (G : zG) (mm : Nat) (nw : Nat) (cq : Nat) (hi : Nat) (ko : Nat) (se : Nat) (nf : Nat) (ns : Nat) (pi : Nat) (th : Int32) (vd : Nat) (lw : Nat) (hg : Nat) (rk : Nat) (p0 : Int32) (p1 : Int32) : zR l G yX9_shared wsX9_shared { frames := 2, cells := 0, slots := 0, locals := 43 } [(mm, .inr (9, [.int th, .ref nw, .ref cq, .ref hi, .int 0, .ref ko, .ref se, .int 0, .ref nf, .ref ns, .ref pi])), (nw, .inr (8, [.int 0, .int 0, .ref vd, .ref lw, .ref hg, .ref rk]))] [.ref mm, .int p0, .int p1] (some (.int 0)) (fun u => [(nw, .inr (8, [.int 0, .int 0, .ref vd, .ref lw, .ref hg, .ref rk])), (mm, .inr (9, [.int 1, .ref nw, .ref cq, .ref hi, .int 0, .ref ko, .ref se, .int 0, .ref nf, .ref ns, .ref pi]))]) 0 0 := by
  refine zR_of (cc := cX9_shared) (maxL := 3) (rt := (some .int)) (by decide) rfl (Nat.le_of_ble_eq_true rfl) ?_
  intro p e s m below meth c A ls hx hb hml hr hts hown hlocks hin hA hE hP hD hS hl
  have hl : lv_has ls 3 [(0, .ref mm), (1, .int p0), (2, .int p1)] := hl
  have hown : s.vm.findClass RX9 = some m.cls := hown
  have hP : va_P G.1 vwCl [(mm, .inr (9, [.int th, .ref nw, .ref cq, .ref hi, .int 0, .ref ko, .ref se, .int 0, .ref nf, .ref ns, .ref pi])), (nw, .inr (8, [.int 0, .int 0, .ref vd, .ref lw, .ref hg, .ref rk]))] s.heap := hP
  have hw9 : ∀ w ∈ u_ws RX9 TX9 11, w ∈ wsX9_shared := by decide +kernel
  have hf40 := hts (.fieldLink RX9 40 "NettleModel" "thrown" "I") (by decide +kernel)
  refine lv_aload_n hx hb dX9_shared_0 rfl (lv_at hl 0 rfl) ?_
  refine lv_iconst (v := 0) hx hb dX9_shared_1 (by decide) ?_
  refine va_put (D := G.1) (ci := 9) (v := .int 0) (ty := tyX9 0) (C := RX9) (T := TX9) (N := 11) hx hb hts hw9 tyX9 tyX9_ok nmX9 hown hE.1 hP hD hS 0 rfl rfl 0 (by decide) hf40 (fun _ h9 => h9) rfl (by decide +kernel) rfl rfl (Nat.le_of_ble_eq_true rfl) dX9_shared_2 (fun H locs hP hD hS => ?_)
  have hP : va_P G.1 vwCl [(mm, .inr (9, [.int 0, .ref nw, .ref cq, .ref hi, .int 0, .ref ko, .ref se, .int 0, .ref nf, .ref ns, .ref pi])), (nw, .inr (8, [.int 0, .int 0, .ref vd, .ref lw, .ref hg, .ref rk]))] H := hP
  have hD : va_D A [(mm, .inr (9, [.int 0, .ref nw, .ref cq, .ref hi, .int 0, .ref ko, .ref se, .int 0, .ref nf, .ref ns, .ref pi])), (nw, .inr (8, [.int 0, .int 0, .ref vd, .ref lw, .ref hg, .ref rk]))] := hD
  refine lv_aload_n hx hb dX9_shared_5 rfl (lv_at hl 0 rfl) ?_
  refine lv_iload_n hx hb dX9_shared_6 rfl (lv_at hl 1 rfl) ?_
  refine zcall (wr := []) (va_runV (As := [.int p0]) (rest := []) ⟨hx, hb, hml, hown, hts⟩ (z_X9_isRule l G mm nw cq hi ko se nf ns pi 0 vd lw hg rk p0 H.size) (cwV 1 hts gX9_shared_X9_isRule rfl rfl rfl (by decide +kernel) ⟨Nat.le_of_ble_eq_true rfl, Nat.le_of_ble_eq_true rfl⟩) (zPreV (Wc := [(mm, .inr (9, [.int 0, .ref nw, .ref cq, .ref hi, .int 0, .ref ko, .ref se, .int 0, .ref nf, .ref ns, .ref pi])), (nw, .inr (8, [.int 0, .int 0, .ref vd, .ref lw, .ref hg, .ref rk]))]) (q0 := 0) (ci := 9) (q := (RX9, TX9, 11)) hP hD hE hS hA [0, 1] rfl (by decide) rfl rfl) rfl rfl hl.1 rfl (lv_room (Nat.le_of_ble_eq_true rfl)) dX9_shared_7 ⟨Nat.le_of_ble_eq_true rfl, Nat.le_of_ble_eq_true rfl⟩) hP hD hS hA [0, 1] [] rfl rfl (by decide) (by decide) (fun u1 H locs hP hD hS => ?_)
  have hP : va_P G.1 vwCl [(mm, .inr (9, [.int 0, .ref nw, .ref cq, .ref hi, .int 0, .ref ko, .ref se, .int 0, .ref nf, .ref ns, .ref pi])), (nw, .inr (8, [.int 0, .int 0, .ref vd, .ref lw, .ref hg, .ref rk]))] H := hP
  have hD : va_D A [(mm, .inr (9, [.int 0, .ref nw, .ref cq, .ref hi, .int 0, .ref ko, .ref se, .int 0, .ref nf, .ref ns, .ref pi])), (nw, .inr (8, [.int 0, .int 0, .ref vd, .ref lw, .ref hg, .ref rk]))] := hD
  refine W.eq (g2 := F0 m 10 ls [.int 0]) rfl ?_
  refine lv_if_eq (tgt := 30) hx hb dX9_shared_10 (by decide) (fun _ => ?_) (fun h9 => absurd (by decide) h9)
  refine lv_aload_n hx hb dX9_shared_30 rfl (lv_at hl 0 rfl) ?_
  refine lv_iconst (v := 1) hx hb dX9_shared_31 (by decide) ?_
  refine zcall (wr := [(nw, .inr (8, [.int 0, .int 0, .ref vd, .ref lw, .ref hg, .ref rk]))]) (va_runV (As := [.int 1]) (rest := []) ⟨hx, hb, hml, hown, hts⟩ (z_X9_no l G mm nw cq hi ko se nf ns pi 0 1 H.size) (cwV 1 hts gX9_shared_X9_no rfl rfl rfl (by decide +kernel) ⟨Nat.le_of_ble_eq_true rfl, Nat.le_of_ble_eq_true rfl⟩) (zPreV (Wc := [(mm, .inr (9, [.int 0, .ref nw, .ref cq, .ref hi, .int 0, .ref ko, .ref se, .int 0, .ref nf, .ref ns, .ref pi]))]) (q0 := 0) (ci := 9) (q := (RX9, TX9, 11)) hP hD hE hS hA [0] rfl (by decide) rfl rfl) rfl rfl hl.1 rfl (lv_room (Nat.le_of_ble_eq_true rfl)) dX9_shared_32 ⟨Nat.le_of_ble_eq_true rfl, Nat.le_of_ble_eq_true rfl⟩) hP hD hS hA [0] [1] rfl rfl (by decide) (by decide) (fun u2 H locs hP hD hS => ?_)
  have hP : va_P G.1 vwCl [(nw, .inr (8, [.int 0, .int 0, .ref vd, .ref lw, .ref hg, .ref rk])), (mm, .inr (9, [.int 1, .ref nw, .ref cq, .ref hi, .int 0, .ref ko, .ref se, .int 0, .ref nf, .ref ns, .ref pi]))] H := hP
  have hD : va_D A [(nw, .inr (8, [.int 0, .int 0, .ref vd, .ref lw, .ref hg, .ref rk])), (mm, .inr (9, [.int 1, .ref nw, .ref cq, .ref hi, .int 0, .ref ko, .ref se, .int 0, .ref nf, .ref ns, .ref pi]))] := hD
  refine W.eq (g2 := F0 m 35 ls [.int 0]) rfl ?_
  exact zend_i hx hb hr hlocks (fun k => [].getD k 0) hP hD hS (Nat.le_of_ble_eq_true rfl) (Nat.le_of_ble_eq_true rfl) dX9_shared_35

set_option maxHeartbeats 4000000 in
set_option maxRecDepth 100000 in
theorem z_X9_allowedWithout (l : Launch) (G : zG) (mm : Nat) (nw : Nat) (cq : Nat) (hi : Nat) (ko : Nat) (se : Nat) (nf : Nat) (ns : Nat) (pi : Nat) (th : Int32) (vd : Nat) (lw : Nat) (hg : Nat) (rk : Nat) (p0 : Int32) : zR l G yX9_allowedWithout wsX9_allowedWithout { frames := 2, cells := 0, slots := 0, locals := 43 } [(mm, .inr (9, [.int th, .ref nw, .ref cq, .ref hi, .int 0, .ref ko, .ref se, .int 0, .ref nf, .ref ns, .ref pi])), (nw, .inr (8, [.int 0, .int 0, .ref vd, .ref lw, .ref hg, .ref rk]))] [.ref mm, .int p0] (some (.int 0)) (fun u => [(nw, .inr (8, [.int 0, .int 0, .ref vd, .ref lw, .ref hg, .ref rk])), (mm, .inr (9, [.int 1, .ref nw, .ref cq, .ref hi, .int 0, .ref ko, .ref se, .int 0, .ref nf, .ref ns, .ref pi]))]) 0 0 := by
  refine zR_of (cc := cX9_allowedWithout) (maxL := 2) (rt := (some .int)) (by decide) rfl (Nat.le_of_ble_eq_true rfl) ?_
  intro p e s m below meth c A ls hx hb hml hr hts hown hlocks hin hA hE hP hD hS hl
  have hl : lv_has ls 2 [(0, .ref mm), (1, .int p0)] := hl
  have hown : s.vm.findClass RX9 = some m.cls := hown
  have hP : va_P G.1 vwCl [(mm, .inr (9, [.int th, .ref nw, .ref cq, .ref hi, .int 0, .ref ko, .ref se, .int 0, .ref nf, .ref ns, .ref pi])), (nw, .inr (8, [.int 0, .int 0, .ref vd, .ref lw, .ref hg, .ref rk]))] s.heap := hP
  have hw9 : ∀ w ∈ u_ws RX9 TX9 11, w ∈ wsX9_allowedWithout := by decide +kernel
  have hf40 := hts (.fieldLink RX9 40 "NettleModel" "thrown" "I") (by decide +kernel)
  refine lv_aload_n hx hb dX9_allowedWithout_0 rfl (lv_at hl 0 rfl) ?_
  refine lv_iconst (v := 0) hx hb dX9_allowedWithout_1 (by decide) ?_
  refine va_put (D := G.1) (ci := 9) (v := .int 0) (ty := tyX9 0) (C := RX9) (T := TX9) (N := 11) hx hb hts hw9 tyX9 tyX9_ok nmX9 hown hE.1 hP hD hS 0 rfl rfl 0 (by decide) hf40 (fun _ h9 => h9) rfl (by decide +kernel) rfl rfl (Nat.le_of_ble_eq_true rfl) dX9_allowedWithout_2 (fun H locs hP hD hS => ?_)
  have hP : va_P G.1 vwCl [(mm, .inr (9, [.int 0, .ref nw, .ref cq, .ref hi, .int 0, .ref ko, .ref se, .int 0, .ref nf, .ref ns, .ref pi])), (nw, .inr (8, [.int 0, .int 0, .ref vd, .ref lw, .ref hg, .ref rk]))] H := hP
  have hD : va_D A [(mm, .inr (9, [.int 0, .ref nw, .ref cq, .ref hi, .int 0, .ref ko, .ref se, .int 0, .ref nf, .ref ns, .ref pi])), (nw, .inr (8, [.int 0, .int 0, .ref vd, .ref lw, .ref hg, .ref rk]))] := hD
  refine lv_aload_n hx hb dX9_allowedWithout_5 rfl (lv_at hl 0 rfl) ?_
  refine lv_iload_n hx hb dX9_allowedWithout_6 rfl (lv_at hl 1 rfl) ?_
  refine zcall (wr := []) (va_runV (As := [.int p0]) (rest := []) ⟨hx, hb, hml, hown, hts⟩ (z_X9_isRule l G mm nw cq hi ko se nf ns pi 0 vd lw hg rk p0 H.size) (cwV 1 hts gX9_allowedWithout_X9_isRule rfl rfl rfl (by decide +kernel) ⟨Nat.le_of_ble_eq_true rfl, Nat.le_of_ble_eq_true rfl⟩) (zPreV (Wc := [(mm, .inr (9, [.int 0, .ref nw, .ref cq, .ref hi, .int 0, .ref ko, .ref se, .int 0, .ref nf, .ref ns, .ref pi])), (nw, .inr (8, [.int 0, .int 0, .ref vd, .ref lw, .ref hg, .ref rk]))]) (q0 := 0) (ci := 9) (q := (RX9, TX9, 11)) hP hD hE hS hA [0, 1] rfl (by decide) rfl rfl) rfl rfl hl.1 rfl (lv_room (Nat.le_of_ble_eq_true rfl)) dX9_allowedWithout_7 ⟨Nat.le_of_ble_eq_true rfl, Nat.le_of_ble_eq_true rfl⟩) hP hD hS hA [0, 1] [] rfl rfl (by decide) (by decide) (fun u1 H locs hP hD hS => ?_)
  have hP : va_P G.1 vwCl [(mm, .inr (9, [.int 0, .ref nw, .ref cq, .ref hi, .int 0, .ref ko, .ref se, .int 0, .ref nf, .ref ns, .ref pi])), (nw, .inr (8, [.int 0, .int 0, .ref vd, .ref lw, .ref hg, .ref rk]))] H := hP
  have hD : va_D A [(mm, .inr (9, [.int 0, .ref nw, .ref cq, .ref hi, .int 0, .ref ko, .ref se, .int 0, .ref nf, .ref ns, .ref pi])), (nw, .inr (8, [.int 0, .int 0, .ref vd, .ref lw, .ref hg, .ref rk]))] := hD
  refine W.eq (g2 := F0 m 10 ls [.int 0]) rfl ?_
  refine lv_if_eq (tgt := 33) hx hb dX9_allowedWithout_10 (by decide) (fun _ => ?_) (fun h9 => absurd (by decide) h9)
  refine lv_aload_n hx hb dX9_allowedWithout_33 rfl (lv_at hl 0 rfl) ?_
  refine lv_iconst (v := 1) hx hb dX9_allowedWithout_34 (by decide) ?_
  refine zcall (wr := [(nw, .inr (8, [.int 0, .int 0, .ref vd, .ref lw, .ref hg, .ref rk]))]) (va_runV (As := [.int 1]) (rest := []) ⟨hx, hb, hml, hown, hts⟩ (z_X9_no l G mm nw cq hi ko se nf ns pi 0 1 H.size) (cwV 1 hts gX9_allowedWithout_X9_no rfl rfl rfl (by decide +kernel) ⟨Nat.le_of_ble_eq_true rfl, Nat.le_of_ble_eq_true rfl⟩) (zPreV (Wc := [(mm, .inr (9, [.int 0, .ref nw, .ref cq, .ref hi, .int 0, .ref ko, .ref se, .int 0, .ref nf, .ref ns, .ref pi]))]) (q0 := 0) (ci := 9) (q := (RX9, TX9, 11)) hP hD hE hS hA [0] rfl (by decide) rfl rfl) rfl rfl hl.1 rfl (lv_room (Nat.le_of_ble_eq_true rfl)) dX9_allowedWithout_35 ⟨Nat.le_of_ble_eq_true rfl, Nat.le_of_ble_eq_true rfl⟩) hP hD hS hA [0] [1] rfl rfl (by decide) (by decide) (fun u2 H locs hP hD hS => ?_)
  have hP : va_P G.1 vwCl [(nw, .inr (8, [.int 0, .int 0, .ref vd, .ref lw, .ref hg, .ref rk])), (mm, .inr (9, [.int 1, .ref nw, .ref cq, .ref hi, .int 0, .ref ko, .ref se, .int 0, .ref nf, .ref ns, .ref pi]))] H := hP
  have hD : va_D A [(nw, .inr (8, [.int 0, .int 0, .ref vd, .ref lw, .ref hg, .ref rk])), (mm, .inr (9, [.int 1, .ref nw, .ref cq, .ref hi, .int 0, .ref ko, .ref se, .int 0, .ref nf, .ref ns, .ref pi]))] := hD
  refine W.eq (g2 := F0 m 38 ls [.int 0]) rfl ?_
  exact zend_i hx hb hr hlocks (fun k => [].getD k 0) hP hD hS (Nat.le_of_ble_eq_true rfl) (Nat.le_of_ble_eq_true rfl) dX9_allowedWithout_38

set_option maxHeartbeats 4000000 in
set_option maxRecDepth 100000 in
theorem z_X9_changedByMove (l : Launch) (G : zG) (mm : Nat) (nw : Nat) (cq : Nat) (hi : Nat) (ko : Nat) (se : Nat) (nf : Nat) (ns : Nat) (pi : Nat) (th : Int32) (vd : Nat) (lw : Nat) (hg : Nat) (rk : Nat) (p0 : Int32) (p1 : Int32) : zR l G yX9_changedByMove wsX9_changedByMove { frames := 2, cells := 0, slots := 0, locals := 43 } [(mm, .inr (9, [.int th, .ref nw, .ref cq, .ref hi, .int 0, .ref ko, .ref se, .int 0, .ref nf, .ref ns, .ref pi])), (nw, .inr (8, [.int 0, .int 0, .ref vd, .ref lw, .ref hg, .ref rk]))] [.ref mm, .int p0, .int p1] (some (.int 0)) (fun u => [(nw, .inr (8, [.int 0, .int 0, .ref vd, .ref lw, .ref hg, .ref rk])), (mm, .inr (9, [.int 1, .ref nw, .ref cq, .ref hi, .int 0, .ref ko, .ref se, .int 0, .ref nf, .ref ns, .ref pi]))]) 0 0 := by
  refine zR_of (cc := cX9_changedByMove) (maxL := 4) (rt := (some .int)) (by decide) rfl (Nat.le_of_ble_eq_true rfl) ?_
  intro p e s m below meth c A ls hx hb hml hr hts hown hlocks hin hA hE hP hD hS hl
  have hl : lv_has ls 4 [(0, .ref mm), (1, .int p0), (2, .int p1)] := hl
  have hown : s.vm.findClass RX9 = some m.cls := hown
  have hP : va_P G.1 vwCl [(mm, .inr (9, [.int th, .ref nw, .ref cq, .ref hi, .int 0, .ref ko, .ref se, .int 0, .ref nf, .ref ns, .ref pi])), (nw, .inr (8, [.int 0, .int 0, .ref vd, .ref lw, .ref hg, .ref rk]))] s.heap := hP
  have hw9 : ∀ w ∈ u_ws RX9 TX9 11, w ∈ wsX9_changedByMove := by decide +kernel
  have hf40 := hts (.fieldLink RX9 40 "NettleModel" "thrown" "I") (by decide +kernel)
  refine lv_aload_n hx hb dX9_changedByMove_0 rfl (lv_at hl 0 rfl) ?_
  refine lv_iconst (v := 0) hx hb dX9_changedByMove_1 (by decide) ?_
  refine va_put (D := G.1) (ci := 9) (v := .int 0) (ty := tyX9 0) (C := RX9) (T := TX9) (N := 11) hx hb hts hw9 tyX9 tyX9_ok nmX9 hown hE.1 hP hD hS 0 rfl rfl 0 (by decide) hf40 (fun _ h9 => h9) rfl (by decide +kernel) rfl rfl (Nat.le_of_ble_eq_true rfl) dX9_changedByMove_2 (fun H locs hP hD hS => ?_)
  have hP : va_P G.1 vwCl [(mm, .inr (9, [.int 0, .ref nw, .ref cq, .ref hi, .int 0, .ref ko, .ref se, .int 0, .ref nf, .ref ns, .ref pi])), (nw, .inr (8, [.int 0, .int 0, .ref vd, .ref lw, .ref hg, .ref rk]))] H := hP
  have hD : va_D A [(mm, .inr (9, [.int 0, .ref nw, .ref cq, .ref hi, .int 0, .ref ko, .ref se, .int 0, .ref nf, .ref ns, .ref pi])), (nw, .inr (8, [.int 0, .int 0, .ref vd, .ref lw, .ref hg, .ref rk]))] := hD
  refine lv_aload_n hx hb dX9_changedByMove_5 rfl (lv_at hl 0 rfl) ?_
  refine lv_iload_n hx hb dX9_changedByMove_6 rfl (lv_at hl 1 rfl) ?_
  refine zcall (wr := []) (va_runV (As := [.int p0]) (rest := []) ⟨hx, hb, hml, hown, hts⟩ (z_X9_isRule l G mm nw cq hi ko se nf ns pi 0 vd lw hg rk p0 H.size) (cwV 1 hts gX9_changedByMove_X9_isRule rfl rfl rfl (by decide +kernel) ⟨Nat.le_of_ble_eq_true rfl, Nat.le_of_ble_eq_true rfl⟩) (zPreV (Wc := [(mm, .inr (9, [.int 0, .ref nw, .ref cq, .ref hi, .int 0, .ref ko, .ref se, .int 0, .ref nf, .ref ns, .ref pi])), (nw, .inr (8, [.int 0, .int 0, .ref vd, .ref lw, .ref hg, .ref rk]))]) (q0 := 0) (ci := 9) (q := (RX9, TX9, 11)) hP hD hE hS hA [0, 1] rfl (by decide) rfl rfl) rfl rfl hl.1 rfl (lv_room (Nat.le_of_ble_eq_true rfl)) dX9_changedByMove_7 ⟨Nat.le_of_ble_eq_true rfl, Nat.le_of_ble_eq_true rfl⟩) hP hD hS hA [0, 1] [] rfl rfl (by decide) (by decide) (fun u1 H locs hP hD hS => ?_)
  have hP : va_P G.1 vwCl [(mm, .inr (9, [.int 0, .ref nw, .ref cq, .ref hi, .int 0, .ref ko, .ref se, .int 0, .ref nf, .ref ns, .ref pi])), (nw, .inr (8, [.int 0, .int 0, .ref vd, .ref lw, .ref hg, .ref rk]))] H := hP
  have hD : va_D A [(mm, .inr (9, [.int 0, .ref nw, .ref cq, .ref hi, .int 0, .ref ko, .ref se, .int 0, .ref nf, .ref ns, .ref pi])), (nw, .inr (8, [.int 0, .int 0, .ref vd, .ref lw, .ref hg, .ref rk]))] := hD
  refine W.eq (g2 := F0 m 10 ls [.int 0]) rfl ?_
  refine lv_if_eq (tgt := 21) hx hb dX9_changedByMove_10 (by decide) (fun _ => ?_) (fun h9 => absurd (by decide) h9)
  refine lv_aload_n hx hb dX9_changedByMove_21 rfl (lv_at hl 0 rfl) ?_
  refine lv_iconst (v := 1) hx hb dX9_changedByMove_22 (by decide) ?_
  refine zcall (wr := [(nw, .inr (8, [.int 0, .int 0, .ref vd, .ref lw, .ref hg, .ref rk]))]) (va_runV (As := [.int 1]) (rest := []) ⟨hx, hb, hml, hown, hts⟩ (z_X9_no l G mm nw cq hi ko se nf ns pi 0 1 H.size) (cwV 1 hts gX9_changedByMove_X9_no rfl rfl rfl (by decide +kernel) ⟨Nat.le_of_ble_eq_true rfl, Nat.le_of_ble_eq_true rfl⟩) (zPreV (Wc := [(mm, .inr (9, [.int 0, .ref nw, .ref cq, .ref hi, .int 0, .ref ko, .ref se, .int 0, .ref nf, .ref ns, .ref pi]))]) (q0 := 0) (ci := 9) (q := (RX9, TX9, 11)) hP hD hE hS hA [0] rfl (by decide) rfl rfl) rfl rfl hl.1 rfl (lv_room (Nat.le_of_ble_eq_true rfl)) dX9_changedByMove_23 ⟨Nat.le_of_ble_eq_true rfl, Nat.le_of_ble_eq_true rfl⟩) hP hD hS hA [0] [1] rfl rfl (by decide) (by decide) (fun u2 H locs hP hD hS => ?_)
  have hP : va_P G.1 vwCl [(nw, .inr (8, [.int 0, .int 0, .ref vd, .ref lw, .ref hg, .ref rk])), (mm, .inr (9, [.int 1, .ref nw, .ref cq, .ref hi, .int 0, .ref ko, .ref se, .int 0, .ref nf, .ref ns, .ref pi]))] H := hP
  have hD : va_D A [(nw, .inr (8, [.int 0, .int 0, .ref vd, .ref lw, .ref hg, .ref rk])), (mm, .inr (9, [.int 1, .ref nw, .ref cq, .ref hi, .int 0, .ref ko, .ref se, .int 0, .ref nf, .ref ns, .ref pi]))] := hD
  refine W.eq (g2 := F0 m 26 ls [.int 0]) rfl ?_
  exact zend_i hx hb hr hlocks (fun k => [].getD k 0) hP hD hS (Nat.le_of_ble_eq_true rfl) (Nat.le_of_ble_eq_true rfl) dX9_changedByMove_26

set_option maxHeartbeats 4000000 in
set_option maxRecDepth 100000 in
theorem z_X9_setLast0 (l : Launch) (G : zG) (mm : Nat) (nw : Nat) (cq : Nat) (hi : Nat) (ko : Nat) (se : Nat) (nf : Nat) (ns : Nat) (pi : Nat) (th : Int32) (vd : Nat) (lw : Nat) (hg : Nat) (rk : Nat) : zR l G yX9_setLast wsX9_setLast { frames := 0, cells := 0, slots := 0, locals := 0 } [(mm, .inr (9, [.int th, .ref nw, .ref cq, .ref hi, .int 0, .ref ko, .ref se, .int 0, .ref nf, .ref ns, .ref pi])), (nw, .inr (8, [.int 0, .int 0, .ref vd, .ref lw, .ref hg, .ref rk]))] [.ref mm, .int 0] (some (.int 0)) (fun u => [(mm, .inr (9, [.int 0, .ref nw, .ref cq, .ref hi, .int 0, .ref ko, .ref se, .int 0, .ref nf, .ref ns, .ref pi])), (nw, .inr (8, [.int 0, .int 0, .ref vd, .ref lw, .ref hg, .ref rk]))]) 0 0 := by
  refine zR_of (cc := cX9_setLast) (maxL := 3) (rt := (some .boolean)) (by decide) rfl (Nat.le_of_ble_eq_true rfl) ?_
  intro p e s m below meth c A ls hx hb hml hr hts hown hlocks hin hA hE hP hD hS hl
  have hl : lv_has ls 3 [(0, .ref mm), (1, .int 0)] := hl
  have hown : s.vm.findClass RX9 = some m.cls := hown
  have hP : va_P G.1 vwCl [(mm, .inr (9, [.int th, .ref nw, .ref cq, .ref hi, .int 0, .ref ko, .ref se, .int 0, .ref nf, .ref ns, .ref pi])), (nw, .inr (8, [.int 0, .int 0, .ref vd, .ref lw, .ref hg, .ref rk]))] s.heap := hP
  have hw9 : ∀ w ∈ u_ws RX9 TX9 11, w ∈ wsX9_setLast := by decide +kernel
  have hf40 := hts (.fieldLink RX9 40 "NettleModel" "thrown" "I") (by decide +kernel)
  have hf10 := hts (.fieldLink RX9 10 "NettleModel" "now" "LNettleModel$Wall;") (by decide +kernel)
  have hw8 : ∀ w ∈ u_ws RX8 TX8 6, w ∈ wsX9_setLast := by decide +kernel
  have hf136 := hts (.fieldLink RX9 136 "NettleModel$Wall" "last" "I") (by decide +kernel)
  refine lv_aload_n hx hb dX9_setLast_0 rfl (lv_at hl 0 rfl) ?_
  refine lv_iconst (v := 0) hx hb dX9_setLast_1 (by decide) ?_
  refine va_put (D := G.1) (ci := 9) (v := .int 0) (ty := tyX9 0) (C := RX9) (T := TX9) (N := 11) hx hb hts hw9 tyX9 tyX9_ok nmX9 hown hE.1 hP hD hS 0 rfl rfl 0 (by decide) hf40 (fun _ h9 => h9) rfl (by decide +kernel) rfl rfl (Nat.le_of_ble_eq_true rfl) dX9_setLast_2 (fun H locs hP hD hS => ?_)
  have hP : va_P G.1 vwCl [(mm, .inr (9, [.int 0, .ref nw, .ref cq, .ref hi, .int 0, .ref ko, .ref se, .int 0, .ref nf, .ref ns, .ref pi])), (nw, .inr (8, [.int 0, .int 0, .ref vd, .ref lw, .ref hg, .ref rk]))] H := hP
  have hD : va_D A [(mm, .inr (9, [.int 0, .ref nw, .ref cq, .ref hi, .int 0, .ref ko, .ref se, .int 0, .ref nf, .ref ns, .ref pi])), (nw, .inr (8, [.int 0, .int 0, .ref vd, .ref lw, .ref hg, .ref rk]))] := hD
  refine lv_aload_n hx hb dX9_setLast_5 rfl (lv_at hl 0 rfl) ?_
  refine va_get (D := G.1) (ci := 9) (v := .ref nw) (C := RX9) (T := TX9) (N := 11) hx hb hts hw9 hown hE.1 hP 0 rfl rfl 1 (by decide) hf10 (fun _ h9 => h9) rfl dX9_setLast_6 ?_
  refine va_get (D := G.1) (ci := 8) (v := .int 0) (C := RX8) (T := TX8) (N := 6) hx hb hts hw8 hown hE.1 hP 1 rfl rfl 1 (by decide) hf136 (fun _ h9 => h9) rfl dX9_setLast_9 ?_
  refine lv_iconst (v := 1) hx hb dX9_setLast_12 (by decide) ?_
  refine lv_icmp_ne (tgt := 20) hx hb dX9_setLast_13 (by decide) (fun _ => ?_) (fun h9 => absurd h9 (by decide))
  refine lv_iconst (v := 0) hx hb dX9_setLast_20 (by decide) ?_
  refine lv_istore_n (lv' := [(2, .int 0), (0, .ref mm), (1, .int 0)]) hx hb dX9_setLast_21 rfl hl (by decide) rfl (fun ls hl => ?_)
  refine lv_aload_n hx hb dX9_setLast_22 rfl (lv_at hl 1 rfl) ?_
  refine va_get (D := G.1) (ci := 9) (v := .ref nw) (C := RX9) (T := TX9) (N := 11) hx hb hts hw9 hown hE.1 hP 0 rfl rfl 1 (by decide) hf10 (fun _ h9 => h9) rfl dX9_setLast_23 ?_
  refine lv_iload_n hx hb dX9_setLast_26 rfl (lv_at hl 2 rfl) ?_
  refine lv_if_eq (tgt := 34) hx hb dX9_setLast_27 (by decide) (fun _ => ?_) (fun h9 => absurd (by decide) h9)
  refine lv_iconst (v := 0) hx hb dX9_setLast_34 (by decide) ?_
  refine va_put (D := G.1) (ci := 8) (v := .int 0) (ty := tyX8 1) (C := RX8) (T := TX8) (N := 6) hx hb hts hw8 tyX8 tyX8_ok nmX8 hown hE.1 hP hD hS 1 rfl rfl 1 (by decide) hf136 (fun _ h9 => h9) rfl (by decide +kernel) rfl rfl (Nat.le_of_ble_eq_true rfl) dX9_setLast_35 (fun H locs hP hD hS => ?_)
  have hP : va_P G.1 vwCl [(mm, .inr (9, [.int 0, .ref nw, .ref cq, .ref hi, .int 0, .ref ko, .ref se, .int 0, .ref nf, .ref ns, .ref pi])), (nw, .inr (8, [.int 0, .int 0, .ref vd, .ref lw, .ref hg, .ref rk]))] H := hP
  have hD : va_D A [(mm, .inr (9, [.int 0, .ref nw, .ref cq, .ref hi, .int 0, .ref ko, .ref se, .int 0, .ref nf, .ref ns, .ref pi])), (nw, .inr (8, [.int 0, .int 0, .ref vd, .ref lw, .ref hg, .ref rk]))] := hD
  refine lv_iload_n hx hb dX9_setLast_38 rfl (lv_at hl 0 rfl) ?_
  exact zend_z hx hb hr hlocks rfl (fun k => [].getD k 0) hP hD hS (Nat.le_of_ble_eq_true rfl) (Nat.le_of_ble_eq_true rfl) dX9_setLast_39

set_option maxHeartbeats 4000000 in
set_option maxRecDepth 100000 in
theorem z_X9_setLast1 (l : Launch) (G : zG) (mm : Nat) (nw : Nat) (cq : Nat) (hi : Nat) (ko : Nat) (se : Nat) (nf : Nat) (ns : Nat) (pi : Nat) (th : Int32) (vd : Nat) (lw : Nat) (hg : Nat) (rk : Nat) : zR l G yX9_setLast wsX9_setLast { frames := 0, cells := 0, slots := 0, locals := 0 } [(mm, .inr (9, [.int th, .ref nw, .ref cq, .ref hi, .int 0, .ref ko, .ref se, .int 0, .ref nf, .ref ns, .ref pi])), (nw, .inr (8, [.int 0, .int 0, .ref vd, .ref lw, .ref hg, .ref rk]))] [.ref mm, .int 1] (some (.int 0)) (fun u => [(mm, .inr (9, [.int 0, .ref nw, .ref cq, .ref hi, .int 0, .ref ko, .ref se, .int 0, .ref nf, .ref ns, .ref pi])), (nw, .inr (8, [.int 0, .int 1, .ref vd, .ref lw, .ref hg, .ref rk]))]) 0 0 := by
  refine zR_of (cc := cX9_setLast) (maxL := 3) (rt := (some .boolean)) (by decide) rfl (Nat.le_of_ble_eq_true rfl) ?_
  intro p e s m below meth c A ls hx hb hml hr hts hown hlocks hin hA hE hP hD hS hl
  have hl : lv_has ls 3 [(0, .ref mm), (1, .int 1)] := hl
  have hown : s.vm.findClass RX9 = some m.cls := hown
  have hP : va_P G.1 vwCl [(mm, .inr (9, [.int th, .ref nw, .ref cq, .ref hi, .int 0, .ref ko, .ref se, .int 0, .ref nf, .ref ns, .ref pi])), (nw, .inr (8, [.int 0, .int 0, .ref vd, .ref lw, .ref hg, .ref rk]))] s.heap := hP
  have hw9 : ∀ w ∈ u_ws RX9 TX9 11, w ∈ wsX9_setLast := by decide +kernel
  have hf40 := hts (.fieldLink RX9 40 "NettleModel" "thrown" "I") (by decide +kernel)
  have hf10 := hts (.fieldLink RX9 10 "NettleModel" "now" "LNettleModel$Wall;") (by decide +kernel)
  have hw8 : ∀ w ∈ u_ws RX8 TX8 6, w ∈ wsX9_setLast := by decide +kernel
  have hf136 := hts (.fieldLink RX9 136 "NettleModel$Wall" "last" "I") (by decide +kernel)
  refine lv_aload_n hx hb dX9_setLast_0 rfl (lv_at hl 0 rfl) ?_
  refine lv_iconst (v := 0) hx hb dX9_setLast_1 (by decide) ?_
  refine va_put (D := G.1) (ci := 9) (v := .int 0) (ty := tyX9 0) (C := RX9) (T := TX9) (N := 11) hx hb hts hw9 tyX9 tyX9_ok nmX9 hown hE.1 hP hD hS 0 rfl rfl 0 (by decide) hf40 (fun _ h9 => h9) rfl (by decide +kernel) rfl rfl (Nat.le_of_ble_eq_true rfl) dX9_setLast_2 (fun H locs hP hD hS => ?_)
  have hP : va_P G.1 vwCl [(mm, .inr (9, [.int 0, .ref nw, .ref cq, .ref hi, .int 0, .ref ko, .ref se, .int 0, .ref nf, .ref ns, .ref pi])), (nw, .inr (8, [.int 0, .int 0, .ref vd, .ref lw, .ref hg, .ref rk]))] H := hP
  have hD : va_D A [(mm, .inr (9, [.int 0, .ref nw, .ref cq, .ref hi, .int 0, .ref ko, .ref se, .int 0, .ref nf, .ref ns, .ref pi])), (nw, .inr (8, [.int 0, .int 0, .ref vd, .ref lw, .ref hg, .ref rk]))] := hD
  refine lv_aload_n hx hb dX9_setLast_5 rfl (lv_at hl 0 rfl) ?_
  refine va_get (D := G.1) (ci := 9) (v := .ref nw) (C := RX9) (T := TX9) (N := 11) hx hb hts hw9 hown hE.1 hP 0 rfl rfl 1 (by decide) hf10 (fun _ h9 => h9) rfl dX9_setLast_6 ?_
  refine va_get (D := G.1) (ci := 8) (v := .int 0) (C := RX8) (T := TX8) (N := 6) hx hb hts hw8 hown hE.1 hP 1 rfl rfl 1 (by decide) hf136 (fun _ h9 => h9) rfl dX9_setLast_9 ?_
  refine lv_iconst (v := 1) hx hb dX9_setLast_12 (by decide) ?_
  refine lv_icmp_ne (tgt := 20) hx hb dX9_setLast_13 (by decide) (fun _ => ?_) (fun h9 => absurd h9 (by decide))
  refine lv_iconst (v := 0) hx hb dX9_setLast_20 (by decide) ?_
  refine lv_istore_n (lv' := [(2, .int 0), (0, .ref mm), (1, .int 1)]) hx hb dX9_setLast_21 rfl hl (by decide) rfl (fun ls hl => ?_)
  refine lv_aload_n hx hb dX9_setLast_22 rfl (lv_at hl 1 rfl) ?_
  refine va_get (D := G.1) (ci := 9) (v := .ref nw) (C := RX9) (T := TX9) (N := 11) hx hb hts hw9 hown hE.1 hP 0 rfl rfl 1 (by decide) hf10 (fun _ h9 => h9) rfl dX9_setLast_23 ?_
  refine lv_iload_n hx hb dX9_setLast_26 rfl (lv_at hl 2 rfl) ?_
  refine lv_if_eq (tgt := 34) hx hb dX9_setLast_27 (by decide) (fun h9 => absurd h9 (by decide)) (fun _ => ?_)
  refine lv_iconst (v := 1) hx hb dX9_setLast_30 (by decide) ?_
  refine lv_goto (tgt := 35) hx hb dX9_setLast_31 (by decide) ?_
  refine va_put (D := G.1) (ci := 8) (v := .int 1) (ty := tyX8 1) (C := RX8) (T := TX8) (N := 6) hx hb hts hw8 tyX8 tyX8_ok nmX8 hown hE.1 hP hD hS 1 rfl rfl 1 (by decide) hf136 (fun _ h9 => h9) rfl (by decide +kernel) rfl rfl (Nat.le_of_ble_eq_true rfl) dX9_setLast_35 (fun H locs hP hD hS => ?_)
  have hP : va_P G.1 vwCl [(mm, .inr (9, [.int 0, .ref nw, .ref cq, .ref hi, .int 0, .ref ko, .ref se, .int 0, .ref nf, .ref ns, .ref pi])), (nw, .inr (8, [.int 0, .int 1, .ref vd, .ref lw, .ref hg, .ref rk]))] H := hP
  have hD : va_D A [(mm, .inr (9, [.int 0, .ref nw, .ref cq, .ref hi, .int 0, .ref ko, .ref se, .int 0, .ref nf, .ref ns, .ref pi])), (nw, .inr (8, [.int 0, .int 1, .ref vd, .ref lw, .ref hg, .ref rk]))] := hD
  refine lv_iload_n hx hb dX9_setLast_38 rfl (lv_at hl 0 rfl) ?_
  exact zend_z hx hb hr hlocks rfl (fun k => [].getD k 0) hP hD hS (Nat.le_of_ble_eq_true rfl) (Nat.le_of_ble_eq_true rfl) dX9_setLast_39

set_option maxHeartbeats 4000000 in
set_option maxRecDepth 100000 in
theorem z_X9_shrink (l : Launch) (G : zG) (mm : Nat) (nw : Nat) (cq : Nat) (hi : Nat) (ko : Nat) (se : Nat) (nf : Nat) (ns : Nat) (pi : Nat) (th : Int32) (vd : Nat) (lw : Nat) (hg : Nat) (rk : Nat) : zR l G yX9_shrink wsX9_shrink { frames := 0, cells := 0, slots := 0, locals := 0 } [(mm, .inr (9, [.int th, .ref nw, .ref cq, .ref hi, .int 0, .ref ko, .ref se, .int 0, .ref nf, .ref ns, .ref pi])), (nw, .inr (8, [.int 0, .int 0, .ref vd, .ref lw, .ref hg, .ref rk]))] [.ref mm] (some (.int 0)) (fun u => [(mm, .inr (9, [.int 0, .ref nw, .ref cq, .ref hi, .int 0, .ref ko, .ref se, .int 0, .ref nf, .ref ns, .ref pi])), (nw, .inr (8, [.int 0, .int 0, .ref vd, .ref lw, .ref hg, .ref rk]))]) 0 0 := by
  refine zR_of (cc := cX9_shrink) (maxL := 3) (rt := (some .int)) (by decide) rfl (Nat.le_of_ble_eq_true rfl) ?_
  intro p e s m below meth c A ls hx hb hml hr hts hown hlocks hin hA hE hP hD hS hl
  have hl : lv_has ls 3 [(0, .ref mm)] := hl
  have hown : s.vm.findClass RX9 = some m.cls := hown
  have hP : va_P G.1 vwCl [(mm, .inr (9, [.int th, .ref nw, .ref cq, .ref hi, .int 0, .ref ko, .ref se, .int 0, .ref nf, .ref ns, .ref pi])), (nw, .inr (8, [.int 0, .int 0, .ref vd, .ref lw, .ref hg, .ref rk]))] s.heap := hP
  have hw9 : ∀ w ∈ u_ws RX9 TX9 11, w ∈ wsX9_shrink := by decide +kernel
  have hf10 := hts (.fieldLink RX9 10 "NettleModel" "now" "LNettleModel$Wall;") (by decide +kernel)
  have hw8 : ∀ w ∈ u_ws RX8 TX8 6, w ∈ wsX9_shrink := by decide +kernel
  have hf83 := hts (.fieldLink RX9 83 "NettleModel$Wall" "many" "I") (by decide +kernel)
  have hf40 := hts (.fieldLink RX9 40 "NettleModel" "thrown" "I") (by decide +kernel)
  refine lv_iconst (v := 0) hx hb dX9_shrink_0 (by decide) ?_
  refine lv_istore_n (lv' := [(1, .int 0), (0, .ref mm)]) hx hb dX9_shrink_1 rfl hl (by decide) rfl (fun ls hl => ?_)
  refine lv_iconst (v := 0) hx hb dX9_shrink_2 (by decide) ?_
  refine lv_istore_n (lv' := [(2, .int 0), (1, .int 0), (0, .ref mm)]) hx hb dX9_shrink_3 rfl hl (by decide) rfl (fun ls hl => ?_)
  refine lv_iload_n hx hb dX9_shrink_4 rfl (lv_at hl 0 rfl) ?_
  refine lv_aload_n hx hb dX9_shrink_5 rfl (lv_at hl 2 rfl) ?_
  refine va_get (D := G.1) (ci := 9) (v := .ref nw) (C := RX9) (T := TX9) (N := 11) hx hb hts hw9 hown hE.1 hP 0 rfl rfl 1 (by decide) hf10 (fun _ h9 => h9) rfl dX9_shrink_6 ?_
  refine va_get (D := G.1) (ci := 8) (v := .int 0) (C := RX8) (T := TX8) (N := 6) hx hb hts hw8 hown hE.1 hP 1 rfl rfl 0 (by decide) hf83 (fun _ h9 => h9) rfl dX9_shrink_9 ?_
  refine lv_icmp_ge (tgt := 42) hx hb dX9_shrink_12 (by decide) (fun _ => ?_) (fun h9 => absurd (by decide) h9)
  refine lv_aload_n hx hb dX9_shrink_42 rfl (lv_at hl 2 rfl) ?_
  refine lv_iconst (v := 0) hx hb dX9_shrink_43 (by decide) ?_
  refine va_put (D := G.1) (ci := 9) (v := .int 0) (ty := tyX9 0) (C := RX9) (T := TX9) (N := 11) hx hb hts hw9 tyX9 tyX9_ok nmX9 hown hE.1 hP hD hS 0 rfl rfl 0 (by decide) hf40 (fun _ h9 => h9) rfl (by decide +kernel) rfl rfl (Nat.le_of_ble_eq_true rfl) dX9_shrink_44 (fun H locs hP hD hS => ?_)
  have hP : va_P G.1 vwCl [(mm, .inr (9, [.int 0, .ref nw, .ref cq, .ref hi, .int 0, .ref ko, .ref se, .int 0, .ref nf, .ref ns, .ref pi])), (nw, .inr (8, [.int 0, .int 0, .ref vd, .ref lw, .ref hg, .ref rk]))] H := hP
  have hD : va_D A [(mm, .inr (9, [.int 0, .ref nw, .ref cq, .ref hi, .int 0, .ref ko, .ref se, .int 0, .ref nf, .ref ns, .ref pi])), (nw, .inr (8, [.int 0, .int 0, .ref vd, .ref lw, .ref hg, .ref rk]))] := hD
  refine lv_iload_n hx hb dX9_shrink_47 rfl (lv_at hl 1 rfl) ?_
  exact zend_i hx hb hr hlocks (fun k => [].getD k 0) hP hD hS (Nat.le_of_ble_eq_true rfl) (Nat.le_of_ble_eq_true rfl) dX9_shrink_48

set_option maxHeartbeats 4000000 in
set_option maxRecDepth 100000 in
theorem z_X9_rules (l : Launch) (G : zG) (mm : Nat) (nw : Nat) (cq : Nat) (hi : Nat) (ko : Nat) (se : Nat) (nf : Nat) (ns : Nat) (pi : Nat) (th : Int32) (vd : Nat) (lw : Nat) (hg : Nat) (rk : Nat) : zR l G yX9_rules wsX9_rules { frames := 1, cells := 0, slots := 0, locals := 21 } [(mm, .inr (9, [.int th, .ref nw, .ref cq, .ref hi, .int 0, .ref ko, .ref se, .int 0, .ref nf, .ref ns, .ref pi])), (nw, .inr (8, [.int 0, .int 0, .ref vd, .ref lw, .ref hg, .ref rk]))] [.ref mm] (some (.int 0)) (fun u => [(nw, .inr (8, [.int 0, .int 0, .ref vd, .ref lw, .ref hg, .ref rk])), (mm, .inr (9, [.int 0, .ref nw, .ref cq, .ref hi, .int 0, .ref ko, .ref se, .int 0, .ref nf, .ref ns, .ref pi]))]) 0 0 := by
  refine zR_of (cc := cX9_rules) (maxL := 1) (rt := (some .int)) (by decide) rfl (Nat.le_of_ble_eq_true rfl) ?_
  intro p e s m below meth c A ls hx hb hml hr hts hown hlocks hin hA hE hP hD hS hl
  have hl : lv_has ls 1 [(0, .ref mm)] := hl
  have hown : s.vm.findClass RX9 = some m.cls := hown
  have hP : va_P G.1 vwCl [(mm, .inr (9, [.int th, .ref nw, .ref cq, .ref hi, .int 0, .ref ko, .ref se, .int 0, .ref nf, .ref ns, .ref pi])), (nw, .inr (8, [.int 0, .int 0, .ref vd, .ref lw, .ref hg, .ref rk]))] s.heap := hP
  have hw9 : ∀ w ∈ u_ws RX9 TX9 11, w ∈ wsX9_rules := by decide +kernel
  have hf10 := hts (.fieldLink RX9 10 "NettleModel" "now" "LNettleModel$Wall;") (by decide +kernel)
  have hw8 : ∀ w ∈ u_ws RX8 TX8 6, w ∈ wsX9_rules := by decide +kernel
  have hf83 := hts (.fieldLink RX9 83 "NettleModel$Wall" "many" "I") (by decide +kernel)
  refine lv_aload_n hx hb dX9_rules_0 rfl (lv_at hl 0 rfl) ?_
  refine lv_aload_n hx hb dX9_rules_1 rfl (lv_at hl 0 rfl) ?_
  refine va_get (D := G.1) (ci := 9) (v := .ref nw) (C := RX9) (T := TX9) (N := 11) hx hb hts hw9 hown hE.1 hP 0 rfl rfl 1 (by decide) hf10 (fun _ h9 => h9) rfl dX9_rules_2 ?_
  refine va_get (D := G.1) (ci := 8) (v := .int 0) (C := RX8) (T := TX8) (N := 6) hx hb hts hw8 hown hE.1 hP 1 rfl rfl 0 (by decide) hf83 (fun _ h9 => h9) rfl dX9_rules_5 ?_
  refine zcall (wr := [(nw, .inr (8, [.int 0, .int 0, .ref vd, .ref lw, .ref hg, .ref rk]))]) (va_runV (As := [.int 0]) (rest := []) ⟨hx, hb, hml, hown, hts⟩ (z_X9_ok l G mm nw cq hi ko se nf ns pi th 0 s.heap.size) (cwV 1 hts gX9_rules_X9_ok rfl rfl rfl (by decide +kernel) ⟨Nat.le_of_ble_eq_true rfl, Nat.le_of_ble_eq_true rfl⟩) (zPreV (Wc := [(mm, .inr (9, [.int th, .ref nw, .ref cq, .ref hi, .int 0, .ref ko, .ref se, .int 0, .ref nf, .ref ns, .ref pi]))]) (q0 := 0) (ci := 9) (q := (RX9, TX9, 11)) hP hD hE hS hA [0] rfl (by decide) rfl rfl) rfl rfl hl.1 rfl (lv_room (Nat.le_of_ble_eq_true rfl)) dX9_rules_8 ⟨Nat.le_of_ble_eq_true rfl, Nat.le_of_ble_eq_true rfl⟩) hP hD hS hA [0] [1] rfl rfl (by decide) (by decide) (fun u1 H locs hP hD hS => ?_)
  have hP : va_P G.1 vwCl [(nw, .inr (8, [.int 0, .int 0, .ref vd, .ref lw, .ref hg, .ref rk])), (mm, .inr (9, [.int 0, .ref nw, .ref cq, .ref hi, .int 0, .ref ko, .ref se, .int 0, .ref nf, .ref ns, .ref pi]))] H := hP
  have hD : va_D A [(nw, .inr (8, [.int 0, .int 0, .ref vd, .ref lw, .ref hg, .ref rk])), (mm, .inr (9, [.int 0, .ref nw, .ref cq, .ref hi, .int 0, .ref ko, .ref se, .int 0, .ref nf, .ref ns, .ref pi]))] := hD
  refine W.eq (g2 := F0 m 11 ls [.int 0]) rfl ?_
  exact zend_i hx hb hr hlocks (fun k => [].getD k 0) hP hD hS (Nat.le_of_ble_eq_true rfl) (Nat.le_of_ble_eq_true rfl) dX9_rules_11

set_option maxHeartbeats 4000000 in
set_option maxRecDepth 100000 in
theorem z_X9_allowedBy (l : Launch) (G : zG) (mm : Nat) (nw : Nat) (cq : Nat) (hi : Nat) (ko : Nat) (se : Nat) (nf : Nat) (ns : Nat) (pi : Nat) (th : Int32) (vd : Nat) (lw : Nat) (hg : Nat) (rk : Nat) : zR l G yX9_allowedBy wsX9_allowedBy { frames := 2, cells := 1, slots := 1024, locals := 50 } [(mm, .inr (9, [.int th, .ref nw, .ref cq, .ref hi, .int 0, .ref ko, .ref se, .int 0, .ref nf, .ref ns, .ref pi])), (nw, .inr (8, [.int 0, .int 0, .ref vd, .ref lw, .ref hg, .ref rk]))] [.ref mm, .int 0] (some (.int 0)) (fun u => [(mm, .inr (9, [.int th, .ref nw, .ref cq, .ref hi, .int 0, .ref ko, .ref se, .int 0, .ref nf, .ref ns, .ref pi])), (nw, .inr (8, [.int 0, .int 0, .ref vd, .ref lw, .ref hg, .ref (u 0)]))]) 1 1024 := by
  refine zR_of (cc := cX9_allowedBy) (maxL := 2) (rt := (some .int)) (by decide) rfl (Nat.le_of_ble_eq_true rfl) ?_
  intro p e s m below meth c A ls hx hb hml hr hts hown hlocks hin hA hE hP hD hS hl
  have hl : lv_has ls 2 [(0, .ref mm), (1, .int 0)] := hl
  have hown : s.vm.findClass RX9 = some m.cls := hown
  have hP : va_P G.1 vwCl [(mm, .inr (9, [.int th, .ref nw, .ref cq, .ref hi, .int 0, .ref ko, .ref se, .int 0, .ref nf, .ref ns, .ref pi])), (nw, .inr (8, [.int 0, .int 0, .ref vd, .ref lw, .ref hg, .ref rk]))] s.heap := hP
  have hw9 : ∀ w ∈ u_ws RX9 TX9 11, w ∈ wsX9_allowedBy := by decide +kernel
  have hf10 := hts (.fieldLink RX9 10 "NettleModel" "now" "LNettleModel$Wall;") (by decide +kernel)
  refine lv_aload_n hx hb dX9_allowedBy_0 rfl (lv_at hl 0 rfl) ?_
  refine va_get (D := G.1) (ci := 9) (v := .ref nw) (C := RX9) (T := TX9) (N := 11) hx hb hts hw9 hown hE.1 hP 0 rfl rfl 1 (by decide) hf10 (fun _ h9 => h9) rfl dX9_allowedBy_1 ?_
  refine zcall (wr := [(mm, .inr (9, [.int th, .ref nw, .ref cq, .ref hi, .int 0, .ref ko, .ref se, .int 0, .ref nf, .ref ns, .ref pi]))]) (va_runV (As := []) (rest := []) ⟨hx, hb, hml, hown, hts⟩ (z_X8_forget l G nw vd lw hg rk s.heap.size) (cwV 0 hts gX9_allowedBy_X8_forget rfl rfl rfl (by decide +kernel) ⟨Nat.le_of_ble_eq_true rfl, Nat.le_of_ble_eq_true rfl⟩) (zPreV (Wc := [(nw, .inr (8, [.int 0, .int 0, .ref vd, .ref lw, .ref hg, .ref rk]))]) (q0 := 1) (ci := 8) (q := (RX8, TX8, 6)) hP hD hE hS hA [1] rfl (by decide) rfl rfl) rfl rfl hl.1 rfl (lv_room (Nat.le_of_ble_eq_true rfl)) dX9_allowedBy_4 ⟨Nat.le_of_ble_eq_true rfl, Nat.le_of_ble_eq_true rfl⟩) hP hD hS hA [1] [0] rfl rfl (by decide) (by decide) (fun u1 H locs hP hD hS => ?_)
  have hP : va_P G.1 vwCl [(mm, .inr (9, [.int th, .ref nw, .ref cq, .ref hi, .int 0, .ref ko, .ref se, .int 0, .ref nf, .ref ns, .ref pi])), (nw, .inr (8, [.int 0, .int 0, .ref vd, .ref lw, .ref hg, .ref (u1 0)]))] H := hP
  have hD : va_D A [(mm, .inr (9, [.int th, .ref nw, .ref cq, .ref hi, .int 0, .ref ko, .ref se, .int 0, .ref nf, .ref ns, .ref pi])), (nw, .inr (8, [.int 0, .int 0, .ref vd, .ref lw, .ref hg, .ref (u1 0)]))] := hD
  refine W.eq (g2 := F0 m 7 ls []) rfl ?_
  refine lv_aload_n hx hb dX9_allowedBy_7 rfl (lv_at hl 0 rfl) ?_
  refine va_get (D := G.1) (ci := 9) (v := .ref nw) (C := RX9) (T := TX9) (N := 11) hx hb hts hw9 hown hE.1 hP 0 rfl rfl 1 (by decide) hf10 (fun _ h9 => h9) rfl dX9_allowedBy_8 ?_
  refine lv_iconst (v := 0) hx hb dX9_allowedBy_11 (by decide) ?_
  refine lv_iload_n hx hb dX9_allowedBy_12 rfl (lv_at hl 1 rfl) ?_
  refine zcall (wr := [(mm, .inr (9, [.int th, .ref nw, .ref cq, .ref hi, .int 0, .ref ko, .ref se, .int 0, .ref nf, .ref ns, .ref pi]))]) (va_runV (As := [.int 0, .int 0]) (rest := []) ⟨hx, hb, hml, hown, hts⟩ (z_X8_allowed l G nw vd lw hg (u1 0) H.size) (cwV 2 hts gX9_allowedBy_X8_allowed rfl rfl rfl (by decide +kernel) ⟨Nat.le_of_ble_eq_true rfl, Nat.le_of_ble_eq_true rfl⟩) (zPreV (Wc := [(nw, .inr (8, [.int 0, .int 0, .ref vd, .ref lw, .ref hg, .ref (u1 0)]))]) (q0 := 1) (ci := 8) (q := (RX8, TX8, 6)) hP hD hE hS hA [1] rfl (by decide) rfl rfl) rfl rfl hl.1 rfl (lv_room (Nat.le_of_ble_eq_true rfl)) dX9_allowedBy_13 ⟨Nat.le_of_ble_eq_true rfl, Nat.le_of_ble_eq_true rfl⟩) hP hD hS hA [1] [0] rfl rfl (by decide) (by decide) (fun u2 H locs hP hD hS => ?_)
  have hP : va_P G.1 vwCl [(mm, .inr (9, [.int th, .ref nw, .ref cq, .ref hi, .int 0, .ref ko, .ref se, .int 0, .ref nf, .ref ns, .ref pi])), (nw, .inr (8, [.int 0, .int 0, .ref vd, .ref lw, .ref hg, .ref (u1 0)]))] H := hP
  have hD : va_D A [(mm, .inr (9, [.int th, .ref nw, .ref cq, .ref hi, .int 0, .ref ko, .ref se, .int 0, .ref nf, .ref ns, .ref pi])), (nw, .inr (8, [.int 0, .int 0, .ref vd, .ref lw, .ref hg, .ref (u1 0)]))] := hD
  refine W.eq (g2 := F0 m 16 ls [.int 0]) rfl ?_
  exact zend_i hx hb hr hlocks (fun k => [(u1 0)].getD k 0) hP hD hS (Nat.le_of_ble_eq_true rfl) (Nat.le_of_ble_eq_true rfl) dX9_allowedBy_16

set_option maxHeartbeats 4000000 in
set_option maxRecDepth 100000 in
theorem z_X9_allowed (l : Launch) (G : zG) (mm : Nat) (nw : Nat) (cq : Nat) (hi : Nat) (ko : Nat) (se : Nat) (nf : Nat) (ns : Nat) (pi : Nat) (th : Int32) (vd : Nat) (lw : Nat) (hg : Nat) (rk : Nat) : zR l G yX9_allowed wsX9_allowed { frames := 3, cells := 1, slots := 1024, locals := 71 } [(mm, .inr (9, [.int th, .ref nw, .ref cq, .ref hi, .int 0, .ref ko, .ref se, .int 0, .ref nf, .ref ns, .ref pi])), (nw, .inr (8, [.int 0, .int 0, .ref vd, .ref lw, .ref hg, .ref rk]))] [.ref mm] (some (.int 0)) (fun u => [(nw, .inr (8, [.int 0, .int 0, .ref vd, .ref lw, .ref hg, .ref (u 0)])), (mm, .inr (9, [.int 0, .ref nw, .ref cq, .ref hi, .int 0, .ref ko, .ref se, .int 0, .ref nf, .ref ns, .ref pi]))]) 1 1024 := by
  refine zR_of (cc := cX9_allowed) (maxL := 1) (rt := (some .int)) (by decide) rfl (Nat.le_of_ble_eq_true rfl) ?_
  intro p e s m below meth c A ls hx hb hml hr hts hown hlocks hin hA hE hP hD hS hl
  have hl : lv_has ls 1 [(0, .ref mm)] := hl
  have hown : s.vm.findClass RX9 = some m.cls := hown
  have hP : va_P G.1 vwCl [(mm, .inr (9, [.int th, .ref nw, .ref cq, .ref hi, .int 0, .ref ko, .ref se, .int 0, .ref nf, .ref ns, .ref pi])), (nw, .inr (8, [.int 0, .int 0, .ref vd, .ref lw, .ref hg, .ref rk]))] s.heap := hP
  have hw9 : ∀ w ∈ u_ws RX9 TX9 11, w ∈ wsX9_allowed := by decide +kernel
  have hf10 := hts (.fieldLink RX9 10 "NettleModel" "now" "LNettleModel$Wall;") (by decide +kernel)
  refine lv_aload_n hx hb dX9_allowed_0 rfl (lv_at hl 0 rfl) ?_
  refine lv_aload_n hx hb dX9_allowed_1 rfl (lv_at hl 0 rfl) ?_
  refine lv_aload_n hx hb dX9_allowed_2 rfl (lv_at hl 0 rfl) ?_
  refine va_get (D := G.1) (ci := 9) (v := .ref nw) (C := RX9) (T := TX9) (N := 11) hx hb hts hw9 hown hE.1 hP 0 rfl rfl 1 (by decide) hf10 (fun _ h9 => h9) rfl dX9_allowed_3 ?_
  refine zcall (wr := [(mm, .inr (9, [.int th, .ref nw, .ref cq, .ref hi, .int 0, .ref ko, .ref se, .int 0, .ref nf, .ref ns, .ref pi]))]) (va_runV (As := []) (rest := [.ref mm, .ref mm]) ⟨hx, hb, hml, hown, hts⟩ (z_X8_all l G nw vd lw hg rk s.heap.size) (cwV 0 hts gX9_allowed_X8_all rfl rfl rfl (by decide +kernel) ⟨Nat.le_of_ble_eq_true rfl, Nat.le_of_ble_eq_true rfl⟩) (zPreV (Wc := [(nw, .inr (8, [.int 0, .int 0, .ref vd, .ref lw, .ref hg, .ref rk]))]) (q0 := 1) (ci := 8) (q := (RX8, TX8, 6)) hP hD hE hS hA [1] rfl (by decide) rfl rfl) rfl rfl hl.1 rfl (lv_room (Nat.le_of_ble_eq_true rfl)) dX9_allowed_6 ⟨Nat.le_of_ble_eq_true rfl, Nat.le_of_ble_eq_true rfl⟩) hP hD hS hA [1] [0] rfl rfl (by decide) (by decide) (fun u1 H locs hP hD hS => ?_)
  have hP : va_P G.1 vwCl [(mm, .inr (9, [.int th, .ref nw, .ref cq, .ref hi, .int 0, .ref ko, .ref se, .int 0, .ref nf, .ref ns, .ref pi])), (nw, .inr (8, [.int 0, .int 0, .ref vd, .ref lw, .ref hg, .ref rk]))] H := hP
  have hD : va_D A [(mm, .inr (9, [.int th, .ref nw, .ref cq, .ref hi, .int 0, .ref ko, .ref se, .int 0, .ref nf, .ref ns, .ref pi])), (nw, .inr (8, [.int 0, .int 0, .ref vd, .ref lw, .ref hg, .ref rk]))] := hD
  refine W.eq (g2 := F0 m 9 ls [.int 0, .ref mm, .ref mm]) rfl ?_
  refine zcall (wr := []) (va_runV (As := [.int 0]) (rest := [.ref mm]) ⟨hx, hb, hml, hown, hts⟩ (z_X9_allowedBy l G mm nw cq hi ko se nf ns pi th vd lw hg rk H.size) (cwV 1 hts gX9_allowed_X9_allowedBy rfl rfl rfl (by decide +kernel) ⟨Nat.le_of_ble_eq_true rfl, Nat.le_of_ble_eq_true rfl⟩) (zPreV (Wc := [(mm, .inr (9, [.int th, .ref nw, .ref cq, .ref hi, .int 0, .ref ko, .ref se, .int 0, .ref nf, .ref ns, .ref pi])), (nw, .inr (8, [.int 0, .int 0, .ref vd, .ref lw, .ref hg, .ref rk]))]) (q0 := 0) (ci := 9) (q := (RX9, TX9, 11)) hP hD hE hS hA [0, 1] rfl (by decide) rfl rfl) rfl rfl hl.1 rfl (lv_room (Nat.le_of_ble_eq_true rfl)) dX9_allowed_9 ⟨Nat.le_of_ble_eq_true rfl, Nat.le_of_ble_eq_true rfl⟩) hP hD hS hA [0, 1] [] rfl rfl (by decide) (by decide) (fun u2 H locs hP hD hS => ?_)
  have hP : va_P G.1 vwCl [(mm, .inr (9, [.int th, .ref nw, .ref cq, .ref hi, .int 0, .ref ko, .ref se, .int 0, .ref nf, .ref ns, .ref pi])), (nw, .inr (8, [.int 0, .int 0, .ref vd, .ref lw, .ref hg, .ref (u2 0)]))] H := hP
  have hD : va_D A [(mm, .inr (9, [.int th, .ref nw, .ref cq, .ref hi, .int 0, .ref ko, .ref se, .int 0, .ref nf, .ref ns, .ref pi])), (nw, .inr (8, [.int 0, .int 0, .ref vd, .ref lw, .ref hg, .ref (u2 0)]))] := hD
  refine W.eq (g2 := F0 m 12 ls [.int 0, .ref mm]) rfl ?_
  refine zcall (wr := [(nw, .inr (8, [.int 0, .int 0, .ref vd, .ref lw, .ref hg, .ref (u2 0)]))]) (va_runV (As := [.int 0]) (rest := []) ⟨hx, hb, hml, hown, hts⟩ (z_X9_ok l G mm nw cq hi ko se nf ns pi th 0 H.size) (cwV 1 hts gX9_allowed_X9_ok rfl rfl rfl (by decide +kernel) ⟨Nat.le_of_ble_eq_true rfl, Nat.le_of_ble_eq_true rfl⟩) (zPreV (Wc := [(mm, .inr (9, [.int th, .ref nw, .ref cq, .ref hi, .int 0, .ref ko, .ref se, .int 0, .ref nf, .ref ns, .ref pi]))]) (q0 := 0) (ci := 9) (q := (RX9, TX9, 11)) hP hD hE hS hA [0] rfl (by decide) rfl rfl) rfl rfl hl.1 rfl (lv_room (Nat.le_of_ble_eq_true rfl)) dX9_allowed_12 ⟨Nat.le_of_ble_eq_true rfl, Nat.le_of_ble_eq_true rfl⟩) hP hD hS hA [0] [1] rfl rfl (by decide) (by decide) (fun u3 H locs hP hD hS => ?_)
  have hP : va_P G.1 vwCl [(nw, .inr (8, [.int 0, .int 0, .ref vd, .ref lw, .ref hg, .ref (u2 0)])), (mm, .inr (9, [.int 0, .ref nw, .ref cq, .ref hi, .int 0, .ref ko, .ref se, .int 0, .ref nf, .ref ns, .ref pi]))] H := hP
  have hD : va_D A [(nw, .inr (8, [.int 0, .int 0, .ref vd, .ref lw, .ref hg, .ref (u2 0)])), (mm, .inr (9, [.int 0, .ref nw, .ref cq, .ref hi, .int 0, .ref ko, .ref se, .int 0, .ref nf, .ref ns, .ref pi]))] := hD
  refine W.eq (g2 := F0 m 15 ls [.int 0]) rfl ?_
  exact zend_i hx hb hr hlocks (fun k => [(u2 0)].getD k 0) hP hD hS (Nat.le_of_ble_eq_true rfl) (Nat.le_of_ble_eq_true rfl) dX9_allowed_15

set_option maxHeartbeats 4000000 in
set_option maxRecDepth 100000 in
theorem z_X9_quarrelsNow (l : Launch) (G : zG) (mm : Nat) (nw : Nat) (cq : Nat) (hi : Nat) (ko : Nat) (se : Nat) (nf : Nat) (ns : Nat) (pi : Nat) (th : Int32) (vd : Nat) (lw : Nat) (hg : Nat) (rk : Nat) : zR l G yX9_quarrelsNow wsX9_quarrelsNow { frames := 0, cells := 0, slots := 0, locals := 0 } [(mm, .inr (9, [.int th, .ref nw, .ref cq, .ref hi, .int 0, .ref ko, .ref se, .int 0, .ref nf, .ref ns, .ref pi])), (nw, .inr (8, [.int 0, .int 0, .ref vd, .ref lw, .ref hg, .ref rk]))] [.ref mm] (some (.int 0)) (fun u => [(mm, .inr (9, [.int th, .ref nw, .ref cq, .ref hi, .int 0, .ref ko, .ref se, .int 0, .ref nf, .ref ns, .ref pi])), (nw, .inr (8, [.int 0, .int 0, .ref vd, .ref lw, .ref hg, .ref rk]))]) 0 0 := by
  refine zR_of (cc := cX9_quarrelsNow) (maxL := 4) (rt := (some .int)) (by decide) rfl (Nat.le_of_ble_eq_true rfl) ?_
  intro p e s m below meth c A ls hx hb hml hr hts hown hlocks hin hA hE hP hD hS hl
  have hl : lv_has ls 4 [(0, .ref mm)] := hl
  have hown : s.vm.findClass RX9 = some m.cls := hown
  have hP : va_P G.1 vwCl [(mm, .inr (9, [.int th, .ref nw, .ref cq, .ref hi, .int 0, .ref ko, .ref se, .int 0, .ref nf, .ref ns, .ref pi])), (nw, .inr (8, [.int 0, .int 0, .ref vd, .ref lw, .ref hg, .ref rk]))] s.heap := hP
  have hw9 : ∀ w ∈ u_ws RX9 TX9 11, w ∈ wsX9_quarrelsNow := by decide +kernel
  have hf10 := hts (.fieldLink RX9 10 "NettleModel" "now" "LNettleModel$Wall;") (by decide +kernel)
  have hw8 : ∀ w ∈ u_ws RX8 TX8 6, w ∈ wsX9_quarrelsNow := by decide +kernel
  have hf83 := hts (.fieldLink RX9 83 "NettleModel$Wall" "many" "I") (by decide +kernel)
  refine lv_iconst (v := 0) hx hb dX9_quarrelsNow_0 (by decide) ?_
  refine lv_istore_n (lv' := [(1, .int 0), (0, .ref mm)]) hx hb dX9_quarrelsNow_1 rfl hl (by decide) rfl (fun ls hl => ?_)
  refine lv_iconst (v := 0) hx hb dX9_quarrelsNow_2 (by decide) ?_
  refine lv_istore_n (lv' := [(2, .int 0), (1, .int 0), (0, .ref mm)]) hx hb dX9_quarrelsNow_3 rfl hl (by decide) rfl (fun ls hl => ?_)
  refine lv_iload_n hx hb dX9_quarrelsNow_4 rfl (lv_at hl 0 rfl) ?_
  refine lv_aload_n hx hb dX9_quarrelsNow_5 rfl (lv_at hl 2 rfl) ?_
  refine va_get (D := G.1) (ci := 9) (v := .ref nw) (C := RX9) (T := TX9) (N := 11) hx hb hts hw9 hown hE.1 hP 0 rfl rfl 1 (by decide) hf10 (fun _ h9 => h9) rfl dX9_quarrelsNow_6 ?_
  refine va_get (D := G.1) (ci := 8) (v := .int 0) (C := RX8) (T := TX8) (N := 6) hx hb hts hw8 hown hE.1 hP 1 rfl rfl 0 (by decide) hf83 (fun _ h9 => h9) rfl dX9_quarrelsNow_9 ?_
  refine lv_icmp_ge (tgt := 74) hx hb dX9_quarrelsNow_12 (by decide) (fun _ => ?_) (fun h9 => absurd (by decide) h9)
  refine lv_iload_n hx hb dX9_quarrelsNow_74 rfl (lv_at hl 1 rfl) ?_
  exact zend_i hx hb hr hlocks (fun k => [].getD k 0) hP hD hS (Nat.le_of_ble_eq_true rfl) (Nat.le_of_ble_eq_true rfl) dX9_quarrelsNow_75

set_option maxHeartbeats 4000000 in
set_option maxRecDepth 100000 in
theorem z_X9_quarrels (l : Launch) (G : zG) (mm : Nat) (nw : Nat) (cq : Nat) (hi : Nat) (ko : Nat) (se : Nat) (nf : Nat) (ns : Nat) (pi : Nat) (th : Int32) (vd : Nat) (lw : Nat) (hg : Nat) (rk : Nat) : zR l G yX9_quarrels wsX9_quarrels { frames := 1, cells := 0, slots := 0, locals := 23 } [(mm, .inr (9, [.int th, .ref nw, .ref cq, .ref hi, .int 0, .ref ko, .ref se, .int 0, .ref nf, .ref ns, .ref pi])), (nw, .inr (8, [.int 0, .int 0, .ref vd, .ref lw, .ref hg, .ref rk]))] [.ref mm] (some (.int 0)) (fun u => [(nw, .inr (8, [.int 0, .int 0, .ref vd, .ref lw, .ref hg, .ref rk])), (mm, .inr (9, [.int 0, .ref nw, .ref cq, .ref hi, .int 0, .ref ko, .ref se, .int 0, .ref nf, .ref ns, .ref pi]))]) 0 0 := by
  refine zR_of (cc := cX9_quarrels) (maxL := 1) (rt := (some .int)) (by decide) rfl (Nat.le_of_ble_eq_true rfl) ?_
  intro p e s m below meth c A ls hx hb hml hr hts hown hlocks hin hA hE hP hD hS hl
  have hl : lv_has ls 1 [(0, .ref mm)] := hl
  have hown : s.vm.findClass RX9 = some m.cls := hown
  have hP : va_P G.1 vwCl [(mm, .inr (9, [.int th, .ref nw, .ref cq, .ref hi, .int 0, .ref ko, .ref se, .int 0, .ref nf, .ref ns, .ref pi])), (nw, .inr (8, [.int 0, .int 0, .ref vd, .ref lw, .ref hg, .ref rk]))] s.heap := hP
  refine lv_aload_n hx hb dX9_quarrels_0 rfl (lv_at hl 0 rfl) ?_
  refine lv_aload_n hx hb dX9_quarrels_1 rfl (lv_at hl 0 rfl) ?_
  refine zcall (wr := []) (va_runV (As := []) (rest := [.ref mm]) ⟨hx, hb, hml, hown, hts⟩ (z_X9_quarrelsNow l G mm nw cq hi ko se nf ns pi th vd lw hg rk s.heap.size) (cwV 0 hts gX9_quarrels_X9_quarrelsNow rfl rfl rfl (by decide +kernel) ⟨Nat.le_of_ble_eq_true rfl, Nat.le_of_ble_eq_true rfl⟩) (zPreV (Wc := [(mm, .inr (9, [.int th, .ref nw, .ref cq, .ref hi, .int 0, .ref ko, .ref se, .int 0, .ref nf, .ref ns, .ref pi])), (nw, .inr (8, [.int 0, .int 0, .ref vd, .ref lw, .ref hg, .ref rk]))]) (q0 := 0) (ci := 9) (q := (RX9, TX9, 11)) hP hD hE hS hA [0, 1] rfl (by decide) rfl rfl) rfl rfl hl.1 rfl (lv_room (Nat.le_of_ble_eq_true rfl)) dX9_quarrels_2 ⟨Nat.le_of_ble_eq_true rfl, Nat.le_of_ble_eq_true rfl⟩) hP hD hS hA [0, 1] [] rfl rfl (by decide) (by decide) (fun u1 H locs hP hD hS => ?_)
  have hP : va_P G.1 vwCl [(mm, .inr (9, [.int th, .ref nw, .ref cq, .ref hi, .int 0, .ref ko, .ref se, .int 0, .ref nf, .ref ns, .ref pi])), (nw, .inr (8, [.int 0, .int 0, .ref vd, .ref lw, .ref hg, .ref rk]))] H := hP
  have hD : va_D A [(mm, .inr (9, [.int th, .ref nw, .ref cq, .ref hi, .int 0, .ref ko, .ref se, .int 0, .ref nf, .ref ns, .ref pi])), (nw, .inr (8, [.int 0, .int 0, .ref vd, .ref lw, .ref hg, .ref rk]))] := hD
  refine W.eq (g2 := F0 m 5 ls [.int 0, .ref mm]) rfl ?_
  refine zcall (wr := [(nw, .inr (8, [.int 0, .int 0, .ref vd, .ref lw, .ref hg, .ref rk]))]) (va_runV (As := [.int 0]) (rest := []) ⟨hx, hb, hml, hown, hts⟩ (z_X9_ok l G mm nw cq hi ko se nf ns pi th 0 H.size) (cwV 1 hts gX9_quarrels_X9_ok rfl rfl rfl (by decide +kernel) ⟨Nat.le_of_ble_eq_true rfl, Nat.le_of_ble_eq_true rfl⟩) (zPreV (Wc := [(mm, .inr (9, [.int th, .ref nw, .ref cq, .ref hi, .int 0, .ref ko, .ref se, .int 0, .ref nf, .ref ns, .ref pi]))]) (q0 := 0) (ci := 9) (q := (RX9, TX9, 11)) hP hD hE hS hA [0] rfl (by decide) rfl rfl) rfl rfl hl.1 rfl (lv_room (Nat.le_of_ble_eq_true rfl)) dX9_quarrels_5 ⟨Nat.le_of_ble_eq_true rfl, Nat.le_of_ble_eq_true rfl⟩) hP hD hS hA [0] [1] rfl rfl (by decide) (by decide) (fun u2 H locs hP hD hS => ?_)
  have hP : va_P G.1 vwCl [(nw, .inr (8, [.int 0, .int 0, .ref vd, .ref lw, .ref hg, .ref rk])), (mm, .inr (9, [.int 0, .ref nw, .ref cq, .ref hi, .int 0, .ref ko, .ref se, .int 0, .ref nf, .ref ns, .ref pi]))] H := hP
  have hD : va_D A [(nw, .inr (8, [.int 0, .int 0, .ref vd, .ref lw, .ref hg, .ref rk])), (mm, .inr (9, [.int 0, .ref nw, .ref cq, .ref hi, .int 0, .ref ko, .ref se, .int 0, .ref nf, .ref ns, .ref pi]))] := hD
  refine W.eq (g2 := F0 m 8 ls [.int 0]) rfl ?_
  exact zend_i hx hb hr hlocks (fun k => [].getD k 0) hP hD hS (Nat.le_of_ble_eq_true rfl) (Nat.le_of_ble_eq_true rfl) dX9_quarrels_8

set_option maxHeartbeats 4000000 in
set_option maxRecDepth 100000 in
theorem z_X9_build (l : Launch) (G : zG) (mm : Nat) (nw : Nat) (cq : Nat) (hi : Nat) (ko : Nat) (se : Nat) (nf : Nat) (ns : Nat) (pi : Nat) (th : Int32) (vd : Nat) (lw : Nat) (hg : Nat) (rk : Nat) : zR l G yX9_build wsX9_build { frames := 1, cells := 0, slots := 0, locals := 24 } [(mm, .inr (9, [.int th, .ref nw, .ref cq, .ref hi, .int 0, .ref ko, .ref se, .int 0, .ref nf, .ref ns, .ref pi])), (nw, .inr (8, [.int 0, .int 0, .ref vd, .ref lw, .ref hg, .ref rk]))] [.ref mm, .int 0, .int 0] (some (.int (-1))) (fun u => [(mm, .inr (9, [.int th, .ref nw, .ref cq, .ref hi, .int 0, .ref ko, .ref se, .int 0, .ref nf, .ref ns, .ref pi])), (nw, .inr (8, [.int 0, .int 0, .ref vd, .ref lw, .ref hg, .ref rk]))]) 0 0 := by
  refine zR_of (cc := cX9_build) (maxL := 10) (rt := (some .int)) (by decide) rfl (Nat.le_of_ble_eq_true rfl) ?_
  intro p e s m below meth c A ls hx hb hml hr hts hown hlocks hin hA hE hP hD hS hl
  have hl : lv_has ls 10 [(0, .ref mm), (1, .int 0), (2, .int 0)] := hl
  have hown : s.vm.findClass RX9 = some m.cls := hown
  have hP : va_P G.1 vwCl [(mm, .inr (9, [.int th, .ref nw, .ref cq, .ref hi, .int 0, .ref ko, .ref se, .int 0, .ref nf, .ref ns, .ref pi])), (nw, .inr (8, [.int 0, .int 0, .ref vd, .ref lw, .ref hg, .ref rk]))] s.heap := hP
  have hw9 : ∀ w ∈ u_ws RX9 TX9 11, w ∈ wsX9_build := by decide +kernel
  have hf10 := hts (.fieldLink RX9 10 "NettleModel" "now" "LNettleModel$Wall;") (by decide +kernel)
  refine lv_aload_n hx hb dX9_build_0 rfl (lv_at hl 0 rfl) ?_
  refine va_get (D := G.1) (ci := 9) (v := .ref nw) (C := RX9) (T := TX9) (N := 11) hx hb hts hw9 hown hE.1 hP 0 rfl rfl 1 (by decide) hf10 (fun _ h9 => h9) rfl dX9_build_1 ?_
  refine lv_iload_n hx hb dX9_build_4 rfl (lv_at hl 1 rfl) ?_
  refine lv_iload_n hx hb dX9_build_5 rfl (lv_at hl 2 rfl) ?_
  refine zcall (wr := [(mm, .inr (9, [.int th, .ref nw, .ref cq, .ref hi, .int 0, .ref ko, .ref se, .int 0, .ref nf, .ref ns, .ref pi]))]) (va_runV (As := [.int 0, .int 0]) (rest := []) ⟨hx, hb, hml, hown, hts⟩ (z_X8_isLed l G nw vd lw hg rk 0 s.heap.size) (cwV 2 hts gX9_build_X8_isLed rfl rfl rfl (by decide +kernel) ⟨Nat.le_of_ble_eq_true rfl, Nat.le_of_ble_eq_true rfl⟩) (zPreV (Wc := [(nw, .inr (8, [.int 0, .int 0, .ref vd, .ref lw, .ref hg, .ref rk]))]) (q0 := 1) (ci := 8) (q := (RX8, TX8, 6)) hP hD hE hS hA [1] rfl (by decide) rfl rfl) rfl rfl hl.1 rfl (lv_room (Nat.le_of_ble_eq_true rfl)) dX9_build_6 ⟨Nat.le_of_ble_eq_true rfl, Nat.le_of_ble_eq_true rfl⟩) hP hD hS hA [1] [0] rfl rfl (by decide) (by decide) (fun u1 H locs hP hD hS => ?_)
  have hP : va_P G.1 vwCl [(mm, .inr (9, [.int th, .ref nw, .ref cq, .ref hi, .int 0, .ref ko, .ref se, .int 0, .ref nf, .ref ns, .ref pi])), (nw, .inr (8, [.int 0, .int 0, .ref vd, .ref lw, .ref hg, .ref rk]))] H := hP
  have hD : va_D A [(mm, .inr (9, [.int th, .ref nw, .ref cq, .ref hi, .int 0, .ref ko, .ref se, .int 0, .ref nf, .ref ns, .ref pi])), (nw, .inr (8, [.int 0, .int 0, .ref vd, .ref lw, .ref hg, .ref rk]))] := hD
  refine W.eq (g2 := F0 m 9 ls [.int 1]) rfl ?_
  refine lv_if_eq (tgt := 28) hx hb dX9_build_9 (by decide) (fun h9 => absurd h9 (by decide)) (fun _ => ?_)
  refine lv_iload_n hx hb dX9_build_12 rfl (lv_at hl 2 rfl) ?_
  refine lv_if_ne (tgt := 20) hx hb dX9_build_13 (by decide) (fun h9 => absurd (by decide) h9) (fun _ => ?_)
  refine lv_iconst (v := (-1)) hx hb dX9_build_16 (by decide) ?_
  refine lv_goto (tgt := 27) hx hb dX9_build_17 (by decide) ?_
  exact zend_i hx hb hr hlocks (fun k => [].getD k 0) hP hD hS (Nat.le_of_ble_eq_true rfl) (Nat.le_of_ble_eq_true rfl) dX9_build_27

set_option maxHeartbeats 4000000 in
set_option maxRecDepth 100000 in
theorem z_X9_buildAll (l : Launch) (G : zG) (mm : Nat) (nw : Nat) (cq : Nat) (hi : Nat) (ko : Nat) (se : Nat) (nf : Nat) (ns : Nat) (pi : Nat) (th : Int32) (vd : Nat) (lw : Nat) (hg : Nat) (rk : Nat) : zR l G yX9_buildAll wsX9_buildAll { frames := 2, cells := 0, slots := 0, locals := 53 } [(mm, .inr (9, [.int th, .ref nw, .ref cq, .ref hi, .int 0, .ref ko, .ref se, .int 0, .ref nf, .ref ns, .ref pi])), (nw, .inr (8, [.int 0, .int 0, .ref vd, .ref lw, .ref hg, .ref rk]))] [.ref mm] none (fun u => [(mm, .inr (9, [.int th, .ref nw, .ref cq, .ref hi, .int 0, .ref ko, .ref se, .int 0, .ref nf, .ref ns, .ref pi])), (nw, .inr (8, [.int 0, .int 0, .ref vd, .ref lw, .ref hg, .ref rk]))]) 0 0 := by
  refine zR_of (cc := cX9_buildAll) (maxL := 1) (rt := none) (by decide) rfl (Nat.le_of_ble_eq_true rfl) ?_
  intro p e s m below meth c A ls hx hb hml hr hts hown hlocks hin hA hE hP hD hS hl
  have hl : lv_has ls 1 [(0, .ref mm)] := hl
  have hown : s.vm.findClass RX9 = some m.cls := hown
  have hP : va_P G.1 vwCl [(mm, .inr (9, [.int th, .ref nw, .ref cq, .ref hi, .int 0, .ref ko, .ref se, .int 0, .ref nf, .ref ns, .ref pi])), (nw, .inr (8, [.int 0, .int 0, .ref vd, .ref lw, .ref hg, .ref rk]))] s.heap := hP
  have hw9 : ∀ w ∈ u_ws RX9 TX9 11, w ∈ wsX9_buildAll := by decide +kernel
  have hf189 := hts (.fieldLink RX9 189 "NettleModel" "nodes" "I") (by decide +kernel)
  have hf10 := hts (.fieldLink RX9 10 "NettleModel" "now" "LNettleModel$Wall;") (by decide +kernel)
  refine lv_aload_n hx hb dX9_buildAll_0 rfl (lv_at hl 0 rfl) ?_
  refine lv_iconst (v := 0) hx hb dX9_buildAll_1 (by decide) ?_
  refine va_put (D := G.1) (ci := 9) (v := .int 0) (ty := tyX9 7) (C := RX9) (T := TX9) (N := 11) hx hb hts hw9 tyX9 tyX9_ok nmX9 hown hE.1 hP hD hS 0 rfl rfl 7 (by decide) hf189 (fun _ h9 => h9) rfl (by decide +kernel) rfl rfl (Nat.le_of_ble_eq_true rfl) dX9_buildAll_2 (fun H locs hP hD hS => ?_)
  have hP : va_P G.1 vwCl [(mm, .inr (9, [.int th, .ref nw, .ref cq, .ref hi, .int 0, .ref ko, .ref se, .int 0, .ref nf, .ref ns, .ref pi])), (nw, .inr (8, [.int 0, .int 0, .ref vd, .ref lw, .ref hg, .ref rk]))] H := hP
  have hD : va_D A [(mm, .inr (9, [.int th, .ref nw, .ref cq, .ref hi, .int 0, .ref ko, .ref se, .int 0, .ref nf, .ref ns, .ref pi])), (nw, .inr (8, [.int 0, .int 0, .ref vd, .ref lw, .ref hg, .ref rk]))] := hD
  refine lv_aload_n hx hb dX9_buildAll_5 rfl (lv_at hl 0 rfl) ?_
  refine lv_iconst (v := 0) hx hb dX9_buildAll_6 (by decide) ?_
  refine lv_aload_n hx hb dX9_buildAll_7 rfl (lv_at hl 0 rfl) ?_
  refine va_get (D := G.1) (ci := 9) (v := .ref nw) (C := RX9) (T := TX9) (N := 11) hx hb hts hw9 hown hE.1 hP 0 rfl rfl 1 (by decide) hf10 (fun _ h9 => h9) rfl dX9_buildAll_8 ?_
  refine zcall (wr := [(mm, .inr (9, [.int th, .ref nw, .ref cq, .ref hi, .int 0, .ref ko, .ref se, .int 0, .ref nf, .ref ns, .ref pi]))]) (va_runV (As := []) (rest := [.int 0, .ref mm]) ⟨hx, hb, hml, hown, hts⟩ (z_X8_all l G nw vd lw hg rk H.size) (cwV 0 hts gX9_buildAll_X8_all rfl rfl rfl (by decide +kernel) ⟨Nat.le_of_ble_eq_true rfl, Nat.le_of_ble_eq_true rfl⟩) (zPreV (Wc := [(nw, .inr (8, [.int 0, .int 0, .ref vd, .ref lw, .ref hg, .ref rk]))]) (q0 := 1) (ci := 8) (q := (RX8, TX8, 6)) hP hD hE hS hA [1] rfl (by decide) rfl rfl) rfl rfl hl.1 rfl (lv_room (Nat.le_of_ble_eq_true rfl)) dX9_buildAll_11 ⟨Nat.le_of_ble_eq_true rfl, Nat.le_of_ble_eq_true rfl⟩) hP hD hS hA [1] [0] rfl rfl (by decide) (by decide) (fun u1 H locs hP hD hS => ?_)
  have hP : va_P G.1 vwCl [(mm, .inr (9, [.int th, .ref nw, .ref cq, .ref hi, .int 0, .ref ko, .ref se, .int 0, .ref nf, .ref ns, .ref pi])), (nw, .inr (8, [.int 0, .int 0, .ref vd, .ref lw, .ref hg, .ref rk]))] H := hP
  have hD : va_D A [(mm, .inr (9, [.int th, .ref nw, .ref cq, .ref hi, .int 0, .ref ko, .ref se, .int 0, .ref nf, .ref ns, .ref pi])), (nw, .inr (8, [.int 0, .int 0, .ref vd, .ref lw, .ref hg, .ref rk]))] := hD
  refine W.eq (g2 := F0 m 14 ls [.int 0, .int 0, .ref mm]) rfl ?_
  refine zcall (wr := []) (va_runV (As := [.int 0, .int 0]) (rest := []) ⟨hx, hb, hml, hown, hts⟩ (z_X9_build l G mm nw cq hi ko se nf ns pi th vd lw hg rk H.size) (cwV 2 hts gX9_buildAll_X9_build rfl rfl rfl (by decide +kernel) ⟨Nat.le_of_ble_eq_true rfl, Nat.le_of_ble_eq_true rfl⟩) (zPreV (Wc := [(mm, .inr (9, [.int th, .ref nw, .ref cq, .ref hi, .int 0, .ref ko, .ref se, .int 0, .ref nf, .ref ns, .ref pi])), (nw, .inr (8, [.int 0, .int 0, .ref vd, .ref lw, .ref hg, .ref rk]))]) (q0 := 0) (ci := 9) (q := (RX9, TX9, 11)) hP hD hE hS hA [0, 1] rfl (by decide) rfl rfl) rfl rfl hl.1 rfl (lv_room (Nat.le_of_ble_eq_true rfl)) dX9_buildAll_14 ⟨Nat.le_of_ble_eq_true rfl, Nat.le_of_ble_eq_true rfl⟩) hP hD hS hA [0, 1] [] rfl rfl (by decide) (by decide) (fun u2 H locs hP hD hS => ?_)
  have hP : va_P G.1 vwCl [(mm, .inr (9, [.int th, .ref nw, .ref cq, .ref hi, .int 0, .ref ko, .ref se, .int 0, .ref nf, .ref ns, .ref pi])), (nw, .inr (8, [.int 0, .int 0, .ref vd, .ref lw, .ref hg, .ref rk]))] H := hP
  have hD : va_D A [(mm, .inr (9, [.int th, .ref nw, .ref cq, .ref hi, .int 0, .ref ko, .ref se, .int 0, .ref nf, .ref ns, .ref pi])), (nw, .inr (8, [.int 0, .int 0, .ref vd, .ref lw, .ref hg, .ref rk]))] := hD
  refine W.eq (g2 := F0 m 17 ls [.int (-1)]) rfl ?_
  refine lv_pop hx hb dX9_buildAll_17 rfl ?_
  exact zend_v hx hb hr hlocks (fun k => [].getD k 0) hP hD hS (Nat.le_of_ble_eq_true rfl) (Nat.le_of_ble_eq_true rfl) dX9_buildAll_18

set_option maxHeartbeats 4000000 in
set_option maxRecDepth 100000 in
theorem z_X9_nodes (l : Launch) (G : zG) (mm : Nat) (nw : Nat) (cq : Nat) (hi : Nat) (ko : Nat) (se : Nat) (nf : Nat) (ns : Nat) (pi : Nat) (th : Int32) (vd : Nat) (lw : Nat) (hg : Nat) (rk : Nat) : zR l G yX9_nodes wsX9_nodes { frames := 3, cells := 0, slots := 0, locals := 73 } [(mm, .inr (9, [.int th, .ref nw, .ref cq, .ref hi, .int 0, .ref ko, .ref se, .int 0, .ref nf, .ref ns, .ref pi])), (nw, .inr (8, [.int 0, .int 0, .ref vd, .ref lw, .ref hg, .ref rk]))] [.ref mm] (some (.int 0)) (fun u => [(mm, .inr (9, [.int 0, .ref nw, .ref cq, .ref hi, .int 0, .ref ko, .ref se, .int 0, .ref nf, .ref ns, .ref pi])), (nw, .inr (8, [.int 0, .int 0, .ref vd, .ref lw, .ref hg, .ref rk]))]) 0 0 := by
  refine zR_of (cc := cX9_nodes) (maxL := 1) (rt := (some .int)) (by decide) rfl (Nat.le_of_ble_eq_true rfl) ?_
  intro p e s m below meth c A ls hx hb hml hr hts hown hlocks hin hA hE hP hD hS hl
  have hl : lv_has ls 1 [(0, .ref mm)] := hl
  have hown : s.vm.findClass RX9 = some m.cls := hown
  have hP : va_P G.1 vwCl [(mm, .inr (9, [.int th, .ref nw, .ref cq, .ref hi, .int 0, .ref ko, .ref se, .int 0, .ref nf, .ref ns, .ref pi])), (nw, .inr (8, [.int 0, .int 0, .ref vd, .ref lw, .ref hg, .ref rk]))] s.heap := hP
  have hw9 : ∀ w ∈ u_ws RX9 TX9 11, w ∈ wsX9_nodes := by decide +kernel
  have hf40 := hts (.fieldLink RX9 40 "NettleModel" "thrown" "I") (by decide +kernel)
  have hf189 := hts (.fieldLink RX9 189 "NettleModel" "nodes" "I") (by decide +kernel)
  refine lv_aload_n hx hb dX9_nodes_0 rfl (lv_at hl 0 rfl) ?_
  refine lv_iconst (v := 0) hx hb dX9_nodes_1 (by decide) ?_
  refine va_put (D := G.1) (ci := 9) (v := .int 0) (ty := tyX9 0) (C := RX9) (T := TX9) (N := 11) hx hb hts hw9 tyX9 tyX9_ok nmX9 hown hE.1 hP hD hS 0 rfl rfl 0 (by decide) hf40 (fun _ h9 => h9) rfl (by decide +kernel) rfl rfl (Nat.le_of_ble_eq_true rfl) dX9_nodes_2 (fun H locs hP hD hS => ?_)
  have hP : va_P G.1 vwCl [(mm, .inr (9, [.int 0, .ref nw, .ref cq, .ref hi, .int 0, .ref ko, .ref se, .int 0, .ref nf, .ref ns, .ref pi])), (nw, .inr (8, [.int 0, .int 0, .ref vd, .ref lw, .ref hg, .ref rk]))] H := hP
  have hD : va_D A [(mm, .inr (9, [.int 0, .ref nw, .ref cq, .ref hi, .int 0, .ref ko, .ref se, .int 0, .ref nf, .ref ns, .ref pi])), (nw, .inr (8, [.int 0, .int 0, .ref vd, .ref lw, .ref hg, .ref rk]))] := hD
  refine lv_aload_n hx hb dX9_nodes_5 rfl (lv_at hl 0 rfl) ?_
  refine zcall (wr := []) (va_runV (As := []) (rest := []) ⟨hx, hb, hml, hown, hts⟩ (z_X9_buildAll l G mm nw cq hi ko se nf ns pi 0 vd lw hg rk H.size) (cwV 0 hts gX9_nodes_X9_buildAll rfl rfl rfl (by decide +kernel) ⟨Nat.le_of_ble_eq_true rfl, Nat.le_of_ble_eq_true rfl⟩) (zPreV (Wc := [(mm, .inr (9, [.int 0, .ref nw, .ref cq, .ref hi, .int 0, .ref ko, .ref se, .int 0, .ref nf, .ref ns, .ref pi])), (nw, .inr (8, [.int 0, .int 0, .ref vd, .ref lw, .ref hg, .ref rk]))]) (q0 := 0) (ci := 9) (q := (RX9, TX9, 11)) hP hD hE hS hA [0, 1] rfl (by decide) rfl rfl) rfl rfl hl.1 rfl (lv_room (Nat.le_of_ble_eq_true rfl)) dX9_nodes_6 ⟨Nat.le_of_ble_eq_true rfl, Nat.le_of_ble_eq_true rfl⟩) hP hD hS hA [0, 1] [] rfl rfl (by decide) (by decide) (fun u1 H locs hP hD hS => ?_)
  have hP : va_P G.1 vwCl [(mm, .inr (9, [.int 0, .ref nw, .ref cq, .ref hi, .int 0, .ref ko, .ref se, .int 0, .ref nf, .ref ns, .ref pi])), (nw, .inr (8, [.int 0, .int 0, .ref vd, .ref lw, .ref hg, .ref rk]))] H := hP
  have hD : va_D A [(mm, .inr (9, [.int 0, .ref nw, .ref cq, .ref hi, .int 0, .ref ko, .ref se, .int 0, .ref nf, .ref ns, .ref pi])), (nw, .inr (8, [.int 0, .int 0, .ref vd, .ref lw, .ref hg, .ref rk]))] := hD
  refine W.eq (g2 := F0 m 9 ls []) rfl ?_
  refine lv_aload_n hx hb dX9_nodes_9 rfl (lv_at hl 0 rfl) ?_
  refine va_get (D := G.1) (ci := 9) (v := .int 0) (C := RX9) (T := TX9) (N := 11) hx hb hts hw9 hown hE.1 hP 0 rfl rfl 7 (by decide) hf189 (fun _ h9 => h9) rfl dX9_nodes_10 ?_
  exact zend_i hx hb hr hlocks (fun k => [].getD k 0) hP hD hS (Nat.le_of_ble_eq_true rfl) (Nat.le_of_ble_eq_true rfl) dX9_nodes_13

set_option maxHeartbeats 4000000 in
set_option maxRecDepth 100000 in
theorem z_X9_ofNode (l : Launch) (G : zG) (mm : Nat) (nw : Nat) (cq : Nat) (hi : Nat) (ko : Nat) (se : Nat) (nf : Nat) (ns : Nat) (pi : Nat) (th : Int32) (vd : Nat) (lw : Nat) (hg : Nat) (rk : Nat) (p0 : Int32) (p1 : Int32) : zR l G yX9_ofNode wsX9_ofNode { frames := 3, cells := 0, slots := 0, locals := 73 } [(mm, .inr (9, [.int th, .ref nw, .ref cq, .ref hi, .int 0, .ref ko, .ref se, .int 0, .ref nf, .ref ns, .ref pi])), (nw, .inr (8, [.int 0, .int 0, .ref vd, .ref lw, .ref hg, .ref rk]))] [.ref mm, .int p0, .int p1] (some (.int 0)) (fun u => [(nw, .inr (8, [.int 0, .int 0, .ref vd, .ref lw, .ref hg, .ref rk])), (mm, .inr (9, [.int 1, .ref nw, .ref cq, .ref hi, .int 0, .ref ko, .ref se, .int 0, .ref nf, .ref ns, .ref pi]))]) 0 0 := by
  refine zR_of (cc := cX9_ofNode) (maxL := 3) (rt := (some .int)) (by decide) rfl (Nat.le_of_ble_eq_true rfl) ?_
  intro p e s m below meth c A ls hx hb hml hr hts hown hlocks hin hA hE hP hD hS hl
  have hl : lv_has ls 3 [(0, .ref mm), (1, .int p0), (2, .int p1)] := hl
  have hown : s.vm.findClass RX9 = some m.cls := hown
  have hP : va_P G.1 vwCl [(mm, .inr (9, [.int th, .ref nw, .ref cq, .ref hi, .int 0, .ref ko, .ref se, .int 0, .ref nf, .ref ns, .ref pi])), (nw, .inr (8, [.int 0, .int 0, .ref vd, .ref lw, .ref hg, .ref rk]))] s.heap := hP
  have hw9 : ∀ w ∈ u_ws RX9 TX9 11, w ∈ wsX9_ofNode := by decide +kernel
  have hf40 := hts (.fieldLink RX9 40 "NettleModel" "thrown" "I") (by decide +kernel)
  have hf189 := hts (.fieldLink RX9 189 "NettleModel" "nodes" "I") (by decide +kernel)
  by_cases h1 : p0 < 0
  · refine lv_aload_n hx hb dX9_ofNode_0 rfl (lv_at hl 0 rfl) ?_
    refine lv_iconst (v := 0) hx hb dX9_ofNode_1 (by decide) ?_
    refine va_put (D := G.1) (ci := 9) (v := .int 0) (ty := tyX9 0) (C := RX9) (T := TX9) (N := 11) hx hb hts hw9 tyX9 tyX9_ok nmX9 hown hE.1 hP hD hS 0 rfl rfl 0 (by decide) hf40 (fun _ h9 => h9) rfl (by decide +kernel) rfl rfl (Nat.le_of_ble_eq_true rfl) dX9_ofNode_2 (fun H locs hP hD hS => ?_)
    have hP : va_P G.1 vwCl [(mm, .inr (9, [.int 0, .ref nw, .ref cq, .ref hi, .int 0, .ref ko, .ref se, .int 0, .ref nf, .ref ns, .ref pi])), (nw, .inr (8, [.int 0, .int 0, .ref vd, .ref lw, .ref hg, .ref rk]))] H := hP
    have hD : va_D A [(mm, .inr (9, [.int 0, .ref nw, .ref cq, .ref hi, .int 0, .ref ko, .ref se, .int 0, .ref nf, .ref ns, .ref pi])), (nw, .inr (8, [.int 0, .int 0, .ref vd, .ref lw, .ref hg, .ref rk]))] := hD
    refine lv_aload_n hx hb dX9_ofNode_5 rfl (lv_at hl 0 rfl) ?_
    refine zcall (wr := []) (va_runV (As := []) (rest := []) ⟨hx, hb, hml, hown, hts⟩ (z_X9_buildAll l G mm nw cq hi ko se nf ns pi 0 vd lw hg rk H.size) (cwV 0 hts gX9_ofNode_X9_buildAll rfl rfl rfl (by decide +kernel) ⟨Nat.le_of_ble_eq_true rfl, Nat.le_of_ble_eq_true rfl⟩) (zPreV (Wc := [(mm, .inr (9, [.int 0, .ref nw, .ref cq, .ref hi, .int 0, .ref ko, .ref se, .int 0, .ref nf, .ref ns, .ref pi])), (nw, .inr (8, [.int 0, .int 0, .ref vd, .ref lw, .ref hg, .ref rk]))]) (q0 := 0) (ci := 9) (q := (RX9, TX9, 11)) hP hD hE hS hA [0, 1] rfl (by decide) rfl rfl) rfl rfl hl.1 rfl (lv_room (Nat.le_of_ble_eq_true rfl)) dX9_ofNode_6 ⟨Nat.le_of_ble_eq_true rfl, Nat.le_of_ble_eq_true rfl⟩) hP hD hS hA [0, 1] [] rfl rfl (by decide) (by decide) (fun u1 H locs hP hD hS => ?_)
    have hP : va_P G.1 vwCl [(mm, .inr (9, [.int 0, .ref nw, .ref cq, .ref hi, .int 0, .ref ko, .ref se, .int 0, .ref nf, .ref ns, .ref pi])), (nw, .inr (8, [.int 0, .int 0, .ref vd, .ref lw, .ref hg, .ref rk]))] H := hP
    have hD : va_D A [(mm, .inr (9, [.int 0, .ref nw, .ref cq, .ref hi, .int 0, .ref ko, .ref se, .int 0, .ref nf, .ref ns, .ref pi])), (nw, .inr (8, [.int 0, .int 0, .ref vd, .ref lw, .ref hg, .ref rk]))] := hD
    refine W.eq (g2 := F0 m 9 ls []) rfl ?_
    refine lv_iload_n hx hb dX9_ofNode_9 rfl (lv_at hl 1 rfl) ?_
    refine lv_iconst (v := 0) hx hb dX9_ofNode_10 (by decide) ?_
    refine lv_aload_n hx hb dX9_ofNode_11 rfl (lv_at hl 0 rfl) ?_
    refine va_get (D := G.1) (ci := 9) (v := .int 0) (C := RX9) (T := TX9) (N := 11) hx hb hts hw9 hown hE.1 hP 0 rfl rfl 7 (by decide) hf189 (fun _ h9 => h9) rfl dX9_ofNode_12 ?_
    refine lv_iconst (v := 1) hx hb dX9_ofNode_15 (by decide) ?_
    refine lv_isub hx hb dX9_ofNode_16 ?_
    refine zti (v := (-1)) (by decide) ?_
    refine zcall (wr := [(mm, .inr (9, [.int 0, .ref nw, .ref cq, .ref hi, .int 0, .ref ko, .ref se, .int 0, .ref nf, .ref ns, .ref pi])), (nw, .inr (8, [.int 0, .int 0, .ref vd, .ref lw, .ref hg, .ref rk]))]) (va_runS (As := [.int p0, .int 0, .int (-1)]) (rest := []) ⟨hx, hb, hml, hown, hts⟩ (z_X9_isInL l G p0 0 (-1) h1 H.size) (va_cwS 3 hts gX9_ofNode_X9_isIn rfl rfl rfl (by decide +kernel) ⟨Nat.le_of_ble_eq_true rfl, Nat.le_of_ble_eq_true rfl⟩) (zPre (Wc := []) hP hD hE hS hA [] rfl (by decide)) rfl rfl hl.1 rfl (lv_room (Nat.le_of_ble_eq_true rfl)) dX9_ofNode_17 ⟨Nat.le_of_ble_eq_true rfl, Nat.le_of_ble_eq_true rfl⟩) hP hD hS hA [] [0, 1] rfl rfl (by decide) (by decide) (fun u2 H locs hP hD hS => ?_)
    have hP : va_P G.1 vwCl [(mm, .inr (9, [.int 0, .ref nw, .ref cq, .ref hi, .int 0, .ref ko, .ref se, .int 0, .ref nf, .ref ns, .ref pi])), (nw, .inr (8, [.int 0, .int 0, .ref vd, .ref lw, .ref hg, .ref rk]))] H := hP
    have hD : va_D A [(mm, .inr (9, [.int 0, .ref nw, .ref cq, .ref hi, .int 0, .ref ko, .ref se, .int 0, .ref nf, .ref ns, .ref pi])), (nw, .inr (8, [.int 0, .int 0, .ref vd, .ref lw, .ref hg, .ref rk]))] := hD
    refine W.eq (g2 := F0 m 20 ls [.int 0]) rfl ?_
    refine lv_if_ne (tgt := 29) hx hb dX9_ofNode_20 (by decide) (fun h9 => absurd (by decide) h9) (fun _ => ?_)
    refine lv_aload_n hx hb dX9_ofNode_23 rfl (lv_at hl 0 rfl) ?_
    refine lv_iconst (v := 1) hx hb dX9_ofNode_24 (by decide) ?_
    refine zcall (wr := [(nw, .inr (8, [.int 0, .int 0, .ref vd, .ref lw, .ref hg, .ref rk]))]) (va_runV (As := [.int 1]) (rest := []) ⟨hx, hb, hml, hown, hts⟩ (z_X9_no l G mm nw cq hi ko se nf ns pi 0 1 H.size) (cwV 1 hts gX9_ofNode_X9_no rfl rfl rfl (by decide +kernel) ⟨Nat.le_of_ble_eq_true rfl, Nat.le_of_ble_eq_true rfl⟩) (zPreV (Wc := [(mm, .inr (9, [.int 0, .ref nw, .ref cq, .ref hi, .int 0, .ref ko, .ref se, .int 0, .ref nf, .ref ns, .ref pi]))]) (q0 := 0) (ci := 9) (q := (RX9, TX9, 11)) hP hD hE hS hA [0] rfl (by decide) rfl rfl) rfl rfl hl.1 rfl (lv_room (Nat.le_of_ble_eq_true rfl)) dX9_ofNode_25 ⟨Nat.le_of_ble_eq_true rfl, Nat.le_of_ble_eq_true rfl⟩) hP hD hS hA [0] [1] rfl rfl (by decide) (by decide) (fun u3 H locs hP hD hS => ?_)
    have hP : va_P G.1 vwCl [(nw, .inr (8, [.int 0, .int 0, .ref vd, .ref lw, .ref hg, .ref rk])), (mm, .inr (9, [.int 1, .ref nw, .ref cq, .ref hi, .int 0, .ref ko, .ref se, .int 0, .ref nf, .ref ns, .ref pi]))] H := hP
    have hD : va_D A [(nw, .inr (8, [.int 0, .int 0, .ref vd, .ref lw, .ref hg, .ref rk])), (mm, .inr (9, [.int 1, .ref nw, .ref cq, .ref hi, .int 0, .ref ko, .ref se, .int 0, .ref nf, .ref ns, .ref pi]))] := hD
    refine W.eq (g2 := F0 m 28 ls [.int 0]) rfl ?_
    exact zend_i hx hb hr hlocks (fun k => [].getD k 0) hP hD hS (Nat.le_of_ble_eq_true rfl) (Nat.le_of_ble_eq_true rfl) dX9_ofNode_28
  · refine lv_aload_n hx hb dX9_ofNode_0 rfl (lv_at hl 0 rfl) ?_
    refine lv_iconst (v := 0) hx hb dX9_ofNode_1 (by decide) ?_
    refine va_put (D := G.1) (ci := 9) (v := .int 0) (ty := tyX9 0) (C := RX9) (T := TX9) (N := 11) hx hb hts hw9 tyX9 tyX9_ok nmX9 hown hE.1 hP hD hS 0 rfl rfl 0 (by decide) hf40 (fun _ h9 => h9) rfl (by decide +kernel) rfl rfl (Nat.le_of_ble_eq_true rfl) dX9_ofNode_2 (fun H locs hP hD hS => ?_)
    have hP : va_P G.1 vwCl [(mm, .inr (9, [.int 0, .ref nw, .ref cq, .ref hi, .int 0, .ref ko, .ref se, .int 0, .ref nf, .ref ns, .ref pi])), (nw, .inr (8, [.int 0, .int 0, .ref vd, .ref lw, .ref hg, .ref rk]))] H := hP
    have hD : va_D A [(mm, .inr (9, [.int 0, .ref nw, .ref cq, .ref hi, .int 0, .ref ko, .ref se, .int 0, .ref nf, .ref ns, .ref pi])), (nw, .inr (8, [.int 0, .int 0, .ref vd, .ref lw, .ref hg, .ref rk]))] := hD
    refine lv_aload_n hx hb dX9_ofNode_5 rfl (lv_at hl 0 rfl) ?_
    refine zcall (wr := []) (va_runV (As := []) (rest := []) ⟨hx, hb, hml, hown, hts⟩ (z_X9_buildAll l G mm nw cq hi ko se nf ns pi 0 vd lw hg rk H.size) (cwV 0 hts gX9_ofNode_X9_buildAll rfl rfl rfl (by decide +kernel) ⟨Nat.le_of_ble_eq_true rfl, Nat.le_of_ble_eq_true rfl⟩) (zPreV (Wc := [(mm, .inr (9, [.int 0, .ref nw, .ref cq, .ref hi, .int 0, .ref ko, .ref se, .int 0, .ref nf, .ref ns, .ref pi])), (nw, .inr (8, [.int 0, .int 0, .ref vd, .ref lw, .ref hg, .ref rk]))]) (q0 := 0) (ci := 9) (q := (RX9, TX9, 11)) hP hD hE hS hA [0, 1] rfl (by decide) rfl rfl) rfl rfl hl.1 rfl (lv_room (Nat.le_of_ble_eq_true rfl)) dX9_ofNode_6 ⟨Nat.le_of_ble_eq_true rfl, Nat.le_of_ble_eq_true rfl⟩) hP hD hS hA [0, 1] [] rfl rfl (by decide) (by decide) (fun u1 H locs hP hD hS => ?_)
    have hP : va_P G.1 vwCl [(mm, .inr (9, [.int 0, .ref nw, .ref cq, .ref hi, .int 0, .ref ko, .ref se, .int 0, .ref nf, .ref ns, .ref pi])), (nw, .inr (8, [.int 0, .int 0, .ref vd, .ref lw, .ref hg, .ref rk]))] H := hP
    have hD : va_D A [(mm, .inr (9, [.int 0, .ref nw, .ref cq, .ref hi, .int 0, .ref ko, .ref se, .int 0, .ref nf, .ref ns, .ref pi])), (nw, .inr (8, [.int 0, .int 0, .ref vd, .ref lw, .ref hg, .ref rk]))] := hD
    refine W.eq (g2 := F0 m 9 ls []) rfl ?_
    refine lv_iload_n hx hb dX9_ofNode_9 rfl (lv_at hl 1 rfl) ?_
    refine lv_iconst (v := 0) hx hb dX9_ofNode_10 (by decide) ?_
    refine lv_aload_n hx hb dX9_ofNode_11 rfl (lv_at hl 0 rfl) ?_
    refine va_get (D := G.1) (ci := 9) (v := .int 0) (C := RX9) (T := TX9) (N := 11) hx hb hts hw9 hown hE.1 hP 0 rfl rfl 7 (by decide) hf189 (fun _ h9 => h9) rfl dX9_ofNode_12 ?_
    refine lv_iconst (v := 1) hx hb dX9_ofNode_15 (by decide) ?_
    refine lv_isub hx hb dX9_ofNode_16 ?_
    refine zti (v := (-1)) (by decide) ?_
    refine zcall (wr := [(mm, .inr (9, [.int 0, .ref nw, .ref cq, .ref hi, .int 0, .ref ko, .ref se, .int 0, .ref nf, .ref ns, .ref pi])), (nw, .inr (8, [.int 0, .int 0, .ref vd, .ref lw, .ref hg, .ref rk]))]) (va_runS (As := [.int p0, .int 0, .int (-1)]) (rest := []) ⟨hx, hb, hml, hown, hts⟩ (z_X9_isInH l G p0 0 (-1) h1 (zm1 h1) H.size) (va_cwS 3 hts gX9_ofNode_X9_isIn rfl rfl rfl (by decide +kernel) ⟨Nat.le_of_ble_eq_true rfl, Nat.le_of_ble_eq_true rfl⟩) (zPre (Wc := []) hP hD hE hS hA [] rfl (by decide)) rfl rfl hl.1 rfl (lv_room (Nat.le_of_ble_eq_true rfl)) dX9_ofNode_17 ⟨Nat.le_of_ble_eq_true rfl, Nat.le_of_ble_eq_true rfl⟩) hP hD hS hA [] [0, 1] rfl rfl (by decide) (by decide) (fun u2 H locs hP hD hS => ?_)
    have hP : va_P G.1 vwCl [(mm, .inr (9, [.int 0, .ref nw, .ref cq, .ref hi, .int 0, .ref ko, .ref se, .int 0, .ref nf, .ref ns, .ref pi])), (nw, .inr (8, [.int 0, .int 0, .ref vd, .ref lw, .ref hg, .ref rk]))] H := hP
    have hD : va_D A [(mm, .inr (9, [.int 0, .ref nw, .ref cq, .ref hi, .int 0, .ref ko, .ref se, .int 0, .ref nf, .ref ns, .ref pi])), (nw, .inr (8, [.int 0, .int 0, .ref vd, .ref lw, .ref hg, .ref rk]))] := hD
    refine W.eq (g2 := F0 m 20 ls [.int 0]) rfl ?_
    refine lv_if_ne (tgt := 29) hx hb dX9_ofNode_20 (by decide) (fun h9 => absurd (by decide) h9) (fun _ => ?_)
    refine lv_aload_n hx hb dX9_ofNode_23 rfl (lv_at hl 0 rfl) ?_
    refine lv_iconst (v := 1) hx hb dX9_ofNode_24 (by decide) ?_
    refine zcall (wr := [(nw, .inr (8, [.int 0, .int 0, .ref vd, .ref lw, .ref hg, .ref rk]))]) (va_runV (As := [.int 1]) (rest := []) ⟨hx, hb, hml, hown, hts⟩ (z_X9_no l G mm nw cq hi ko se nf ns pi 0 1 H.size) (cwV 1 hts gX9_ofNode_X9_no rfl rfl rfl (by decide +kernel) ⟨Nat.le_of_ble_eq_true rfl, Nat.le_of_ble_eq_true rfl⟩) (zPreV (Wc := [(mm, .inr (9, [.int 0, .ref nw, .ref cq, .ref hi, .int 0, .ref ko, .ref se, .int 0, .ref nf, .ref ns, .ref pi]))]) (q0 := 0) (ci := 9) (q := (RX9, TX9, 11)) hP hD hE hS hA [0] rfl (by decide) rfl rfl) rfl rfl hl.1 rfl (lv_room (Nat.le_of_ble_eq_true rfl)) dX9_ofNode_25 ⟨Nat.le_of_ble_eq_true rfl, Nat.le_of_ble_eq_true rfl⟩) hP hD hS hA [0] [1] rfl rfl (by decide) (by decide) (fun u3 H locs hP hD hS => ?_)
    have hP : va_P G.1 vwCl [(nw, .inr (8, [.int 0, .int 0, .ref vd, .ref lw, .ref hg, .ref rk])), (mm, .inr (9, [.int 1, .ref nw, .ref cq, .ref hi, .int 0, .ref ko, .ref se, .int 0, .ref nf, .ref ns, .ref pi]))] H := hP
    have hD : va_D A [(nw, .inr (8, [.int 0, .int 0, .ref vd, .ref lw, .ref hg, .ref rk])), (mm, .inr (9, [.int 1, .ref nw, .ref cq, .ref hi, .int 0, .ref ko, .ref se, .int 0, .ref nf, .ref ns, .ref pi]))] := hD
    refine W.eq (g2 := F0 m 28 ls [.int 0]) rfl ?_
    exact zend_i hx hb hr hlocks (fun k => [].getD k 0) hP hD hS (Nat.le_of_ble_eq_true rfl) (Nat.le_of_ble_eq_true rfl) dX9_ofNode_28

set_option maxHeartbeats 4000000 in
set_option maxRecDepth 100000 in
theorem z_X9_piece (l : Launch) (G : zG) (mm : Nat) (nw : Nat) (cq : Nat) (hi : Nat) (ko : Nat) (se : Nat) (nf : Nat) (ns : Nat) (pi : Nat) (th : Int32) (vd : Nat) (lw : Nat) (hg : Nat) (rk : Nat) (p0 : Int32) (p1 : Int32) (p2 : Int32) : zR l G yX9_piece wsX9_piece { frames := 3, cells := 0, slots := 0, locals := 73 } [(mm, .inr (9, [.int th, .ref nw, .ref cq, .ref hi, .int 0, .ref ko, .ref se, .int 0, .ref nf, .ref ns, .ref pi])), (nw, .inr (8, [.int 0, .int 0, .ref vd, .ref lw, .ref hg, .ref rk]))] [.ref mm, .int p0, .int p1, .int p2] (some (.int 0)) (fun u => [(nw, .inr (8, [.int 0, .int 0, .ref vd, .ref lw, .ref hg, .ref rk])), (mm, .inr (9, [.int 1, .ref nw, .ref cq, .ref hi, .int 0, .ref ko, .ref se, .int 0, .ref nf, .ref ns, .ref pi]))]) 0 0 := by
  refine zR_of (cc := cX9_piece) (maxL := 4) (rt := (some .int)) (by decide) rfl (Nat.le_of_ble_eq_true rfl) ?_
  intro p e s m below meth c A ls hx hb hml hr hts hown hlocks hin hA hE hP hD hS hl
  have hl : lv_has ls 4 [(0, .ref mm), (1, .int p0), (2, .int p1), (3, .int p2)] := hl
  have hown : s.vm.findClass RX9 = some m.cls := hown
  have hP : va_P G.1 vwCl [(mm, .inr (9, [.int th, .ref nw, .ref cq, .ref hi, .int 0, .ref ko, .ref se, .int 0, .ref nf, .ref ns, .ref pi])), (nw, .inr (8, [.int 0, .int 0, .ref vd, .ref lw, .ref hg, .ref rk]))] s.heap := hP
  have hw9 : ∀ w ∈ u_ws RX9 TX9 11, w ∈ wsX9_piece := by decide +kernel
  have hf40 := hts (.fieldLink RX9 40 "NettleModel" "thrown" "I") (by decide +kernel)
  have hf189 := hts (.fieldLink RX9 189 "NettleModel" "nodes" "I") (by decide +kernel)
  by_cases h1 : p0 < 0
  · refine lv_aload_n hx hb dX9_piece_0 rfl (lv_at hl 0 rfl) ?_
    refine lv_iconst (v := 0) hx hb dX9_piece_1 (by decide) ?_
    refine va_put (D := G.1) (ci := 9) (v := .int 0) (ty := tyX9 0) (C := RX9) (T := TX9) (N := 11) hx hb hts hw9 tyX9 tyX9_ok nmX9 hown hE.1 hP hD hS 0 rfl rfl 0 (by decide) hf40 (fun _ h9 => h9) rfl (by decide +kernel) rfl rfl (Nat.le_of_ble_eq_true rfl) dX9_piece_2 (fun H locs hP hD hS => ?_)
    have hP : va_P G.1 vwCl [(mm, .inr (9, [.int 0, .ref nw, .ref cq, .ref hi, .int 0, .ref ko, .ref se, .int 0, .ref nf, .ref ns, .ref pi])), (nw, .inr (8, [.int 0, .int 0, .ref vd, .ref lw, .ref hg, .ref rk]))] H := hP
    have hD : va_D A [(mm, .inr (9, [.int 0, .ref nw, .ref cq, .ref hi, .int 0, .ref ko, .ref se, .int 0, .ref nf, .ref ns, .ref pi])), (nw, .inr (8, [.int 0, .int 0, .ref vd, .ref lw, .ref hg, .ref rk]))] := hD
    refine lv_aload_n hx hb dX9_piece_5 rfl (lv_at hl 0 rfl) ?_
    refine zcall (wr := []) (va_runV (As := []) (rest := []) ⟨hx, hb, hml, hown, hts⟩ (z_X9_buildAll l G mm nw cq hi ko se nf ns pi 0 vd lw hg rk H.size) (cwV 0 hts gX9_piece_X9_buildAll rfl rfl rfl (by decide +kernel) ⟨Nat.le_of_ble_eq_true rfl, Nat.le_of_ble_eq_true rfl⟩) (zPreV (Wc := [(mm, .inr (9, [.int 0, .ref nw, .ref cq, .ref hi, .int 0, .ref ko, .ref se, .int 0, .ref nf, .ref ns, .ref pi])), (nw, .inr (8, [.int 0, .int 0, .ref vd, .ref lw, .ref hg, .ref rk]))]) (q0 := 0) (ci := 9) (q := (RX9, TX9, 11)) hP hD hE hS hA [0, 1] rfl (by decide) rfl rfl) rfl rfl hl.1 rfl (lv_room (Nat.le_of_ble_eq_true rfl)) dX9_piece_6 ⟨Nat.le_of_ble_eq_true rfl, Nat.le_of_ble_eq_true rfl⟩) hP hD hS hA [0, 1] [] rfl rfl (by decide) (by decide) (fun u1 H locs hP hD hS => ?_)
    have hP : va_P G.1 vwCl [(mm, .inr (9, [.int 0, .ref nw, .ref cq, .ref hi, .int 0, .ref ko, .ref se, .int 0, .ref nf, .ref ns, .ref pi])), (nw, .inr (8, [.int 0, .int 0, .ref vd, .ref lw, .ref hg, .ref rk]))] H := hP
    have hD : va_D A [(mm, .inr (9, [.int 0, .ref nw, .ref cq, .ref hi, .int 0, .ref ko, .ref se, .int 0, .ref nf, .ref ns, .ref pi])), (nw, .inr (8, [.int 0, .int 0, .ref vd, .ref lw, .ref hg, .ref rk]))] := hD
    refine W.eq (g2 := F0 m 9 ls []) rfl ?_
    refine lv_iload_n hx hb dX9_piece_9 rfl (lv_at hl 1 rfl) ?_
    refine lv_iconst (v := 0) hx hb dX9_piece_10 (by decide) ?_
    refine lv_aload_n hx hb dX9_piece_11 rfl (lv_at hl 0 rfl) ?_
    refine va_get (D := G.1) (ci := 9) (v := .int 0) (C := RX9) (T := TX9) (N := 11) hx hb hts hw9 hown hE.1 hP 0 rfl rfl 7 (by decide) hf189 (fun _ h9 => h9) rfl dX9_piece_12 ?_
    refine lv_iconst (v := 1) hx hb dX9_piece_15 (by decide) ?_
    refine lv_isub hx hb dX9_piece_16 ?_
    refine zti (v := (-1)) (by decide) ?_
    refine zcall (wr := [(mm, .inr (9, [.int 0, .ref nw, .ref cq, .ref hi, .int 0, .ref ko, .ref se, .int 0, .ref nf, .ref ns, .ref pi])), (nw, .inr (8, [.int 0, .int 0, .ref vd, .ref lw, .ref hg, .ref rk]))]) (va_runS (As := [.int p0, .int 0, .int (-1)]) (rest := []) ⟨hx, hb, hml, hown, hts⟩ (z_X9_isInL l G p0 0 (-1) h1 H.size) (va_cwS 3 hts gX9_piece_X9_isIn rfl rfl rfl (by decide +kernel) ⟨Nat.le_of_ble_eq_true rfl, Nat.le_of_ble_eq_true rfl⟩) (zPre (Wc := []) hP hD hE hS hA [] rfl (by decide)) rfl rfl hl.1 rfl (lv_room (Nat.le_of_ble_eq_true rfl)) dX9_piece_17 ⟨Nat.le_of_ble_eq_true rfl, Nat.le_of_ble_eq_true rfl⟩) hP hD hS hA [] [0, 1] rfl rfl (by decide) (by decide) (fun u2 H locs hP hD hS => ?_)
    have hP : va_P G.1 vwCl [(mm, .inr (9, [.int 0, .ref nw, .ref cq, .ref hi, .int 0, .ref ko, .ref se, .int 0, .ref nf, .ref ns, .ref pi])), (nw, .inr (8, [.int 0, .int 0, .ref vd, .ref lw, .ref hg, .ref rk]))] H := hP
    have hD : va_D A [(mm, .inr (9, [.int 0, .ref nw, .ref cq, .ref hi, .int 0, .ref ko, .ref se, .int 0, .ref nf, .ref ns, .ref pi])), (nw, .inr (8, [.int 0, .int 0, .ref vd, .ref lw, .ref hg, .ref rk]))] := hD
    refine W.eq (g2 := F0 m 20 ls [.int 0]) rfl ?_
    refine lv_if_eq (tgt := 42) hx hb dX9_piece_20 (by decide) (fun _ => ?_) (fun h9 => absurd (by decide) h9)
    refine lv_aload_n hx hb dX9_piece_42 rfl (lv_at hl 0 rfl) ?_
    refine lv_iconst (v := 1) hx hb dX9_piece_43 (by decide) ?_
    refine zcall (wr := [(nw, .inr (8, [.int 0, .int 0, .ref vd, .ref lw, .ref hg, .ref rk]))]) (va_runV (As := [.int 1]) (rest := []) ⟨hx, hb, hml, hown, hts⟩ (z_X9_no l G mm nw cq hi ko se nf ns pi 0 1 H.size) (cwV 1 hts gX9_piece_X9_no rfl rfl rfl (by decide +kernel) ⟨Nat.le_of_ble_eq_true rfl, Nat.le_of_ble_eq_true rfl⟩) (zPreV (Wc := [(mm, .inr (9, [.int 0, .ref nw, .ref cq, .ref hi, .int 0, .ref ko, .ref se, .int 0, .ref nf, .ref ns, .ref pi]))]) (q0 := 0) (ci := 9) (q := (RX9, TX9, 11)) hP hD hE hS hA [0] rfl (by decide) rfl rfl) rfl rfl hl.1 rfl (lv_room (Nat.le_of_ble_eq_true rfl)) dX9_piece_44 ⟨Nat.le_of_ble_eq_true rfl, Nat.le_of_ble_eq_true rfl⟩) hP hD hS hA [0] [1] rfl rfl (by decide) (by decide) (fun u3 H locs hP hD hS => ?_)
    have hP : va_P G.1 vwCl [(nw, .inr (8, [.int 0, .int 0, .ref vd, .ref lw, .ref hg, .ref rk])), (mm, .inr (9, [.int 1, .ref nw, .ref cq, .ref hi, .int 0, .ref ko, .ref se, .int 0, .ref nf, .ref ns, .ref pi]))] H := hP
    have hD : va_D A [(nw, .inr (8, [.int 0, .int 0, .ref vd, .ref lw, .ref hg, .ref rk])), (mm, .inr (9, [.int 1, .ref nw, .ref cq, .ref hi, .int 0, .ref ko, .ref se, .int 0, .ref nf, .ref ns, .ref pi]))] := hD
    refine W.eq (g2 := F0 m 47 ls [.int 0]) rfl ?_
    exact zend_i hx hb hr hlocks (fun k => [].getD k 0) hP hD hS (Nat.le_of_ble_eq_true rfl) (Nat.le_of_ble_eq_true rfl) dX9_piece_47
  · refine lv_aload_n hx hb dX9_piece_0 rfl (lv_at hl 0 rfl) ?_
    refine lv_iconst (v := 0) hx hb dX9_piece_1 (by decide) ?_
    refine va_put (D := G.1) (ci := 9) (v := .int 0) (ty := tyX9 0) (C := RX9) (T := TX9) (N := 11) hx hb hts hw9 tyX9 tyX9_ok nmX9 hown hE.1 hP hD hS 0 rfl rfl 0 (by decide) hf40 (fun _ h9 => h9) rfl (by decide +kernel) rfl rfl (Nat.le_of_ble_eq_true rfl) dX9_piece_2 (fun H locs hP hD hS => ?_)
    have hP : va_P G.1 vwCl [(mm, .inr (9, [.int 0, .ref nw, .ref cq, .ref hi, .int 0, .ref ko, .ref se, .int 0, .ref nf, .ref ns, .ref pi])), (nw, .inr (8, [.int 0, .int 0, .ref vd, .ref lw, .ref hg, .ref rk]))] H := hP
    have hD : va_D A [(mm, .inr (9, [.int 0, .ref nw, .ref cq, .ref hi, .int 0, .ref ko, .ref se, .int 0, .ref nf, .ref ns, .ref pi])), (nw, .inr (8, [.int 0, .int 0, .ref vd, .ref lw, .ref hg, .ref rk]))] := hD
    refine lv_aload_n hx hb dX9_piece_5 rfl (lv_at hl 0 rfl) ?_
    refine zcall (wr := []) (va_runV (As := []) (rest := []) ⟨hx, hb, hml, hown, hts⟩ (z_X9_buildAll l G mm nw cq hi ko se nf ns pi 0 vd lw hg rk H.size) (cwV 0 hts gX9_piece_X9_buildAll rfl rfl rfl (by decide +kernel) ⟨Nat.le_of_ble_eq_true rfl, Nat.le_of_ble_eq_true rfl⟩) (zPreV (Wc := [(mm, .inr (9, [.int 0, .ref nw, .ref cq, .ref hi, .int 0, .ref ko, .ref se, .int 0, .ref nf, .ref ns, .ref pi])), (nw, .inr (8, [.int 0, .int 0, .ref vd, .ref lw, .ref hg, .ref rk]))]) (q0 := 0) (ci := 9) (q := (RX9, TX9, 11)) hP hD hE hS hA [0, 1] rfl (by decide) rfl rfl) rfl rfl hl.1 rfl (lv_room (Nat.le_of_ble_eq_true rfl)) dX9_piece_6 ⟨Nat.le_of_ble_eq_true rfl, Nat.le_of_ble_eq_true rfl⟩) hP hD hS hA [0, 1] [] rfl rfl (by decide) (by decide) (fun u1 H locs hP hD hS => ?_)
    have hP : va_P G.1 vwCl [(mm, .inr (9, [.int 0, .ref nw, .ref cq, .ref hi, .int 0, .ref ko, .ref se, .int 0, .ref nf, .ref ns, .ref pi])), (nw, .inr (8, [.int 0, .int 0, .ref vd, .ref lw, .ref hg, .ref rk]))] H := hP
    have hD : va_D A [(mm, .inr (9, [.int 0, .ref nw, .ref cq, .ref hi, .int 0, .ref ko, .ref se, .int 0, .ref nf, .ref ns, .ref pi])), (nw, .inr (8, [.int 0, .int 0, .ref vd, .ref lw, .ref hg, .ref rk]))] := hD
    refine W.eq (g2 := F0 m 9 ls []) rfl ?_
    refine lv_iload_n hx hb dX9_piece_9 rfl (lv_at hl 1 rfl) ?_
    refine lv_iconst (v := 0) hx hb dX9_piece_10 (by decide) ?_
    refine lv_aload_n hx hb dX9_piece_11 rfl (lv_at hl 0 rfl) ?_
    refine va_get (D := G.1) (ci := 9) (v := .int 0) (C := RX9) (T := TX9) (N := 11) hx hb hts hw9 hown hE.1 hP 0 rfl rfl 7 (by decide) hf189 (fun _ h9 => h9) rfl dX9_piece_12 ?_
    refine lv_iconst (v := 1) hx hb dX9_piece_15 (by decide) ?_
    refine lv_isub hx hb dX9_piece_16 ?_
    refine zti (v := (-1)) (by decide) ?_
    refine zcall (wr := [(mm, .inr (9, [.int 0, .ref nw, .ref cq, .ref hi, .int 0, .ref ko, .ref se, .int 0, .ref nf, .ref ns, .ref pi])), (nw, .inr (8, [.int 0, .int 0, .ref vd, .ref lw, .ref hg, .ref rk]))]) (va_runS (As := [.int p0, .int 0, .int (-1)]) (rest := []) ⟨hx, hb, hml, hown, hts⟩ (z_X9_isInH l G p0 0 (-1) h1 (zm1 h1) H.size) (va_cwS 3 hts gX9_piece_X9_isIn rfl rfl rfl (by decide +kernel) ⟨Nat.le_of_ble_eq_true rfl, Nat.le_of_ble_eq_true rfl⟩) (zPre (Wc := []) hP hD hE hS hA [] rfl (by decide)) rfl rfl hl.1 rfl (lv_room (Nat.le_of_ble_eq_true rfl)) dX9_piece_17 ⟨Nat.le_of_ble_eq_true rfl, Nat.le_of_ble_eq_true rfl⟩) hP hD hS hA [] [0, 1] rfl rfl (by decide) (by decide) (fun u2 H locs hP hD hS => ?_)
    have hP : va_P G.1 vwCl [(mm, .inr (9, [.int 0, .ref nw, .ref cq, .ref hi, .int 0, .ref ko, .ref se, .int 0, .ref nf, .ref ns, .ref pi])), (nw, .inr (8, [.int 0, .int 0, .ref vd, .ref lw, .ref hg, .ref rk]))] H := hP
    have hD : va_D A [(mm, .inr (9, [.int 0, .ref nw, .ref cq, .ref hi, .int 0, .ref ko, .ref se, .int 0, .ref nf, .ref ns, .ref pi])), (nw, .inr (8, [.int 0, .int 0, .ref vd, .ref lw, .ref hg, .ref rk]))] := hD
    refine W.eq (g2 := F0 m 20 ls [.int 0]) rfl ?_
    refine lv_if_eq (tgt := 42) hx hb dX9_piece_20 (by decide) (fun _ => ?_) (fun h9 => absurd (by decide) h9)
    refine lv_aload_n hx hb dX9_piece_42 rfl (lv_at hl 0 rfl) ?_
    refine lv_iconst (v := 1) hx hb dX9_piece_43 (by decide) ?_
    refine zcall (wr := [(nw, .inr (8, [.int 0, .int 0, .ref vd, .ref lw, .ref hg, .ref rk]))]) (va_runV (As := [.int 1]) (rest := []) ⟨hx, hb, hml, hown, hts⟩ (z_X9_no l G mm nw cq hi ko se nf ns pi 0 1 H.size) (cwV 1 hts gX9_piece_X9_no rfl rfl rfl (by decide +kernel) ⟨Nat.le_of_ble_eq_true rfl, Nat.le_of_ble_eq_true rfl⟩) (zPreV (Wc := [(mm, .inr (9, [.int 0, .ref nw, .ref cq, .ref hi, .int 0, .ref ko, .ref se, .int 0, .ref nf, .ref ns, .ref pi]))]) (q0 := 0) (ci := 9) (q := (RX9, TX9, 11)) hP hD hE hS hA [0] rfl (by decide) rfl rfl) rfl rfl hl.1 rfl (lv_room (Nat.le_of_ble_eq_true rfl)) dX9_piece_44 ⟨Nat.le_of_ble_eq_true rfl, Nat.le_of_ble_eq_true rfl⟩) hP hD hS hA [0] [1] rfl rfl (by decide) (by decide) (fun u3 H locs hP hD hS => ?_)
    have hP : va_P G.1 vwCl [(nw, .inr (8, [.int 0, .int 0, .ref vd, .ref lw, .ref hg, .ref rk])), (mm, .inr (9, [.int 1, .ref nw, .ref cq, .ref hi, .int 0, .ref ko, .ref se, .int 0, .ref nf, .ref ns, .ref pi]))] H := hP
    have hD : va_D A [(nw, .inr (8, [.int 0, .int 0, .ref vd, .ref lw, .ref hg, .ref rk])), (mm, .inr (9, [.int 1, .ref nw, .ref cq, .ref hi, .int 0, .ref ko, .ref se, .int 0, .ref nf, .ref ns, .ref pi]))] := hD
    refine W.eq (g2 := F0 m 47 ls [.int 0]) rfl ?_
    exact zend_i hx hb hr hlocks (fun k => [].getD k 0) hP hD hS (Nat.le_of_ble_eq_true rfl) (Nat.le_of_ble_eq_true rfl) dX9_piece_47

set_option maxHeartbeats 4000000 in
set_option maxRecDepth 100000 in
theorem z_X9_meanSteps (l : Launch) (G : zG) (mm : Nat) (nw : Nat) (cq : Nat) (hi : Nat) (ko : Nat) (se : Nat) (nf : Nat) (ns : Nat) (pi : Nat) (th : Int32) (vd : Nat) (lw : Nat) (hg : Nat) (rk : Nat) : zR l G yX9_meanSteps wsX9_meanSteps { frames := 2, cells := 0, slots := 0, locals := 50 } [(mm, .inr (9, [.int th, .ref nw, .ref cq, .ref hi, .int 0, .ref ko, .ref se, .int 0, .ref nf, .ref ns, .ref pi])), (nw, .inr (8, [.int 0, .int 0, .ref vd, .ref lw, .ref hg, .ref rk]))] [.ref mm] (some (.double 0)) (fun u => [(mm, .inr (9, [.int 0, .ref nw, .ref cq, .ref hi, .int 0, .ref ko, .ref se, .int 0, .ref nf, .ref ns, .ref pi])), (nw, .inr (8, [.int 0, .int 0, .ref vd, .ref lw, .ref hg, .ref rk]))]) 0 0 := by
  refine zR_of (cc := cX9_meanSteps) (maxL := 1) (rt := (some .double)) (by decide) rfl (Nat.le_of_ble_eq_true rfl) ?_
  intro p e s m below meth c A ls hx hb hml hr hts hown hlocks hin hA hE hP hD hS hl
  have hl : lv_has ls 1 [(0, .ref mm)] := hl
  have hown : s.vm.findClass RX9 = some m.cls := hown
  have hP : va_P G.1 vwCl [(mm, .inr (9, [.int th, .ref nw, .ref cq, .ref hi, .int 0, .ref ko, .ref se, .int 0, .ref nf, .ref ns, .ref pi])), (nw, .inr (8, [.int 0, .int 0, .ref vd, .ref lw, .ref hg, .ref rk]))] s.heap := hP
  have hw9 : ∀ w ∈ u_ws RX9 TX9 11, w ∈ wsX9_meanSteps := by decide +kernel
  have hf40 := hts (.fieldLink RX9 40 "NettleModel" "thrown" "I") (by decide +kernel)
  have hf10 := hts (.fieldLink RX9 10 "NettleModel" "now" "LNettleModel$Wall;") (by decide +kernel)
  refine lv_aload_n hx hb dX9_meanSteps_0 rfl (lv_at hl 0 rfl) ?_
  refine lv_iconst (v := 0) hx hb dX9_meanSteps_1 (by decide) ?_
  refine va_put (D := G.1) (ci := 9) (v := .int 0) (ty := tyX9 0) (C := RX9) (T := TX9) (N := 11) hx hb hts hw9 tyX9 tyX9_ok nmX9 hown hE.1 hP hD hS 0 rfl rfl 0 (by decide) hf40 (fun _ h9 => h9) rfl (by decide +kernel) rfl rfl (Nat.le_of_ble_eq_true rfl) dX9_meanSteps_2 (fun H locs hP hD hS => ?_)
  have hP : va_P G.1 vwCl [(mm, .inr (9, [.int 0, .ref nw, .ref cq, .ref hi, .int 0, .ref ko, .ref se, .int 0, .ref nf, .ref ns, .ref pi])), (nw, .inr (8, [.int 0, .int 0, .ref vd, .ref lw, .ref hg, .ref rk]))] H := hP
  have hD : va_D A [(mm, .inr (9, [.int 0, .ref nw, .ref cq, .ref hi, .int 0, .ref ko, .ref se, .int 0, .ref nf, .ref ns, .ref pi])), (nw, .inr (8, [.int 0, .int 0, .ref vd, .ref lw, .ref hg, .ref rk]))] := hD
  refine lv_aload_n hx hb dX9_meanSteps_5 rfl (lv_at hl 0 rfl) ?_
  refine va_get (D := G.1) (ci := 9) (v := .ref nw) (C := RX9) (T := TX9) (N := 11) hx hb hts hw9 hown hE.1 hP 0 rfl rfl 1 (by decide) hf10 (fun _ h9 => h9) rfl dX9_meanSteps_6 ?_
  refine lv_iconst (v := 0) hx hb dX9_meanSteps_9 (by decide) ?_
  refine lv_aload_n hx hb dX9_meanSteps_10 rfl (lv_at hl 0 rfl) ?_
  refine va_get (D := G.1) (ci := 9) (v := .ref nw) (C := RX9) (T := TX9) (N := 11) hx hb hts hw9 hown hE.1 hP 0 rfl rfl 1 (by decide) hf10 (fun _ h9 => h9) rfl dX9_meanSteps_11 ?_
  refine zcall (wr := [(mm, .inr (9, [.int 0, .ref nw, .ref cq, .ref hi, .int 0, .ref ko, .ref se, .int 0, .ref nf, .ref ns, .ref pi]))]) (va_runV (As := []) (rest := [.int 0, .ref nw]) ⟨hx, hb, hml, hown, hts⟩ (z_X8_all l G nw vd lw hg rk H.size) (cwV 0 hts gX9_meanSteps_X8_all rfl rfl rfl (by decide +kernel) ⟨Nat.le_of_ble_eq_true rfl, Nat.le_of_ble_eq_true rfl⟩) (zPreV (Wc := [(nw, .inr (8, [.int 0, .int 0, .ref vd, .ref lw, .ref hg, .ref rk]))]) (q0 := 1) (ci := 8) (q := (RX8, TX8, 6)) hP hD hE hS hA [1] rfl (by decide) rfl rfl) rfl rfl hl.1 rfl (lv_room (Nat.le_of_ble_eq_true rfl)) dX9_meanSteps_14 ⟨Nat.le_of_ble_eq_true rfl, Nat.le_of_ble_eq_true rfl⟩) hP hD hS hA [1] [0] rfl rfl (by decide) (by decide) (fun u1 H locs hP hD hS => ?_)
  have hP : va_P G.1 vwCl [(mm, .inr (9, [.int 0, .ref nw, .ref cq, .ref hi, .int 0, .ref ko, .ref se, .int 0, .ref nf, .ref ns, .ref pi])), (nw, .inr (8, [.int 0, .int 0, .ref vd, .ref lw, .ref hg, .ref rk]))] H := hP
  have hD : va_D A [(mm, .inr (9, [.int 0, .ref nw, .ref cq, .ref hi, .int 0, .ref ko, .ref se, .int 0, .ref nf, .ref ns, .ref pi])), (nw, .inr (8, [.int 0, .int 0, .ref vd, .ref lw, .ref hg, .ref rk]))] := hD
  refine W.eq (g2 := F0 m 17 ls [.int 0, .int 0, .ref nw]) rfl ?_
  refine zcall (wr := [(mm, .inr (9, [.int 0, .ref nw, .ref cq, .ref hi, .int 0, .ref ko, .ref se, .int 0, .ref nf, .ref ns, .ref pi]))]) (va_runV (As := [.int 0, .int 0]) (rest := []) ⟨hx, hb, hml, hown, hts⟩ (z_X8_steps l G nw vd lw hg rk H.size) (cwV 2 hts gX9_meanSteps_X8_steps rfl rfl rfl (by decide +kernel) ⟨Nat.le_of_ble_eq_true rfl, Nat.le_of_ble_eq_true rfl⟩) (zPreV (Wc := [(nw, .inr (8, [.int 0, .int 0, .ref vd, .ref lw, .ref hg, .ref rk]))]) (q0 := 1) (ci := 8) (q := (RX8, TX8, 6)) hP hD hE hS hA [1] rfl (by decide) rfl rfl) rfl rfl hl.1 rfl (lv_room (Nat.le_of_ble_eq_true rfl)) dX9_meanSteps_17 ⟨Nat.le_of_ble_eq_true rfl, Nat.le_of_ble_eq_true rfl⟩) hP hD hS hA [1] [0] rfl rfl (by decide) (by decide) (fun u2 H locs hP hD hS => ?_)
  have hP : va_P G.1 vwCl [(mm, .inr (9, [.int 0, .ref nw, .ref cq, .ref hi, .int 0, .ref ko, .ref se, .int 0, .ref nf, .ref ns, .ref pi])), (nw, .inr (8, [.int 0, .int 0, .ref vd, .ref lw, .ref hg, .ref rk]))] H := hP
  have hD : va_D A [(mm, .inr (9, [.int 0, .ref nw, .ref cq, .ref hi, .int 0, .ref ko, .ref se, .int 0, .ref nf, .ref ns, .ref pi])), (nw, .inr (8, [.int 0, .int 0, .ref vd, .ref lw, .ref hg, .ref rk]))] := hD
  refine W.eq (g2 := F0 m 20 ls [.long 0]) rfl ?_
  refine lv_l2d hx hb dX9_meanSteps_20 ?_
  refine ztd (v := 0) (by decide +kernel) ?_
  refine lv_iconst (v := 0) hx hb dX9_meanSteps_21 (by decide) ?_
  refine zcall (wr := [(mm, .inr (9, [.int 0, .ref nw, .ref cq, .ref hi, .int 0, .ref ko, .ref se, .int 0, .ref nf, .ref ns, .ref pi])), (nw, .inr (8, [.int 0, .int 0, .ref vd, .ref lw, .ref hg, .ref rk]))]) (va_runS (As := [.int 0]) (rest := [.double 0]) ⟨hx, hb, hml, hown, hts⟩ (z_X9_size0 l G H.size) (va_cwS 1 hts gX9_meanSteps_X9_size rfl rfl rfl (by decide +kernel) ⟨Nat.le_of_ble_eq_true rfl, Nat.le_of_ble_eq_true rfl⟩) (zPre (Wc := []) hP hD hE hS hA [] rfl (by decide)) rfl rfl hl.1 rfl (lv_room (Nat.le_of_ble_eq_true rfl)) dX9_meanSteps_22 ⟨Nat.le_of_ble_eq_true rfl, Nat.le_of_ble_eq_true rfl⟩) hP hD hS hA [] [0, 1] rfl rfl (by decide) (by decide) (fun u3 H locs hP hD hS => ?_)
  have hP : va_P G.1 vwCl [(mm, .inr (9, [.int 0, .ref nw, .ref cq, .ref hi, .int 0, .ref ko, .ref se, .int 0, .ref nf, .ref ns, .ref pi])), (nw, .inr (8, [.int 0, .int 0, .ref vd, .ref lw, .ref hg, .ref rk]))] H := hP
  have hD : va_D A [(mm, .inr (9, [.int 0, .ref nw, .ref cq, .ref hi, .int 0, .ref ko, .ref se, .int 0, .ref nf, .ref ns, .ref pi])), (nw, .inr (8, [.int 0, .int 0, .ref vd, .ref lw, .ref hg, .ref rk]))] := hD
  refine W.eq (g2 := F0 m 25 ls [.int 268435456, .double 0]) rfl ?_
  refine lv_i2d hx hb dX9_meanSteps_25 ?_
  refine ztd (v := 4733283208366391296) (by decide +kernel) ?_
  refine lv_ddiv hx hb dX9_meanSteps_26 (by unfold vf_n64; decide +kernel) ?_
  refine ztd (v := 0) (by decide +kernel) ?_
  exact zend_d hx hb hr hlocks (fun k => [].getD k 0) hP hD hS (Nat.le_of_ble_eq_true rfl) (Nat.le_of_ble_eq_true rfl) dX9_meanSteps_27
