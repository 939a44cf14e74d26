/-! the comparison -/
theorem dX0_isSettled_0 : decode cX0_isSettled 0 = .ok (.aload_n 0, 1) := by decide +kernel
theorem dX0_isSettled_1 : decode cX0_isSettled 1 = .ok (.getfield 18, 3) := by decide +kernel
theorem dX0_isSettled_4 : decode cX0_isSettled 4 = .ok (.iload_n 1, 1) := by decide +kernel
theorem dX0_isSettled_5 : decode cX0_isSettled 5 = .ok (.iload_n 2, 1) := by decide +kernel
theorem dX0_isSettled_6 : decode cX0_isSettled 6 = .ok (.sipush 256, 3) := by decide +kernel
theorem dX0_isSettled_9 : decode cX0_isSettled 9 = .ok (.irem, 1) := by decide +kernel
set_option maxRecDepth 20000 in
theorem ggX0_isSettled_X6_isSettled : GoodIn wsX0_isSettled wsX6_isSettled := goodIn_r _ [7, 8, 9, 10, 11, 6, 12, 13, 14, 15, 16, 17, 18, 19, 20, 28, 29, 30, 31, 32, 33, 34] (by decide +kernel) (by decide +kernel)
set_option maxRecDepth 20000 in
theorem gX0_isSettled_X6_isSettled : GoodIn wsX0_isSettled (wsV RX0 75 RX6 yX6_isSettled wsX6_isSettled) := goodIn_app (goodIn_of _ (by decide +kernel)) ggX0_isSettled_X6_isSettled
theorem dX0_isSettled_10 : decode cX0_isSettled 10 = .ok (.invokevirtual 75, 3) := by decide +kernel
theorem dX0_isSettled_13 : decode cX0_isSettled 13 = .ok (.ifCond .eq 23, 3) := by decide +kernel
theorem dX0_isSettled_36 : decode cX0_isSettled 36 = .ok (.iconst 0, 1) := by decide +kernel
theorem dX0_isSettled_37 : decode cX0_isSettled 37 = .ok (.ireturn, 1) := by decide +kernel
theorem dX0_isSettled_16 : decode cX0_isSettled 16 = .ok (.aload_n 0, 1) := by decide +kernel
theorem dX0_isSettled_17 : decode cX0_isSettled 17 = .ok (.getfield 22, 3) := by decide +kernel
theorem dX0_isSettled_20 : decode cX0_isSettled 20 = .ok (.iload_n 1, 1) := by decide +kernel
theorem dX0_isSettled_21 : decode cX0_isSettled 21 = .ok (.iload_n 2, 1) := by decide +kernel
theorem dX0_isSettled_22 : decode cX0_isSettled 22 = .ok (.sipush 256, 3) := by decide +kernel
theorem dX0_isSettled_25 : decode cX0_isSettled 25 = .ok (.idiv, 1) := by decide +kernel
theorem dX0_isSettled_26 : decode cX0_isSettled 26 = .ok (.invokevirtual 75, 3) := by decide +kernel
theorem dX0_isSettled_29 : decode cX0_isSettled 29 = .ok (.ifCond .eq 7, 3) := by decide +kernel
theorem dX0_isSettled_32 : decode cX0_isSettled 32 = .ok (.iconst 1, 1) := by decide +kernel
theorem dX0_isSettled_33 : decode cX0_isSettled 33 = .ok (.goto 4, 3) := by decide +kernel
theorem dX0_judge_0 : decode cX0_judge 0 = .ok (.aload_n 0, 1) := by decide +kernel
theorem dX0_judge_1 : decode cX0_judge 1 = .ok (.getfield 18, 3) := by decide +kernel
theorem dX0_judge_4 : decode cX0_judge 4 = .ok (.iload_n 2, 1) := by decide +kernel
theorem dX0_judge_5 : decode cX0_judge 5 = .ok (.sipush 256, 3) := by decide +kernel
theorem dX0_judge_8 : decode cX0_judge 8 = .ok (.irem, 1) := by decide +kernel
set_option maxRecDepth 20000 in
theorem ggX0_judge_X6_allows : GoodIn wsX0_judge wsX6_allows := goodIn_r _ [10, 11, 12, 13, 14, 15, 16, 9, 17, 18, 26, 27, 28, 29, 30, 31, 32] (by decide +kernel) (by decide +kernel)
set_option maxRecDepth 20000 in
theorem gX0_judge_X6_allows : GoodIn wsX0_judge (wsV RX0 76 RX6 yX6_allows wsX6_allows) := goodIn_app (goodIn_of _ (by decide +kernel)) ggX0_judge_X6_allows
theorem dX0_judge_9 : decode cX0_judge 9 = .ok (.invokevirtual 76, 3) := by decide +kernel
theorem dX0_judge_12 : decode cX0_judge 12 = .ok (.aload_n 0, 1) := by decide +kernel
theorem dX0_judge_13 : decode cX0_judge 13 = .ok (.getfield 22, 3) := by decide +kernel
theorem dX0_judge_16 : decode cX0_judge 16 = .ok (.iload_n 2, 1) := by decide +kernel
theorem dX0_judge_17 : decode cX0_judge 17 = .ok (.sipush 256, 3) := by decide +kernel
theorem dX0_judge_20 : decode cX0_judge 20 = .ok (.idiv, 1) := by decide +kernel
theorem dX0_judge_21 : decode cX0_judge 21 = .ok (.invokevirtual 76, 3) := by decide +kernel
theorem dX0_judge_24 : decode cX0_judge 24 = .ok (.if_icmp .ne 4, 3) := by decide +kernel
theorem dX0_judge_28 : decode cX0_judge 28 = .ok (.aload_n 0, 1) := by decide +kernel
theorem dX0_judge_29 : decode cX0_judge 29 = .ok (.getfield 33, 3) := by decide +kernel
theorem dX0_judge_32 : decode cX0_judge 32 = .ok (.ifCond .ne 42, 3) := by decide +kernel
theorem dX0_judge_74 : decode cX0_judge 74 = .ok (.aload_n 0, 1) := by decide +kernel
theorem dX0_judge_75 : decode cX0_judge 75 = .ok (.dup, 1) := by decide +kernel
theorem dX0_judge_76 : decode cX0_judge 76 = .ok (.getfield 33, 3) := by decide +kernel
theorem dX0_judge_79 : decode cX0_judge 79 = .ok (.iload_n 3, 1) := by decide +kernel
theorem dX0_judge_80 : decode cX0_judge 80 = .ok (.getstatic 80, 3) := by decide +kernel
theorem dX0_judge_83 : decode cX0_judge 83 = .ok (.iload_n 1, 1) := by decide +kernel
theorem dX0_judge_84 : decode cX0_judge 84 = .ok (.iaload, 1) := by decide +kernel
theorem dX0_judge_85 : decode cX0_judge 85 = .ok (.imul, 1) := by decide +kernel
theorem dX0_judge_86 : decode cX0_judge 86 = .ok (.iadd, 1) := by decide +kernel
theorem dX0_judge_87 : decode cX0_judge 87 = .ok (.putfield 33, 3) := by decide +kernel
theorem dX0_judge_90 : decode cX0_judge 90 = .ok (.return_, 1) := by decide +kernel
theorem dX0_judge_35 : decode cX0_judge 35 = .ok (.iconst 0, 1) := by decide +kernel
theorem dX0_judge_36 : decode cX0_judge 36 = .ok (.istore 4, 2) := by decide +kernel
theorem dX0_judge_38 : decode cX0_judge 38 = .ok (.iload 4, 2) := by decide +kernel
theorem dX0_judge_40 : decode cX0_judge 40 = .ok (.iconst 4, 1) := by decide +kernel
theorem dX0_judge_41 : decode cX0_judge 41 = .ok (.if_icmp .ge 33, 3) := by decide +kernel
theorem dX0_judge_44 : decode cX0_judge 44 = .ok (.aload_n 0, 1) := by decide +kernel
theorem dX0_judge_45 : decode cX0_judge 45 = .ok (.getfield 9, 3) := by decide +kernel
theorem dX0_judge_48 : decode cX0_judge 48 = .ok (.iload 4, 2) := by decide +kernel
theorem dX0_judge_50 : decode cX0_judge 50 = .ok (.iload 4, 2) := by decide +kernel
theorem dX0_judge_52 : decode cX0_judge 52 = .ok (.iload_n 1, 1) := by decide +kernel
theorem dX0_judge_53 : decode cX0_judge 53 = .ok (.if_icmp .ge 13, 3) := by decide +kernel
theorem dX0_judge_66 : decode cX0_judge 66 = .ok (.iconst 0, 1) := by decide +kernel
theorem dX0_judge_67 : decode cX0_judge 67 = .ok (.iastore, 1) := by decide +kernel
theorem dX0_judge_68 : decode cX0_judge 68 = .ok (.iinc 4 1, 3) := by decide +kernel
theorem dX0_judge_71 : decode cX0_judge 71 = .ok (.goto (-33), 3) := by decide +kernel
theorem dX0_judge_56 : decode cX0_judge 56 = .ok (.aload_n 0, 1) := by decide +kernel
theorem dX0_judge_57 : decode cX0_judge 57 = .ok (.getfield 15, 3) := by decide +kernel
theorem dX0_judge_60 : decode cX0_judge 60 = .ok (.iload 4, 2) := by decide +kernel
theorem dX0_judge_62 : decode cX0_judge 62 = .ok (.iaload, 1) := by decide +kernel
theorem dX0_judge_63 : decode cX0_judge 63 = .ok (.goto 4, 3) := by decide +kernel
theorem dX0_judge_27 : decode cX0_judge 27 = .ok (.return_, 1) := by decide +kernel
theorem dX0_walk_0 : decode cX0_walk 0 = .ok (.iload_n 1, 1) := by decide +kernel
theorem dX0_walk_1 : decode cX0_walk 1 = .ok (.iconst 4, 1) := by decide +kernel
theorem dX0_walk_2 : decode cX0_walk 2 = .ok (.if_icmp .ge 12, 3) := by decide +kernel
theorem dX0_walk_14 : decode cX0_walk 14 = .ok (.aload_n 0, 1) := by decide +kernel
theorem dX0_walk_15 : decode cX0_walk 15 = .ok (.iload_n 1, 1) := by decide +kernel
theorem dX0_walk_16 : decode cX0_walk 16 = .ok (.iload_n 2, 1) := by decide +kernel
theorem dX0_walk_17 : decode cX0_walk 17 = .ok (.iload_n 3, 1) := by decide +kernel
set_option maxRecDepth 20000 in
theorem ggX0_walk_X0_judge : GoodIn wsX0_walk wsX0_judge := goodIn_r _ [32, 9, 10, 33, 34, 3, 35, 36, 37, 14, 38, 39, 16, 40, 17, 18, 19, 20, 21, 66, 67, 68, 69, 70, 71, 72, 79, 80, 81, 82, 83, 84, 85] (by decide +kernel) (by decide +kernel)
set_option maxRecDepth 20000 in
theorem gX0_walk_X0_judge : GoodIn wsX0_walk (wsV RX0 51 RX0 yX0_judge wsX0_judge) := goodIn_app (goodIn_of _ (by decide +kernel)) ggX0_walk_X0_judge
theorem dX0_walk_18 : decode cX0_walk 18 = .ok (.invokevirtual 51, 3) := by decide +kernel
theorem dX0_walk_21 : decode cX0_walk 21 = .ok (.return_, 1) := by decide +kernel
theorem dX0_walk_5 : decode cX0_walk 5 = .ok (.aload_n 0, 1) := by decide +kernel
theorem dX0_walk_6 : decode cX0_walk 6 = .ok (.iload_n 1, 1) := by decide +kernel
theorem dX0_walk_7 : decode cX0_walk 7 = .ok (.iload_n 2, 1) := by decide +kernel
set_option maxRecDepth 20000 in
theorem ggX0_walk_X0_isSettled : GoodIn wsX0_walk wsX0_isSettled := goodIn_r _ [8, 9, 10, 11, 12, 13, 14, 15, 16, 17, 18, 19, 20, 21, 22, 23, 24, 25, 26, 27, 28, 66, 67, 68, 69, 70, 71, 72, 79, 80, 81, 82, 83, 84, 85] (by decide +kernel) (by decide +kernel)
set_option maxRecDepth 20000 in
theorem gX0_walk_X0_isSettled : GoodIn wsX0_walk (wsV RX0 47 RX0 yX0_isSettled wsX0_isSettled) := goodIn_app (goodIn_of _ (by decide +kernel)) ggX0_walk_X0_isSettled
theorem dX0_walk_8 : decode cX0_walk 8 = .ok (.invokevirtual 47, 3) := by decide +kernel
theorem dX0_walk_11 : decode cX0_walk 11 = .ok (.ifCond .eq 11, 3) := by decide +kernel
theorem dX0_walk_22 : decode cX0_walk 22 = .ok (.aload_n 0, 1) := by decide +kernel
theorem dX0_walk_23 : decode cX0_walk 23 = .ok (.getfield 25, 3) := by decide +kernel
theorem dX0_walk_26 : decode cX0_walk 26 = .ok (.astore 4, 2) := by decide +kernel
theorem dX0_walk_28 : decode cX0_walk 28 = .ok (.iconst 0, 1) := by decide +kernel
theorem dX0_walk_29 : decode cX0_walk 29 = .ok (.istore 5, 2) := by decide +kernel
theorem dX0_walk_31 : decode cX0_walk 31 = .ok (.iload 5, 2) := by decide +kernel
theorem dX0_walk_33 : decode cX0_walk 33 = .ok (.aload 4, 2) := by decide +kernel
theorem dX0_walk_35 : decode cX0_walk 35 = .ok (.getfield 55, 3) := by decide +kernel
theorem dX0_walk_38 : decode cX0_walk 38 = .ok (.iload_n 1, 1) := by decide +kernel
theorem dX0_walk_39 : decode cX0_walk 39 = .ok (.iaload, 1) := by decide +kernel
theorem dX0_walk_40 : decode cX0_walk 40 = .ok (.if_icmp .ge 74, 3) := by decide +kernel
theorem dX0_walk_114 : decode cX0_walk 114 = .ok (.return_, 1) := by decide +kernel
theorem dX0_walk_43 : decode cX0_walk 43 = .ok (.aload 4, 2) := by decide +kernel
theorem dX0_walk_45 : decode cX0_walk 45 = .ok (.iload_n 1, 1) := by decide +kernel
theorem dX0_walk_46 : decode cX0_walk 46 = .ok (.iload 5, 2) := by decide +kernel
theorem dX0_walk_48 : decode cX0_walk 48 = .ok (.iload_n 2, 1) := by decide +kernel
set_option maxRecDepth 20000 in
theorem ggX0_walk_X1_startsRun : GoodIn wsX0_walk wsX1_startsRun := goodIn_r _ [45, 46, 47, 48, 44, 49, 50, 73, 74, 75, 76, 77, 78] (by decide +kernel) (by decide +kernel)
set_option maxRecDepth 20000 in
theorem gX0_walk_X1_startsRun : GoodIn wsX0_walk (wsV RX0 60 RX1 yX1_startsRun wsX1_startsRun) := goodIn_app (goodIn_of _ (by decide +kernel)) ggX0_walk_X1_startsRun
theorem dX0_walk_49 : decode cX0_walk 49 = .ok (.invokevirtual 60, 3) := by decide +kernel
theorem dX0_walk_52 : decode cX0_walk 52 = .ok (.ifCond .eq 56, 3) := by decide +kernel
theorem dX0_walk_108 : decode cX0_walk 108 = .ok (.iinc 5 1, 3) := by decide +kernel
theorem dX0_walk_111 : decode cX0_walk 111 = .ok (.goto (-80), 3) := by decide +kernel
theorem dX0_walk_55 : decode cX0_walk 55 = .ok (.aload 4, 2) := by decide +kernel
theorem dX0_walk_57 : decode cX0_walk 57 = .ok (.iload_n 1, 1) := by decide +kernel
theorem dX0_walk_58 : decode cX0_walk 58 = .ok (.iload 5, 2) := by decide +kernel
set_option maxRecDepth 20000 in
theorem ggX0_walk_X1_start : GoodIn wsX0_walk wsX1_start := goodIn_r _ [54, 55, 56, 73, 74, 75, 76, 77, 78] (by decide +kernel) (by decide +kernel)
set_option maxRecDepth 20000 in
theorem gX0_walk_X1_start : GoodIn wsX0_walk (wsV RX0 64 RX1 yX1_start wsX1_start) := goodIn_app (goodIn_of _ (by decide +kernel)) ggX0_walk_X1_start
theorem dX0_walk_60 : decode cX0_walk 60 = .ok (.invokevirtual 64, 3) := by decide +kernel
theorem dX0_walk_63 : decode cX0_walk 63 = .ok (.istore 6, 2) := by decide +kernel
theorem dX0_walk_65 : decode cX0_walk 65 = .ok (.aload 4, 2) := by decide +kernel
theorem dX0_walk_67 : decode cX0_walk 67 = .ok (.iload_n 1, 1) := by decide +kernel
theorem dX0_walk_68 : decode cX0_walk 68 = .ok (.iload 5, 2) := by decide +kernel
theorem dX0_walk_70 : decode cX0_walk 70 = .ok (.iload_n 2, 1) := by decide +kernel
set_option maxRecDepth 20000 in
theorem ggX0_walk_X1_runEnd : GoodIn wsX0_walk wsX1_runEnd := goodIn_r _ [60, 55, 61, 42, 43, 44, 45, 46, 47, 48, 49, 50, 62, 52, 53, 54, 56, 73, 74, 75, 76, 77, 78] (by decide +kernel) (by decide +kernel)
set_option maxRecDepth 20000 in
theorem gX0_walk_X1_runEnd : GoodIn wsX0_walk (wsV RX0 68 RX1 yX1_runEnd wsX1_runEnd) := goodIn_app (goodIn_of _ (by decide +kernel)) ggX0_walk_X1_runEnd
theorem dX0_walk_71 : decode cX0_walk 71 = .ok (.invokevirtual 68, 3) := by decide +kernel
theorem dX0_walk_74 : decode cX0_walk 74 = .ok (.istore 7, 2) := by decide +kernel
theorem dX0_walk_76 : decode cX0_walk 76 = .ok (.aload_n 0, 1) := by decide +kernel
theorem dX0_walk_77 : decode cX0_walk 77 = .ok (.getfield 15, 3) := by decide +kernel
theorem dX0_walk_80 : decode cX0_walk 80 = .ok (.iload_n 1, 1) := by decide +kernel
theorem dX0_walk_81 : decode cX0_walk 81 = .ok (.iload 6, 2) := by decide +kernel
theorem dX0_walk_83 : decode cX0_walk 83 = .ok (.iastore, 1) := by decide +kernel
theorem dX0_walk_84 : decode cX0_walk 84 = .ok (.aload_n 0, 1) := by decide +kernel
theorem dX0_walk_85 : decode cX0_walk 85 = .ok (.iload_n 1, 1) := by decide +kernel
theorem dX0_walk_86 : decode cX0_walk 86 = .ok (.iconst 1, 1) := by decide +kernel
theorem dX0_walk_87 : decode cX0_walk 87 = .ok (.iadd, 1) := by decide +kernel
theorem dX0_walk_88 : decode cX0_walk 88 = .ok (.iload_n 2, 1) := by decide +kernel
theorem dX0_walk_89 : decode cX0_walk 89 = .ok (.aload 4, 2) := by decide +kernel
theorem dX0_walk_91 : decode cX0_walk 91 = .ok (.iload_n 1, 1) := by decide +kernel
theorem dX0_walk_92 : decode cX0_walk 92 = .ok (.iload 5, 2) := by decide +kernel
set_option maxRecDepth 20000 in
theorem ggX0_walk_X1_mask : GoodIn wsX0_walk wsX1_mask := goodIn_r _ [49, 50, 73, 74, 75, 76, 77, 78] (by decide +kernel) (by decide +kernel)
set_option maxRecDepth 20000 in
theorem gX0_walk_X1_mask : GoodIn wsX0_walk (wsV RX0 72 RX1 yX1_mask wsX1_mask) := goodIn_app (goodIn_of _ (by decide +kernel)) ggX0_walk_X1_mask
theorem dX0_walk_94 : decode cX0_walk 94 = .ok (.invokevirtual 72, 3) := by decide +kernel
theorem dX0_walk_97 : decode cX0_walk 97 = .ok (.iand, 1) := by decide +kernel
theorem dX0_walk_98 : decode cX0_walk 98 = .ok (.iload_n 3, 1) := by decide +kernel
theorem dX0_walk_99 : decode cX0_walk 99 = .ok (.iload 7, 2) := by decide +kernel
theorem dX0_walk_101 : decode cX0_walk 101 = .ok (.iload 6, 2) := by decide +kernel
theorem dX0_walk_103 : decode cX0_walk 103 = .ok (.isub, 1) := by decide +kernel
theorem dX0_walk_104 : decode cX0_walk 104 = .ok (.imul, 1) := by decide +kernel
set_option maxRecDepth 20000 in
theorem ggX0_walk_X0_walk : GoodIn wsX0_walk wsX0_walk := goodIn_r _ [0, 1, 2, 3, 4, 5, 6, 7, 8, 9, 10, 11, 12, 13, 14, 15, 16, 17, 18, 19, 20, 21, 22, 23, 24, 25, 26, 27, 28, 29, 30, 31, 32, 33, 34, 35, 36, 37, 38, 39, 40, 41, 42, 43, 44, 45, 46, 47, 48, 49, 50, 51, 52, 53, 54, 55, 56, 57, 58, 59, 60, 61, 62, 63, 64, 65, 66, 67, 68, 69, 70, 71, 72, 73, 74, 75, 76, 77, 78, 79, 80, 81, 82, 83, 84, 85] (by decide +kernel) (by decide +kernel)
set_option maxRecDepth 20000 in
theorem gX0_walk_X0_walk : GoodIn wsX0_walk (va_wsS RX0 43 yX0_walk wsX0_walk) := goodIn_app (goodIn_of _ (by decide +kernel)) ggX0_walk_X0_walk
theorem dX0_walk_105 : decode cX0_walk 105 = .ok (.invokestatic 43, 3) := by decide +kernel
theorem dX0_refresh_0 : decode cX0_refresh 0 = .ok (.aload_n 0, 1) := by decide +kernel
theorem dX0_refresh_1 : decode cX0_refresh 1 = .ok (.getfield 29, 3) := by decide +kernel
theorem dX0_refresh_4 : decode cX0_refresh 4 = .ok (.ifCond .eq 4, 3) := by decide +kernel
theorem dX0_refresh_8 : decode cX0_refresh 8 = .ok (.aload_n 0, 1) := by decide +kernel
theorem dX0_refresh_9 : decode cX0_refresh 9 = .ok (.iconst 0, 1) := by decide +kernel
theorem dX0_refresh_10 : decode cX0_refresh 10 = .ok (.putfield 33, 3) := by decide +kernel
theorem dX0_refresh_13 : decode cX0_refresh 13 = .ok (.iconst 0, 1) := by decide +kernel
theorem dX0_refresh_14 : decode cX0_refresh 14 = .ok (.istore_n 1, 1) := by decide +kernel
theorem dX0_refresh_15 : decode cX0_refresh 15 = .ok (.iload_n 1, 1) := by decide +kernel
theorem dX0_refresh_16 : decode cX0_refresh 16 = .ok (.iconst 4, 1) := by decide +kernel
theorem dX0_refresh_17 : decode cX0_refresh 17 = .ok (.if_icmp .ge 16, 3) := by decide +kernel
theorem dX0_refresh_20 : decode cX0_refresh 20 = .ok (.aload_n 0, 1) := by decide +kernel
theorem dX0_refresh_21 : decode cX0_refresh 21 = .ok (.getfield 9, 3) := by decide +kernel
theorem dX0_refresh_24 : decode cX0_refresh 24 = .ok (.iload_n 1, 1) := by decide +kernel
theorem dX0_refresh_25 : decode cX0_refresh 25 = .ok (.iconst (-1), 1) := by decide +kernel
theorem dX0_refresh_26 : decode cX0_refresh 26 = .ok (.iastore, 1) := by decide +kernel
theorem dX0_refresh_27 : decode cX0_refresh 27 = .ok (.iinc 1 1, 3) := by decide +kernel
theorem dX0_refresh_30 : decode cX0_refresh 30 = .ok (.goto (-15), 3) := by decide +kernel
theorem dX0_refresh_33 : decode cX0_refresh 33 = .ok (.aload_n 0, 1) := by decide +kernel
theorem dX0_refresh_34 : decode cX0_refresh 34 = .ok (.iconst 0, 1) := by decide +kernel
theorem dX0_refresh_35 : decode cX0_refresh 35 = .ok (.aload_n 0, 1) := by decide +kernel
theorem dX0_refresh_36 : decode cX0_refresh 36 = .ok (.getfield 18, 3) := by decide +kernel
set_option maxRecDepth 20000 in
theorem ggX0_refresh_X6_deciders : GoodIn wsX0_refresh wsX6_deciders := goodIn_r _ [10, 11, 12, 13, 14, 15, 16, 17, 18, 84, 85, 86, 87, 88, 89, 90] (by decide +kernel) (by decide +kernel)
set_option maxRecDepth 20000 in
theorem gX0_refresh_X6_deciders : GoodIn wsX0_refresh (wsV RX0 37 RX6 yX6_deciders wsX6_deciders) := goodIn_app (goodIn_of _ (by decide +kernel)) ggX0_refresh_X6_deciders
theorem dX0_refresh_39 : decode cX0_refresh 39 = .ok (.invokevirtual 37, 3) := by decide +kernel
theorem dX0_refresh_42 : decode cX0_refresh 42 = .ok (.aload_n 0, 1) := by decide +kernel
theorem dX0_refresh_43 : decode cX0_refresh 43 = .ok (.getfield 22, 3) := by decide +kernel
theorem dX0_refresh_46 : decode cX0_refresh 46 = .ok (.invokevirtual 37, 3) := by decide +kernel
theorem dX0_refresh_49 : decode cX0_refresh 49 = .ok (.bipush 8, 2) := by decide +kernel
theorem dX0_refresh_51 : decode cX0_refresh 51 = .ok (.ishl, 1) := by decide +kernel
theorem dX0_refresh_52 : decode cX0_refresh 52 = .ok (.ior, 1) := by decide +kernel
theorem dX0_refresh_53 : decode cX0_refresh 53 = .ok (.iconst 1, 1) := by decide +kernel
set_option maxRecDepth 20000 in
theorem ggX0_refresh_X0_walk : GoodIn wsX0_refresh wsX0_walk := goodIn_r _ [22, 23, 24, 25, 26, 27, 28, 21, 29, 4, 5, 30, 31, 32, 9, 33, 12, 34, 35, 36, 37, 11, 38, 39, 40, 16, 41, 42, 43, 44, 45, 46, 47, 2, 3, 48, 49, 50, 51, 52, 53, 54, 55, 56, 57, 58, 59, 60, 61, 62, 63, 64, 65, 66, 67, 68, 69, 70, 71, 72, 73, 74, 75, 76, 19, 20, 77, 78, 79, 80, 81, 82, 83, 91, 92, 93, 94, 95, 96, 84, 85, 86, 87, 88, 89, 90] (by decide +kernel) (by decide +kernel)
set_option maxRecDepth 20000 in
theorem gX0_refresh_X0_walk : GoodIn wsX0_refresh (va_wsS RX0 43 yX0_walk wsX0_walk) := goodIn_app (goodIn_of _ (by decide +kernel)) ggX0_refresh_X0_walk
theorem dX0_refresh_54 : decode cX0_refresh 54 = .ok (.invokestatic 43, 3) := by decide +kernel
theorem dX0_refresh_57 : decode cX0_refresh 57 = .ok (.aload_n 0, 1) := by decide +kernel
theorem dX0_refresh_58 : decode cX0_refresh 58 = .ok (.iconst 1, 1) := by decide +kernel
theorem dX0_refresh_59 : decode cX0_refresh 59 = .ok (.putfield 29, 3) := by decide +kernel
theorem dX0_refresh_62 : decode cX0_refresh 62 = .ok (.return_, 1) := by decide +kernel
theorem dX0_refresh_7 : decode cX0_refresh 7 = .ok (.return_, 1) := by decide +kernel
/-- the comparison's state -/
def zCm (X : Nat → Nat → Int) : Prop := (X 65 5 = 0 ∧ ∀ j : Nat, j < 4 → X 66 j = -1) ∨ (0 < X 65 5 ∧ X 65 5 ≤ 268435456 ∧ ∀ j : Nat, j < 4 → 0 ≤ X 66 j ∧ X 66 j < 1024)
theorem zM_bd {f : Nat} (hf : f ≤ 4) : 1 ≤ zM f ∧ zM f ≤ 268435456 := by
  have h : f = 0 ∨ f = 1 ∨ f = 2 ∨ f = 3 ∨ f = 4 := by omega
  rcases h with rfl | rfl | rfl | rfl | rfl <;> decide
/-- what judging and walking do: the amount may grow by d, at most -/
def zJd (X Y : Nat → Nat → Int) (g : Nat) (d : Int) : Prop := zCm Y ∧ X 65 5 ≤ Y 65 5 ∧ Y 65 5 ≤ X 65 5 + d ∧ (∀ c : Nat, c ≠ 65 → c ≠ 66 → c ≠ 67 → Y c = X c) ∧ (∀ q : Nat, q < g → Y 67 q = X 67 q) ∧ Y 65 6 = X 65 6
theorem zJd.wc {X Y : Nat → Nat → Int} {g : Nat} {d : Int} (h : zJd X Y g d) : zWc X Y := ⟨fun c hc => h.2.2.2.1 c (by omega) (by omega) (by omega), fun c a b => h.2.2.2.1 c (by omega) (by omega) (by omega)⟩

set_option maxHeartbeats 4000000 in
set_option maxRecDepth 100000 in
/-- isSettled -/
theorem c_X0_isSettled (l : Launch) (G : zG) (ad : Nat → Nat) (X : Nat → Nat → Int) (f : Nat) (u : Nat) (hV : zV X) (hf : f ≤ 4) (hu : u < 65536) : zR l G yX0_isSettled wsX0_isSettled { frames := 2, cells := 0, slots := 0, locals := 45 } (zpic G ad X) [.ref (ad 65), .int (zi (f : Int)), .int (zi (u : Int))] (zq G ad X (fun w => (w = 1 ∧ zSe X 0 f (u % 256) ∧ zSe X 26 f (u / 256)) ∨ (w = 0 ∧ ¬ (zSe X 0 f (u % 256) ∧ zSe X 26 f (u / 256))))) 0 0 := by
  refine zR_of (cc := cX0_isSettled) (maxL := 3) (rt := (some .boolean)) (by decide) rfl (Nat.le_of_ble_eq_true rfl) ?_
  intro p e s m below meth c A ls hx hb hml hr hts hown hlocks hin0 hA hE hP hD hS hl
  have hl : lv_has ls 3 [(0, .ref (ad 65)), (1, .int (zi (f : Int))), (2, .int (zi (u : Int)))] := hl
  have hown : s.vm.findClass RX0 = some m.cls := hown
  have hw0 : ∀ w ∈ u_ws RX0 TX0 7, w ∈ wsX0_isSettled := by decide +kernel
  have hf18 := hts (.fieldLink RX0 18 "Nettle$Comparison" "now" "LNettle$Wall;") (by decide +kernel)
  have hf22 := hts (.fieldLink RX0 22 "Nettle$Comparison" "old" "LNettle$Wall;") (by decide +kernel)
  refine lv_aload_n hx hb dX0_isSettled_0 rfl (lv_at hl 0 rfl) ?_
  refine va_get (D := G.1) (ci := 0) (v := .ref (ad 0)) (C := RX0) (T := TX0) (N := 7) hx hb hts hw0 hown hE.1 hP 65 p_65 rfl 0 (by decide) hf18 (fun _ h9 => h9) rfl dX0_isSettled_1 ?_
  refine lv_iload_n hx hb dX0_isSettled_4 rfl (lv_at hl 1 rfl) ?_
  refine lv_iload_n hx hb dX0_isSettled_5 rfl (lv_at hl 2 rfl) ?_
  refine lv_sipush (v := zi 256) hx hb dX0_isSettled_6 (by decide +kernel) ?_
  refine lv_irem hx hb dX0_isSettled_9 (by decide +kernel) (zti (v := zi ((u % 256 : Nat) : Int)) (zi_rem (a := u) (b := 256) (by omega) (by omega) (by omega)) ?_)
  refine zcall (wr := []) (va_runV (As := [.int (zi (f : Int)), .int (zi ((u % 256 : Nat) : Int))]) (rest := []) ⟨hx, hb, hml, hown, hts⟩ (c_X6_isSettled l G ad X 0 f (u % 256 : Nat) hV (Or.inl rfl) (by omega) (by omega) s.heap.size) (cwV 2 hts gX0_isSettled_X6_isSettled rfl rfl rfl (by decide +kernel) ⟨Nat.le_of_ble_eq_true rfl, Nat.le_of_ble_eq_true rfl⟩) (zPreV (wr := []) (wc := zpic G ad X) (q0 := 0) (ci := 6) (q := (RX6, TX6, 3)) hP hD hE hS hA rfl (p_w (Or.inl rfl))) rfl rfl hl.1 rfl (lv_room (Nat.le_of_ble_eq_true rfl)) dX0_isSettled_10 ⟨Nat.le_of_ble_eq_true rfl, Nat.le_of_ble_eq_true rfl⟩) hP hD hS hA (fun _ _ H locs hf hP hD hS => ?_)
  obtain ⟨v1, rfl, hv1, rfl⟩ := hf
  have hP : va_P G.1 vwCl (zpic G ad X) H := hP
  have hD : va_D A (zpic G ad X) := hD
  refine W.eq (g2 := F0 m 13 ls [.int (zi v1)]) rfl ?_
  refine z0_eq (tgt := 36) hx hb dX0_isSettled_13 (by decide) (by omega) (fun h13 => ?_) (fun h13 => ?_)
  · refine lv_iconst (v := zi 0) hx hb dX0_isSettled_36 rfl ?_
    exact zend_z hx hb hr hlocks (by decide +kernel) hP hD hS (Nat.le_of_ble_eq_true rfl) (Nat.le_of_ble_eq_true rfl) dX0_isSettled_37 ⟨_, rfl, (Or.inr ⟨rfl, fun z => by rcases hv1 with h | h; omega; exact h.2 z.1⟩), rfl⟩
  · refine lv_aload_n hx hb dX0_isSettled_16 rfl (lv_at hl 0 rfl) ?_
    refine va_get (D := G.1) (ci := 0) (v := .ref (ad 26)) (C := RX0) (T := TX0) (N := 7) hx hb hts hw0 hown hE.1 hP 65 p_65 rfl 1 (by decide) hf22 (fun _ h9 => h9) rfl dX0_isSettled_17 ?_
    refine lv_iload_n hx hb dX0_isSettled_20 rfl (lv_at hl 1 rfl) ?_
    refine lv_iload_n hx hb dX0_isSettled_21 rfl (lv_at hl 2 rfl) ?_
    refine lv_sipush (v := zi 256) hx hb dX0_isSettled_22 (by decide +kernel) ?_
    refine lv_idiv hx hb dX0_isSettled_25 (by decide +kernel) (zti (v := zi ((u / 256 : Nat) : Int)) (zi_div (a := u) (b := 256) (by omega) (by omega) (by omega)) ?_)
    refine zcall (wr := []) (va_runV (As := [.int (zi (f : Int)), .int (zi ((u / 256 : Nat) : Int))]) (rest := []) ⟨hx, hb, hml, hown, hts⟩ (c_X6_isSettled l G ad X 26 f (u / 256 : Nat) hV (Or.inr rfl) (by omega) (by omega) H.size) (cwV 2 hts gX0_isSettled_X6_isSettled rfl rfl rfl (by decide +kernel) ⟨Nat.le_of_ble_eq_true rfl, Nat.le_of_ble_eq_true rfl⟩) (zPreV (wr := []) (wc := zpic G ad X) (q0 := 26) (ci := 6) (q := (RX6, TX6, 3)) hP hD hE hS hA rfl (p_w (Or.inr rfl))) rfl rfl hl.1 rfl (lv_room (Nat.le_of_ble_eq_true rfl)) dX0_isSettled_26 ⟨Nat.le_of_ble_eq_true rfl, Nat.le_of_ble_eq_true rfl⟩) hP hD hS hA (fun _ _ H locs hf hP hD hS => ?_)
    obtain ⟨v2, rfl, hv2, rfl⟩ := hf
    have hP : va_P G.1 vwCl (zpic G ad X) H := hP
    have hD : va_D A (zpic G ad X) := hD
    refine W.eq (g2 := F0 m 29 ls [.int (zi v2)]) rfl ?_
    refine z0_eq (tgt := 36) hx hb dX0_isSettled_29 (by decide) (by omega) (fun h29 => ?_) (fun h29 => ?_)
    · refine lv_iconst (v := zi 0) hx hb dX0_isSettled_36 rfl ?_
      exact zend_z hx hb hr hlocks (by decide +kernel) hP hD hS (Nat.le_of_ble_eq_true rfl) (Nat.le_of_ble_eq_true rfl) dX0_isSettled_37 ⟨_, rfl, (Or.inr ⟨rfl, fun z => by rcases hv2 with h | h; omega; exact h.2 z.2⟩), rfl⟩
    · refine lv_iconst (v := zi 1) hx hb dX0_isSettled_32 rfl ?_
      refine lv_goto (tgt := 37) hx hb dX0_isSettled_33 (by decide) ?_
      exact zend_z hx hb hr hlocks (by decide +kernel) hP hD hS (Nat.le_of_ble_eq_true rfl) (Nat.le_of_ble_eq_true rfl) dX0_isSettled_37 ⟨_, rfl, (Or.inl ⟨rfl, by rcases hv1 with h | h; exact h.2; omega, by rcases hv2 with h | h; exact h.2; omega⟩), rfl⟩

set_option maxHeartbeats 4000000 in
set_option maxRecDepth 100000 in
/-- judge -/
theorem c_X0_judge (l : Launch) (G : zG) (ad : Nat → Nat) (X : Nat → Nat → Int) (f : Nat) (u : Nat) (d : Int) (hV : zV X) (hf : f ≤ 4) (hu : u < 65536) (hd : 0 < d) (hcm : zCm X) (ham : 0 ≤ X 65 5 ∧ X 65 5 + d * zM f ≤ 268435456) (hpl : ∀ q : Nat, q < f → 0 ≤ X 67 q ∧ X 67 q < 1024) : zR l G yX0_judge wsX0_judge { frames := 2, cells := 0, slots := 0, locals := 44 } (zpic G ad X) [.ref (ad 65), .int (zi (f : Int)), .int (zi (u : Int)), .int (zi d)] (zv G ad (fun Y => zJd X Y 4 (d * zM f))) 0 0 := by
  refine zR_of (cc := cX0_judge) (maxL := 5) (rt := none) (by decide) rfl (Nat.le_of_ble_eq_true rfl) ?_
  intro p e s m below meth c A ls hx hb hml hr hts hown hlocks hin0 hA hE hP hD hS hl
  have hl : lv_has ls 5 [(0, .ref (ad 65)), (1, .int (zi (f : Int))), (2, .int (zi (u : Int))), (3, .int (zi d))] := hl
  have hown : s.vm.findClass RX0 = some m.cls := hown
  have hmb := zM_bd hf
  have hdm : 0 < d * zM f := Int.mul_pos hd (by omega)
  have hw0 : ∀ w ∈ u_ws RX0 TX0 7, w ∈ wsX0_judge := by decide +kernel
  have hf18 := hts (.fieldLink RX0 18 "Nettle$Comparison" "now" "LNettle$Wall;") (by decide +kernel)
  have hf22 := hts (.fieldLink RX0 22 "Nettle$Comparison" "old" "LNettle$Wall;") (by decide +kernel)
  have hf33 := hts (.fieldLink RX0 33 "Nettle$Comparison" "amount" "I") (by decide +kernel)
  have hf9 := hts (.fieldLink RX0 9 "Nettle$Comparison" "first" "[I") (by decide +kernel)
  have hf15 := hts (.fieldLink RX0 15 "Nettle$Comparison" "place" "[I") (by decide +kernel)
  refine lv_aload_n hx hb dX0_judge_0 rfl (lv_at hl 0 rfl) ?_
  refine va_get (D := G.1) (ci := 0) (v := .ref (ad 0)) (C := RX0) (T := TX0) (N := 7) hx hb hts hw0 hown hE.1 hP 65 p_65 rfl 0 (by decide) hf18 (fun _ h9 => h9) rfl dX0_judge_1 ?_
  refine lv_iload_n hx hb dX0_judge_4 rfl (lv_at hl 2 rfl) ?_
  refine lv_sipush (v := zi 256) hx hb dX0_judge_5 (by decide +kernel) ?_
  refine lv_irem hx hb dX0_judge_8 (by decide +kernel) (zti (v := zi ((u % 256 : Nat) : Int)) (zi_rem (a := u) (b := 256) (by omega) (by omega) (by omega)) ?_)
  refine zcall (wr := []) (va_runV (As := [.int (zi ((u % 256 : Nat) : Int))]) (rest := []) ⟨hx, hb, hml, hown, hts⟩ (c_X6_allows l G ad X 0 (u % 256 : Nat) hV (Or.inl rfl) (by omega) s.heap.size) (cwV 1 hts gX0_judge_X6_allows rfl rfl rfl (by decide +kernel) ⟨Nat.le_of_ble_eq_true rfl, Nat.le_of_ble_eq_true rfl⟩) (zPreV (wr := []) (wc := zpic G ad X) (q0 := 0) (ci := 6) (q := (RX6, TX6, 3)) hP hD hE hS hA rfl (p_w (Or.inl rfl))) rfl rfl hl.1 rfl (lv_room (Nat.le_of_ble_eq_true rfl)) dX0_judge_9 ⟨Nat.le_of_ble_eq_true rfl, Nat.le_of_ble_eq_true rfl⟩) hP hD hS hA (fun _ _ H locs hf hP hD hS => ?_)
  obtain ⟨v1, rfl, hv1, rfl⟩ := hf
  have hP : va_P G.1 vwCl (zpic G ad X) H := hP
  have hD : va_D A (zpic G ad X) := hD
  refine W.eq (g2 := F0 m 12 ls [.int (zi v1)]) rfl ?_
  refine lv_aload_n hx hb dX0_judge_12 rfl (lv_at hl 0 rfl) ?_
  refine va_get (D := G.1) (ci := 0) (v := .ref (ad 26)) (C := RX0) (T := TX0) (N := 7) hx hb hts hw0 hown hE.1 hP 65 p_65 rfl 1 (by decide) hf22 (fun _ h9 => h9) rfl dX0_judge_13 ?_
  refine lv_iload_n hx hb dX0_judge_16 rfl (lv_at hl 2 rfl) ?_
  refine lv_sipush (v := zi 256) hx hb dX0_judge_17 (by decide +kernel) ?_
  refine lv_idiv hx hb dX0_judge_20 (by decide +kernel) (zti (v := zi ((u / 256 : Nat) : Int)) (zi_div (a := u) (b := 256) (by omega) (by omega) (by omega)) ?_)
  refine zcall (wr := []) (va_runV (As := [.int (zi ((u / 256 : Nat) : Int))]) (rest := [.int (zi v1)]) ⟨hx, hb, hml, hown, hts⟩ (c_X6_allows l G ad X 26 (u / 256 : Nat) hV (Or.inr rfl) (by omega) H.size) (cwV 1 hts gX0_judge_X6_allows rfl rfl rfl (by decide +kernel) ⟨Nat.le_of_ble_eq_true rfl, Nat.le_of_ble_eq_true rfl⟩) (zPreV (wr := []) (wc := zpic G ad X) (q0 := 26) (ci := 6) (q := (RX6, TX6, 3)) hP hD hE hS hA rfl (p_w (Or.inr rfl))) rfl rfl hl.1 rfl (lv_room (Nat.le_of_ble_eq_true rfl)) dX0_judge_21 ⟨Nat.le_of_ble_eq_true rfl, Nat.le_of_ble_eq_true rfl⟩) hP hD hS hA (fun _ _ H locs hf hP hD hS => ?_)
  obtain ⟨v2, rfl, hv2, rfl⟩ := hf
  have hP : va_P G.1 vwCl (zpic G ad X) H := hP
  have hD : va_D A (zpic G ad X) := hD
  refine W.eq (g2 := F0 m 24 ls [.int (zi v2), .int (zi v1)]) rfl ?_
  refine zc_ne (tgt := 28) hx hb dX0_judge_24 (by decide) (by omega) (by omega) (fun h24 => ?_) (fun h24 => ?_)
  · refine lv_aload_n hx hb dX0_judge_28 rfl (lv_at hl 0 rfl) ?_
    refine va_get (D := G.1) (ci := 0) (v := .int (zi (X 65 5))) (C := RX0) (T := TX0) (N := 7) hx hb hts hw0 hown hE.1 hP 65 p_65 rfl 5 (by decide) hf33 (fun _ h9 => h9) rfl dX0_judge_29 ?_
    refine z0_ne (tgt := 74) hx hb dX0_judge_32 (by decide) (by omega) (fun h32 => ?_) (fun h32 => ?_)
    · refine lv_aload_n hx hb dX0_judge_74 rfl (lv_at hl 0 rfl) ?_
      refine lv_dup hx hb dX0_judge_75 rfl ?_
      refine va_get (D := G.1) (ci := 0) (v := .int (zi (X 65 5))) (C := RX0) (T := TX0) (N := 7) hx hb hts hw0 hown hE.1 hP 65 p_65 rfl 5 (by decide) hf33 (fun _ h9 => h9) rfl dX0_judge_76 ?_
      refine lv_iload_n hx hb dX0_judge_79 rfl (lv_at hl 3 rfl) ?_
      refine va_getsN hx hb hE.2.2.1.1 hS hown (va_Nw.use rfl hE.2.2.2.1.2.2.2.2.2.2.2.2.1) (fun _ h9 => h9) dX0_judge_80 ?_
      refine lv_iload_n hx hb dX0_judge_83 rfl (lv_at hl 1 rfl) ?_
      refine zam_ld hx hb hE hS f rfl (by omega) dX0_judge_84 ?_
      refine lv_imul hx hb dX0_judge_85 (zti (v := zi (d * (zM f))) (zi_mul _ _) ?_)
      refine lv_iadd hx hb dX0_judge_86 (zti (v := zi ((X 65 5) + (d * (zM f)))) (zi_add _ _) ?_)
      refine zput (C := RX0) (T := TX0) (N := 7) (ci := 0) (v := .int (zi ((X 65 5) + (d * (zM f))))) (ty := tyX0 5) hx hb hts hw0 tyX0 tyX0_ok nmX0 hown hE hP hD hS 65 p_65 rfl 5 (by decide) hf33 (fun _ h9 => h9) rfl (by decide +kernel) rfl rfl (Nat.le_of_ble_eq_true rfl) (s_655 ((X 65 5) + (d * (zM f)))) dX0_judge_87 (fun H locs hP hD hS => ?_)
      exact zend_v hx hb hr hlocks hP hD hS (Nat.le_of_ble_eq_true rfl) (Nat.le_of_ble_eq_true rfl) dX0_judge_90 ⟨_, rfl, (by refine ⟨Or.inr ⟨by rw [zw_at]; omega, by rw [zw_at]; omega, fun q hq => by rw [zw_cell (show (66 : Nat) ≠ 65 by decide)]; rcases hcm with h | h; omega; exact h.2.2 q hq⟩, by rw [zw_at]; omega, by rw [zw_at]; omega, fun c h1 h2 h3 => zw_cell h1, fun q hq => by rw [zw_cell (show (67 : Nat) ≠ 65 by decide)], zw_ne (show (6 : Nat) ≠ 5 by decide)⟩), rfl⟩
    · refine lv_iconst (v := zi 0) hx hb dX0_judge_35 rfl ?_
      refine lv_istore (lv' := [(4, .int (zi 0)), (0, .ref (ad 65)), (1, .int (zi (f : Int))), (2, .int (zi (u : Int))), (3, .int (zi d))]) hx hb dX0_judge_36 hl (by decide) rfl (fun ls hl => ?_)
      refine zloop2 (fun (c : Nat) (Y : Nat → Nat → Int) => 4 - c) (fun (c : Nat) (Y : Nat → Nat → Int) (H : Heap) (locs : List Loc) (ls : Array Slot) => va_P G.1 vwCl (zpic G ad Y) H ∧ va_D A (zpic G ad Y) ∧ va_S A s.heap H locs ∧ lv_has ls 5 [(4, .int (zi (c : Int))), (3, .int (zi d)), (2, .int (zi (u : Int))), (1, .int (zi (f : Int))), (0, .ref (ad 65))] ∧ (c ≤ 4) ∧ (∀ k : Nat, k ≠ 66 → Y k = X k) ∧ (∀ q : Nat, q < c → 0 ≤ Y 66 q ∧ Y 66 q < 1024)) ?_ 0 X ⟨hP, hD, hS, lv_sub hl [0, 4, 3, 2, 1] rfl, (by omega), (fun k h1 => rfl), (fun q h1 => by omega)⟩
      intro c Y ih H locs ls ⟨hP, hD, hS, hl, hc, hyc, hfs⟩
      refine lv_iload hx hb dX0_judge_38 (lv_at hl 0 rfl) ?_
      refine lv_iconst (v := zi 4) hx hb dX0_judge_40 rfl ?_
      refine zc_ge (tgt := 74) hx hb dX0_judge_41 (by decide) (by omega) (by decide) (fun h41 => ?_) (fun h41 => ?_)
      · refine lv_aload_n hx hb dX0_judge_74 rfl (lv_at hl 4 rfl) ?_
        refine lv_dup hx hb dX0_judge_75 rfl ?_
        refine va_get (D := G.1) (ci := 0) (v := .int (zi (Y 65 5))) (C := RX0) (T := TX0) (N := 7) hx hb hts hw0 hown hE.1 hP 65 p_65 rfl 5 (by decide) hf33 (fun _ h9 => h9) rfl dX0_judge_76 ?_
        refine lv_iload_n hx hb dX0_judge_79 rfl (lv_at hl 1 rfl) ?_
        refine va_getsN hx hb hE.2.2.1.1 hS hown (va_Nw.use rfl hE.2.2.2.1.2.2.2.2.2.2.2.2.1) (fun _ h9 => h9) dX0_judge_80 ?_
        refine lv_iload_n hx hb dX0_judge_83 rfl (lv_at hl 3 rfl) ?_
        refine zam_ld hx hb hE hS f rfl (by omega) dX0_judge_84 ?_
        refine lv_imul hx hb dX0_judge_85 (zti (v := zi (d * (zM f))) (zi_mul _ _) ?_)
        refine lv_iadd hx hb dX0_judge_86 (zti (v := zi ((Y 65 5) + (d * (zM f)))) (zi_add _ _) ?_)
        refine zput (C := RX0) (T := TX0) (N := 7) (ci := 0) (v := .int (zi ((Y 65 5) + (d * (zM f))))) (ty := tyX0 5) hx hb hts hw0 tyX0 tyX0_ok nmX0 hown hE hP hD hS 65 p_65 rfl 5 (by decide) hf33 (fun _ h9 => h9) rfl (by decide +kernel) rfl rfl (Nat.le_of_ble_eq_true rfl) (s_655 ((Y 65 5) + (d * (zM f)))) dX0_judge_87 (fun H locs hP hD hS => ?_)
        exact zend_v hx hb hr hlocks hP hD hS (Nat.le_of_ble_eq_true rfl) (Nat.le_of_ble_eq_true rfl) dX0_judge_90 ⟨_, rfl, (by have e65 : Y 65 = X 65 := hyc 65 (by omega); refine ⟨Or.inr ⟨by rw [zw_at, e65]; omega, by rw [zw_at, e65]; omega, fun q hq => by rw [zw_cell (show (66 : Nat) ≠ 65 by decide)]; exact hfs q (by omega)⟩, by rw [zw_at, e65]; omega, by rw [zw_at, e65]; omega, fun c h1 h2 h3 => by rw [zw_cell h1]; exact hyc c h2, fun q hq => by rw [zw_cell (show (67 : Nat) ≠ 65 by decide), hyc 67 (by omega)], by rw [zw_ne (show (6 : Nat) ≠ 5 by decide), e65]⟩), rfl⟩
      · refine lv_aload_n hx hb dX0_judge_44 rfl (lv_at hl 4 rfl) ?_
        refine va_get (D := G.1) (ci := 0) (v := .ref (ad 66)) (C := RX0) (T := TX0) (N := 7) hx hb hts hw0 hown hE.1 hP 65 p_65 rfl 3 (by decide) hf9 (fun _ h9 => h9) rfl dX0_judge_45 ?_
        refine lv_iload hx hb dX0_judge_48 (lv_at hl 0 rfl) ?_
        refine lv_iload hx hb dX0_judge_50 (lv_at hl 0 rfl) ?_
        refine lv_iload_n hx hb dX0_judge_52 rfl (lv_at hl 3 rfl) ?_
        refine zc_ge (tgt := 66) hx hb dX0_judge_53 (by decide) (by omega) (by omega) (fun h53 => ?_) (fun h53 => ?_)
        · refine lv_iconst (v := zi 0) hx hb dX0_judge_66 rfl ?_
          refine zist hx hb hE hP hD hS 66 4 (fun _ => rfl) (by decide) c rfl (by omega) (by decide) dX0_judge_67 (fun H locs hP hD hS => ?_)
          refine lv_iinc (v := zi ((c : Int) + 1)) (lv' := [(4, .int (zi ((c : Int) + 1))), (3, .int (zi d)), (2, .int (zi (u : Int))), (1, .int (zi (f : Int))), (0, .ref (ad 65))]) hx hb dX0_judge_68 hl (k := 0) rfl (zi_add _ _) (by decide) rfl (fun ls hl => ?_)
          refine lv_goto (tgt := 38) hx hb dX0_judge_71 (by decide) ?_
          exact ih (c + 1) (zw Y 66 c 0) (by omega) H locs ls ⟨hP, hD, hS, lv_sub hl [0, 1, 2, 3, 4] rfl, (by omega), (fun k h1 => by rw [zw_cell h1]; exact hyc k h1), (fun q h1 => by by_cases e9 : q = c; (rw [e9, zw_at]; omega); (rw [zw_ne e9]; exact hfs q (by omega)))⟩
        · refine lv_aload_n hx hb dX0_judge_56 rfl (lv_at hl 4 rfl) ?_
          refine va_get (D := G.1) (ci := 0) (v := .ref (ad 67)) (C := RX0) (T := TX0) (N := 7) hx hb hts hw0 hown hE.1 hP 65 p_65 rfl 4 (by decide) hf15 (fun _ h9 => h9) rfl dX0_judge_57 ?_
          refine lv_iload hx hb dX0_judge_60 (lv_at hl 0 rfl) ?_
          refine zild hx hb hE hP 67 4 (fun _ => rfl) (by decide) c rfl (by omega) (by decide) dX0_judge_62 ?_
          refine lv_goto (tgt := 67) hx hb dX0_judge_63 (by decide) ?_
          refine zist hx hb hE hP hD hS 66 4 (fun _ => rfl) (by decide) c rfl (by omega) (by decide) dX0_judge_67 (fun H locs hP hD hS => ?_)
          refine lv_iinc (v := zi ((c : Int) + 1)) (lv' := [(4, .int (zi ((c : Int) + 1))), (3, .int (zi d)), (2, .int (zi (u : Int))), (1, .int (zi (f : Int))), (0, .ref (ad 65))]) hx hb dX0_judge_68 hl (k := 0) rfl (zi_add _ _) (by decide) rfl (fun ls hl => ?_)
          refine lv_goto (tgt := 38) hx hb dX0_judge_71 (by decide) ?_
          exact ih (c + 1) (zw Y 66 c (Y 67 c)) (by omega) H locs ls ⟨hP, hD, hS, lv_sub hl [0, 1, 2, 3, 4] rfl, (by omega), (fun k h1 => by rw [zw_cell h1]; exact hyc k h1), (fun q h1 => by by_cases e9 : q = c; (rw [e9, zw_at]; rw [hyc 67 (by omega)]; exact hpl c (by omega)); (rw [zw_ne e9]; exact hfs q (by omega)))⟩
  · exact zend_v hx hb hr hlocks hP hD hS (Nat.le_of_ble_eq_true rfl) (Nat.le_of_ble_eq_true rfl) dX0_judge_27 ⟨_, rfl, ⟨hcm, Int.le_refl _, by omega, fun c _ _ _ => rfl, fun q _ => rfl, rfl⟩, rfl⟩

set_option maxHeartbeats 4000000 in
set_option maxRecDepth 100000 in
/-- walk at the FIELD 4 -/
theorem c_walk4 (l : Launch) (G : zG) (ad : Nat → Nat) (X : Nat → Nat → Int) (u : Nat) (d : Int) (hV : zV X) (hCs : zCs X) (hu : u < 65536) (hd : 0 < d) (hcm : zCm X) (ham : 0 ≤ X 65 5 ∧ X 65 5 + d * 1 ≤ 268435456) (hpl : ∀ q : Nat, q < 4 → 0 ≤ X 67 q ∧ X 67 q < 1024) : zR l G yX0_walk wsX0_walk { frames := 3, cells := 0, slots := 0, locals := 68 } (zpic G ad X) [.ref (ad 65), .int (zi 4), .int (zi (u : Int)), .int (zi d)] (zv G ad (fun Y => zJd X Y 4 (d * 1))) 0 0 := by
  refine zR_of (cc := cX0_walk) (maxL := 8) (rt := none) (by decide) rfl (Nat.le_of_ble_eq_true rfl) ?_
  intro p e s m below meth c A ls hx hb hml hr hts hown hlocks hin0 hA hE hP hD hS hl
  have hl : lv_has ls 8 [(0, .ref (ad 65)), (1, .int (zi 4)), (2, .int (zi (u : Int))), (3, .int (zi d))] := hl
  have hown : s.vm.findClass RX0 = some m.cls := hown
  refine lv_iload_n hx hb dX0_walk_0 rfl (lv_at hl 1 rfl) ?_
  refine lv_iconst (v := zi 4) hx hb dX0_walk_1 rfl ?_
  refine zc_ge (tgt := 14) hx hb dX0_walk_2 (by decide) (by decide) (by decide) (fun h2 => ?_) (fun h9 => absurd h9 (by decide))
  refine lv_aload_n hx hb dX0_walk_14 rfl (lv_at hl 0 rfl) ?_
  refine lv_iload_n hx hb dX0_walk_15 rfl (lv_at hl 1 rfl) ?_
  refine lv_iload_n hx hb dX0_walk_16 rfl (lv_at hl 2 rfl) ?_
  refine lv_iload_n hx hb dX0_walk_17 rfl (lv_at hl 3 rfl) ?_
  refine zcall (wr := []) (va_runV (As := [.int (zi 4), .int (zi (u : Int)), .int (zi d)]) (rest := []) ⟨hx, hb, hml, hown, hts⟩ (c_X0_judge l G ad X 4 u d hV (by omega) (by omega) (by omega) hcm (by have hzm : zM 4 = 1 := rfl; rw [hzm]; omega) hpl s.heap.size) (cwV 3 hts gX0_walk_X0_judge rfl rfl rfl (by decide +kernel) ⟨Nat.le_of_ble_eq_true rfl, Nat.le_of_ble_eq_true rfl⟩) (zPreV (wr := []) (wc := zpic G ad X) (q0 := 65) (ci := 0) (q := (RX0, TX0, 7)) hP hD hE hS hA rfl p_65) rfl rfl hl.1 rfl (lv_room (Nat.le_of_ble_eq_true rfl)) dX0_walk_18 ⟨Nat.le_of_ble_eq_true rfl, Nat.le_of_ble_eq_true rfl⟩) hP hD hS hA (fun _ _ H locs hf hP hD hS => ?_)
  obtain ⟨X1, rfl, hX1, rfl⟩ := hf
  have hP : va_P G.1 vwCl (zpic G ad X1) H := hP
  have hD : va_D A (zpic G ad X1) := hD
  refine W.eq (g2 := F0 m 21 ls []) rfl ?_
  exact zend_v hx hb hr hlocks hP hD hS (Nat.le_of_ble_eq_true rfl) (Nat.le_of_ble_eq_true rfl) dX0_walk_21 ⟨_, rfl, (by obtain ⟨q1, q2, q3, q4, q5, q6⟩ := hX1; exact ⟨q1, q2, by have hzm : zM 4 = 1 := rfl; rw [hzm] at q3; exact q3, q4, fun q hq => q5 q (by omega), q6⟩), rfl⟩

set_option maxHeartbeats 4000000 in
set_option maxRecDepth 100000 in
/-- walk at the FIELD 3 -/
theorem c_walk3 (l : Launch) (G : zG) (ad : Nat → Nat) (X : Nat → Nat → Int) (u : Nat) (d : Int) (hV : zV X) (hCs : zCs X) (hu : u < 65536) (hd : 0 < d) (hcm : zCm X) (ham : 0 ≤ X 65 5 ∧ X 65 5 + d * 4 ≤ 268435456) (hpl : ∀ q : Nat, q < 3 → 0 ≤ X 67 q ∧ X 67 q < 1024) : zR l G yX0_walk wsX0_walk { frames := 4, cells := 0, slots := 0, locals := 95 } (zpic G ad X) [.ref (ad 65), .int (zi 3), .int (zi (u : Int)), .int (zi d)] (zv G ad (fun Y => zJd X Y 3 (d * 4))) 0 0 := by
  refine zR_of (cc := cX0_walk) (maxL := 8) (rt := none) (by decide) rfl (Nat.le_of_ble_eq_true rfl) ?_
  intro p e s m below meth c A ls hx hb hml hr hts hown hlocks hin0 hA hE hP hD hS hl
  have hl : lv_has ls 8 [(0, .ref (ad 65)), (1, .int (zi 3)), (2, .int (zi (u : Int))), (3, .int (zi d))] := hl
  have hown : s.vm.findClass RX0 = some m.cls := hown
  have hw0 : ∀ w ∈ u_ws RX0 TX0 7, w ∈ wsX0_walk := by decide +kernel
  have hf25 := hts (.fieldLink RX0 25 "Nettle$Comparison" "cuts" "LNettle$Cuts;") (by decide +kernel)
  have hw1 : ∀ w ∈ u_ws RX1 TX1 6, w ∈ wsX0_walk := by decide +kernel
  have hf55 := hts (.fieldLink RX0 55 "Nettle$Cuts" "counts" "[I") (by decide +kernel)
  have hf15 := hts (.fieldLink RX0 15 "Nettle$Comparison" "place" "[I") (by decide +kernel)
  refine lv_iload_n hx hb dX0_walk_0 rfl (lv_at hl 1 rfl) ?_
  refine lv_iconst (v := zi 4) hx hb dX0_walk_1 rfl ?_
  refine zc_ge (tgt := 14) hx hb dX0_walk_2 (by decide) (by decide) (by decide) (fun h9 => absurd h9 (by decide)) (fun h2 => ?_)
  refine lv_aload_n hx hb dX0_walk_5 rfl (lv_at hl 0 rfl) ?_
  refine lv_iload_n hx hb dX0_walk_6 rfl (lv_at hl 1 rfl) ?_
  refine lv_iload_n hx hb dX0_walk_7 rfl (lv_at hl 2 rfl) ?_
  refine zcall (wr := []) (va_runV (As := [.int (zi 3), .int (zi (u : Int))]) (rest := []) ⟨hx, hb, hml, hown, hts⟩ (c_X0_isSettled l G ad X 3 u hV (by omega) (by omega) s.heap.size) (cwV 2 hts gX0_walk_X0_isSettled rfl rfl rfl (by decide +kernel) ⟨Nat.le_of_ble_eq_true rfl, Nat.le_of_ble_eq_true rfl⟩) (zPreV (wr := []) (wc := zpic G ad X) (q0 := 65) (ci := 0) (q := (RX0, TX0, 7)) hP hD hE hS hA rfl p_65) rfl rfl hl.1 rfl (lv_room (Nat.le_of_ble_eq_true rfl)) dX0_walk_8 ⟨Nat.le_of_ble_eq_true rfl, Nat.le_of_ble_eq_true rfl⟩) hP hD hS hA (fun _ _ H locs hf hP hD hS => ?_)
  obtain ⟨v1, rfl, hv1, rfl⟩ := hf
  have hP : va_P G.1 vwCl (zpic G ad X) H := hP
  have hD : va_D A (zpic G ad X) := hD
  refine W.eq (g2 := F0 m 11 ls [.int (zi v1)]) rfl ?_
  refine z0_eq (tgt := 22) hx hb dX0_walk_11 (by decide) (by omega) (fun h11 => ?_) (fun h11 => ?_)
  · have hcn := hCs.n (show 3 < 4 by omega)
    have hss : d * zS0 X 3 0 = 0 := by rw [hCs.s0 (by omega), Int.mul_zero]
    refine lv_aload_n hx hb dX0_walk_22 rfl (lv_at hl 0 rfl) ?_
    refine va_get (D := G.1) (ci := 0) (v := .ref (ad 57)) (C := RX0) (T := TX0) (N := 7) hx hb hts hw0 hown hE.1 hP 65 p_65 rfl 2 (by decide) hf25 (fun _ h9 => h9) rfl dX0_walk_23 ?_
    refine lv_astore (lv' := [(4, .ref (ad 57)), (0, .ref (ad 65)), (1, .int (zi 3)), (2, .int (zi (u : Int))), (3, .int (zi d))]) hx hb dX0_walk_26 hl (by decide) rfl (fun ls hl => ?_)
    refine lv_iconst (v := zi 0) hx hb dX0_walk_28 rfl ?_
    refine lv_istore (lv' := [(5, .int (zi 0)), (4, .ref (ad 57)), (0, .ref (ad 65)), (1, .int (zi 3)), (2, .int (zi (u : Int))), (3, .int (zi d))]) hx hb dX0_walk_29 hl (by decide) rfl (fun ls hl => ?_)
    refine zloop2 (fun (j : Nat) (Y : Nat → Nat → Int) => 33 - j) (fun (j : Nat) (Y : Nat → Nat → Int) (H : Heap) (locs : List Loc) (ls : Array Slot) => va_P G.1 vwCl (zpic G ad Y) H ∧ va_D A (zpic G ad Y) ∧ va_S A s.heap H locs ∧ lv_has ls 8 [(5, .int (zi (j : Int))), (4, .ref (ad 57)), (3, .int (zi d)), (2, .int (zi (u : Int))), (1, .int (zi 3)), (0, .ref (ad 65))] ∧ (j ≤ zCn X 3) ∧ (zCm Y) ∧ (∀ c : Nat, c ≠ 65 → c ≠ 66 → c ≠ 67 → Y c = X c) ∧ (∀ q : Nat, q < 3 → Y 67 q = X 67 q) ∧ (Y 65 6 = X 65 6) ∧ (X 65 5 ≤ Y 65 5) ∧ (∃ e : Nat, j ≤ e ∧ e ≤ zCn X 3 ∧ (∀ q : Nat, j ≤ q → q < e → ¬ zSR X 3 q u) ∧ (e = zCn X 3 ∨ zSR X 3 e u) ∧ Y 65 5 ≤ X 65 5 + d * zS0 X 3 e * 1)) ?_ 0 X ⟨hP, hD, hS, lv_sub hl [0, 1, 5, 4, 3, 2] rfl, (by omega), hcm, (fun c h1 h2 h3 => rfl), (fun q h1 => rfl), rfl, (Int.le_refl _), ⟨0, Nat.le_refl _, Nat.zero_le _, fun q h1 h2 => by omega, Or.inr (Or.inl rfl), by omega⟩⟩
    intro j Y ih H locs ls ⟨hP, hD, hS, hl, hj, hcmY, hyc, hpy, hy6, hya, hev⟩
    obtain ⟨e, hje, hen, hns, hee, hae⟩ := hev
    have hwY : zWc X Y := ⟨fun c h9 => hyc c (by omega) (by omega) (by omega), fun c h8 h9 => hyc c (by omega) (by omega) (by omega)⟩
    have hVY : zV Y := hwY.1.v hV
    have hCY : zCs Y := hwY.cs hV hCs
    have hcnY : zCn Y 3 = zCn X 3 := hwY.cn 3
    have hcY := hCY.n (show 3 < 4 by omega)
    refine lv_iload hx hb dX0_walk_31 (lv_at hl 0 rfl) ?_
    refine lv_aload hx hb dX0_walk_33 (lv_at hl 1 rfl) ?_
    refine va_get (D := G.1) (ci := 1) (v := .ref (ad 58)) (C := RX1) (T := TX1) (N := 6) hx hb hts hw1 hown hE.1 hP 57 p_57 rfl 2 (by decide) hf55 (fun _ h9 => h9) rfl dX0_walk_35 ?_
    refine lv_iload_n hx hb dX0_walk_38 rfl (lv_at hl 4 rfl) ?_
    refine zild hx hb hE hP 58 4 (fun _ => rfl) (by decide) 3 rfl (by decide) (by decide) dX0_walk_39 ?_
    refine zc_ge (tgt := 114) hx hb dX0_walk_40 (by decide) (by omega) (by omega) (fun h40 => ?_) (fun h40 => ?_)
    · exact zend_v hx hb hr hlocks hP hD hS (Nat.le_of_ble_eq_true rfl) (Nat.le_of_ble_eq_true rfl) dX0_walk_114 ⟨_, rfl, (by have hen2 : e = zCn X 3 := (by omega); rw [hen2, zCs.sn] at hae; have hzs : zS 3 = 4 := rfl; rw [hzs] at hae; exact ⟨hcmY, hya, by omega, hyc, hpy, hy6⟩), rfl⟩
    · refine lv_aload hx hb dX0_walk_43 (lv_at hl 1 rfl) ?_
      refine lv_iload_n hx hb dX0_walk_45 rfl (lv_at hl 4 rfl) ?_
      refine lv_iload hx hb dX0_walk_46 (lv_at hl 0 rfl) ?_
      refine lv_iload_n hx hb dX0_walk_48 rfl (lv_at hl 3 rfl) ?_
      refine zcall (wr := []) (va_runV (As := [.int (zi 3), .int (zi (j : Int)), .int (zi (u : Int))]) (rest := []) ⟨hx, hb, hml, hown, hts⟩ (c_X1_startsRun l G ad Y 3 j u hVY hCY (by omega) (by omega) (by omega) H.size) (cwV 3 hts gX0_walk_X1_startsRun rfl rfl rfl (by decide +kernel) ⟨Nat.le_of_ble_eq_true rfl, Nat.le_of_ble_eq_true rfl⟩) (zPreV (wr := []) (wc := zpic G ad Y) (q0 := 57) (ci := 1) (q := (RX1, TX1, 6)) hP hD hE hS hA rfl p_57) rfl rfl hl.1 rfl (lv_room (Nat.le_of_ble_eq_true rfl)) dX0_walk_49 ⟨Nat.le_of_ble_eq_true rfl, Nat.le_of_ble_eq_true rfl⟩) hP hD hS hA (fun _ _ H locs hf hP hD hS => ?_)
      obtain ⟨v2, rfl, hv2, rfl⟩ := hf
      have hP : va_P G.1 vwCl (zpic G ad Y) H := hP
      have hD : va_D A (zpic G ad Y) := hD
      refine W.eq (g2 := F0 m 52 ls [.int (zi v2)]) rfl ?_
      have hsrw : ∀ q : Nat, zSR Y 3 q u ↔ zSR X 3 q u := fun q => by unfold zSR; rw [hwY.ma, hwY.ma]
      refine z0_eq (tgt := 108) hx hb dX0_walk_52 (by decide) (by omega) (fun h52 => ?_) (fun h52 => ?_)
      · refine lv_iinc (v := zi ((j : Int) + 1)) (lv' := [(5, .int (zi ((j : Int) + 1))), (4, .ref (ad 57)), (3, .int (zi d)), (2, .int (zi (u : Int))), (1, .int (zi 3)), (0, .ref (ad 65))]) hx hb dX0_walk_108 hl (k := 0) rfl (zi_add _ _) (by decide) rfl (fun ls hl => ?_)
        refine lv_goto (tgt := 31) hx hb dX0_walk_111 (by decide) ?_
        exact ih (j + 1) Y (by omega) H locs ls ⟨hP, hD, hS, lv_sub hl [0, 1, 2, 3, 4, 5] rfl, (by omega), hcmY, hyc, hpy, hy6, hya, (by have hns1 : ¬ zSR X 3 j u := (fun z => by rcases hv2 with h | h; omega; exact h.2 ((hsrw j).mpr z)); refine ⟨e, ?_, hen, fun q h1 h2 => hns q (by omega) h2, hee, hae⟩; by_cases e9 : j = e; (rw [← e9] at hee; rcases hee with z | z; omega; exact absurd z hns1); omega)⟩
      · have hsr : zSR X 3 j u := by rcases hv2 with h | h; exact (hsrw j).mp h.2; omega
        have hej : e = j := by by_cases e9 : e = j; exact e9; exact absurd hsr (hns j (by omega) (by omega))
        have hs0 := (hCs.seg (show 3 < 4 by omega) (show j < zCn X 3 by omega)).1
        refine lv_aload hx hb dX0_walk_55 (lv_at hl 1 rfl) ?_
        refine lv_iload_n hx hb dX0_walk_57 rfl (lv_at hl 4 rfl) ?_
        refine lv_iload hx hb dX0_walk_58 (lv_at hl 0 rfl) ?_
        refine zcall (wr := []) (va_runV (As := [.int (zi 3), .int (zi (j : Int))]) (rest := []) ⟨hx, hb, hml, hown, hts⟩ (c_X1_start l G ad Y 3 j hCY (by omega) (by omega) H.size) (cwV 2 hts gX0_walk_X1_start rfl rfl rfl (by decide +kernel) ⟨Nat.le_of_ble_eq_true rfl, Nat.le_of_ble_eq_true rfl⟩) (zPreV (wr := []) (wc := zpic G ad Y) (q0 := 57) (ci := 1) (q := (RX1, TX1, 6)) hP hD hE hS hA rfl p_57) rfl rfl hl.1 rfl (lv_room (Nat.le_of_ble_eq_true rfl)) dX0_walk_60 ⟨Nat.le_of_ble_eq_true rfl, Nat.le_of_ble_eq_true rfl⟩) hP hD hS hA (fun _ _ H locs hf hP hD hS => ?_)
        obtain ⟨v3, rfl, hv3, rfl⟩ := hf
        have hP : va_P G.1 vwCl (zpic G ad Y) H := hP
        have hD : va_D A (zpic G ad Y) := hD
        refine W.eq (g2 := F0 m 63 ls [.int (zi v3)]) rfl ?_
        have hsj : v3 = zS0 X 3 j := by rw [hv3, hwY.s0]
        refine lv_istore (lv' := [(6, .int (zi v3)), (5, .int (zi (j : Int))), (4, .ref (ad 57)), (3, .int (zi d)), (2, .int (zi (u : Int))), (1, .int (zi 3)), (0, .ref (ad 65))]) hx hb dX0_walk_63 hl (by decide) rfl (fun ls hl => ?_)
        refine lv_aload hx hb dX0_walk_65 (lv_at hl 2 rfl) ?_
        refine lv_iload_n hx hb dX0_walk_67 rfl (lv_at hl 5 rfl) ?_
        refine lv_iload hx hb dX0_walk_68 (lv_at hl 1 rfl) ?_
        refine lv_iload_n hx hb dX0_walk_70 rfl (lv_at hl 4 rfl) ?_
        refine zcall (wr := []) (va_runV (As := [.int (zi 3), .int (zi (j : Int)), .int (zi (u : Int))]) (rest := []) ⟨hx, hb, hml, hown, hts⟩ (c_X1_runEnd l G ad Y 3 j u hVY hCY (by omega) (by omega) (by omega) H.size) (cwV 3 hts gX0_walk_X1_runEnd rfl rfl rfl (by decide +kernel) ⟨Nat.le_of_ble_eq_true rfl, Nat.le_of_ble_eq_true rfl⟩) (zPreV (wr := []) (wc := zpic G ad Y) (q0 := 57) (ci := 1) (q := (RX1, TX1, 6)) hP hD hE hS hA rfl p_57) rfl rfl hl.1 rfl (lv_room (Nat.le_of_ble_eq_true rfl)) dX0_walk_71 ⟨Nat.le_of_ble_eq_true rfl, Nat.le_of_ble_eq_true rfl⟩) hP hD hS hA (fun _ _ H locs hf hP hD hS => ?_)
        obtain ⟨v4, rfl, hv4, rfl⟩ := hf
        have hP : va_P G.1 vwCl (zpic G ad Y) H := hP
        have hD : va_D A (zpic G ad Y) := hD
        refine W.eq (g2 := F0 m 74 ls [.int (zi v4)]) rfl ?_
        obtain ⟨k, hk, hkw⟩ := hv4
        have hsk : v4 = zS0 X 3 k := by rw [hkw, hwY.s0]
        have hk1 := hk.1
        have hk2 := hk.2.1
        have hm1 := hCs.mono (show 3 < 4 by omega) (j + 1) k (by omega) (by omega)
        have hm2 := hCs.mono (show 3 < 4 by omega) k (zCn X 3) (by omega) (Nat.le_refl _)
        have hm3 := hCs.seg (show 3 < 4 by omega) (show j < zCn X 3 by omega)
        rw [zCs.sn] at hm2
        have hzs : zS 3 = 4 := rfl
        refine lv_istore (lv' := [(7, .int (zi v4)), (6, .int (zi v3)), (5, .int (zi (j : Int))), (4, .ref (ad 57)), (3, .int (zi d)), (2, .int (zi (u : Int))), (1, .int (zi 3)), (0, .ref (ad 65))]) hx hb dX0_walk_74 hl (by decide) rfl (fun ls hl => ?_)
        refine lv_aload_n hx hb dX0_walk_76 rfl (lv_at hl 7 rfl) ?_
        refine va_get (D := G.1) (ci := 0) (v := .ref (ad 67)) (C := RX0) (T := TX0) (N := 7) hx hb hts hw0 hown hE.1 hP 65 p_65 rfl 4 (by decide) hf15 (fun _ h9 => h9) rfl dX0_walk_77 ?_
        refine lv_iload_n hx hb dX0_walk_80 rfl (lv_at hl 6 rfl) ?_
        refine lv_iload hx hb dX0_walk_81 (lv_at hl 1 rfl) ?_
        refine zist hx hb hE hP hD hS 67 4 (fun _ => rfl) (by decide) 3 rfl (by decide) (by decide) dX0_walk_83 (fun H locs hP hD hS => ?_)
        generalize eX1 : (zw Y 67 3 v3) = X1 at hP hD
        have hz1 : ∀ c : Nat, c ≠ 67 → X1 c = Y c := fun c h9 => by rw [← eX1]; exact zw_cell h9
        have hz2 : ∀ q : Nat, q < 3 → X1 67 q = Y 67 q := fun q h9 => by rw [← eX1]; exact zw_ne (by omega)
        have hz3 : X1 67 3 = v3 := by rw [← eX1]; exact zw_at _ _ _ _
        have hwZ : zWc X X1 := ⟨fun c h9 => by rw [hz1 c (by omega)]; exact hwY.1 c h9, fun c h8 h9 => by rw [hz1 c (by omega)]; exact hwY.2 c h8 h9⟩
        have hVZ : zV X1 := hwZ.1.v hV
        have hCZ : zCs X1 := hwZ.cs hV hCs
        have hcnZ : zCn X1 3 = zCn X 3 := hwZ.cn 3
        have hz65 : X1 65 = Y 65 := hz1 65 (by omega)
        have hz655 : X1 65 5 = Y 65 5 := by rw [hz65]
        refine lv_aload_n hx hb dX0_walk_84 rfl (lv_at hl 7 rfl) ?_
        refine lv_iload_n hx hb dX0_walk_85 rfl (lv_at hl 6 rfl) ?_
        refine lv_iconst (v := zi 1) hx hb dX0_walk_86 rfl ?_
        refine lv_iadd hx hb dX0_walk_87 (zti (v := zi 4) (zi_add _ _) ?_)
        refine lv_iload_n hx hb dX0_walk_88 rfl (lv_at hl 5 rfl) ?_
        refine lv_aload hx hb dX0_walk_89 (lv_at hl 3 rfl) ?_
        refine lv_iload_n hx hb dX0_walk_91 rfl (lv_at hl 6 rfl) ?_
        refine lv_iload hx hb dX0_walk_92 (lv_at hl 2 rfl) ?_
        refine zcall (wr := []) (va_runV (As := [.int (zi 3), .int (zi (j : Int))]) (rest := [.int (zi (u : Int)), .int (zi 4), .ref (ad 65)]) ⟨hx, hb, hml, hown, hts⟩ (c_X1_mask l G ad X1 3 j hCZ (by omega) (by omega) H.size) (cwV 2 hts gX0_walk_X1_mask rfl rfl rfl (by decide +kernel) ⟨Nat.le_of_ble_eq_true rfl, Nat.le_of_ble_eq_true rfl⟩) (zPreV (wr := []) (wc := zpic G ad X1) (q0 := 57) (ci := 1) (q := (RX1, TX1, 6)) hP hD hE hS hA rfl p_57) rfl rfl hl.1 rfl (lv_room (Nat.le_of_ble_eq_true rfl)) dX0_walk_94 ⟨Nat.le_of_ble_eq_true rfl, Nat.le_of_ble_eq_true rfl⟩) hP hD hS hA (fun _ _ H locs hf hP hD hS => ?_)
        obtain ⟨v5, rfl, hv5, rfl⟩ := hf
        have hP : va_P G.1 vwCl (zpic G ad X1) H := hP
        have hD : va_D A (zpic G ad X1) := hD
        refine W.eq (g2 := F0 m 97 ls [.int (zi v5), .int (zi (u : Int)), .int (zi 4), .ref (ad 65)]) rfl ?_
        rw [hwZ.ma 3 j] at hv5
        rw [hv5]
        have hau : u &&& zMa X 3 j ≤ u := Nat.and_le_left
        have hdd : 0 < d * (v4 - v3) := Int.mul_pos hd (by omega)
        have hde : d * (v4 - v3) = d * zS0 X 3 k - d * zS0 X 3 e := by rw [hsj, hsk, hej, Int.mul_sub]
        have hdk : d * zS0 X 3 k ≤ d * 4 := Int.mul_le_mul_of_nonneg_left (by omega) (by omega)
        have hpz : ∀ q : Nat, q < 4 → 0 ≤ X1 67 q ∧ X1 67 q < 1024 := fun q h9 => by by_cases e9 : q = 3; (rw [e9, hz3]; omega); (rw [hz2 q (by omega), hpy q (by omega)]; exact hpl q (by omega))
        have hcmz : zCm X1 := by unfold zCm; rw [hz65, hz1 66 (by omega)]; exact hcmY
        refine lv_iand hx hb dX0_walk_97 (zti (v := zi ((u &&& zMa X 3 j : Nat) : Int)) (zi_and _ _) ?_)
        refine lv_iload_n hx hb dX0_walk_98 rfl (lv_at hl 4 rfl) ?_
        refine lv_iload hx hb dX0_walk_99 (lv_at hl 0 rfl) ?_
        refine lv_iload hx hb dX0_walk_101 (lv_at hl 1 rfl) ?_
        refine lv_isub hx hb dX0_walk_103 (zti (v := zi (v4 - v3)) (zi_sub _ _) ?_)
        refine lv_imul hx hb dX0_walk_104 (zti (v := zi (d * (v4 - v3))) (zi_mul _ _) ?_)
        refine zcall (wr := []) (va_runS (As := [.ref (ad 65), .int (zi 4), .int (zi ((u &&& zMa X 3 j : Nat) : Int)), .int (zi (d * (v4 - v3)))]) (rest := []) ⟨hx, hb, hml, hown, hts⟩ (c_walk4 l G ad X1 (u &&& zMa X 3 j : Nat) (d * (v4 - v3)) hVZ hCZ (by omega) hdd hcmz (by omega) hpz H.size) (va_cwS 4 hts gX0_walk_X0_walk rfl rfl rfl (by decide +kernel) ⟨Nat.le_of_ble_eq_true rfl, Nat.le_of_ble_eq_true rfl⟩) (zPre (wr := []) (wc := zpic G ad X1) (As := [.ref (ad 65), .int (zi 4), .int (zi ((u &&& zMa X 3 j : Nat) : Int)), .int (zi (d * (v4 - v3)))]) hP hD hE hS hA).1 rfl rfl hl.1 rfl (lv_room (Nat.le_of_ble_eq_true rfl)) dX0_walk_105 ⟨Nat.le_of_ble_eq_true rfl, Nat.le_of_ble_eq_true rfl⟩) hP hD hS hA (fun _ _ H locs hf hP hD hS => ?_)
        obtain ⟨X2, rfl, hX2, rfl⟩ := hf
        have hP : va_P G.1 vwCl (zpic G ad X2) H := hP
        have hD : va_D A (zpic G ad X2) := hD
        refine W.eq (g2 := F0 m 108 ls []) rfl ?_
        obtain ⟨q1, q2, q3, q4, q5, q6⟩ := hX2
        rw [hz655] at q2 q3
        refine lv_iinc (v := zi ((j : Int) + 1)) (lv' := [(5, .int (zi ((j : Int) + 1))), (7, .int (zi v4)), (6, .int (zi v3)), (4, .ref (ad 57)), (3, .int (zi d)), (2, .int (zi (u : Int))), (1, .int (zi 3)), (0, .ref (ad 65))]) hx hb dX0_walk_108 hl (k := 2) rfl (zi_add _ _) (by decide) rfl (fun ls hl => ?_)
        refine lv_goto (tgt := 31) hx hb dX0_walk_111 (by decide) ?_
        exact ih (j + 1) X2 (by omega) H locs ls ⟨hP, hD, hS, lv_sub hl [0, 3, 4, 5, 6, 7] rfl, (by omega), q1, (fun c h1 h2 h3 => by rw [q4 c h1 h2 h3, hz1 c h3]; exact hyc c h1 h2 h3), (fun q h1 => by rw [q5 q (by omega), hz2 q h1]; exact hpy q h1), (by rw [q6, hz65]; exact hy6), (by omega), ⟨k, by omega, by omega, fun q h1 h2 z => hk.2.2.1 q (by omega) h2 ((hsrw q).mpr z), by rcases hk.2.2.2 with z | z; exact Or.inl (by omega); exact Or.inr ((hsrw k).mp z), by omega⟩⟩
  · refine lv_aload_n hx hb dX0_walk_14 rfl (lv_at hl 0 rfl) ?_
    refine lv_iload_n hx hb dX0_walk_15 rfl (lv_at hl 1 rfl) ?_
    refine lv_iload_n hx hb dX0_walk_16 rfl (lv_at hl 2 rfl) ?_
    refine lv_iload_n hx hb dX0_walk_17 rfl (lv_at hl 3 rfl) ?_
    refine zcall (wr := []) (va_runV (As := [.int (zi 3), .int (zi (u : Int)), .int (zi d)]) (rest := []) ⟨hx, hb, hml, hown, hts⟩ (c_X0_judge l G ad X 3 u d hV (by omega) (by omega) (by omega) hcm (by have hzm : zM 3 = 4 := rfl; rw [hzm]; omega) hpl H.size) (cwV 3 hts gX0_walk_X0_judge rfl rfl rfl (by decide +kernel) ⟨Nat.le_of_ble_eq_true rfl, Nat.le_of_ble_eq_true rfl⟩) (zPreV (wr := []) (wc := zpic G ad X) (q0 := 65) (ci := 0) (q := (RX0, TX0, 7)) hP hD hE hS hA rfl p_65) rfl rfl hl.1 rfl (lv_room (Nat.le_of_ble_eq_true rfl)) dX0_walk_18 ⟨Nat.le_of_ble_eq_true rfl, Nat.le_of_ble_eq_true rfl⟩) hP hD hS hA (fun _ _ H locs hf hP hD hS => ?_)
    obtain ⟨X1, rfl, hX1, rfl⟩ := hf
    have hP : va_P G.1 vwCl (zpic G ad X1) H := hP
    have hD : va_D A (zpic G ad X1) := hD
    refine W.eq (g2 := F0 m 21 ls []) rfl ?_
    exact zend_v hx hb hr hlocks hP hD hS (Nat.le_of_ble_eq_true rfl) (Nat.le_of_ble_eq_true rfl) dX0_walk_21 ⟨_, rfl, (by obtain ⟨q1, q2, q3, q4, q5, q6⟩ := hX1; exact ⟨q1, q2, by have hzm : zM 3 = 4 := rfl; rw [hzm] at q3; exact q3, q4, fun q hq => q5 q (by omega), q6⟩), rfl⟩

set_option maxHeartbeats 4000000 in
set_option maxRecDepth 100000 in
/-- walk at the FIELD 2 -/
theorem c_walk2 (l : Launch) (G : zG) (ad : Nat → Nat) (X : Nat → Nat → Int) (u : Nat) (d : Int) (hV : zV X) (hCs : zCs X) (hu : u < 65536) (hd : 0 < d) (hcm : zCm X) (ham : 0 ≤ X 65 5 ∧ X 65 5 + d * 4096 ≤ 268435456) (hpl : ∀ q : Nat, q < 2 → 0 ≤ X 67 q ∧ X 67 q < 1024) : zR l G yX0_walk wsX0_walk { frames := 5, cells := 0, slots := 0, locals := 122 } (zpic G ad X) [.ref (ad 65), .int (zi 2), .int (zi (u : Int)), .int (zi d)] (zv G ad (fun Y => zJd X Y 2 (d * 4096))) 0 0 := by
  refine zR_of (cc := cX0_walk) (maxL := 8) (rt := none) (by decide) rfl (Nat.le_of_ble_eq_true rfl) ?_
  intro p e s m below meth c A ls hx hb hml hr hts hown hlocks hin0 hA hE hP hD hS hl
  have hl : lv_has ls 8 [(0, .ref (ad 65)), (1, .int (zi 2)), (2, .int (zi (u : Int))), (3, .int (zi d))] := hl
  have hown : s.vm.findClass RX0 = some m.cls := hown
  have hw0 : ∀ w ∈ u_ws RX0 TX0 7, w ∈ wsX0_walk := by decide +kernel
  have hf25 := hts (.fieldLink RX0 25 "Nettle$Comparison" "cuts" "LNettle$Cuts;") (by decide +kernel)
  have hw1 : ∀ w ∈ u_ws RX1 TX1 6, w ∈ wsX0_walk := by decide +kernel
  have hf55 := hts (.fieldLink RX0 55 "Nettle$Cuts" "counts" "[I") (by decide +kernel)
  have hf15 := hts (.fieldLink RX0 15 "Nettle$Comparison" "place" "[I") (by decide +kernel)
  refine lv_iload_n hx hb dX0_walk_0 rfl (lv_at hl 1 rfl) ?_
  refine lv_iconst (v := zi 4) hx hb dX0_walk_1 rfl ?_
  refine zc_ge (tgt := 14) hx hb dX0_walk_2 (by decide) (by decide) (by decide) (fun h9 => absurd h9 (by decide)) (fun h2 => ?_)
  refine lv_aload_n hx hb dX0_walk_5 rfl (lv_at hl 0 rfl) ?_
  refine lv_iload_n hx hb dX0_walk_6 rfl (lv_at hl 1 rfl) ?_
  refine lv_iload_n hx hb dX0_walk_7 rfl (lv_at hl 2 rfl) ?_
  refine zcall (wr := []) (va_runV (As := [.int (zi 2), .int (zi (u : Int))]) (rest := []) ⟨hx, hb, hml, hown, hts⟩ (c_X0_isSettled l G ad X 2 u hV (by omega) (by omega) s.heap.size) (cwV 2 hts gX0_walk_X0_isSettled rfl rfl rfl (by decide +kernel) ⟨Nat.le_of_ble_eq_true rfl, Nat.le_of_ble_eq_true rfl⟩) (zPreV (wr := []) (wc := zpic G ad X) (q0 := 65) (ci := 0) (q := (RX0, TX0, 7)) hP hD hE hS hA rfl p_65) rfl rfl hl.1 rfl (lv_room (Nat.le_of_ble_eq_true rfl)) dX0_walk_8 ⟨Nat.le_of_ble_eq_true rfl, Nat.le_of_ble_eq_true rfl⟩) hP hD hS hA (fun _ _ H locs hf hP hD hS => ?_)
  obtain ⟨v1, rfl, hv1, rfl⟩ := hf
  have hP : va_P G.1 vwCl (zpic G ad X) H := hP
  have hD : va_D A (zpic G ad X) := hD
  refine W.eq (g2 := F0 m 11 ls [.int (zi v1)]) rfl ?_
  refine z0_eq (tgt := 22) hx hb dX0_walk_11 (by decide) (by omega) (fun h11 => ?_) (fun h11 => ?_)
  · have hcn := hCs.n (show 2 < 4 by omega)
    have hss : d * zS0 X 2 0 = 0 := by rw [hCs.s0 (by omega), Int.mul_zero]
    refine lv_aload_n hx hb dX0_walk_22 rfl (lv_at hl 0 rfl) ?_
    refine va_get (D := G.1) (ci := 0) (v := .ref (ad 57)) (C := RX0) (T := TX0) (N := 7) hx hb hts hw0 hown hE.1 hP 65 p_65 rfl 2 (by decide) hf25 (fun _ h9 => h9) rfl dX0_walk_23 ?_
    refine lv_astore (lv' := [(4, .ref (ad 57)), (0, .ref (ad 65)), (1, .int (zi 2)), (2, .int (zi (u : Int))), (3, .int (zi d))]) hx hb dX0_walk_26 hl (by decide) rfl (fun ls hl => ?_)
    refine lv_iconst (v := zi 0) hx hb dX0_walk_28 rfl ?_
    refine lv_istore (lv' := [(5, .int (zi 0)), (4, .ref (ad 57)), (0, .ref (ad 65)), (1, .int (zi 2)), (2, .int (zi (u : Int))), (3, .int (zi d))]) hx hb dX0_walk_29 hl (by decide) rfl (fun ls hl => ?_)
    refine zloop2 (fun (j : Nat) (Y : Nat → Nat → Int) => 33 - j) (fun (j : Nat) (Y : Nat → Nat → Int) (H : Heap) (locs : List Loc) (ls : Array Slot) => va_P G.1 vwCl (zpic G ad Y) H ∧ va_D A (zpic G ad Y) ∧ va_S A s.heap H locs ∧ lv_has ls 8 [(5, .int (zi (j : Int))), (4, .ref (ad 57)), (3, .int (zi d)), (2, .int (zi (u : Int))), (1, .int (zi 2)), (0, .ref (ad 65))] ∧ (j ≤ zCn X 2) ∧ (zCm Y) ∧ (∀ c : Nat, c ≠ 65 → c ≠ 66 → c ≠ 67 → Y c = X c) ∧ (∀ q : Nat, q < 2 → Y 67 q = X 67 q) ∧ (Y 65 6 = X 65 6) ∧ (X 65 5 ≤ Y 65 5) ∧ (∃ e : Nat, j ≤ e ∧ e ≤ zCn X 2 ∧ (∀ q : Nat, j ≤ q → q < e → ¬ zSR X 2 q u) ∧ (e = zCn X 2 ∨ zSR X 2 e u) ∧ Y 65 5 ≤ X 65 5 + d * zS0 X 2 e * 4)) ?_ 0 X ⟨hP, hD, hS, lv_sub hl [0, 1, 5, 4, 3, 2] rfl, (by omega), hcm, (fun c h1 h2 h3 => rfl), (fun q h1 => rfl), rfl, (Int.le_refl _), ⟨0, Nat.le_refl _, Nat.zero_le _, fun q h1 h2 => by omega, Or.inr (Or.inl rfl), by omega⟩⟩
    intro j Y ih H locs ls ⟨hP, hD, hS, hl, hj, hcmY, hyc, hpy, hy6, hya, hev⟩
    obtain ⟨e, hje, hen, hns, hee, hae⟩ := hev
    have hwY : zWc X Y := ⟨fun c h9 => hyc c (by omega) (by omega) (by omega), fun c h8 h9 => hyc c (by omega) (by omega) (by omega)⟩
    have hVY : zV Y := hwY.1.v hV
    have hCY : zCs Y := hwY.cs hV hCs
    have hcnY : zCn Y 2 = zCn X 2 := hwY.cn 2
    have hcY := hCY.n (show 2 < 4 by omega)
    refine lv_iload hx hb dX0_walk_31 (lv_at hl 0 rfl) ?_
    refine lv_aload hx hb dX0_walk_33 (lv_at hl 1 rfl) ?_
    refine va_get (D := G.1) (ci := 1) (v := .ref (ad 58)) (C := RX1) (T := TX1) (N := 6) hx hb hts hw1 hown hE.1 hP 57 p_57 rfl 2 (by decide) hf55 (fun _ h9 => h9) rfl dX0_walk_35 ?_
    refine lv_iload_n hx hb dX0_walk_38 rfl (lv_at hl 4 rfl) ?_
    refine zild hx hb hE hP 58 4 (fun _ => rfl) (by decide) 2 rfl (by decide) (by decide) dX0_walk_39 ?_
    refine zc_ge (tgt := 114) hx hb dX0_walk_40 (by decide) (by omega) (by omega) (fun h40 => ?_) (fun h40 => ?_)
    · exact zend_v hx hb hr hlocks hP hD hS (Nat.le_of_ble_eq_true rfl) (Nat.le_of_ble_eq_true rfl) dX0_walk_114 ⟨_, rfl, (by have hen2 : e = zCn X 2 := (by omega); rw [hen2, zCs.sn] at hae; have hzs : zS 2 = 1024 := rfl; rw [hzs] at hae; exact ⟨hcmY, hya, by omega, hyc, hpy, hy6⟩), rfl⟩
    · refine lv_aload hx hb dX0_walk_43 (lv_at hl 1 rfl) ?_
      refine lv_iload_n hx hb dX0_walk_45 rfl (lv_at hl 4 rfl) ?_
      refine lv_iload hx hb dX0_walk_46 (lv_at hl 0 rfl) ?_
      refine lv_iload_n hx hb dX0_walk_48 rfl (lv_at hl 3 rfl) ?_
      refine zcall (wr := []) (va_runV (As := [.int (zi 2), .int (zi (j : Int)), .int (zi (u : Int))]) (rest := []) ⟨hx, hb, hml, hown, hts⟩ (c_X1_startsRun l G ad Y 2 j u hVY hCY (by omega) (by omega) (by omega) H.size) (cwV 3 hts gX0_walk_X1_startsRun rfl rfl rfl (by decide +kernel) ⟨Nat.le_of_ble_eq_true rfl, Nat.le_of_ble_eq_true rfl⟩) (zPreV (wr := []) (wc := zpic G ad Y) (q0 := 57) (ci := 1) (q := (RX1, TX1, 6)) hP hD hE hS hA rfl p_57) rfl rfl hl.1 rfl (lv_room (Nat.le_of_ble_eq_true rfl)) dX0_walk_49 ⟨Nat.le_of_ble_eq_true rfl, Nat.le_of_ble_eq_true rfl⟩) hP hD hS hA (fun _ _ H locs hf hP hD hS => ?_)
      obtain ⟨v2, rfl, hv2, rfl⟩ := hf
      have hP : va_P G.1 vwCl (zpic G ad Y) H := hP
      have hD : va_D A (zpic G ad Y) := hD
      refine W.eq (g2 := F0 m 52 ls [.int (zi v2)]) rfl ?_
      have hsrw : ∀ q : Nat, zSR Y 2 q u ↔ zSR X 2 q u := fun q => by unfold zSR; rw [hwY.ma, hwY.ma]
      refine z0_eq (tgt := 108) hx hb dX0_walk_52 (by decide) (by omega) (fun h52 => ?_) (fun h52 => ?_)
      · refine lv_iinc (v := zi ((j : Int) + 1)) (lv' := [(5, .int (zi ((j : Int) + 1))), (4, .ref (ad 57)), (3, .int (zi d)), (2, .int (zi (u : Int))), (1, .int (zi 2)), (0, .ref (ad 65))]) hx hb dX0_walk_108 hl (k := 0) rfl (zi_add _ _) (by decide) rfl (fun ls hl => ?_)
        refine lv_goto (tgt := 31) hx hb dX0_walk_111 (by decide) ?_
        exact ih (j + 1) Y (by omega) H locs ls ⟨hP, hD, hS, lv_sub hl [0, 1, 2, 3, 4, 5] rfl, (by omega), hcmY, hyc, hpy, hy6, hya, (by have hns1 : ¬ zSR X 2 j u := (fun z => by rcases hv2 with h | h; omega; exact h.2 ((hsrw j).mpr z)); refine ⟨e, ?_, hen, fun q h1 h2 => hns q (by omega) h2, hee, hae⟩; by_cases e9 : j = e; (rw [← e9] at hee; rcases hee with z | z; omega; exact absurd z hns1); omega)⟩
      · have hsr : zSR X 2 j u := by rcases hv2 with h | h; exact (hsrw j).mp h.2; omega
        have hej : e = j := by by_cases e9 : e = j; exact e9; exact absurd hsr (hns j (by omega) (by omega))
        have hs0 := (hCs.seg (show 2 < 4 by omega) (show j < zCn X 2 by omega)).1
        refine lv_aload hx hb dX0_walk_55 (lv_at hl 1 rfl) ?_
        refine lv_iload_n hx hb dX0_walk_57 rfl (lv_at hl 4 rfl) ?_
        refine lv_iload hx hb dX0_walk_58 (lv_at hl 0 rfl) ?_
        refine zcall (wr := []) (va_runV (As := [.int (zi 2), .int (zi (j : Int))]) (rest := []) ⟨hx, hb, hml, hown, hts⟩ (c_X1_start l G ad Y 2 j hCY (by omega) (by omega) H.size) (cwV 2 hts gX0_walk_X1_start rfl rfl rfl (by decide +kernel) ⟨Nat.le_of_ble_eq_true rfl, Nat.le_of_ble_eq_true rfl⟩) (zPreV (wr := []) (wc := zpic G ad Y) (q0 := 57) (ci := 1) (q := (RX1, TX1, 6)) hP hD hE hS hA rfl p_57) rfl rfl hl.1 rfl (lv_room (Nat.le_of_ble_eq_true rfl)) dX0_walk_60 ⟨Nat.le_of_ble_eq_true rfl, Nat.le_of_ble_eq_true rfl⟩) hP hD hS hA (fun _ _ H locs hf hP hD hS => ?_)
        obtain ⟨v3, rfl, hv3, rfl⟩ := hf
        have hP : va_P G.1 vwCl (zpic G ad Y) H := hP
        have hD : va_D A (zpic G ad Y) := hD
        refine W.eq (g2 := F0 m 63 ls [.int (zi v3)]) rfl ?_
        have hsj : v3 = zS0 X 2 j := by rw [hv3, hwY.s0]
        refine lv_istore (lv' := [(6, .int (zi v3)), (5, .int (zi (j : Int))), (4, .ref (ad 57)), (3, .int (zi d)), (2, .int (zi (u : Int))), (1, .int (zi 2)), (0, .ref (ad 65))]) hx hb dX0_walk_63 hl (by decide) rfl (fun ls hl => ?_)
        refine lv_aload hx hb dX0_walk_65 (lv_at hl 2 rfl) ?_
        refine lv_iload_n hx hb dX0_walk_67 rfl (lv_at hl 5 rfl) ?_
        refine lv_iload hx hb dX0_walk_68 (lv_at hl 1 rfl) ?_
        refine lv_iload_n hx hb dX0_walk_70 rfl (lv_at hl 4 rfl) ?_
        refine zcall (wr := []) (va_runV (As := [.int (zi 2), .int (zi (j : Int)), .int (zi (u : Int))]) (rest := []) ⟨hx, hb, hml, hown, hts⟩ (c_X1_runEnd l G ad Y 2 j u hVY hCY (by omega) (by omega) (by omega) H.size) (cwV 3 hts gX0_walk_X1_runEnd rfl rfl rfl (by decide +kernel) ⟨Nat.le_of_ble_eq_true rfl, Nat.le_of_ble_eq_true rfl⟩) (zPreV (wr := []) (wc := zpic G ad Y) (q0 := 57) (ci := 1) (q := (RX1, TX1, 6)) hP hD hE hS hA rfl p_57) rfl rfl hl.1 rfl (lv_room (Nat.le_of_ble_eq_true rfl)) dX0_walk_71 ⟨Nat.le_of_ble_eq_true rfl, Nat.le_of_ble_eq_true rfl⟩) hP hD hS hA (fun _ _ H locs hf hP hD hS => ?_)
        obtain ⟨v4, rfl, hv4, rfl⟩ := hf
        have hP : va_P G.1 vwCl (zpic G ad Y) H := hP
        have hD : va_D A (zpic G ad Y) := hD
        refine W.eq (g2 := F0 m 74 ls [.int (zi v4)]) rfl ?_
        obtain ⟨k, hk, hkw⟩ := hv4
        have hsk : v4 = zS0 X 2 k := by rw [hkw, hwY.s0]
        have hk1 := hk.1
        have hk2 := hk.2.1
        have hm1 := hCs.mono (show 2 < 4 by omega) (j + 1) k (by omega) (by omega)
        have hm2 := hCs.mono (show 2 < 4 by omega) k (zCn X 2) (by omega) (Nat.le_refl _)
        have hm3 := hCs.seg (show 2 < 4 by omega) (show j < zCn X 2 by omega)
        rw [zCs.sn] at hm2
        have hzs : zS 2 = 1024 := rfl
        refine lv_istore (lv' := [(7, .int (zi v4)), (6, .int (zi v3)), (5, .int (zi (j : Int))), (4, .ref (ad 57)), (3, .int (zi d)), (2, .int (zi (u : Int))), (1, .int (zi 2)), (0, .ref (ad 65))]) hx hb dX0_walk_74 hl (by decide) rfl (fun ls hl => ?_)
        refine lv_aload_n hx hb dX0_walk_76 rfl (lv_at hl 7 rfl) ?_
        refine va_get (D := G.1) (ci := 0) (v := .ref (ad 67)) (C := RX0) (T := TX0) (N := 7) hx hb hts hw0 hown hE.1 hP 65 p_65 rfl 4 (by decide) hf15 (fun _ h9 => h9) rfl dX0_walk_77 ?_
        refine lv_iload_n hx hb dX0_walk_80 rfl (lv_at hl 6 rfl) ?_
        refine lv_iload hx hb dX0_walk_81 (lv_at hl 1 rfl) ?_
        refine zist hx hb hE hP hD hS 67 4 (fun _ => rfl) (by decide) 2 rfl (by decide) (by decide) dX0_walk_83 (fun H locs hP hD hS => ?_)
        generalize eX1 : (zw Y 67 2 v3) = X1 at hP hD
        have hz1 : ∀ c : Nat, c ≠ 67 → X1 c = Y c := fun c h9 => by rw [← eX1]; exact zw_cell h9
        have hz2 : ∀ q : Nat, q < 2 → X1 67 q = Y 67 q := fun q h9 => by rw [← eX1]; exact zw_ne (by omega)
        have hz3 : X1 67 2 = v3 := by rw [← eX1]; exact zw_at _ _ _ _
        have hwZ : zWc X X1 := ⟨fun c h9 => by rw [hz1 c (by omega)]; exact hwY.1 c h9, fun c h8 h9 => by rw [hz1 c (by omega)]; exact hwY.2 c h8 h9⟩
        have hVZ : zV X1 := hwZ.1.v hV
        have hCZ : zCs X1 := hwZ.cs hV hCs
        have hcnZ : zCn X1 2 = zCn X 2 := hwZ.cn 2
        have hz65 : X1 65 = Y 65 := hz1 65 (by omega)
        have hz655 : X1 65 5 = Y 65 5 := by rw [hz65]
        refine lv_aload_n hx hb dX0_walk_84 rfl (lv_at hl 7 rfl) ?_
        refine lv_iload_n hx hb dX0_walk_85 rfl (lv_at hl 6 rfl) ?_
        refine lv_iconst (v := zi 1) hx hb dX0_walk_86 rfl ?_
        refine lv_iadd hx hb dX0_walk_87 (zti (v := zi 3) (zi_add _ _) ?_)
        refine lv_iload_n hx hb dX0_walk_88 rfl (lv_at hl 5 rfl) ?_
        refine lv_aload hx hb dX0_walk_89 (lv_at hl 3 rfl) ?_
        refine lv_iload_n hx hb dX0_walk_91 rfl (lv_at hl 6 rfl) ?_
        refine lv_iload hx hb dX0_walk_92 (lv_at hl 2 rfl) ?_
        refine zcall (wr := []) (va_runV (As := [.int (zi 2), .int (zi (j : Int))]) (rest := [.int (zi (u : Int)), .int (zi 3), .ref (ad 65)]) ⟨hx, hb, hml, hown, hts⟩ (c_X1_mask l G ad X1 2 j hCZ (by omega) (by omega) H.size) (cwV 2 hts gX0_walk_X1_mask rfl rfl rfl (by decide +kernel) ⟨Nat.le_of_ble_eq_true rfl, Nat.le_of_ble_eq_true rfl⟩) (zPreV (wr := []) (wc := zpic G ad X1) (q0 := 57) (ci := 1) (q := (RX1, TX1, 6)) hP hD hE hS hA rfl p_57) rfl rfl hl.1 rfl (lv_room (Nat.le_of_ble_eq_true rfl)) dX0_walk_94 ⟨Nat.le_of_ble_eq_true rfl, Nat.le_of_ble_eq_true rfl⟩) hP hD hS hA (fun _ _ H locs hf hP hD hS => ?_)
        obtain ⟨v5, rfl, hv5, rfl⟩ := hf
        have hP : va_P G.1 vwCl (zpic G ad X1) H := hP
        have hD : va_D A (zpic G ad X1) := hD
        refine W.eq (g2 := F0 m 97 ls [.int (zi v5), .int (zi (u : Int)), .int (zi 3), .ref (ad 65)]) rfl ?_
        rw [hwZ.ma 2 j] at hv5
        rw [hv5]
        have hau : u &&& zMa X 2 j ≤ u := Nat.and_le_left
        have hdd : 0 < d * (v4 - v3) := Int.mul_pos hd (by omega)
        have hde : d * (v4 - v3) = d * zS0 X 2 k - d * zS0 X 2 e := by rw [hsj, hsk, hej, Int.mul_sub]
        have hdk : d * zS0 X 2 k ≤ d * 1024 := Int.mul_le_mul_of_nonneg_left (by omega) (by omega)
        have hpz : ∀ q : Nat, q < 3 → 0 ≤ X1 67 q ∧ X1 67 q < 1024 := fun q h9 => by by_cases e9 : q = 2; (rw [e9, hz3]; omega); (rw [hz2 q (by omega), hpy q (by omega)]; exact hpl q (by omega))
        have hcmz : zCm X1 := by unfold zCm; rw [hz65, hz1 66 (by omega)]; exact hcmY
        refine lv_iand hx hb dX0_walk_97 (zti (v := zi ((u &&& zMa X 2 j : Nat) : Int)) (zi_and _ _) ?_)
        refine lv_iload_n hx hb dX0_walk_98 rfl (lv_at hl 4 rfl) ?_
        refine lv_iload hx hb dX0_walk_99 (lv_at hl 0 rfl) ?_
        refine lv_iload hx hb dX0_walk_101 (lv_at hl 1 rfl) ?_
        refine lv_isub hx hb dX0_walk_103 (zti (v := zi (v4 - v3)) (zi_sub _ _) ?_)
        refine lv_imul hx hb dX0_walk_104 (zti (v := zi (d * (v4 - v3))) (zi_mul _ _) ?_)
        refine zcall (wr := []) (va_runS (As := [.ref (ad 65), .int (zi 3), .int (zi ((u &&& zMa X 2 j : Nat) : Int)), .int (zi (d * (v4 - v3)))]) (rest := []) ⟨hx, hb, hml, hown, hts⟩ (c_walk3 l G ad X1 (u &&& zMa X 2 j : Nat) (d * (v4 - v3)) hVZ hCZ (by omega) hdd hcmz (by omega) hpz H.size) (va_cwS 4 hts gX0_walk_X0_walk rfl rfl rfl (by decide +kernel) ⟨Nat.le_of_ble_eq_true rfl, Nat.le_of_ble_eq_true rfl⟩) (zPre (wr := []) (wc := zpic G ad X1) (As := [.ref (ad 65), .int (zi 3), .int (zi ((u &&& zMa X 2 j : Nat) : Int)), .int (zi (d * (v4 - v3)))]) hP hD hE hS hA).1 rfl rfl hl.1 rfl (lv_room (Nat.le_of_ble_eq_true rfl)) dX0_walk_105 ⟨Nat.le_of_ble_eq_true rfl, Nat.le_of_ble_eq_true rfl⟩) hP hD hS hA (fun _ _ H locs hf hP hD hS => ?_)
        obtain ⟨X2, rfl, hX2, rfl⟩ := hf
        have hP : va_P G.1 vwCl (zpic G ad X2) H := hP
        have hD : va_D A (zpic G ad X2) := hD
        refine W.eq (g2 := F0 m 108 ls []) rfl ?_
        obtain ⟨q1, q2, q3, q4, q5, q6⟩ := hX2
        rw [hz655] at q2 q3
        refine lv_iinc (v := zi ((j : Int) + 1)) (lv' := [(5, .int (zi ((j : Int) + 1))), (7, .int (zi v4)), (6, .int (zi v3)), (4, .ref (ad 57)), (3, .int (zi d)), (2, .int (zi (u : Int))), (1, .int (zi 2)), (0, .ref (ad 65))]) hx hb dX0_walk_108 hl (k := 2) rfl (zi_add _ _) (by decide) rfl (fun ls hl => ?_)
        refine lv_goto (tgt := 31) hx hb dX0_walk_111 (by decide) ?_
        exact ih (j + 1) X2 (by omega) H locs ls ⟨hP, hD, hS, lv_sub hl [0, 3, 4, 5, 6, 7] rfl, (by omega), q1, (fun c h1 h2 h3 => by rw [q4 c h1 h2 h3, hz1 c h3]; exact hyc c h1 h2 h3), (fun q h1 => by rw [q5 q (by omega), hz2 q h1]; exact hpy q h1), (by rw [q6, hz65]; exact hy6), (by omega), ⟨k, by omega, by omega, fun q h1 h2 z => hk.2.2.1 q (by omega) h2 ((hsrw q).mpr z), by rcases hk.2.2.2 with z | z; exact Or.inl (by omega); exact Or.inr ((hsrw k).mp z), by omega⟩⟩
  · refine lv_aload_n hx hb dX0_walk_14 rfl (lv_at hl 0 rfl) ?_
    refine lv_iload_n hx hb dX0_walk_15 rfl (lv_at hl 1 rfl) ?_
    refine lv_iload_n hx hb dX0_walk_16 rfl (lv_at hl 2 rfl) ?_
    refine lv_iload_n hx hb dX0_walk_17 rfl (lv_at hl 3 rfl) ?_
    refine zcall (wr := []) (va_runV (As := [.int (zi 2), .int (zi (u : Int)), .int (zi d)]) (rest := []) ⟨hx, hb, hml, hown, hts⟩ (c_X0_judge l G ad X 2 u d hV (by omega) (by omega) (by omega) hcm (by have hzm : zM 2 = 4096 := rfl; rw [hzm]; omega) hpl H.size) (cwV 3 hts gX0_walk_X0_judge rfl rfl rfl (by decide +kernel) ⟨Nat.le_of_ble_eq_true rfl, Nat.le_of_ble_eq_true rfl⟩) (zPreV (wr := []) (wc := zpic G ad X) (q0 := 65) (ci := 0) (q := (RX0, TX0, 7)) hP hD hE hS hA rfl p_65) rfl rfl hl.1 rfl (lv_room (Nat.le_of_ble_eq_true rfl)) dX0_walk_18 ⟨Nat.le_of_ble_eq_true rfl, Nat.le_of_ble_eq_true rfl⟩) hP hD hS hA (fun _ _ H locs hf hP hD hS => ?_)
    obtain ⟨X1, rfl, hX1, rfl⟩ := hf
    have hP : va_P G.1 vwCl (zpic G ad X1) H := hP
    have hD : va_D A (zpic G ad X1) := hD
    refine W.eq (g2 := F0 m 21 ls []) rfl ?_
    exact zend_v hx hb hr hlocks hP hD hS (Nat.le_of_ble_eq_true rfl) (Nat.le_of_ble_eq_true rfl) dX0_walk_21 ⟨_, rfl, (by obtain ⟨q1, q2, q3, q4, q5, q6⟩ := hX1; exact ⟨q1, q2, by have hzm : zM 2 = 4096 := rfl; rw [hzm] at q3; exact q3, q4, fun q hq => q5 q (by omega), q6⟩), rfl⟩

set_option maxHeartbeats 4000000 in
set_option maxRecDepth 100000 in
/-- walk at the FIELD 1 -/
theorem c_walk1 (l : Launch) (G : zG) (ad : Nat → Nat) (X : Nat → Nat → Int) (u : Nat) (d : Int) (hV : zV X) (hCs : zCs X) (hu : u < 65536) (hd : 0 < d) (hcm : zCm X) (ham : 0 ≤ X 65 5 ∧ X 65 5 + d * 1048576 ≤ 268435456) (hpl : ∀ q : Nat, q < 1 → 0 ≤ X 67 q ∧ X 67 q < 1024) : zR l G yX0_walk wsX0_walk { frames := 6, cells := 0, slots := 0, locals := 149 } (zpic G ad X) [.ref (ad 65), .int (zi 1), .int (zi (u : Int)), .int (zi d)] (zv G ad (fun Y => zJd X Y 1 (d * 1048576))) 0 0 := by
  refine zR_of (cc := cX0_walk) (maxL := 8) (rt := none) (by decide) rfl (Nat.le_of_ble_eq_true rfl) ?_
  intro p e s m below meth c A ls hx hb hml hr hts hown hlocks hin0 hA hE hP hD hS hl
  have hl : lv_has ls 8 [(0, .ref (ad 65)), (1, .int (zi 1)), (2, .int (zi (u : Int))), (3, .int (zi d))] := hl
  have hown : s.vm.findClass RX0 = some m.cls := hown
  have hw0 : ∀ w ∈ u_ws RX0 TX0 7, w ∈ wsX0_walk := by decide +kernel
  have hf25 := hts (.fieldLink RX0 25 "Nettle$Comparison" "cuts" "LNettle$Cuts;") (by decide +kernel)
  have hw1 : ∀ w ∈ u_ws RX1 TX1 6, w ∈ wsX0_walk := by decide +kernel
  have hf55 := hts (.fieldLink RX0 55 "Nettle$Cuts" "counts" "[I") (by decide +kernel)
  have hf15 := hts (.fieldLink RX0 15 "Nettle$Comparison" "place" "[I") (by decide +kernel)
  refine lv_iload_n hx hb dX0_walk_0 rfl (lv_at hl 1 rfl) ?_
  refine lv_iconst (v := zi 4) hx hb dX0_walk_1 rfl ?_
  refine zc_ge (tgt := 14) hx hb dX0_walk_2 (by decide) (by decide) (by decide) (fun h9 => absurd h9 (by decide)) (fun h2 => ?_)
  refine lv_aload_n hx hb dX0_walk_5 rfl (lv_at hl 0 rfl) ?_
  refine lv_iload_n hx hb dX0_walk_6 rfl (lv_at hl 1 rfl) ?_
  refine lv_iload_n hx hb dX0_walk_7 rfl (lv_at hl 2 rfl) ?_
  refine zcall (wr := []) (va_runV (As := [.int (zi 1), .int (zi (u : Int))]) (rest := []) ⟨hx, hb, hml, hown, hts⟩ (c_X0_isSettled l G ad X 1 u hV (by omega) (by omega) s.heap.size) (cwV 2 hts gX0_walk_X0_isSettled rfl rfl rfl (by decide +kernel) ⟨Nat.le_of_ble_eq_true rfl, Nat.le_of_ble_eq_true rfl⟩) (zPreV (wr := []) (wc := zpic G ad X) (q0 := 65) (ci := 0) (q := (RX0, TX0, 7)) hP hD hE hS hA rfl p_65) rfl rfl hl.1 rfl (lv_room (Nat.le_of_ble_eq_true rfl)) dX0_walk_8 ⟨Nat.le_of_ble_eq_true rfl, Nat.le_of_ble_eq_true rfl⟩) hP hD hS hA (fun _ _ H locs hf hP hD hS => ?_)
  obtain ⟨v1, rfl, hv1, rfl⟩ := hf
  have hP : va_P G.1 vwCl (zpic G ad X) H := hP
  have hD : va_D A (zpic G ad X) := hD
  refine W.eq (g2 := F0 m 11 ls [.int (zi v1)]) rfl ?_
  refine z0_eq (tgt := 22) hx hb dX0_walk_11 (by decide) (by omega) (fun h11 => ?_) (fun h11 => ?_)
  · have hcn := hCs.n (show 1 < 4 by omega)
    have hss : d * zS0 X 1 0 = 0 := by rw [hCs.s0 (by omega), Int.mul_zero]
    refine lv_aload_n hx hb dX0_walk_22 rfl (lv_at hl 0 rfl) ?_
    refine va_get (D := G.1) (ci := 0) (v := .ref (ad 57)) (C := RX0) (T := TX0) (N := 7) hx hb hts hw0 hown hE.1 hP 65 p_65 rfl 2 (by decide) hf25 (fun _ h9 => h9) rfl dX0_walk_23 ?_
    refine lv_astore (lv' := [(4, .ref (ad 57)), (0, .ref (ad 65)), (1, .int (zi 1)), (2, .int (zi (u : Int))), (3, .int (zi d))]) hx hb dX0_walk_26 hl (by decide) rfl (fun ls hl => ?_)
    refine lv_iconst (v := zi 0) hx hb dX0_walk_28 rfl ?_
    refine lv_istore (lv' := [(5, .int (zi 0)), (4, .ref (ad 57)), (0, .ref (ad 65)), (1, .int (zi 1)), (2, .int (zi (u : Int))), (3, .int (zi d))]) hx hb dX0_walk_29 hl (by decide) rfl (fun ls hl => ?_)
    refine zloop2 (fun (j : Nat) (Y : Nat → Nat → Int) => 33 - j) (fun (j : Nat) (Y : Nat → Nat → Int) (H : Heap) (locs : List Loc) (ls : Array Slot) => va_P G.1 vwCl (zpic G ad Y) H ∧ va_D A (zpic G ad Y) ∧ va_S A s.heap H locs ∧ lv_has ls 8 [(5, .int (zi (j : Int))), (4, .ref (ad 57)), (3, .int (zi d)), (2, .int (zi (u : Int))), (1, .int (zi 1)), (0, .ref (ad 65))] ∧ (j ≤ zCn X 1) ∧ (zCm Y) ∧ (∀ c : Nat, c ≠ 65 → c ≠ 66 → c ≠ 67 → Y c = X c) ∧ (∀ q : Nat, q < 1 → Y 67 q = X 67 q) ∧ (Y 65 6 = X 65 6) ∧ (X 65 5 ≤ Y 65 5) ∧ (∃ e : Nat, j ≤ e ∧ e ≤ zCn X 1 ∧ (∀ q : Nat, j ≤ q → q < e → ¬ zSR X 1 q u) ∧ (e = zCn X 1 ∨ zSR X 1 e u) ∧ Y 65 5 ≤ X 65 5 + d * zS0 X 1 e * 4096)) ?_ 0 X ⟨hP, hD, hS, lv_sub hl [0, 1, 5, 4, 3, 2] rfl, (by omega), hcm, (fun c h1 h2 h3 => rfl), (fun q h1 => rfl), rfl, (Int.le_refl _), ⟨0, Nat.le_refl _, Nat.zero_le _, fun q h1 h2 => by omega, Or.inr (Or.inl rfl), by omega⟩⟩
    intro j Y ih H locs ls ⟨hP, hD, hS, hl, hj, hcmY, hyc, hpy, hy6, hya, hev⟩
    obtain ⟨e, hje, hen, hns, hee, hae⟩ := hev
    have hwY : zWc X Y := ⟨fun c h9 => hyc c (by omega) (by omega) (by omega), fun c h8 h9 => hyc c (by omega) (by omega) (by omega)⟩
    have hVY : zV Y := hwY.1.v hV
    have hCY : zCs Y := hwY.cs hV hCs
    have hcnY : zCn Y 1 = zCn X 1 := hwY.cn 1
    have hcY := hCY.n (show 1 < 4 by omega)
    refine lv_iload hx hb dX0_walk_31 (lv_at hl 0 rfl) ?_
    refine lv_aload hx hb dX0_walk_33 (lv_at hl 1 rfl) ?_
    refine va_get (D := G.1) (ci := 1) (v := .ref (ad 58)) (C := RX1) (T := TX1) (N := 6) hx hb hts hw1 hown hE.1 hP 57 p_57 rfl 2 (by decide) hf55 (fun _ h9 => h9) rfl dX0_walk_35 ?_
    refine lv_iload_n hx hb dX0_walk_38 rfl (lv_at hl 4 rfl) ?_
    refine zild hx hb hE hP 58 4 (fun _ => rfl) (by decide) 1 rfl (by decide) (by decide) dX0_walk_39 ?_
    refine zc_ge (tgt := 114) hx hb dX0_walk_40 (by decide) (by omega) (by omega) (fun h40 => ?_) (fun h40 => ?_)
    · exact zend_v hx hb hr hlocks hP hD hS (Nat.le_of_ble_eq_true rfl) (Nat.le_of_ble_eq_true rfl) dX0_walk_114 ⟨_, rfl, (by have hen2 : e = zCn X 1 := (by omega); rw [hen2, zCs.sn] at hae; have hzs : zS 1 = 256 := rfl; rw [hzs] at hae; exact ⟨hcmY, hya, by omega, hyc, hpy, hy6⟩), rfl⟩
    · refine lv_aload hx hb dX0_walk_43 (lv_at hl 1 rfl) ?_
      refine lv_iload_n hx hb dX0_walk_45 rfl (lv_at hl 4 rfl) ?_
      refine lv_iload hx hb dX0_walk_46 (lv_at hl 0 rfl) ?_
      refine lv_iload_n hx hb dX0_walk_48 rfl (lv_at hl 3 rfl) ?_
      refine zcall (wr := []) (va_runV (As := [.int (zi 1), .int (zi (j : Int)), .int (zi (u : Int))]) (rest := []) ⟨hx, hb, hml, hown, hts⟩ (c_X1_startsRun l G ad Y 1 j u hVY hCY (by omega) (by omega) (by omega) H.size) (cwV 3 hts gX0_walk_X1_startsRun rfl rfl rfl (by decide +kernel) ⟨Nat.le_of_ble_eq_true rfl, Nat.le_of_ble_eq_true rfl⟩) (zPreV (wr := []) (wc := zpic G ad Y) (q0 := 57) (ci := 1) (q := (RX1, TX1, 6)) hP hD hE hS hA rfl p_57) rfl rfl hl.1 rfl (lv_room (Nat.le_of_ble_eq_true rfl)) dX0_walk_49 ⟨Nat.le_of_ble_eq_true rfl, Nat.le_of_ble_eq_true rfl⟩) hP hD hS hA (fun _ _ H locs hf hP hD hS => ?_)
      obtain ⟨v2, rfl, hv2, rfl⟩ := hf
      have hP : va_P G.1 vwCl (zpic G ad Y) H := hP
      have hD : va_D A (zpic G ad Y) := hD
      refine W.eq (g2 := F0 m 52 ls [.int (zi v2)]) rfl ?_
      have hsrw : ∀ q : Nat, zSR Y 1 q u ↔ zSR X 1 q u := fun q => by unfold zSR; rw [hwY.ma, hwY.ma]
      refine z0_eq (tgt := 108) hx hb dX0_walk_52 (by decide) (by omega) (fun h52 => ?_) (fun h52 => ?_)
      · refine lv_iinc (v := zi ((j : Int) + 1)) (lv' := [(5, .int (zi ((j : Int) + 1))), (4, .ref (ad 57)), (3, .int (zi d)), (2, .int (zi (u : Int))), (1, .int (zi 1)), (0, .ref (ad 65))]) hx hb dX0_walk_108 hl (k := 0) rfl (zi_add _ _) (by decide) rfl (fun ls hl => ?_)
        refine lv_goto (tgt := 31) hx hb dX0_walk_111 (by decide) ?_
        exact ih (j + 1) Y (by omega) H locs ls ⟨hP, hD, hS, lv_sub hl [0, 1, 2, 3, 4, 5] rfl, (by omega), hcmY, hyc, hpy, hy6, hya, (by have hns1 : ¬ zSR X 1 j u := (fun z => by rcases hv2 with h | h; omega; exact h.2 ((hsrw j).mpr z)); refine ⟨e, ?_, hen, fun q h1 h2 => hns q (by omega) h2, hee, hae⟩; by_cases e9 : j = e; (rw [← e9] at hee; rcases hee with z | z; omega; exact absurd z hns1); omega)⟩
      · have hsr : zSR X 1 j u := by rcases hv2 with h | h; exact (hsrw j).mp h.2; omega
        have hej : e = j := by by_cases e9 : e = j; exact e9; exact absurd hsr (hns j (by omega) (by omega))
        have hs0 := (hCs.seg (show 1 < 4 by omega) (show j < zCn X 1 by omega)).1
        refine lv_aload hx hb dX0_walk_55 (lv_at hl 1 rfl) ?_
        refine lv_iload_n hx hb dX0_walk_57 rfl (lv_at hl 4 rfl) ?_
        refine lv_iload hx hb dX0_walk_58 (lv_at hl 0 rfl) ?_
        refine zcall (wr := []) (va_runV (As := [.int (zi 1), .int (zi (j : Int))]) (rest := []) ⟨hx, hb, hml, hown, hts⟩ (c_X1_start l G ad Y 1 j hCY (by omega) (by omega) H.size) (cwV 2 hts gX0_walk_X1_start rfl rfl rfl (by decide +kernel) ⟨Nat.le_of_ble_eq_true rfl, Nat.le_of_ble_eq_true rfl⟩) (zPreV (wr := []) (wc := zpic G ad Y) (q0 := 57) (ci := 1) (q := (RX1, TX1, 6)) hP hD hE hS hA rfl p_57) rfl rfl hl.1 rfl (lv_room (Nat.le_of_ble_eq_true rfl)) dX0_walk_60 ⟨Nat.le_of_ble_eq_true rfl, Nat.le_of_ble_eq_true rfl⟩) hP hD hS hA (fun _ _ H locs hf hP hD hS => ?_)
        obtain ⟨v3, rfl, hv3, rfl⟩ := hf
        have hP : va_P G.1 vwCl (zpic G ad Y) H := hP
        have hD : va_D A (zpic G ad Y) := hD
        refine W.eq (g2 := F0 m 63 ls [.int (zi v3)]) rfl ?_
        have hsj : v3 = zS0 X 1 j := by rw [hv3, hwY.s0]
        refine lv_istore (lv' := [(6, .int (zi v3)), (5, .int (zi (j : Int))), (4, .ref (ad 57)), (3, .int (zi d)), (2, .int (zi (u : Int))), (1, .int (zi 1)), (0, .ref (ad 65))]) hx hb dX0_walk_63 hl (by decide) rfl (fun ls hl => ?_)
        refine lv_aload hx hb dX0_walk_65 (lv_at hl 2 rfl) ?_
        refine lv_iload_n hx hb dX0_walk_67 rfl (lv_at hl 5 rfl) ?_
        refine lv_iload hx hb dX0_walk_68 (lv_at hl 1 rfl) ?_
        refine lv_iload_n hx hb dX0_walk_70 rfl (lv_at hl 4 rfl) ?_
        refine zcall (wr := []) (va_runV (As := [.int (zi 1), .int (zi (j : Int)), .int (zi (u : Int))]) (rest := []) ⟨hx, hb, hml, hown, hts⟩ (c_X1_runEnd l G ad Y 1 j u hVY hCY (by omega) (by omega) (by omega) H.size) (cwV 3 hts gX0_walk_X1_runEnd rfl rfl rfl (by decide +kernel) ⟨Nat.le_of_ble_eq_true rfl, Nat.le_of_ble_eq_true rfl⟩) (zPreV (wr := []) (wc := zpic G ad Y) (q0 := 57) (ci := 1) (q := (RX1, TX1, 6)) hP hD hE hS hA rfl p_57) rfl rfl hl.1 rfl (lv_room (Nat.le_of_ble_eq_true rfl)) dX0_walk_71 ⟨Nat.le_of_ble_eq_true rfl, Nat.le_of_ble_eq_true rfl⟩) hP hD hS hA (fun _ _ H locs hf hP hD hS => ?_)
        obtain ⟨v4, rfl, hv4, rfl⟩ := hf
        have hP : va_P G.1 vwCl (zpic G ad Y) H := hP
        have hD : va_D A (zpic G ad Y) := hD
        refine W.eq (g2 := F0 m 74 ls [.int (zi v4)]) rfl ?_
        obtain ⟨k, hk, hkw⟩ := hv4
        have hsk : v4 = zS0 X 1 k := by rw [hkw, hwY.s0]
        have hk1 := hk.1
        have hk2 := hk.2.1
        have hm1 := hCs.mono (show 1 < 4 by omega) (j + 1) k (by omega) (by omega)
        have hm2 := hCs.mono (show 1 < 4 by omega) k (zCn X 1) (by omega) (Nat.le_refl _)
        have hm3 := hCs.seg (show 1 < 4 by omega) (show j < zCn X 1 by omega)
        rw [zCs.sn] at hm2
        have hzs : zS 1 = 256 := rfl
        refine lv_istore (lv' := [(7, .int (zi v4)), (6, .int (zi v3)), (5, .int (zi (j : Int))), (4, .ref (ad 57)), (3, .int (zi d)), (2, .int (zi (u : Int))), (1, .int (zi 1)), (0, .ref (ad 65))]) hx hb dX0_walk_74 hl (by decide) rfl (fun ls hl => ?_)
        refine lv_aload_n hx hb dX0_walk_76 rfl (lv_at hl 7 rfl) ?_
        refine va_get (D := G.1) (ci := 0) (v := .ref (ad 67)) (C := RX0) (T := TX0) (N := 7) hx hb hts hw0 hown hE.1 hP 65 p_65 rfl 4 (by decide) hf15 (fun _ h9 => h9) rfl dX0_walk_77 ?_
        refine lv_iload_n hx hb dX0_walk_80 rfl (lv_at hl 6 rfl) ?_
        refine lv_iload hx hb dX0_walk_81 (lv_at hl 1 rfl) ?_
        refine zist hx hb hE hP hD hS 67 4 (fun _ => rfl) (by decide) 1 rfl (by decide) (by decide) dX0_walk_83 (fun H locs hP hD hS => ?_)
        generalize eX1 : (zw Y 67 1 v3) = X1 at hP hD
        have hz1 : ∀ c : Nat, c ≠ 67 → X1 c = Y c := fun c h9 => by rw [← eX1]; exact zw_cell h9
        have hz2 : ∀ q : Nat, q < 1 → X1 67 q = Y 67 q := fun q h9 => by rw [← eX1]; exact zw_ne (by omega)
        have hz3 : X1 67 1 = v3 := by rw [← eX1]; exact zw_at _ _ _ _
        have hwZ : zWc X X1 := ⟨fun c h9 => by rw [hz1 c (by omega)]; exact hwY.1 c h9, fun c h8 h9 => by rw [hz1 c (by omega)]; exact hwY.2 c h8 h9⟩
        have hVZ : zV X1 := hwZ.1.v hV
        have hCZ : zCs X1 := hwZ.cs hV hCs
        have hcnZ : zCn X1 1 = zCn X 1 := hwZ.cn 1
        have hz65 : X1 65 = Y 65 := hz1 65 (by omega)
        have hz655 : X1 65 5 = Y 65 5 := by rw [hz65]
        refine lv_aload_n hx hb dX0_walk_84 rfl (lv_at hl 7 rfl) ?_
        refine lv_iload_n hx hb dX0_walk_85 rfl (lv_at hl 6 rfl) ?_
        refine lv_iconst (v := zi 1) hx hb dX0_walk_86 rfl ?_
        refine lv_iadd hx hb dX0_walk_87 (zti (v := zi 2) (zi_add _ _) ?_)
        refine lv_iload_n hx hb dX0_walk_88 rfl (lv_at hl 5 rfl) ?_
        refine lv_aload hx hb dX0_walk_89 (lv_at hl 3 rfl) ?_
        refine lv_iload_n hx hb dX0_walk_91 rfl (lv_at hl 6 rfl) ?_
        refine lv_iload hx hb dX0_walk_92 (lv_at hl 2 rfl) ?_
        refine zcall (wr := []) (va_runV (As := [.int (zi 1), .int (zi (j : Int))]) (rest := [.int (zi (u : Int)), .int (zi 2), .ref (ad 65)]) ⟨hx, hb, hml, hown, hts⟩ (c_X1_mask l G ad X1 1 j hCZ (by omega) (by omega) H.size) (cwV 2 hts gX0_walk_X1_mask rfl rfl rfl (by decide +kernel) ⟨Nat.le_of_ble_eq_true rfl, Nat.le_of_ble_eq_true rfl⟩) (zPreV (wr := []) (wc := zpic G ad X1) (q0 := 57) (ci := 1) (q := (RX1, TX1, 6)) hP hD hE hS hA rfl p_57) rfl rfl hl.1 rfl (lv_room (Nat.le_of_ble_eq_true rfl)) dX0_walk_94 ⟨Nat.le_of_ble_eq_true rfl, Nat.le_of_ble_eq_true rfl⟩) hP hD hS hA (fun _ _ H locs hf hP hD hS => ?_)
        obtain ⟨v5, rfl, hv5, rfl⟩ := hf
        have hP : va_P G.1 vwCl (zpic G ad X1) H := hP
        have hD : va_D A (zpic G ad X1) := hD
        refine W.eq (g2 := F0 m 97 ls [.int (zi v5), .int (zi (u : Int)), .int (zi 2), .ref (ad 65)]) rfl ?_
        rw [hwZ.ma 1 j] at hv5
        rw [hv5]
        have hau : u &&& zMa X 1 j ≤ u := Nat.and_le_left
        have hdd : 0 < d * (v4 - v3) := Int.mul_pos hd (by omega)
        have hde : d * (v4 - v3) = d * zS0 X 1 k - d * zS0 X 1 e := by rw [hsj, hsk, hej, Int.mul_sub]
        have hdk : d * zS0 X 1 k ≤ d * 256 := Int.mul_le_mul_of_nonneg_left (by omega) (by omega)
        have hpz : ∀ q : Nat, q < 2 → 0 ≤ X1 67 q ∧ X1 67 q < 1024 := fun q h9 => by by_cases e9 : q = 1; (rw [e9, hz3]; omega); (rw [hz2 q (by omega), hpy q (by omega)]; exact hpl q (by omega))
        have hcmz : zCm X1 := by unfold zCm; rw [hz65, hz1 66 (by omega)]; exact hcmY
        refine lv_iand hx hb dX0_walk_97 (zti (v := zi ((u &&& zMa X 1 j : Nat) : Int)) (zi_and _ _) ?_)
        refine lv_iload_n hx hb dX0_walk_98 rfl (lv_at hl 4 rfl) ?_
        refine lv_iload hx hb dX0_walk_99 (lv_at hl 0 rfl) ?_
        refine lv_iload hx hb dX0_walk_101 (lv_at hl 1 rfl) ?_
        refine lv_isub hx hb dX0_walk_103 (zti (v := zi (v4 - v3)) (zi_sub _ _) ?_)
        refine lv_imul hx hb dX0_walk_104 (zti (v := zi (d * (v4 - v3))) (zi_mul _ _) ?_)
        refine zcall (wr := []) (va_runS (As := [.ref (ad 65), .int (zi 2), .int (zi ((u &&& zMa X 1 j : Nat) : Int)), .int (zi (d * (v4 - v3)))]) (rest := []) ⟨hx, hb, hml, hown, hts⟩ (c_walk2 l G ad X1 (u &&& zMa X 1 j : Nat) (d * (v4 - v3)) hVZ hCZ (by omega) hdd hcmz (by omega) hpz H.size) (va_cwS 4 hts gX0_walk_X0_walk rfl rfl rfl (by decide +kernel) ⟨Nat.le_of_ble_eq_true rfl, Nat.le_of_ble_eq_true rfl⟩) (zPre (wr := []) (wc := zpic G ad X1) (As := [.ref (ad 65), .int (zi 2), .int (zi ((u &&& zMa X 1 j : Nat) : Int)), .int (zi (d * (v4 - v3)))]) hP hD hE hS hA).1 rfl rfl hl.1 rfl (lv_room (Nat.le_of_ble_eq_true rfl)) dX0_walk_105 ⟨Nat.le_of_ble_eq_true rfl, Nat.le_of_ble_eq_true rfl⟩) hP hD hS hA (fun _ _ H locs hf hP hD hS => ?_)
        obtain ⟨X2, rfl, hX2, rfl⟩ := hf
        have hP : va_P G.1 vwCl (zpic G ad X2) H := hP
        have hD : va_D A (zpic G ad X2) := hD
        refine W.eq (g2 := F0 m 108 ls []) rfl ?_
        obtain ⟨q1, q2, q3, q4, q5, q6⟩ := hX2
        rw [hz655] at q2 q3
        refine lv_iinc (v := zi ((j : Int) + 1)) (lv' := [(5, .int (zi ((j : Int) + 1))), (7, .int (zi v4)), (6, .int (zi v3)), (4, .ref (ad 57)), (3, .int (zi d)), (2, .int (zi (u : Int))), (1, .int (zi 1)), (0, .ref (ad 65))]) hx hb dX0_walk_108 hl (k := 2) rfl (zi_add _ _) (by decide) rfl (fun ls hl => ?_)
        refine lv_goto (tgt := 31) hx hb dX0_walk_111 (by decide) ?_
        exact ih (j + 1) X2 (by omega) H locs ls ⟨hP, hD, hS, lv_sub hl [0, 3, 4, 5, 6, 7] rfl, (by omega), q1, (fun c h1 h2 h3 => by rw [q4 c h1 h2 h3, hz1 c h3]; exact hyc c h1 h2 h3), (fun q h1 => by rw [q5 q (by omega), hz2 q h1]; exact hpy q h1), (by rw [q6, hz65]; exact hy6), (by omega), ⟨k, by omega, by omega, fun q h1 h2 z => hk.2.2.1 q (by omega) h2 ((hsrw q).mpr z), by rcases hk.2.2.2 with z | z; exact Or.inl (by omega); exact Or.inr ((hsrw k).mp z), by omega⟩⟩
  · refine lv_aload_n hx hb dX0_walk_14 rfl (lv_at hl 0 rfl) ?_
    refine lv_iload_n hx hb dX0_walk_15 rfl (lv_at hl 1 rfl) ?_
    refine lv_iload_n hx hb dX0_walk_16 rfl (lv_at hl 2 rfl) ?_
    refine lv_iload_n hx hb dX0_walk_17 rfl (lv_at hl 3 rfl) ?_
    refine zcall (wr := []) (va_runV (As := [.int (zi 1), .int (zi (u : Int)), .int (zi d)]) (rest := []) ⟨hx, hb, hml, hown, hts⟩ (c_X0_judge l G ad X 1 u d hV (by omega) (by omega) (by omega) hcm (by have hzm : zM 1 = 1048576 := rfl; rw [hzm]; omega) hpl H.size) (cwV 3 hts gX0_walk_X0_judge rfl rfl rfl (by decide +kernel) ⟨Nat.le_of_ble_eq_true rfl, Nat.le_of_ble_eq_true rfl⟩) (zPreV (wr := []) (wc := zpic G ad X) (q0 := 65) (ci := 0) (q := (RX0, TX0, 7)) hP hD hE hS hA rfl p_65) rfl rfl hl.1 rfl (lv_room (Nat.le_of_ble_eq_true rfl)) dX0_walk_18 ⟨Nat.le_of_ble_eq_true rfl, Nat.le_of_ble_eq_true rfl⟩) hP hD hS hA (fun _ _ H locs hf hP hD hS => ?_)
    obtain ⟨X1, rfl, hX1, rfl⟩ := hf
    have hP : va_P G.1 vwCl (zpic G ad X1) H := hP
    have hD : va_D A (zpic G ad X1) := hD
    refine W.eq (g2 := F0 m 21 ls []) rfl ?_
    exact zend_v hx hb hr hlocks hP hD hS (Nat.le_of_ble_eq_true rfl) (Nat.le_of_ble_eq_true rfl) dX0_walk_21 ⟨_, rfl, (by obtain ⟨q1, q2, q3, q4, q5, q6⟩ := hX1; exact ⟨q1, q2, by have hzm : zM 1 = 1048576 := rfl; rw [hzm] at q3; exact q3, q4, fun q hq => q5 q (by omega), q6⟩), rfl⟩

set_option maxHeartbeats 4000000 in
set_option maxRecDepth 100000 in
/-- walk at the FIELD 0 -/
theorem c_walk0 (l : Launch) (G : zG) (ad : Nat → Nat) (X : Nat → Nat → Int) (u : Nat) (d : Int) (hV : zV X) (hCs : zCs X) (hu : u < 65536) (hd : 0 < d) (hcm : zCm X) (ham : 0 ≤ X 65 5 ∧ X 65 5 + d * 268435456 ≤ 268435456) (hpl : ∀ q : Nat, q < 0 → 0 ≤ X 67 q ∧ X 67 q < 1024) : zR l G yX0_walk wsX0_walk { frames := 7, cells := 0, slots := 0, locals := 176 } (zpic G ad X) [.ref (ad 65), .int (zi 0), .int (zi (u : Int)), .int (zi d)] (zv G ad (fun Y => zJd X Y 0 (d * 268435456))) 0 0 := by
  refine zR_of (cc := cX0_walk) (maxL := 8) (rt := none) (by decide) rfl (Nat.le_of_ble_eq_true rfl) ?_
  intro p e s m below meth c A ls hx hb hml hr hts hown hlocks hin0 hA hE hP hD hS hl
  have hl : lv_has ls 8 [(0, .ref (ad 65)), (1, .int (zi 0)), (2, .int (zi (u : Int))), (3, .int (zi d))] := hl
  have hown : s.vm.findClass RX0 = some m.cls := hown
  have hw0 : ∀ w ∈ u_ws RX0 TX0 7, w ∈ wsX0_walk := by decide +kernel
  have hf25 := hts (.fieldLink RX0 25 "Nettle$Comparison" "cuts" "LNettle$Cuts;") (by decide +kernel)
  have hw1 : ∀ w ∈ u_ws RX1 TX1 6, w ∈ wsX0_walk := by decide +kernel
  have hf55 := hts (.fieldLink RX0 55 "Nettle$Cuts" "counts" "[I") (by decide +kernel)
  have hf15 := hts (.fieldLink RX0 15 "Nettle$Comparison" "place" "[I") (by decide +kernel)
  refine lv_iload_n hx hb dX0_walk_0 rfl (lv_at hl 1 rfl) ?_
  refine lv_iconst (v := zi 4) hx hb dX0_walk_1 rfl ?_
  refine zc_ge (tgt := 14) hx hb dX0_walk_2 (by decide) (by decide) (by decide) (fun h9 => absurd h9 (by decide)) (fun h2 => ?_)
  refine lv_aload_n hx hb dX0_walk_5 rfl (lv_at hl 0 rfl) ?_
  refine lv_iload_n hx hb dX0_walk_6 rfl (lv_at hl 1 rfl) ?_
  refine lv_iload_n hx hb dX0_walk_7 rfl (lv_at hl 2 rfl) ?_
  refine zcall (wr := []) (va_runV (As := [.int (zi 0), .int (zi (u : Int))]) (rest := []) ⟨hx, hb, hml, hown, hts⟩ (c_X0_isSettled l G ad X 0 u hV (by omega) (by omega) s.heap.size) (cwV 2 hts gX0_walk_X0_isSettled rfl rfl rfl (by decide +kernel) ⟨Nat.le_of_ble_eq_true rfl, Nat.le_of_ble_eq_true rfl⟩) (zPreV (wr := []) (wc := zpic G ad X) (q0 := 65) (ci := 0) (q := (RX0, TX0, 7)) hP hD hE hS hA rfl p_65) rfl rfl hl.1 rfl (lv_room (Nat.le_of_ble_eq_true rfl)) dX0_walk_8 ⟨Nat.le_of_ble_eq_true rfl, Nat.le_of_ble_eq_true rfl⟩) hP hD hS hA (fun _ _ H locs hf hP hD hS => ?_)
  obtain ⟨v1, rfl, hv1, rfl⟩ := hf
  have hP : va_P G.1 vwCl (zpic G ad X) H := hP
  have hD : va_D A (zpic G ad X) := hD
  refine W.eq (g2 := F0 m 11 ls [.int (zi v1)]) rfl ?_
  refine z0_eq (tgt := 22) hx hb dX0_walk_11 (by decide) (by omega) (fun h11 => ?_) (fun h11 => ?_)
  · have hcn := hCs.n (show 0 < 4 by omega)
    have hss : d * zS0 X 0 0 = 0 := by rw [hCs.s0 (by omega), Int.mul_zero]
    refine lv_aload_n hx hb dX0_walk_22 rfl (lv_at hl 0 rfl) ?_
    refine va_get (D := G.1) (ci := 0) (v := .ref (ad 57)) (C := RX0) (T := TX0) (N := 7) hx hb hts hw0 hown hE.1 hP 65 p_65 rfl 2 (by decide) hf25 (fun _ h9 => h9) rfl dX0_walk_23 ?_
    refine lv_astore (lv' := [(4, .ref (ad 57)), (0, .ref (ad 65)), (1, .int (zi 0)), (2, .int (zi (u : Int))), (3, .int (zi d))]) hx hb dX0_walk_26 hl (by decide) rfl (fun ls hl => ?_)
    refine lv_iconst (v := zi 0) hx hb dX0_walk_28 rfl ?_
    refine lv_istore (lv' := [(5, .int (zi 0)), (4, .ref (ad 57)), (0, .ref (ad 65)), (1, .int (zi 0)), (2, .int (zi (u : Int))), (3, .int (zi d))]) hx hb dX0_walk_29 hl (by decide) rfl (fun ls hl => ?_)
    refine zloop2 (fun (j : Nat) (Y : Nat → Nat → Int) => 33 - j) (fun (j : Nat) (Y : Nat → Nat → Int) (H : Heap) (locs : List Loc) (ls : Array Slot) => va_P G.1 vwCl (zpic G ad Y) H ∧ va_D A (zpic G ad Y) ∧ va_S A s.heap H locs ∧ lv_has ls 8 [(5, .int (zi (j : Int))), (4, .ref (ad 57)), (3, .int (zi d)), (2, .int (zi (u : Int))), (1, .int (zi 0)), (0, .ref (ad 65))] ∧ (j ≤ zCn X 0) ∧ (zCm Y) ∧ (∀ c : Nat, c ≠ 65 → c ≠ 66 → c ≠ 67 → Y c = X c) ∧ (∀ q : Nat, q < 0 → Y 67 q = X 67 q) ∧ (Y 65 6 = X 65 6) ∧ (X 65 5 ≤ Y 65 5) ∧ (∃ e : Nat, j ≤ e ∧ e ≤ zCn X 0 ∧ (∀ q : Nat, j ≤ q → q < e → ¬ zSR X 0 q u) ∧ (e = zCn X 0 ∨ zSR X 0 e u) ∧ Y 65 5 ≤ X 65 5 + d * zS0 X 0 e * 1048576)) ?_ 0 X ⟨hP, hD, hS, lv_sub hl [0, 1, 5, 4, 3, 2] rfl, (by omega), hcm, (fun c h1 h2 h3 => rfl), (fun q h1 => rfl), rfl, (Int.le_refl _), ⟨0, Nat.le_refl _, Nat.zero_le _, fun q h1 h2 => by omega, Or.inr (Or.inl rfl), by omega⟩⟩
    intro j Y ih H locs ls ⟨hP, hD, hS, hl, hj, hcmY, hyc, hpy, hy6, hya, hev⟩
    obtain ⟨e, hje, hen, hns, hee, hae⟩ := hev
    have hwY : zWc X Y := ⟨fun c h9 => hyc c (by omega) (by omega) (by omega), fun c h8 h9 => hyc c (by omega) (by omega) (by omega)⟩
    have hVY : zV Y := hwY.1.v hV
    have hCY : zCs Y := hwY.cs hV hCs
    have hcnY : zCn Y 0 = zCn X 0 := hwY.cn 0
    have hcY := hCY.n (show 0 < 4 by omega)
    refine lv_iload hx hb dX0_walk_31 (lv_at hl 0 rfl) ?_
    refine lv_aload hx hb dX0_walk_33 (lv_at hl 1 rfl) ?_
    refine va_get (D := G.1) (ci := 1) (v := .ref (ad 58)) (C := RX1) (T := TX1) (N := 6) hx hb hts hw1 hown hE.1 hP 57 p_57 rfl 2 (by decide) hf55 (fun _ h9 => h9) rfl dX0_walk_35 ?_
    refine lv_iload_n hx hb dX0_walk_38 rfl (lv_at hl 4 rfl) ?_
    refine zild hx hb hE hP 58 4 (fun _ => rfl) (by decide) 0 rfl (by decide) (by decide) dX0_walk_39 ?_
    refine zc_ge (tgt := 114) hx hb dX0_walk_40 (by decide) (by omega) (by omega) (fun h40 => ?_) (fun h40 => ?_)
    · exact zend_v hx hb hr hlocks hP hD hS (Nat.le_of_ble_eq_true rfl) (Nat.le_of_ble_eq_true rfl) dX0_walk_114 ⟨_, rfl, (by have hen2 : e = zCn X 0 := (by omega); rw [hen2, zCs.sn] at hae; have hzs : zS 0 = 256 := rfl; rw [hzs] at hae; exact ⟨hcmY, hya, by omega, hyc, hpy, hy6⟩), rfl⟩
    · refine lv_aload hx hb dX0_walk_43 (lv_at hl 1 rfl) ?_
      refine lv_iload_n hx hb dX0_walk_45 rfl (lv_at hl 4 rfl) ?_
      refine lv_iload hx hb dX0_walk_46 (lv_at hl 0 rfl) ?_
      refine lv_iload_n hx hb dX0_walk_48 rfl (lv_at hl 3 rfl) ?_
      refine zcall (wr := []) (va_runV (As := [.int (zi 0), .int (zi (j : Int)), .int (zi (u : Int))]) (rest := []) ⟨hx, hb, hml, hown, hts⟩ (c_X1_startsRun l G ad Y 0 j u hVY hCY (by omega) (by omega) (by omega) H.size) (cwV 3 hts gX0_walk_X1_startsRun rfl rfl rfl (by decide +kernel) ⟨Nat.le_of_ble_eq_true rfl, Nat.le_of_ble_eq_true rfl⟩) (zPreV (wr := []) (wc := zpic G ad Y) (q0 := 57) (ci := 1) (q := (RX1, TX1, 6)) hP hD hE hS hA rfl p_57) rfl rfl hl.1 rfl (lv_room (Nat.le_of_ble_eq_true rfl)) dX0_walk_49 ⟨Nat.le_of_ble_eq_true rfl, Nat.le_of_ble_eq_true rfl⟩) hP hD hS hA (fun _ _ H locs hf hP hD hS => ?_)
      obtain ⟨v2, rfl, hv2, rfl⟩ := hf
      have hP : va_P G.1 vwCl (zpic G ad Y) H := hP
      have hD : va_D A (zpic G ad Y) := hD
      refine W.eq (g2 := F0 m 52 ls [.int (zi v2)]) rfl ?_
      have hsrw : ∀ q : Nat, zSR Y 0 q u ↔ zSR X 0 q u := fun q => by unfold zSR; rw [hwY.ma, hwY.ma]
      refine z0_eq (tgt := 108) hx hb dX0_walk_52 (by decide) (by omega) (fun h52 => ?_) (fun h52 => ?_)
      · refine lv_iinc (v := zi ((j : Int) + 1)) (lv' := [(5, .int (zi ((j : Int) + 1))), (4, .ref (ad 57)), (3, .int (zi d)), (2, .int (zi (u : Int))), (1, .int (zi 0)), (0, .ref (ad 65))]) hx hb dX0_walk_108 hl (k := 0) rfl (zi_add _ _) (by decide) rfl (fun ls hl => ?_)
        refine lv_goto (tgt := 31) hx hb dX0_walk_111 (by decide) ?_
        exact ih (j + 1) Y (by omega) H locs ls ⟨hP, hD, hS, lv_sub hl [0, 1, 2, 3, 4, 5] rfl, (by omega), hcmY, hyc, hpy, hy6, hya, (by have hns1 : ¬ zSR X 0 j u := (fun z => by rcases hv2 with h | h; omega; exact h.2 ((hsrw j).mpr z)); refine ⟨e, ?_, hen, fun q h1 h2 => hns q (by omega) h2, hee, hae⟩; by_cases e9 : j = e; (rw [← e9] at hee; rcases hee with z | z; omega; exact absurd z hns1); omega)⟩
      · have hsr : zSR X 0 j u := by rcases hv2 with h | h; exact (hsrw j).mp h.2; omega
        have hej : e = j := by by_cases e9 : e = j; exact e9; exact absurd hsr (hns j (by omega) (by omega))
        have hs0 := (hCs.seg (show 0 < 4 by omega) (show j < zCn X 0 by omega)).1
        refine lv_aload hx hb dX0_walk_55 (lv_at hl 1 rfl) ?_
        refine lv_iload_n hx hb dX0_walk_57 rfl (lv_at hl 4 rfl) ?_
        refine lv_iload hx hb dX0_walk_58 (lv_at hl 0 rfl) ?_
        refine zcall (wr := []) (va_runV (As := [.int (zi 0), .int (zi (j : Int))]) (rest := []) ⟨hx, hb, hml, hown, hts⟩ (c_X1_start l G ad Y 0 j hCY (by omega) (by omega) H.size) (cwV 2 hts gX0_walk_X1_start rfl rfl rfl (by decide +kernel) ⟨Nat.le_of_ble_eq_true rfl, Nat.le_of_ble_eq_true rfl⟩) (zPreV (wr := []) (wc := zpic G ad Y) (q0 := 57) (ci := 1) (q := (RX1, TX1, 6)) hP hD hE hS hA rfl p_57) rfl rfl hl.1 rfl (lv_room (Nat.le_of_ble_eq_true rfl)) dX0_walk_60 ⟨Nat.le_of_ble_eq_true rfl, Nat.le_of_ble_eq_true rfl⟩) hP hD hS hA (fun _ _ H locs hf hP hD hS => ?_)
        obtain ⟨v3, rfl, hv3, rfl⟩ := hf
        have hP : va_P G.1 vwCl (zpic G ad Y) H := hP
        have hD : va_D A (zpic G ad Y) := hD
        refine W.eq (g2 := F0 m 63 ls [.int (zi v3)]) rfl ?_
        have hsj : v3 = zS0 X 0 j := by rw [hv3, hwY.s0]
        refine lv_istore (lv' := [(6, .int (zi v3)), (5, .int (zi (j : Int))), (4, .ref (ad 57)), (3, .int (zi d)), (2, .int (zi (u : Int))), (1, .int (zi 0)), (0, .ref (ad 65))]) hx hb dX0_walk_63 hl (by decide) rfl (fun ls hl => ?_)
        refine lv_aload hx hb dX0_walk_65 (lv_at hl 2 rfl) ?_
        refine lv_iload_n hx hb dX0_walk_67 rfl (lv_at hl 5 rfl) ?_
        refine lv_iload hx hb dX0_walk_68 (lv_at hl 1 rfl) ?_
        refine lv_iload_n hx hb dX0_walk_70 rfl (lv_at hl 4 rfl) ?_
        refine zcall (wr := []) (va_runV (As := [.int (zi 0), .int (zi (j : Int)), .int (zi (u : Int))]) (rest := []) ⟨hx, hb, hml, hown, hts⟩ (c_X1_runEnd l G ad Y 0 j u hVY hCY (by omega) (by omega) (by omega) H.size) (cwV 3 hts gX0_walk_X1_runEnd rfl rfl rfl (by decide +kernel) ⟨Nat.le_of_ble_eq_true rfl, Nat.le_of_ble_eq_true rfl⟩) (zPreV (wr := []) (wc := zpic G ad Y) (q0 := 57) (ci := 1) (q := (RX1, TX1, 6)) hP hD hE hS hA rfl p_57) rfl rfl hl.1 rfl (lv_room (Nat.le_of_ble_eq_true rfl)) dX0_walk_71 ⟨Nat.le_of_ble_eq_true rfl, Nat.le_of_ble_eq_true rfl⟩) hP hD hS hA (fun _ _ H locs hf hP hD hS => ?_)
        obtain ⟨v4, rfl, hv4, rfl⟩ := hf
        have hP : va_P G.1 vwCl (zpic G ad Y) H := hP
        have hD : va_D A (zpic G ad Y) := hD
        refine W.eq (g2 := F0 m 74 ls [.int (zi v4)]) rfl ?_
        obtain ⟨k, hk, hkw⟩ := hv4
        have hsk : v4 = zS0 X 0 k := by rw [hkw, hwY.s0]
        have hk1 := hk.1
        have hk2 := hk.2.1
        have hm1 := hCs.mono (show 0 < 4 by omega) (j + 1) k (by omega) (by omega)
        have hm2 := hCs.mono (show 0 < 4 by omega) k (zCn X 0) (by omega) (Nat.le_refl _)
        have hm3 := hCs.seg (show 0 < 4 by omega) (show j < zCn X 0 by omega)
        rw [zCs.sn] at hm2
        have hzs : zS 0 = 256 := rfl
        refine lv_istore (lv' := [(7, .int (zi v4)), (6, .int (zi v3)), (5, .int (zi (j : Int))), (4, .ref (ad 57)), (3, .int (zi d)), (2, .int (zi (u : Int))), (1, .int (zi 0)), (0, .ref (ad 65))]) hx hb dX0_walk_74 hl (by decide) rfl (fun ls hl => ?_)
        refine lv_aload_n hx hb dX0_walk_76 rfl (lv_at hl 7 rfl) ?_
        refine va_get (D := G.1) (ci := 0) (v := .ref (ad 67)) (C := RX0) (T := TX0) (N := 7) hx hb hts hw0 hown hE.1 hP 65 p_65 rfl 4 (by decide) hf15 (fun _ h9 => h9) rfl dX0_walk_77 ?_
        refine lv_iload_n hx hb dX0_walk_80 rfl (lv_at hl 6 rfl) ?_
        refine lv_iload hx hb dX0_walk_81 (lv_at hl 1 rfl) ?_
        refine zist hx hb hE hP hD hS 67 4 (fun _ => rfl) (by decide) 0 rfl (by decide) (by decide) dX0_walk_83 (fun H locs hP hD hS => ?_)
        generalize eX1 : (zw Y 67 0 v3) = X1 at hP hD
        have hz1 : ∀ c : Nat, c ≠ 67 → X1 c = Y c := fun c h9 => by rw [← eX1]; exact zw_cell h9
        have hz2 : ∀ q : Nat, q < 0 → X1 67 q = Y 67 q := fun q h9 => by rw [← eX1]; exact zw_ne (by omega)
        have hz3 : X1 67 0 = v3 := by rw [← eX1]; exact zw_at _ _ _ _
        have hwZ : zWc X X1 := ⟨fun c h9 => by rw [hz1 c (by omega)]; exact hwY.1 c h9, fun c h8 h9 => by rw [hz1 c (by omega)]; exact hwY.2 c h8 h9⟩
        have hVZ : zV X1 := hwZ.1.v hV
        have hCZ : zCs X1 := hwZ.cs hV hCs
        have hcnZ : zCn X1 0 = zCn X 0 := hwZ.cn 0
        have hz65 : X1 65 = Y 65 := hz1 65 (by omega)
        have hz655 : X1 65 5 = Y 65 5 := by rw [hz65]
        refine lv_aload_n hx hb dX0_walk_84 rfl (lv_at hl 7 rfl) ?_
        refine lv_iload_n hx hb dX0_walk_85 rfl (lv_at hl 6 rfl) ?_
        refine lv_iconst (v := zi 1) hx hb dX0_walk_86 rfl ?_
        refine lv_iadd hx hb dX0_walk_87 (zti (v := zi 1) (zi_add _ _) ?_)
        refine lv_iload_n hx hb dX0_walk_88 rfl (lv_at hl 5 rfl) ?_
        refine lv_aload hx hb dX0_walk_89 (lv_at hl 3 rfl) ?_
        refine lv_iload_n hx hb dX0_walk_91 rfl (lv_at hl 6 rfl) ?_
        refine lv_iload hx hb dX0_walk_92 (lv_at hl 2 rfl) ?_
        refine zcall (wr := []) (va_runV (As := [.int (zi 0), .int (zi (j : Int))]) (rest := [.int (zi (u : Int)), .int (zi 1), .ref (ad 65)]) ⟨hx, hb, hml, hown, hts⟩ (c_X1_mask l G ad X1 0 j hCZ (by omega) (by omega) H.size) (cwV 2 hts gX0_walk_X1_mask rfl rfl rfl (by decide +kernel) ⟨Nat.le_of_ble_eq_true rfl, Nat.le_of_ble_eq_true rfl⟩) (zPreV (wr := []) (wc := zpic G ad X1) (q0 := 57) (ci := 1) (q := (RX1, TX1, 6)) hP hD hE hS hA rfl p_57) rfl rfl hl.1 rfl (lv_room (Nat.le_of_ble_eq_true rfl)) dX0_walk_94 ⟨Nat.le_of_ble_eq_true rfl, Nat.le_of_ble_eq_true rfl⟩) hP hD hS hA (fun _ _ H locs hf hP hD hS => ?_)
        obtain ⟨v5, rfl, hv5, rfl⟩ := hf
        have hP : va_P G.1 vwCl (zpic G ad X1) H := hP
        have hD : va_D A (zpic G ad X1) := hD
        refine W.eq (g2 := F0 m 97 ls [.int (zi v5), .int (zi (u : Int)), .int (zi 1), .ref (ad 65)]) rfl ?_
        rw [hwZ.ma 0 j] at hv5
        rw [hv5]
        have hau : u &&& zMa X 0 j ≤ u := Nat.and_le_left
        have hdd : 0 < d * (v4 - v3) := Int.mul_pos hd (by omega)
        have hde : d * (v4 - v3) = d * zS0 X 0 k - d * zS0 X 0 e := by rw [hsj, hsk, hej, Int.mul_sub]
        have hdk : d * zS0 X 0 k ≤ d * 256 := Int.mul_le_mul_of_nonneg_left (by omega) (by omega)
        have hpz : ∀ q : Nat, q < 1 → 0 ≤ X1 67 q ∧ X1 67 q < 1024 := fun q h9 => by by_cases e9 : q = 0; (rw [e9, hz3]; omega); (rw [hz2 q (by omega), hpy q (by omega)]; exact hpl q (by omega))
        have hcmz : zCm X1 := by unfold zCm; rw [hz65, hz1 66 (by omega)]; exact hcmY
        refine lv_iand hx hb dX0_walk_97 (zti (v := zi ((u &&& zMa X 0 j : Nat) : Int)) (zi_and _ _) ?_)
        refine lv_iload_n hx hb dX0_walk_98 rfl (lv_at hl 4 rfl) ?_
        refine lv_iload hx hb dX0_walk_99 (lv_at hl 0 rfl) ?_
        refine lv_iload hx hb dX0_walk_101 (lv_at hl 1 rfl) ?_
        refine lv_isub hx hb dX0_walk_103 (zti (v := zi (v4 - v3)) (zi_sub _ _) ?_)
        refine lv_imul hx hb dX0_walk_104 (zti (v := zi (d * (v4 - v3))) (zi_mul _ _) ?_)
        refine zcall (wr := []) (va_runS (As := [.ref (ad 65), .int (zi 1), .int (zi ((u &&& zMa X 0 j : Nat) : Int)), .int (zi (d * (v4 - v3)))]) (rest := []) ⟨hx, hb, hml, hown, hts⟩ (c_walk1 l G ad X1 (u &&& zMa X 0 j : Nat) (d * (v4 - v3)) hVZ hCZ (by omega) hdd hcmz (by omega) hpz H.size) (va_cwS 4 hts gX0_walk_X0_walk rfl rfl rfl (by decide +kernel) ⟨Nat.le_of_ble_eq_true rfl, Nat.le_of_ble_eq_true rfl⟩) (zPre (wr := []) (wc := zpic G ad X1) (As := [.ref (ad 65), .int (zi 1), .int (zi ((u &&& zMa X 0 j : Nat) : Int)), .int (zi (d * (v4 - v3)))]) hP hD hE hS hA).1 rfl rfl hl.1 rfl (lv_room (Nat.le_of_ble_eq_true rfl)) dX0_walk_105 ⟨Nat.le_of_ble_eq_true rfl, Nat.le_of_ble_eq_true rfl⟩) hP hD hS hA (fun _ _ H locs hf hP hD hS => ?_)
        obtain ⟨X2, rfl, hX2, rfl⟩ := hf
        have hP : va_P G.1 vwCl (zpic G ad X2) H := hP
        have hD : va_D A (zpic G ad X2) := hD
        refine W.eq (g2 := F0 m 108 ls []) rfl ?_
        obtain ⟨q1, q2, q3, q4, q5, q6⟩ := hX2
        rw [hz655] at q2 q3
        refine lv_iinc (v := zi ((j : Int) + 1)) (lv' := [(5, .int (zi ((j : Int) + 1))), (7, .int (zi v4)), (6, .int (zi v3)), (4, .ref (ad 57)), (3, .int (zi d)), (2, .int (zi (u : Int))), (1, .int (zi 0)), (0, .ref (ad 65))]) hx hb dX0_walk_108 hl (k := 2) rfl (zi_add _ _) (by decide) rfl (fun ls hl => ?_)
        refine lv_goto (tgt := 31) hx hb dX0_walk_111 (by decide) ?_
        exact ih (j + 1) X2 (by omega) H locs ls ⟨hP, hD, hS, lv_sub hl [0, 3, 4, 5, 6, 7] rfl, (by omega), q1, (fun c h1 h2 h3 => by rw [q4 c h1 h2 h3, hz1 c h3]; exact hyc c h1 h2 h3), (fun q h1 => by rw [q5 q (by omega), hz2 q h1]; exact hpy q h1), (by rw [q6, hz65]; exact hy6), (by omega), ⟨k, by omega, by omega, fun q h1 h2 z => hk.2.2.1 q (by omega) h2 ((hsrw q).mpr z), by rcases hk.2.2.2 with z | z; exact Or.inl (by omega); exact Or.inr ((hsrw k).mp z), by omega⟩⟩
  · refine lv_aload_n hx hb dX0_walk_14 rfl (lv_at hl 0 rfl) ?_
    refine lv_iload_n hx hb dX0_walk_15 rfl (lv_at hl 1 rfl) ?_
    refine lv_iload_n hx hb dX0_walk_16 rfl (lv_at hl 2 rfl) ?_
    refine lv_iload_n hx hb dX0_walk_17 rfl (lv_at hl 3 rfl) ?_
    refine zcall (wr := []) (va_runV (As := [.int (zi 0), .int (zi (u : Int)), .int (zi d)]) (rest := []) ⟨hx, hb, hml, hown, hts⟩ (c_X0_judge l G ad X 0 u d hV (by omega) (by omega) (by omega) hcm (by have hzm : zM 0 = 268435456 := rfl; rw [hzm]; omega) hpl H.size) (cwV 3 hts gX0_walk_X0_judge rfl rfl rfl (by decide +kernel) ⟨Nat.le_of_ble_eq_true rfl, Nat.le_of_ble_eq_true rfl⟩) (zPreV (wr := []) (wc := zpic G ad X) (q0 := 65) (ci := 0) (q := (RX0, TX0, 7)) hP hD hE hS hA rfl p_65) rfl rfl hl.1 rfl (lv_room (Nat.le_of_ble_eq_true rfl)) dX0_walk_18 ⟨Nat.le_of_ble_eq_true rfl, Nat.le_of_ble_eq_true rfl⟩) hP hD hS hA (fun _ _ H locs hf hP hD hS => ?_)
    obtain ⟨X1, rfl, hX1, rfl⟩ := hf
    have hP : va_P G.1 vwCl (zpic G ad X1) H := hP
    have hD : va_D A (zpic G ad X1) := hD
    refine W.eq (g2 := F0 m 21 ls []) rfl ?_
    exact zend_v hx hb hr hlocks hP hD hS (Nat.le_of_ble_eq_true rfl) (Nat.le_of_ble_eq_true rfl) dX0_walk_21 ⟨_, rfl, (by obtain ⟨q1, q2, q3, q4, q5, q6⟩ := hX1; exact ⟨q1, q2, by have hzm : zM 0 = 268435456 := rfl; rw [hzm] at q3; exact q3, q4, fun q hq => q5 q (by omega), q6⟩), rfl⟩

/-- the comparison is made, nothing else changed -/
def zMd (X Y : Nat → Nat → Int) : Prop := (X 65 6 = 1 → Y = X) ∧ (∀ c : Nat, c ≠ 65 → c ≠ 66 → c ≠ 67 → Y c = X c) ∧ Y 65 6 = 1 ∧ zCm Y
theorem zMd_of {X Y : Nat → Nat → Int} (h0 : X 65 6 = 0) {M : Nat → Nat → Int} (hM : ∀ c : Nat, c ≠ 65 → c ≠ 66 → M c = X c) {g : Nat} {d : Int} (h : zJd M Y g d) : zMd X (zw Y 65 6 1) := by
  obtain ⟨a, b, c, d, e, f⟩ := h
  refine ⟨fun q => by omega, fun c h1 h2 h3 => by rw [zw_cell h1, d c h1 h2 h3]; exact hM c h1 h2, zw_at _ _ _ _, ?_⟩
  unfold zCm
  rw [zw_ne (show (5 : Nat) ≠ 6 by decide), zw_cell (show (66 : Nat) ≠ 65 by decide)]
  exact a

set_option maxHeartbeats 4000000 in
set_option maxRecDepth 100000 in
/-- refresh -/
theorem c_X0_refresh (l : Launch) (G : zG) (ad : Nat → Nat) (X : Nat → Nat → Int) (hV : zV X) (hCs : zCs X) (hKm : X 65 6 = 0 ∨ (X 65 6 = 1 ∧ zCm X)) : zR l G yX0_refresh wsX0_refresh { frames := 8, cells := 0, slots := 0, locals := 203 } (zpic G ad X) [.ref (ad 65)] (zv G ad (fun Y => zMd X Y)) 0 0 := by
  refine zR_of (cc := cX0_refresh) (maxL := 2) (rt := none) (by decide) rfl (Nat.le_of_ble_eq_true rfl) ?_
  intro p e s m below meth c A ls hx hb hml hr hts hown hlocks hin0 hA hE hP hD hS hl
  have hl : lv_has ls 2 [(0, .ref (ad 65))] := hl
  have hown : s.vm.findClass RX0 = some m.cls := hown
  have hm01 : X 65 6 = 0 ∨ X 65 6 = 1 := hKm.elim Or.inl (fun q => Or.inr q.1)
  have hw0 : ∀ w ∈ u_ws RX0 TX0 7, w ∈ wsX0_refresh := by decide +kernel
  have hf29 := hts (.fieldLink RX0 29 "Nettle$Comparison" "isFresh" "Z") (by decide +kernel)
  have hf33 := hts (.fieldLink RX0 33 "Nettle$Comparison" "amount" "I") (by decide +kernel)
  have hf9 := hts (.fieldLink RX0 9 "Nettle$Comparison" "first" "[I") (by decide +kernel)
  have hf18 := hts (.fieldLink RX0 18 "Nettle$Comparison" "now" "LNettle$Wall;") (by decide +kernel)
  have hf22 := hts (.fieldLink RX0 22 "Nettle$Comparison" "old" "LNettle$Wall;") (by decide +kernel)
  refine lv_aload_n hx hb dX0_refresh_0 rfl (lv_at hl 0 rfl) ?_
  refine va_get (D := G.1) (ci := 0) (v := .int (zi (X 65 6))) (C := RX0) (T := TX0) (N := 7) hx hb hts hw0 hown hE.1 hP 65 p_65 rfl 6 (by decide) hf29 (fun _ h9 => h9) rfl dX0_refresh_1 ?_
  refine z0_eq (tgt := 8) hx hb dX0_refresh_4 (by decide) (by omega) (fun h4 => ?_) (fun h4 => ?_)
  · refine lv_aload_n hx hb dX0_refresh_8 rfl (lv_at hl 0 rfl) ?_
    refine lv_iconst (v := zi 0) hx hb dX0_refresh_9 rfl ?_
    refine zput (C := RX0) (T := TX0) (N := 7) (ci := 0) (v := .int (zi 0)) (ty := tyX0 5) hx hb hts hw0 tyX0 tyX0_ok nmX0 hown hE hP hD hS 65 p_65 rfl 5 (by decide) hf33 (fun _ h9 => h9) rfl (by decide +kernel) rfl rfl (Nat.le_of_ble_eq_true rfl) (s_655 0) dX0_refresh_10 (fun H locs hP hD hS => ?_)
    refine lv_iconst (v := zi 0) hx hb dX0_refresh_13 rfl ?_
    refine lv_istore_n (lv' := [(1, .int (zi 0)), (0, .ref (ad 65))]) hx hb dX0_refresh_14 rfl hl (by decide) rfl (fun ls hl => ?_)
    refine lv_iload_n hx hb dX0_refresh_15 rfl (lv_at hl 0 rfl) ?_
    refine lv_iconst (v := zi 4) hx hb dX0_refresh_16 rfl ?_
    refine zc_ge (tgt := 33) hx hb dX0_refresh_17 (by decide) (by decide) (by decide) (fun h9 => absurd h9 (by decide)) (fun h17 => ?_)
    refine lv_aload_n hx hb dX0_refresh_20 rfl (lv_at hl 1 rfl) ?_
    refine va_get (D := G.1) (ci := 0) (v := .ref (ad 66)) (C := RX0) (T := TX0) (N := 7) hx hb hts hw0 hown hE.1 hP 65 p_65 rfl 3 (by decide) hf9 (fun _ h9 => h9) rfl dX0_refresh_21 ?_
    refine lv_iload_n hx hb dX0_refresh_24 rfl (lv_at hl 0 rfl) ?_
    refine lv_iconst (v := zi (-1)) hx hb dX0_refresh_25 rfl ?_
    refine zist hx hb hE hP hD hS 66 4 (fun _ => rfl) (by decide) 0 rfl (by decide) (by decide) dX0_refresh_26 (fun H locs hP hD hS => ?_)
    refine lv_iinc (v := zi 1) (lv' := [(1, .int (zi 1)), (0, .ref (ad 65))]) hx hb dX0_refresh_27 hl (k := 0) rfl (zi_add _ _) (by decide) rfl (fun ls hl => ?_)
    refine lv_goto (tgt := 15) hx hb dX0_refresh_30 (by decide) ?_
    refine lv_iload_n hx hb dX0_refresh_15 rfl (lv_at hl 0 rfl) ?_
    refine lv_iconst (v := zi 4) hx hb dX0_refresh_16 rfl ?_
    refine zc_ge (tgt := 33) hx hb dX0_refresh_17 (by decide) (by decide) (by decide) (fun h9 => absurd h9 (by decide)) (fun h17 => ?_)
    refine lv_aload_n hx hb dX0_refresh_20 rfl (lv_at hl 1 rfl) ?_
    refine va_get (D := G.1) (ci := 0) (v := .ref (ad 66)) (C := RX0) (T := TX0) (N := 7) hx hb hts hw0 hown hE.1 hP 65 p_65 rfl 3 (by decide) hf9 (fun _ h9 => h9) rfl dX0_refresh_21 ?_
    refine lv_iload_n hx hb dX0_refresh_24 rfl (lv_at hl 0 rfl) ?_
    refine lv_iconst (v := zi (-1)) hx hb dX0_refresh_25 rfl ?_
    refine zist hx hb hE hP hD hS 66 4 (fun _ => rfl) (by decide) 1 rfl (by decide) (by decide) dX0_refresh_26 (fun H locs hP hD hS => ?_)
    refine lv_iinc (v := zi 2) (lv' := [(1, .int (zi 2)), (0, .ref (ad 65))]) hx hb dX0_refresh_27 hl (k := 0) rfl (zi_add _ _) (by decide) rfl (fun ls hl => ?_)
    refine lv_goto (tgt := 15) hx hb dX0_refresh_30 (by decide) ?_
    refine lv_iload_n hx hb dX0_refresh_15 rfl (lv_at hl 0 rfl) ?_
    refine lv_iconst (v := zi 4) hx hb dX0_refresh_16 rfl ?_
    refine zc_ge (tgt := 33) hx hb dX0_refresh_17 (by decide) (by decide) (by decide) (fun h9 => absurd h9 (by decide)) (fun h17 => ?_)
    refine lv_aload_n hx hb dX0_refresh_20 rfl (lv_at hl 1 rfl) ?_
    refine va_get (D := G.1) (ci := 0) (v := .ref (ad 66)) (C := RX0) (T := TX0) (N := 7) hx hb hts hw0 hown hE.1 hP 65 p_65 rfl 3 (by decide) hf9 (fun _ h9 => h9) rfl dX0_refresh_21 ?_
    refine lv_iload_n hx hb dX0_refresh_24 rfl (lv_at hl 0 rfl) ?_
    refine lv_iconst (v := zi (-1)) hx hb dX0_refresh_25 rfl ?_
    refine zist hx hb hE hP hD hS 66 4 (fun _ => rfl) (by decide) 2 rfl (by decide) (by decide) dX0_refresh_26 (fun H locs hP hD hS => ?_)
    refine lv_iinc (v := zi 3) (lv' := [(1, .int (zi 3)), (0, .ref (ad 65))]) hx hb dX0_refresh_27 hl (k := 0) rfl (zi_add _ _) (by decide) rfl (fun ls hl => ?_)
    refine lv_goto (tgt := 15) hx hb dX0_refresh_30 (by decide) ?_
    refine lv_iload_n hx hb dX0_refresh_15 rfl (lv_at hl 0 rfl) ?_
    refine lv_iconst (v := zi 4) hx hb dX0_refresh_16 rfl ?_
    refine zc_ge (tgt := 33) hx hb dX0_refresh_17 (by decide) (by decide) (by decide) (fun h9 => absurd h9 (by decide)) (fun h17 => ?_)
    refine lv_aload_n hx hb dX0_refresh_20 rfl (lv_at hl 1 rfl) ?_
    refine va_get (D := G.1) (ci := 0) (v := .ref (ad 66)) (C := RX0) (T := TX0) (N := 7) hx hb hts hw0 hown hE.1 hP 65 p_65 rfl 3 (by decide) hf9 (fun _ h9 => h9) rfl dX0_refresh_21 ?_
    refine lv_iload_n hx hb dX0_refresh_24 rfl (lv_at hl 0 rfl) ?_
    refine lv_iconst (v := zi (-1)) hx hb dX0_refresh_25 rfl ?_
    refine zist hx hb hE hP hD hS 66 4 (fun _ => rfl) (by decide) 3 rfl (by decide) (by decide) dX0_refresh_26 (fun H locs hP hD hS => ?_)
    refine lv_iinc (v := zi 4) (lv' := [(1, .int (zi 4)), (0, .ref (ad 65))]) hx hb dX0_refresh_27 hl (k := 0) rfl (zi_add _ _) (by decide) rfl (fun ls hl => ?_)
    refine lv_goto (tgt := 15) hx hb dX0_refresh_30 (by decide) ?_
    refine lv_iload_n hx hb dX0_refresh_15 rfl (lv_at hl 0 rfl) ?_
    refine lv_iconst (v := zi 4) hx hb dX0_refresh_16 rfl ?_
    refine zc_ge (tgt := 33) hx hb dX0_refresh_17 (by decide) (by decide) (by decide) (fun h17 => ?_) (fun h9 => absurd h9 (by decide))
    generalize eX1 : (zw (zw (zw (zw (zw X 65 5 0) 66 0 (-1)) 66 1 (-1)) 66 2 (-1)) 66 3 (-1)) = X1 at hP hD
    have hz1 : ∀ c : Nat, c ≠ 65 → c ≠ 66 → X1 c = X c := fun c h1 h2 => by rw [← eX1]; simp [zw_cell h1, zw_cell h2]
    have hwc1 : zWc X X1 := ⟨fun c h9 => hz1 c (by omega) (by omega), fun c h8 h9 => hz1 c (by omega) (by omega)⟩
    have hV1 : zV X1 := hwc1.1.v hV
    have hC1 : zCs X1 := hwc1.cs hV hCs
    have hz5 : X1 65 5 = 0 := by rw [← eX1]; simp [zw_get]
    have hzc : zCm X1 := Or.inl ⟨hz5, fun j hj => by have hj4 : j = 0 ∨ j = 1 ∨ j = 2 ∨ j = 3 := (by omega); rw [← eX1]; rcases hj4 with rfl | rfl | rfl | rfl <;> simp [zw_get]⟩
    have hd0 := zDec_lt hV (Or.inl rfl : zIsW 0)
    have hd1 := zDec_lt hV (Or.inr rfl : zIsW 26)
    have hor := zor_add (b := zDec X 26) hd0
    refine lv_aload_n hx hb dX0_refresh_33 rfl (lv_at hl 1 rfl) ?_
    refine lv_iconst (v := zi 0) hx hb dX0_refresh_34 rfl ?_
    refine lv_aload_n hx hb dX0_refresh_35 rfl (lv_at hl 1 rfl) ?_
    refine va_get (D := G.1) (ci := 0) (v := .ref (ad 0)) (C := RX0) (T := TX0) (N := 7) hx hb hts hw0 hown hE.1 hP 65 p_65 rfl 0 (by decide) hf18 (fun _ h9 => h9) rfl dX0_refresh_36 ?_
    refine zcall (wr := []) (va_runV (As := []) (rest := [.int (zi 0), .ref (ad 65)]) ⟨hx, hb, hml, hown, hts⟩ (c_X6_deciders l G ad X1 0 hV1 (Or.inl rfl) H.size) (cwV 0 hts gX0_refresh_X6_deciders rfl rfl rfl (by decide +kernel) ⟨Nat.le_of_ble_eq_true rfl, Nat.le_of_ble_eq_true rfl⟩) (zPreV (wr := []) (wc := zpic G ad X1) (q0 := 0) (ci := 6) (q := (RX6, TX6, 3)) hP hD hE hS hA rfl (p_w (Or.inl rfl))) rfl rfl hl.1 rfl (lv_room (Nat.le_of_ble_eq_true rfl)) dX0_refresh_39 ⟨Nat.le_of_ble_eq_true rfl, Nat.le_of_ble_eq_true rfl⟩) hP hD hS hA (fun _ _ H locs hf hP hD hS => ?_)
    obtain ⟨v1, rfl, hv1, rfl⟩ := hf
    have hP : va_P G.1 vwCl (zpic G ad X1) H := hP
    have hD : va_D A (zpic G ad X1) := hD
    refine W.eq (g2 := F0 m 42 ls [.int (zi v1), .int (zi 0), .ref (ad 65)]) rfl ?_
    rw [hwc1.1.dec hV (Or.inl rfl : zIsW 0)] at hv1
    rw [hv1]
    refine lv_aload_n hx hb dX0_refresh_42 rfl (lv_at hl 1 rfl) ?_
    refine va_get (D := G.1) (ci := 0) (v := .ref (ad 26)) (C := RX0) (T := TX0) (N := 7) hx hb hts hw0 hown hE.1 hP 65 p_65 rfl 1 (by decide) hf22 (fun _ h9 => h9) rfl dX0_refresh_43 ?_
    refine zcall (wr := []) (va_runV (As := []) (rest := [.int (zi (zDec X 0 : Int)), .int (zi 0), .ref (ad 65)]) ⟨hx, hb, hml, hown, hts⟩ (c_X6_deciders l G ad X1 26 hV1 (Or.inr rfl) H.size) (cwV 0 hts gX0_refresh_X6_deciders rfl rfl rfl (by decide +kernel) ⟨Nat.le_of_ble_eq_true rfl, Nat.le_of_ble_eq_true rfl⟩) (zPreV (wr := []) (wc := zpic G ad X1) (q0 := 26) (ci := 6) (q := (RX6, TX6, 3)) hP hD hE hS hA rfl (p_w (Or.inr rfl))) rfl rfl hl.1 rfl (lv_room (Nat.le_of_ble_eq_true rfl)) dX0_refresh_46 ⟨Nat.le_of_ble_eq_true rfl, Nat.le_of_ble_eq_true rfl⟩) hP hD hS hA (fun _ _ H locs hf hP hD hS => ?_)
    obtain ⟨v2, rfl, hv2, rfl⟩ := hf
    have hP : va_P G.1 vwCl (zpic G ad X1) H := hP
    have hD : va_D A (zpic G ad X1) := hD
    refine W.eq (g2 := F0 m 49 ls [.int (zi v2), .int (zi (zDec X 0 : Int)), .int (zi 0), .ref (ad 65)]) rfl ?_
    rw [hwc1.1.dec hV (Or.inr rfl : zIsW 26)] at hv2
    rw [hv2]
    refine lv_bipush (v := zi 8) hx hb dX0_refresh_49 (by decide +kernel) ?_
    refine lv_ishl hx hb dX0_refresh_51 (zti (v := zi ((zDec X 26 * 256 : Nat) : Int)) (zi_shl8 hd1) ?_)
    refine lv_ior hx hb dX0_refresh_52 (zti (v := zi ((zDec X 0 ||| zDec X 26 * 256 : Nat) : Int)) (zi_or _ _) ?_)
    refine lv_iconst (v := zi 1) hx hb dX0_refresh_53 rfl ?_
    refine zcall (wr := []) (va_runS (As := [.ref (ad 65), .int (zi 0), .int (zi ((zDec X 0 ||| zDec X 26 * 256 : Nat) : Int)), .int (zi 1)]) (rest := []) ⟨hx, hb, hml, hown, hts⟩ (c_walk0 l G ad X1 (zDec X 0 ||| zDec X 26 * 256 : Nat) 1 hV1 hC1 (by omega) (by omega) hzc (by omega) (fun q h9 => by omega) H.size) (va_cwS 4 hts gX0_refresh_X0_walk rfl rfl rfl (by decide +kernel) ⟨Nat.le_of_ble_eq_true rfl, Nat.le_of_ble_eq_true rfl⟩) (zPre (wr := []) (wc := zpic G ad X1) (As := [.ref (ad 65), .int (zi 0), .int (zi ((zDec X 0 ||| zDec X 26 * 256 : Nat) : Int)), .int (zi 1)]) hP hD hE hS hA).1 rfl rfl hl.1 rfl (lv_room (Nat.le_of_ble_eq_true rfl)) dX0_refresh_54 ⟨Nat.le_of_ble_eq_true rfl, Nat.le_of_ble_eq_true rfl⟩) hP hD hS hA (fun _ _ H locs hf hP hD hS => ?_)
    obtain ⟨X2, rfl, hX2, rfl⟩ := hf
    have hP : va_P G.1 vwCl (zpic G ad X2) H := hP
    have hD : va_D A (zpic G ad X2) := hD
    refine W.eq (g2 := F0 m 57 ls []) rfl ?_
    refine lv_aload_n hx hb dX0_refresh_57 rfl (lv_at hl 1 rfl) ?_
    refine lv_iconst (v := zi 1) hx hb dX0_refresh_58 rfl ?_
    refine zput (C := RX0) (T := TX0) (N := 7) (ci := 0) (v := .int (zi 1)) (ty := tyX0 6) hx hb hts hw0 tyX0 tyX0_ok nmX0 hown hE hP hD hS 65 p_65 rfl 6 (by decide) hf29 (fun _ h9 => h9) rfl (by decide +kernel) rfl rfl (Nat.le_of_ble_eq_true rfl) (s_656 1) dX0_refresh_59 (fun H locs hP hD hS => ?_)
    exact zend_v hx hb hr hlocks hP hD hS (Nat.le_of_ble_eq_true rfl) (Nat.le_of_ble_eq_true rfl) dX0_refresh_62 ⟨_, rfl, (zMd_of (by omega) hz1 hX2), rfl⟩
  · exact zend_v hx hb hr hlocks hP hD hS (Nat.le_of_ble_eq_true rfl) (Nat.le_of_ble_eq_true rfl) dX0_refresh_7 ⟨_, rfl, (by rcases hKm with h | h; omega; exact ⟨fun _ => rfl, fun c _ _ _ => rfl, h.1, h.2⟩), rfl⟩
