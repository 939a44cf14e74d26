/-! Survey and Cuts -/
theorem dX4_setCount_0 : decode cX4_setCount 0 = .ok (.iconst 1, 1) := by decide +kernel
theorem dX4_setCount_1 : decode cX4_setCount 1 = .ok (.aload_n 0, 1) := by decide +kernel
theorem dX4_setCount_2 : decode cX4_setCount 2 = .ok (.getfield 21, 3) := by decide +kernel
theorem dX4_setCount_5 : decode cX4_setCount 5 = .ok (.getfield 46, 3) := by decide +kernel
theorem dX4_setCount_8 : decode cX4_setCount 8 = .ok (.ishl, 1) := by decide +kernel
theorem dX4_setCount_9 : decode cX4_setCount 9 = .ok (.ireturn, 1) := by decide +kernel
theorem dX4_takeOutLarger_0 : decode cX4_takeOutLarger 0 = .ok (.iconst 0, 1) := by decide +kernel
theorem dX4_takeOutLarger_1 : decode cX4_takeOutLarger 1 = .ok (.istore_n 1, 1) := by decide +kernel
theorem dX4_takeOutLarger_2 : decode cX4_takeOutLarger 2 = .ok (.iload_n 1, 1) := by decide +kernel
theorem dX4_takeOutLarger_3 : decode cX4_takeOutLarger 3 = .ok (.aload_n 0, 1) := by decide +kernel
theorem dX4_takeOutLarger_4 : decode cX4_takeOutLarger 4 = .ok (.getfield 21, 3) := by decide +kernel
theorem dX4_takeOutLarger_7 : decode cX4_takeOutLarger 7 = .ok (.getfield 46, 3) := by decide +kernel
theorem dX4_takeOutLarger_10 : decode cX4_takeOutLarger 10 = .ok (.if_icmp .ge 52, 3) := by decide +kernel
theorem dX4_takeOutLarger_62 : decode cX4_takeOutLarger 62 = .ok (.return_, 1) := by decide +kernel
theorem dX4_refresh_0 : decode cX4_refresh 0 = .ok (.aload_n 0, 1) := by decide +kernel
theorem dX4_refresh_1 : decode cX4_refresh 1 = .ok (.getfield 25, 3) := by decide +kernel
theorem dX4_refresh_4 : decode cX4_refresh 4 = .ok (.ifCond .eq 4, 3) := by decide +kernel
theorem dX4_refresh_8 : decode cX4_refresh 8 = .ok (.iconst 0, 1) := by decide +kernel
theorem dX4_refresh_9 : decode cX4_refresh 9 = .ok (.istore_n 1, 1) := by decide +kernel
theorem dX4_refresh_10 : decode cX4_refresh 10 = .ok (.iload_n 1, 1) := by decide +kernel
theorem dX4_refresh_11 : decode cX4_refresh 11 = .ok (.iconst 4, 1) := by decide +kernel
theorem dX4_refresh_12 : decode cX4_refresh 12 = .ok (.if_icmp .ge 29, 3) := by decide +kernel
theorem dX4_refresh_15 : decode cX4_refresh 15 = .ok (.aload_n 0, 1) := by decide +kernel
theorem dX4_refresh_16 : decode cX4_refresh 16 = .ok (.getfield 9, 3) := by decide +kernel
theorem dX4_refresh_19 : decode cX4_refresh 19 = .ok (.iload_n 1, 1) := by decide +kernel
theorem dX4_refresh_20 : decode cX4_refresh 20 = .ok (.iconst 0, 1) := by decide +kernel
theorem dX4_refresh_21 : decode cX4_refresh 21 = .ok (.iastore, 1) := by decide +kernel
theorem dX4_refresh_22 : decode cX4_refresh 22 = .ok (.aload_n 0, 1) := by decide +kernel
theorem dX4_refresh_23 : decode cX4_refresh 23 = .ok (.getfield 15, 3) := by decide +kernel
theorem dX4_refresh_26 : decode cX4_refresh 26 = .ok (.iload_n 1, 1) := by decide +kernel
theorem dX4_refresh_27 : decode cX4_refresh 27 = .ok (.getstatic 29, 3) := by decide +kernel
theorem dX4_refresh_30 : decode cX4_refresh 30 = .ok (.iload_n 1, 1) := by decide +kernel
theorem dX4_refresh_31 : decode cX4_refresh 31 = .ok (.iaload, 1) := by decide +kernel
theorem dX4_refresh_32 : decode cX4_refresh 32 = .ok (.iconst 1, 1) := by decide +kernel
theorem dX4_refresh_33 : decode cX4_refresh 33 = .ok (.isub, 1) := by decide +kernel
theorem dX4_refresh_34 : decode cX4_refresh 34 = .ok (.iastore, 1) := by decide +kernel
theorem dX4_refresh_35 : decode cX4_refresh 35 = .ok (.iinc 1 1, 3) := by decide +kernel
theorem dX4_refresh_38 : decode cX4_refresh 38 = .ok (.goto (-28), 3) := by decide +kernel
theorem dX4_refresh_41 : decode cX4_refresh 41 = .ok (.aload_n 0, 1) := by decide +kernel
theorem dX4_refresh_42 : decode cX4_refresh 42 = .ok (.getfield 18, 3) := by decide +kernel
theorem dX4_refresh_45 : decode cX4_refresh 45 = .ok (.iconst 0, 1) := by decide +kernel
theorem dX4_refresh_46 : decode cX4_refresh 46 = .ok (.getstatic 32, 3) := by decide +kernel
theorem dX4_refresh_49 : decode cX4_refresh 49 = .ok (.iconst 0, 1) := by decide +kernel
theorem dX4_refresh_50 : decode cX4_refresh 50 = .ok (.iaload, 1) := by decide +kernel
theorem dX4_refresh_51 : decode cX4_refresh 51 = .ok (.iastore, 1) := by decide +kernel
theorem dX4_refresh_52 : decode cX4_refresh 52 = .ok (.iconst 1, 1) := by decide +kernel
theorem dX4_refresh_53 : decode cX4_refresh 53 = .ok (.istore_n 1, 1) := by decide +kernel
theorem dX4_refresh_54 : decode cX4_refresh 54 = .ok (.iload_n 1, 1) := by decide +kernel
theorem dX4_refresh_55 : decode cX4_refresh 55 = .ok (.aload_n 0, 1) := by decide +kernel
set_option maxRecDepth 20000 in
theorem ggX4_refresh_X4_setCount : GoodIn wsX4_refresh wsX4_setCount := goodIn_r _ [9, 10, 11, 36, 37, 38, 39, 40, 41, 42, 43] (by decide +kernel) (by decide +kernel)
set_option maxRecDepth 20000 in
theorem gX4_refresh_X4_setCount : GoodIn wsX4_refresh (wsV RX4 35 RX4 yX4_setCount wsX4_setCount) := goodIn_app (goodIn_of _ (by decide +kernel)) ggX4_refresh_X4_setCount
theorem dX4_refresh_56 : decode cX4_refresh 56 = .ok (.invokevirtual 35, 3) := by decide +kernel
theorem dX4_refresh_59 : decode cX4_refresh 59 = .ok (.if_icmp .ge 14, 3) := by decide +kernel
theorem dX4_refresh_73 : decode cX4_refresh 73 = .ok (.aload_n 0, 1) := by decide +kernel
set_option maxRecDepth 20000 in
theorem ggX4_refresh_X4_takeOutLarger : GoodIn wsX4_refresh wsX4_takeOutLarger := goodIn_r _ [35, 10, 11, 4, 5, 6, 7, 8, 9, 36, 37, 38, 39, 40, 41, 42, 43] (by decide +kernel) (by decide +kernel)
set_option maxRecDepth 20000 in
theorem gX4_refresh_X4_takeOutLarger : GoodIn wsX4_refresh (wsV RX4 43 RX4 yX4_takeOutLarger wsX4_takeOutLarger) := goodIn_app (goodIn_of _ (by decide +kernel)) ggX4_refresh_X4_takeOutLarger
theorem dX4_refresh_74 : decode cX4_refresh 74 = .ok (.invokevirtual 43, 3) := by decide +kernel
theorem dX4_refresh_77 : decode cX4_refresh 77 = .ok (.aload_n 0, 1) := by decide +kernel
theorem dX4_refresh_78 : decode cX4_refresh 78 = .ok (.iconst 1, 1) := by decide +kernel
theorem dX4_refresh_79 : decode cX4_refresh 79 = .ok (.putfield 25, 3) := by decide +kernel
theorem dX4_refresh_82 : decode cX4_refresh 82 = .ok (.return_, 1) := by decide +kernel
theorem dX4_amountAllowed_0 : decode cX4_amountAllowed 0 = .ok (.aload_n 0, 1) := by decide +kernel
theorem dX4_amountAllowed_1 : decode cX4_amountAllowed 1 = .ok (.getfield 21, 3) := by decide +kernel
set_option maxRecDepth 20000 in
theorem ggX4_amountAllowed_X6_deciders : GoodIn wsX4_amountAllowed wsX6_deciders := goodIn_r _ [7, 8, 9, 10, 11, 12, 13, 14, 15, 37, 38, 39, 40, 41, 42, 43] (by decide +kernel) (by decide +kernel)
set_option maxRecDepth 20000 in
theorem gX4_amountAllowed_X6_deciders : GoodIn wsX4_amountAllowed (wsV RX4 73 RX6 yX6_deciders wsX6_deciders) := goodIn_app (goodIn_of _ (by decide +kernel)) ggX4_amountAllowed_X6_deciders
theorem dX4_amountAllowed_4 : decode cX4_amountAllowed 4 = .ok (.invokevirtual 73, 3) := by decide +kernel
theorem dX4_amountAllowed_7 : decode cX4_amountAllowed 7 = .ok (.iload_n 1, 1) := by decide +kernel
theorem dX4_amountAllowed_8 : decode cX4_amountAllowed 8 = .ok (.iand, 1) := by decide +kernel
theorem dX4_amountAllowed_9 : decode cX4_amountAllowed 9 = .ok (.istore_n 2, 1) := by decide +kernel
theorem dX4_amountAllowed_10 : decode cX4_amountAllowed 10 = .ok (.iconst 0, 1) := by decide +kernel
theorem dX4_amountAllowed_11 : decode cX4_amountAllowed 11 = .ok (.istore_n 3, 1) := by decide +kernel
theorem dX4_amountAllowed_12 : decode cX4_amountAllowed 12 = .ok (.iconst 0, 1) := by decide +kernel
theorem dX4_amountAllowed_13 : decode cX4_amountAllowed 13 = .ok (.istore 4, 2) := by decide +kernel
theorem dX4_amountAllowed_15 : decode cX4_amountAllowed 15 = .ok (.iload 4, 2) := by decide +kernel
theorem dX4_amountAllowed_17 : decode cX4_amountAllowed 17 = .ok (.aload_n 0, 1) := by decide +kernel
set_option maxRecDepth 20000 in
theorem ggX4_amountAllowed_X4_setCount : GoodIn wsX4_amountAllowed wsX4_setCount := goodIn_r _ [20, 1, 21, 32, 33, 34, 35, 36, 37, 38, 39] (by decide +kernel) (by decide +kernel)
set_option maxRecDepth 20000 in
theorem gX4_amountAllowed_X4_setCount : GoodIn wsX4_amountAllowed (wsV RX4 35 RX4 yX4_setCount wsX4_setCount) := goodIn_app (goodIn_of _ (by decide +kernel)) ggX4_amountAllowed_X4_setCount
theorem dX4_amountAllowed_18 : decode cX4_amountAllowed 18 = .ok (.invokevirtual 35, 3) := by decide +kernel
theorem dX4_amountAllowed_21 : decode cX4_amountAllowed 21 = .ok (.if_icmp .ge 33, 3) := by decide +kernel
theorem dX4_amountAllowed_24 : decode cX4_amountAllowed 24 = .ok (.aload_n 0, 1) := by decide +kernel
theorem dX4_amountAllowed_25 : decode cX4_amountAllowed 25 = .ok (.getfield 21, 3) := by decide +kernel
theorem dX4_amountAllowed_28 : decode cX4_amountAllowed 28 = .ok (.iload 4, 2) := by decide +kernel
theorem dX4_amountAllowed_30 : decode cX4_amountAllowed 30 = .ok (.iload_n 2, 1) := by decide +kernel
theorem dX4_amountAllowed_31 : decode cX4_amountAllowed 31 = .ok (.iand, 1) := by decide +kernel
set_option maxRecDepth 20000 in
theorem ggX4_amountAllowed_X6_allows : GoodIn wsX4_amountAllowed wsX6_allows := goodIn_r _ [25, 26, 9, 27, 28, 29, 30, 6, 31, 8, 37, 38, 39, 40, 41, 42, 43] (by decide +kernel) (by decide +kernel)
set_option maxRecDepth 20000 in
theorem gX4_amountAllowed_X6_allows : GoodIn wsX4_amountAllowed (wsV RX4 76 RX6 yX6_allows wsX6_allows) := goodIn_app (goodIn_of _ (by decide +kernel)) ggX4_amountAllowed_X6_allows
theorem dX4_amountAllowed_32 : decode cX4_amountAllowed 32 = .ok (.invokevirtual 76, 3) := by decide +kernel
theorem dX4_amountAllowed_35 : decode cX4_amountAllowed 35 = .ok (.ifCond .eq 13, 3) := by decide +kernel
theorem dX4_amountAllowed_48 : decode cX4_amountAllowed 48 = .ok (.iinc 4 1, 3) := by decide +kernel
theorem dX4_amountAllowed_51 : decode cX4_amountAllowed 51 = .ok (.goto (-36), 3) := by decide +kernel
theorem dX4_amountAllowed_54 : decode cX4_amountAllowed 54 = .ok (.iload_n 3, 1) := by decide +kernel
theorem dX4_amountAllowed_55 : decode cX4_amountAllowed 55 = .ok (.ireturn, 1) := by decide +kernel
theorem dX1_cut_0 : decode cX1_cut 0 = .ok (.iconst 0, 1) := by decide +kernel
theorem dX1_cut_1 : decode cX1_cut 1 = .ok (.istore_n 2, 1) := by decide +kernel
theorem dX1_cut_2 : decode cX1_cut 2 = .ok (.iconst 0, 1) := by decide +kernel
theorem dX1_cut_3 : decode cX1_cut 3 = .ok (.istore_n 3, 1) := by decide +kernel
theorem dX1_cut_4 : decode cX1_cut 4 = .ok (.iload_n 3, 1) := by decide +kernel
theorem dX1_cut_5 : decode cX1_cut 5 = .ok (.bipush 33, 2) := by decide +kernel
theorem dX1_cut_7 : decode cX1_cut 7 = .ok (.if_icmp .ge 85, 3) := by decide +kernel
theorem dX1_cut_10 : decode cX1_cut 10 = .ok (.iload_n 2, 1) := by decide +kernel
theorem dX1_cut_11 : decode cX1_cut 11 = .ok (.getstatic 36, 3) := by decide +kernel
theorem dX1_cut_14 : decode cX1_cut 14 = .ok (.iload_n 1, 1) := by decide +kernel
theorem dX1_cut_15 : decode cX1_cut 15 = .ok (.iaload, 1) := by decide +kernel
theorem dX1_cut_16 : decode cX1_cut 16 = .ok (.if_icmp .ge 76, 3) := by decide +kernel
theorem dX1_cut_19 : decode cX1_cut 19 = .ok (.aload_n 0, 1) := by decide +kernel
theorem dX1_cut_20 : decode cX1_cut 20 = .ok (.getfield 15, 3) := by decide +kernel
theorem dX1_cut_23 : decode cX1_cut 23 = .ok (.iload_n 1, 1) := by decide +kernel
theorem dX1_cut_24 : decode cX1_cut 24 = .ok (.bipush 33, 2) := by decide +kernel
theorem dX1_cut_26 : decode cX1_cut 26 = .ok (.imul, 1) := by decide +kernel
theorem dX1_cut_27 : decode cX1_cut 27 = .ok (.iload_n 3, 1) := by decide +kernel
theorem dX1_cut_28 : decode cX1_cut 28 = .ok (.iadd, 1) := by decide +kernel
theorem dX1_cut_29 : decode cX1_cut 29 = .ok (.iload_n 2, 1) := by decide +kernel
theorem dX1_cut_30 : decode cX1_cut 30 = .ok (.iastore, 1) := by decide +kernel
theorem dX1_cut_31 : decode cX1_cut 31 = .ok (.aload_n 0, 1) := by decide +kernel
theorem dX1_cut_32 : decode cX1_cut 32 = .ok (.getfield 18, 3) := by decide +kernel
theorem dX1_cut_35 : decode cX1_cut 35 = .ok (.iload_n 1, 1) := by decide +kernel
theorem dX1_cut_36 : decode cX1_cut 36 = .ok (.bipush 33, 2) := by decide +kernel
theorem dX1_cut_38 : decode cX1_cut 38 = .ok (.imul, 1) := by decide +kernel
theorem dX1_cut_39 : decode cX1_cut 39 = .ok (.iload_n 3, 1) := by decide +kernel
theorem dX1_cut_40 : decode cX1_cut 40 = .ok (.iadd, 1) := by decide +kernel
theorem dX1_cut_41 : decode cX1_cut 41 = .ok (.aload_n 0, 1) := by decide +kernel
theorem dX1_cut_42 : decode cX1_cut 42 = .ok (.getfield 21, 3) := by decide +kernel
theorem dX1_cut_45 : decode cX1_cut 45 = .ok (.iload_n 1, 1) := by decide +kernel
theorem dX1_cut_46 : decode cX1_cut 46 = .ok (.iload_n 2, 1) := by decide +kernel
set_option maxRecDepth 20000 in
theorem ggX1_cut_X6_having : GoodIn wsX1_cut wsX6_having := goodIn_r _ [14, 15, 16, 17, 18, 19, 20, 21, 22, 23, 37, 38, 39, 40, 41, 42, 43] (by decide +kernel) (by decide +kernel)
set_option maxRecDepth 20000 in
theorem gX1_cut_X6_having : GoodIn wsX1_cut (wsV RX1 39 RX6 yX6_having wsX6_having) := goodIn_app (goodIn_of _ (by decide +kernel)) ggX1_cut_X6_having
theorem dX1_cut_47 : decode cX1_cut 47 = .ok (.invokevirtual 39, 3) := by decide +kernel
theorem dX1_cut_50 : decode cX1_cut 50 = .ok (.aload_n 0, 1) := by decide +kernel
theorem dX1_cut_51 : decode cX1_cut 51 = .ok (.getfield 25, 3) := by decide +kernel
theorem dX1_cut_54 : decode cX1_cut 54 = .ok (.iload_n 1, 1) := by decide +kernel
theorem dX1_cut_55 : decode cX1_cut 55 = .ok (.iload_n 2, 1) := by decide +kernel
theorem dX1_cut_56 : decode cX1_cut 56 = .ok (.invokevirtual 39, 3) := by decide +kernel
theorem dX1_cut_59 : decode cX1_cut 59 = .ok (.bipush 8, 2) := by decide +kernel
theorem dX1_cut_61 : decode cX1_cut 61 = .ok (.ishl, 1) := by decide +kernel
theorem dX1_cut_62 : decode cX1_cut 62 = .ok (.ior, 1) := by decide +kernel
theorem dX1_cut_63 : decode cX1_cut 63 = .ok (.iastore, 1) := by decide +kernel
theorem dX1_cut_64 : decode cX1_cut 64 = .ok (.iinc 3 1, 3) := by decide +kernel
theorem dX1_cut_67 : decode cX1_cut 67 = .ok (.aload_n 0, 1) := by decide +kernel
theorem dX1_cut_68 : decode cX1_cut 68 = .ok (.getfield 21, 3) := by decide +kernel
theorem dX1_cut_71 : decode cX1_cut 71 = .ok (.iload_n 1, 1) := by decide +kernel
theorem dX1_cut_72 : decode cX1_cut 72 = .ok (.iload_n 2, 1) := by decide +kernel
set_option maxRecDepth 20000 in
theorem ggX1_cut_X6_nextCut : GoodIn wsX1_cut wsX6_nextCut := goodIn_r _ [27, 15, 16, 28, 29, 6, 7, 8, 30, 37, 38, 39, 40, 41, 42, 43] (by decide +kernel) (by decide +kernel)
set_option maxRecDepth 20000 in
theorem gX1_cut_X6_nextCut : GoodIn wsX1_cut (wsV RX1 45 RX6 yX6_nextCut wsX6_nextCut) := goodIn_app (goodIn_of _ (by decide +kernel)) ggX1_cut_X6_nextCut
theorem dX1_cut_73 : decode cX1_cut 73 = .ok (.invokevirtual 45, 3) := by decide +kernel
theorem dX1_cut_76 : decode cX1_cut 76 = .ok (.aload_n 0, 1) := by decide +kernel
theorem dX1_cut_77 : decode cX1_cut 77 = .ok (.getfield 25, 3) := by decide +kernel
theorem dX1_cut_80 : decode cX1_cut 80 = .ok (.iload_n 1, 1) := by decide +kernel
theorem dX1_cut_81 : decode cX1_cut 81 = .ok (.iload_n 2, 1) := by decide +kernel
theorem dX1_cut_82 : decode cX1_cut 82 = .ok (.invokevirtual 45, 3) := by decide +kernel
theorem dX1_cut_85 : decode cX1_cut 85 = .ok (.invokestatic 48, 3) := by decide +kernel
theorem dX1_cut_88 : decode cX1_cut 88 = .ok (.istore_n 2, 1) := by decide +kernel
theorem dX1_cut_89 : decode cX1_cut 89 = .ok (.goto (-85), 3) := by decide +kernel
theorem dX1_cut_92 : decode cX1_cut 92 = .ok (.aload_n 0, 1) := by decide +kernel
theorem dX1_cut_93 : decode cX1_cut 93 = .ok (.getfield 9, 3) := by decide +kernel
theorem dX1_cut_96 : decode cX1_cut 96 = .ok (.iload_n 1, 1) := by decide +kernel
theorem dX1_cut_97 : decode cX1_cut 97 = .ok (.iload_n 3, 1) := by decide +kernel
theorem dX1_cut_98 : decode cX1_cut 98 = .ok (.iastore, 1) := by decide +kernel
theorem dX1_cut_99 : decode cX1_cut 99 = .ok (.return_, 1) := by decide +kernel
theorem dX1_refresh_0 : decode cX1_refresh 0 = .ok (.aload_n 0, 1) := by decide +kernel
theorem dX1_refresh_1 : decode cX1_refresh 1 = .ok (.getfield 28, 3) := by decide +kernel
theorem dX1_refresh_4 : decode cX1_refresh 4 = .ok (.ifCond .eq 4, 3) := by decide +kernel
theorem dX1_refresh_8 : decode cX1_refresh 8 = .ok (.iconst 0, 1) := by decide +kernel
theorem dX1_refresh_9 : decode cX1_refresh 9 = .ok (.istore_n 1, 1) := by decide +kernel
theorem dX1_refresh_10 : decode cX1_refresh 10 = .ok (.iload_n 1, 1) := by decide +kernel
theorem dX1_refresh_11 : decode cX1_refresh 11 = .ok (.iconst 4, 1) := by decide +kernel
theorem dX1_refresh_12 : decode cX1_refresh 12 = .ok (.if_icmp .ge 14, 3) := by decide +kernel
theorem dX1_refresh_15 : decode cX1_refresh 15 = .ok (.aload_n 0, 1) := by decide +kernel
theorem dX1_refresh_16 : decode cX1_refresh 16 = .ok (.iload_n 1, 1) := by decide +kernel
set_option maxRecDepth 20000 in
theorem ggX1_refresh_X1_cut : GoodIn wsX1_refresh wsX1_cut := goodIn_r _ [6, 7, 8, 9, 10, 11, 12, 13, 14, 15, 16, 17, 18, 19, 20, 21, 22, 23, 24, 25, 26, 27, 28, 29, 30, 31, 32, 33, 34, 35, 36, 37, 38, 39, 40, 41, 42, 43, 44, 45, 46, 47, 48, 49] (by decide +kernel) (by decide +kernel)
set_option maxRecDepth 20000 in
theorem gX1_refresh_X1_cut : GoodIn wsX1_refresh (wsV RX1 32 RX1 yX1_cut wsX1_cut) := goodIn_app (goodIn_of _ (by decide +kernel)) ggX1_refresh_X1_cut
theorem dX1_refresh_17 : decode cX1_refresh 17 = .ok (.invokevirtual 32, 3) := by decide +kernel
theorem dX1_refresh_20 : decode cX1_refresh 20 = .ok (.iinc 1 1, 3) := by decide +kernel
theorem dX1_refresh_23 : decode cX1_refresh 23 = .ok (.goto (-13), 3) := by decide +kernel
theorem dX1_refresh_26 : decode cX1_refresh 26 = .ok (.aload_n 0, 1) := by decide +kernel
theorem dX1_refresh_27 : decode cX1_refresh 27 = .ok (.iconst 1, 1) := by decide +kernel
theorem dX1_refresh_28 : decode cX1_refresh 28 = .ok (.putfield 28, 3) := by decide +kernel
theorem dX1_refresh_31 : decode cX1_refresh 31 = .ok (.return_, 1) := by decide +kernel
theorem dX1_refresh_7 : decode cX1_refresh 7 = .ok (.return_, 1) := by decide +kernel
set_option maxHeartbeats 4000000 in
set_option maxRecDepth 100000 in
theorem z_X4_setCount (l : Launch) (G : zG) (su : Nat) (wa : Nat) (ro : Nat) (sl : Nat) (sh : Nat) (sa : Nat) (fsh : Int32) : zR l G yX4_setCount wsX4_setCount { frames := 0, cells := 0, slots := 0, locals := 0 } [(su, .inr (4, [.ref wa, .ref sl, .ref sh, .ref sa, .int fsh])), (wa, .inr (6, [.ref ro, .int 0, .int 0]))] [.ref su] (some (.int 1)) (fun u => [(su, .inr (4, [.ref wa, .ref sl, .ref sh, .ref sa, .int fsh])), (wa, .inr (6, [.ref ro, .int 0, .int 0]))]) 0 0 := by
  refine zR_of (cc := cX4_setCount) (maxL := 1) (rt := (some .int)) (by decide) rfl (Nat.le_of_ble_eq_true rfl) ?_
  intro p e s m below meth c A ls hx hb hml hr hts hown hlocks hin hA hE hP hD hS hl
  have hl : lv_has ls 1 [(0, .ref su)] := hl
  have hown : s.vm.findClass RX4 = some m.cls := hown
  have hP : va_P G.1 vwCl [(su, .inr (4, [.ref wa, .ref sl, .ref sh, .ref sa, .int fsh])), (wa, .inr (6, [.ref ro, .int 0, .int 0]))] s.heap := hP
  have hw4 : ∀ w ∈ u_ws RX4 TX4 5, w ∈ wsX4_setCount := by decide +kernel
  have hf21 := hts (.fieldLink RX4 21 "Nettle$Survey" "wall" "LNettle$Wall;") (by decide +kernel)
  have hw6 : ∀ w ∈ u_ws RX6 TX6 3, w ∈ wsX4_setCount := by decide +kernel
  have hf46 := hts (.fieldLink RX4 46 "Nettle$Wall" "count" "I") (by decide +kernel)
  refine lv_iconst (v := 1) hx hb dX4_setCount_0 (by decide) ?_
  refine lv_aload_n hx hb dX4_setCount_1 rfl (lv_at hl 0 rfl) ?_
  refine va_get (D := G.1) (ci := 4) (v := .ref wa) (C := RX4) (T := TX4) (N := 5) hx hb hts hw4 hown hE.1 hP 0 rfl rfl 0 (by decide) hf21 (fun _ h9 => h9) rfl dX4_setCount_2 ?_
  refine va_get (D := G.1) (ci := 6) (v := .int 0) (C := RX6) (T := TX6) (N := 3) hx hb hts hw6 hown hE.1 hP 1 rfl rfl 1 (by decide) hf46 (fun _ h9 => h9) rfl dX4_setCount_5 ?_
  refine lv_ishl hx hb dX4_setCount_8 ?_
  refine zti (v := 1) (by decide) ?_
  exact zend_i hx hb hr hlocks (fun k => [].getD k 0) hP hD hS (Nat.le_of_ble_eq_true rfl) (Nat.le_of_ble_eq_true rfl) dX4_setCount_9

set_option maxHeartbeats 4000000 in
set_option maxRecDepth 100000 in
theorem z_X4_takeOutLarger (l : Launch) (G : zG) (su : Nat) (wa : Nat) (ro : Nat) (sl : Nat) (sh : Nat) (sa : Nat) (fsh : Int32) : zR l G yX4_takeOutLarger wsX4_takeOutLarger { frames := 0, cells := 0, slots := 0, locals := 0 } [(su, .inr (4, [.ref wa, .ref sl, .ref sh, .ref sa, .int fsh])), (wa, .inr (6, [.ref ro, .int 0, .int 0]))] [.ref su] none (fun u => [(su, .inr (4, [.ref wa, .ref sl, .ref sh, .ref sa, .int fsh])), (wa, .inr (6, [.ref ro, .int 0, .int 0]))]) 0 0 := by
  refine zR_of (cc := cX4_takeOutLarger) (maxL := 4) (rt := none) (by decide) rfl (Nat.le_of_ble_eq_true rfl) ?_
  intro p e s m below meth c A ls hx hb hml hr hts hown hlocks hin hA hE hP hD hS hl
  have hl : lv_has ls 4 [(0, .ref su)] := hl
  have hown : s.vm.findClass RX4 = some m.cls := hown
  have hP : va_P G.1 vwCl [(su, .inr (4, [.ref wa, .ref sl, .ref sh, .ref sa, .int fsh])), (wa, .inr (6, [.ref ro, .int 0, .int 0]))] s.heap := hP
  have hw4 : ∀ w ∈ u_ws RX4 TX4 5, w ∈ wsX4_takeOutLarger := by decide +kernel
  have hf21 := hts (.fieldLink RX4 21 "Nettle$Survey" "wall" "LNettle$Wall;") (by decide +kernel)
  have hw6 : ∀ w ∈ u_ws RX6 TX6 3, w ∈ wsX4_takeOutLarger := by decide +kernel
  have hf46 := hts (.fieldLink RX4 46 "Nettle$Wall" "count" "I") (by decide +kernel)
  refine lv_iconst (v := 0) hx hb dX4_takeOutLarger_0 (by decide) ?_
  refine lv_istore_n (lv' := [(1, .int 0), (0, .ref su)]) hx hb dX4_takeOutLarger_1 rfl hl (by decide) rfl (fun ls hl => ?_)
  refine lv_iload_n hx hb dX4_takeOutLarger_2 rfl (lv_at hl 0 rfl) ?_
  refine lv_aload_n hx hb dX4_takeOutLarger_3 rfl (lv_at hl 1 rfl) ?_
  refine va_get (D := G.1) (ci := 4) (v := .ref wa) (C := RX4) (T := TX4) (N := 5) hx hb hts hw4 hown hE.1 hP 0 rfl rfl 0 (by decide) hf21 (fun _ h9 => h9) rfl dX4_takeOutLarger_4 ?_
  refine va_get (D := G.1) (ci := 6) (v := .int 0) (C := RX6) (T := TX6) (N := 3) hx hb hts hw6 hown hE.1 hP 1 rfl rfl 1 (by decide) hf46 (fun _ h9 => h9) rfl dX4_takeOutLarger_7 ?_
  refine lv_icmp_ge (tgt := 62) hx hb dX4_takeOutLarger_10 (by decide) (fun _ => ?_) (fun h9 => absurd (by decide) h9)
  exact zend_v hx hb hr hlocks (fun k => [].getD k 0) hP hD hS (Nat.le_of_ble_eq_true rfl) (Nat.le_of_ble_eq_true rfl) dX4_takeOutLarger_62

set_option maxHeartbeats 4000000 in
set_option maxRecDepth 100000 in
theorem z_X4_refresh0 (l : Launch) (G : zG) (su : Nat) (wa : Nat) (ro : Nat) (sl : Nat) (sh : Nat) (sa : Nat) (fl : Nat → Int32) (fh : Nat → Int32) (fa : Nat → Int32) : zR l G yX4_refresh wsX4_refresh { frames := 1, cells := 0, slots := 0, locals := 23 } [(su, .inr (4, [.ref wa, .ref sl, .ref sh, .ref sa, .int 0])), (wa, .inr (6, [.ref ro, .int 0, .int 0])), (sl, .inl (G.2.1, 1024, .inl (fl))), (sh, .inl (G.2.1, 1024, .inl (fh))), (sa, .inl (G.2.1, 256, .inl (fa)))] [.ref su] none (fun u => [(sl, .inl (G.2.1, 1024, .inl (upd (upd (upd (upd fl 0 0) 1 0) 2 0) 3 0))), (sh, .inl (G.2.1, 1024, .inl (upd (upd (upd (upd fh 0 255) 1 255) 2 1023) 3 3))), (sa, .inl (G.2.1, 256, .inl (upd fa 0 268435456))), (su, .inr (4, [.ref wa, .ref sl, .ref sh, .ref sa, .int 1])), (wa, .inr (6, [.ref ro, .int 0, .int 0]))]) 0 0 := by
  refine zR_of (cc := cX4_refresh) (maxL := 2) (rt := none) (by decide) rfl (Nat.le_of_ble_eq_true rfl) ?_
  intro p e s m below meth c A ls hx hb hml hr hts hown hlocks hin hA hE hP hD hS hl
  have hl : lv_has ls 2 [(0, .ref su)] := hl
  have hown : s.vm.findClass RX4 = some m.cls := hown
  have hP : va_P G.1 vwCl [(su, .inr (4, [.ref wa, .ref sl, .ref sh, .ref sa, .int 0])), (wa, .inr (6, [.ref ro, .int 0, .int 0])), (sl, .inl (G.2.1, 1024, .inl (fl))), (sh, .inl (G.2.1, 1024, .inl (fh))), (sa, .inl (G.2.1, 256, .inl (fa)))] s.heap := hP
  have hw4 : ∀ w ∈ u_ws RX4 TX4 5, w ∈ wsX4_refresh := by decide +kernel
  have hf25 := hts (.fieldLink RX4 25 "Nettle$Survey" "isFresh" "Z") (by decide +kernel)
  have hf9 := hts (.fieldLink RX4 9 "Nettle$Survey" "lows" "[I") (by decide +kernel)
  have hf15 := hts (.fieldLink RX4 15 "Nettle$Survey" "highs" "[I") (by decide +kernel)
  have hf18 := hts (.fieldLink RX4 18 "Nettle$Survey" "amounts" "[I") (by decide +kernel)
  refine lv_aload_n hx hb dX4_refresh_0 rfl (lv_at hl 0 rfl) ?_
  refine va_get (D := G.1) (ci := 4) (v := .int 0) (C := RX4) (T := TX4) (N := 5) hx hb hts hw4 hown hE.1 hP 0 rfl rfl 4 (by decide) hf25 (fun _ h9 => h9) rfl dX4_refresh_1 ?_
  refine lv_if_eq (tgt := 8) hx hb dX4_refresh_4 (by decide) (fun _ => ?_) (fun h9 => absurd (by decide) h9)
  refine lv_iconst (v := 0) hx hb dX4_refresh_8 (by decide) ?_
  refine lv_istore_n (lv' := [(1, .int 0), (0, .ref su)]) hx hb dX4_refresh_9 rfl hl (by decide) rfl (fun ls hl => ?_)
  refine lv_iload_n hx hb dX4_refresh_10 rfl (lv_at hl 0 rfl) ?_
  refine lv_iconst (v := 4) hx hb dX4_refresh_11 (by decide) ?_
  refine lv_icmp_ge (tgt := 41) hx hb dX4_refresh_12 (by decide) (fun h9 => absurd h9 (by decide)) (fun _ => ?_)
  refine lv_aload_n hx hb dX4_refresh_15 rfl (lv_at hl 1 rfl) ?_
  refine va_get (D := G.1) (ci := 4) (v := .ref sl) (C := RX4) (T := TX4) (N := 5) hx hb hts hw4 hown hE.1 hP 0 rfl rfl 1 (by decide) hf9 (fun _ h9 => h9) rfl dX4_refresh_16 ?_
  refine lv_iload_n hx hb dX4_refresh_19 rfl (lv_at hl 0 rfl) ?_
  refine lv_iconst (v := 0) hx hb dX4_refresh_20 (by decide) ?_
  refine va_iast hx hb hE.1 hP hD hS 2 0 rfl rfl (zin (by decide +kernel)) dX4_refresh_21 (fun H locs hP hD hS => ?_)
  have hP : va_P G.1 vwCl [(su, .inr (4, [.ref wa, .ref sl, .ref sh, .ref sa, .int 0])), (wa, .inr (6, [.ref ro, .int 0, .int 0])), (sl, .inl (G.2.1, 1024, .inl (upd fl 0 0))), (sh, .inl (G.2.1, 1024, .inl (fh))), (sa, .inl (G.2.1, 256, .inl (fa)))] H := hP
  have hD : va_D A [(su, .inr (4, [.ref wa, .ref sl, .ref sh, .ref sa, .int 0])), (wa, .inr (6, [.ref ro, .int 0, .int 0])), (sl, .inl (G.2.1, 1024, .inl (upd fl 0 0))), (sh, .inl (G.2.1, 1024, .inl (fh))), (sa, .inl (G.2.1, 256, .inl (fa)))] := hD
  refine lv_aload_n hx hb dX4_refresh_22 rfl (lv_at hl 1 rfl) ?_
  refine va_get (D := G.1) (ci := 4) (v := .ref sh) (C := RX4) (T := TX4) (N := 5) hx hb hts hw4 hown hE.1 hP 0 rfl rfl 2 (by decide) hf15 (fun _ h9 => h9) rfl dX4_refresh_23 ?_
  refine lv_iload_n hx hb dX4_refresh_26 rfl (lv_at hl 0 rfl) ?_
  refine va_getsN hx hb hE.2.1.1 hS hown (va_Nw.use rfl hE.2.2.2.2.1.2.2.1) (fun _ h9 => h9) dX4_refresh_27 ?_
  refine lv_iload_n hx hb dX4_refresh_30 rfl (lv_at hl 0 rfl) ?_
  refine va_ti (v := .int 256) hx hb hE.2.1.2 hS (zin (by decide +kernel)) rfl dX4_refresh_31 ?_
  refine lv_iconst (v := 1) hx hb dX4_refresh_32 (by decide) ?_
  refine lv_isub hx hb dX4_refresh_33 ?_
  refine zti (v := 255) (by decide) ?_
  refine va_iast hx hb hE.1 hP hD hS 3 0 rfl rfl (zin (by decide +kernel)) dX4_refresh_34 (fun H locs hP hD hS => ?_)
  have hP : va_P G.1 vwCl [(su, .inr (4, [.ref wa, .ref sl, .ref sh, .ref sa, .int 0])), (wa, .inr (6, [.ref ro, .int 0, .int 0])), (sl, .inl (G.2.1, 1024, .inl (upd fl 0 0))), (sh, .inl (G.2.1, 1024, .inl (upd fh 0 255))), (sa, .inl (G.2.1, 256, .inl (fa)))] H := hP
  have hD : va_D A [(su, .inr (4, [.ref wa, .ref sl, .ref sh, .ref sa, .int 0])), (wa, .inr (6, [.ref ro, .int 0, .int 0])), (sl, .inl (G.2.1, 1024, .inl (upd fl 0 0))), (sh, .inl (G.2.1, 1024, .inl (upd fh 0 255))), (sa, .inl (G.2.1, 256, .inl (fa)))] := hD
  refine lv_iinc (v := 1) (lv' := [(1, .int 1), (0, .ref su)]) hx hb dX4_refresh_35 hl (k := 0) rfl (by decide) (by decide) rfl (fun ls hl => ?_)
  refine lv_goto (tgt := 10) hx hb dX4_refresh_38 (by decide) ?_
  refine lv_iload_n hx hb dX4_refresh_10 rfl (lv_at hl 0 rfl) ?_
  refine lv_iconst (v := 4) hx hb dX4_refresh_11 (by decide) ?_
  refine lv_icmp_ge (tgt := 41) hx hb dX4_refresh_12 (by decide) (fun h9 => absurd h9 (by decide)) (fun _ => ?_)
  refine lv_aload_n hx hb dX4_refresh_15 rfl (lv_at hl 1 rfl) ?_
  refine va_get (D := G.1) (ci := 4) (v := .ref sl) (C := RX4) (T := TX4) (N := 5) hx hb hts hw4 hown hE.1 hP 0 rfl rfl 1 (by decide) hf9 (fun _ h9 => h9) rfl dX4_refresh_16 ?_
  refine lv_iload_n hx hb dX4_refresh_19 rfl (lv_at hl 0 rfl) ?_
  refine lv_iconst (v := 0) hx hb dX4_refresh_20 (by decide) ?_
  refine va_iast hx hb hE.1 hP hD hS 2 0 rfl rfl (zin (by decide +kernel)) dX4_refresh_21 (fun H locs hP hD hS => ?_)
  have hP : va_P G.1 vwCl [(su, .inr (4, [.ref wa, .ref sl, .ref sh, .ref sa, .int 0])), (wa, .inr (6, [.ref ro, .int 0, .int 0])), (sl, .inl (G.2.1, 1024, .inl (upd (upd fl 0 0) 1 0))), (sh, .inl (G.2.1, 1024, .inl (upd fh 0 255))), (sa, .inl (G.2.1, 256, .inl (fa)))] H := hP
  have hD : va_D A [(su, .inr (4, [.ref wa, .ref sl, .ref sh, .ref sa, .int 0])), (wa, .inr (6, [.ref ro, .int 0, .int 0])), (sl, .inl (G.2.1, 1024, .inl (upd (upd fl 0 0) 1 0))), (sh, .inl (G.2.1, 1024, .inl (upd fh 0 255))), (sa, .inl (G.2.1, 256, .inl (fa)))] := hD
  refine lv_aload_n hx hb dX4_refresh_22 rfl (lv_at hl 1 rfl) ?_
  refine va_get (D := G.1) (ci := 4) (v := .ref sh) (C := RX4) (T := TX4) (N := 5) hx hb hts hw4 hown hE.1 hP 0 rfl rfl 2 (by decide) hf15 (fun _ h9 => h9) rfl dX4_refresh_23 ?_
  refine lv_iload_n hx hb dX4_refresh_26 rfl (lv_at hl 0 rfl) ?_
  refine va_getsN hx hb hE.2.1.1 hS hown (va_Nw.use rfl hE.2.2.2.2.1.2.2.1) (fun _ h9 => h9) dX4_refresh_27 ?_
  refine lv_iload_n hx hb dX4_refresh_30 rfl (lv_at hl 0 rfl) ?_
  refine va_ti (v := .int 256) hx hb hE.2.1.2 hS (zin (by decide +kernel)) rfl dX4_refresh_31 ?_
  refine lv_iconst (v := 1) hx hb dX4_refresh_32 (by decide) ?_
  refine lv_isub hx hb dX4_refresh_33 ?_
  refine zti (v := 255) (by decide) ?_
  refine va_iast hx hb hE.1 hP hD hS 3 0 rfl rfl (zin (by decide +kernel)) dX4_refresh_34 (fun H locs hP hD hS => ?_)
  have hP : va_P G.1 vwCl [(su, .inr (4, [.ref wa, .ref sl, .ref sh, .ref sa, .int 0])), (wa, .inr (6, [.ref ro, .int 0, .int 0])), (sl, .inl (G.2.1, 1024, .inl (upd (upd fl 0 0) 1 0))), (sh, .inl (G.2.1, 1024, .inl (upd (upd fh 0 255) 1 255))), (sa, .inl (G.2.1, 256, .inl (fa)))] H := hP
  have hD : va_D A [(su, .inr (4, [.ref wa, .ref sl, .ref sh, .ref sa, .int 0])), (wa, .inr (6, [.ref ro, .int 0, .int 0])), (sl, .inl (G.2.1, 1024, .inl (upd (upd fl 0 0) 1 0))), (sh, .inl (G.2.1, 1024, .inl (upd (upd fh 0 255) 1 255))), (sa, .inl (G.2.1, 256, .inl (fa)))] := hD
  refine lv_iinc (v := 2) (lv' := [(1, .int 2), (0, .ref su)]) hx hb dX4_refresh_35 hl (k := 0) rfl (by decide) (by decide) rfl (fun ls hl => ?_)
  refine lv_goto (tgt := 10) hx hb dX4_refresh_38 (by decide) ?_
  refine lv_iload_n hx hb dX4_refresh_10 rfl (lv_at hl 0 rfl) ?_
  refine lv_iconst (v := 4) hx hb dX4_refresh_11 (by decide) ?_
  refine lv_icmp_ge (tgt := 41) hx hb dX4_refresh_12 (by decide) (fun h9 => absurd h9 (by decide)) (fun _ => ?_)
  refine lv_aload_n hx hb dX4_refresh_15 rfl (lv_at hl 1 rfl) ?_
  refine va_get (D := G.1) (ci := 4) (v := .ref sl) (C := RX4) (T := TX4) (N := 5) hx hb hts hw4 hown hE.1 hP 0 rfl rfl 1 (by decide) hf9 (fun _ h9 => h9) rfl dX4_refresh_16 ?_
  refine lv_iload_n hx hb dX4_refresh_19 rfl (lv_at hl 0 rfl) ?_
  refine lv_iconst (v := 0) hx hb dX4_refresh_20 (by decide) ?_
  refine va_iast hx hb hE.1 hP hD hS 2 0 rfl rfl (zin (by decide +kernel)) dX4_refresh_21 (fun H locs hP hD hS => ?_)
  have hP : va_P G.1 vwCl [(su, .inr (4, [.ref wa, .ref sl, .ref sh, .ref sa, .int 0])), (wa, .inr (6, [.ref ro, .int 0, .int 0])), (sl, .inl (G.2.1, 1024, .inl (upd (upd (upd fl 0 0) 1 0) 2 0))), (sh, .inl (G.2.1, 1024, .inl (upd (upd fh 0 255) 1 255))), (sa, .inl (G.2.1, 256, .inl (fa)))] H := hP
  have hD : va_D A [(su, .inr (4, [.ref wa, .ref sl, .ref sh, .ref sa, .int 0])), (wa, .inr (6, [.ref ro, .int 0, .int 0])), (sl, .inl (G.2.1, 1024, .inl (upd (upd (upd fl 0 0) 1 0) 2 0))), (sh, .inl (G.2.1, 1024, .inl (upd (upd fh 0 255) 1 255))), (sa, .inl (G.2.1, 256, .inl (fa)))] := hD
  refine lv_aload_n hx hb dX4_refresh_22 rfl (lv_at hl 1 rfl) ?_
  refine va_get (D := G.1) (ci := 4) (v := .ref sh) (C := RX4) (T := TX4) (N := 5) hx hb hts hw4 hown hE.1 hP 0 rfl rfl 2 (by decide) hf15 (fun _ h9 => h9) rfl dX4_refresh_23 ?_
  refine lv_iload_n hx hb dX4_refresh_26 rfl (lv_at hl 0 rfl) ?_
  refine va_getsN hx hb hE.2.1.1 hS hown (va_Nw.use rfl hE.2.2.2.2.1.2.2.1) (fun _ h9 => h9) dX4_refresh_27 ?_
  refine lv_iload_n hx hb dX4_refresh_30 rfl (lv_at hl 0 rfl) ?_
  refine va_ti (v := .int 1024) hx hb hE.2.1.2 hS (zin (by decide +kernel)) rfl dX4_refresh_31 ?_
  refine lv_iconst (v := 1) hx hb dX4_refresh_32 (by decide) ?_
  refine lv_isub hx hb dX4_refresh_33 ?_
  refine zti (v := 1023) (by decide) ?_
  refine va_iast hx hb hE.1 hP hD hS 3 0 rfl rfl (zin (by decide +kernel)) dX4_refresh_34 (fun H locs hP hD hS => ?_)
  have hP : va_P G.1 vwCl [(su, .inr (4, [.ref wa, .ref sl, .ref sh, .ref sa, .int 0])), (wa, .inr (6, [.ref ro, .int 0, .int 0])), (sl, .inl (G.2.1, 1024, .inl (upd (upd (upd fl 0 0) 1 0) 2 0))), (sh, .inl (G.2.1, 1024, .inl (upd (upd (upd fh 0 255) 1 255) 2 1023))), (sa, .inl (G.2.1, 256, .inl (fa)))] H := hP
  have hD : va_D A [(su, .inr (4, [.ref wa, .ref sl, .ref sh, .ref sa, .int 0])), (wa, .inr (6, [.ref ro, .int 0, .int 0])), (sl, .inl (G.2.1, 1024, .inl (upd (upd (upd fl 0 0) 1 0) 2 0))), (sh, .inl (G.2.1, 1024, .inl (upd (upd (upd fh 0 255) 1 255) 2 1023))), (sa, .inl (G.2.1, 256, .inl (fa)))] := hD
  refine lv_iinc (v := 3) (lv' := [(1, .int 3), (0, .ref su)]) hx hb dX4_refresh_35 hl (k := 0) rfl (by decide) (by decide) rfl (fun ls hl => ?_)
  refine lv_goto (tgt := 10) hx hb dX4_refresh_38 (by decide) ?_
  refine lv_iload_n hx hb dX4_refresh_10 rfl (lv_at hl 0 rfl) ?_
  refine lv_iconst (v := 4) hx hb dX4_refresh_11 (by decide) ?_
  refine lv_icmp_ge (tgt := 41) hx hb dX4_refresh_12 (by decide) (fun h9 => absurd h9 (by decide)) (fun _ => ?_)
  refine lv_aload_n hx hb dX4_refresh_15 rfl (lv_at hl 1 rfl) ?_
  refine va_get (D := G.1) (ci := 4) (v := .ref sl) (C := RX4) (T := TX4) (N := 5) hx hb hts hw4 hown hE.1 hP 0 rfl rfl 1 (by decide) hf9 (fun _ h9 => h9) rfl dX4_refresh_16 ?_
  refine lv_iload_n hx hb dX4_refresh_19 rfl (lv_at hl 0 rfl) ?_
  refine lv_iconst (v := 0) hx hb dX4_refresh_20 (by decide) ?_
  refine va_iast hx hb hE.1 hP hD hS 2 0 rfl rfl (zin (by decide +kernel)) dX4_refresh_21 (fun H locs hP hD hS => ?_)
  have hP : va_P G.1 vwCl [(su, .inr (4, [.ref wa, .ref sl, .ref sh, .ref sa, .int 0])), (wa, .inr (6, [.ref ro, .int 0, .int 0])), (sl, .inl (G.2.1, 1024, .inl (upd (upd (upd (upd fl 0 0) 1 0) 2 0) 3 0))), (sh, .inl (G.2.1, 1024, .inl (upd (upd (upd fh 0 255) 1 255) 2 1023))), (sa, .inl (G.2.1, 256, .inl (fa)))] H := hP
  have hD : va_D A [(su, .inr (4, [.ref wa, .ref sl, .ref sh, .ref sa, .int 0])), (wa, .inr (6, [.ref ro, .int 0, .int 0])), (sl, .inl (G.2.1, 1024, .inl (upd (upd (upd (upd fl 0 0) 1 0) 2 0) 3 0))), (sh, .inl (G.2.1, 1024, .inl (upd (upd (upd fh 0 255) 1 255) 2 1023))), (sa, .inl (G.2.1, 256, .inl (fa)))] := hD
  refine lv_aload_n hx hb dX4_refresh_22 rfl (lv_at hl 1 rfl) ?_
  refine va_get (D := G.1) (ci := 4) (v := .ref sh) (C := RX4) (T := TX4) (N := 5) hx hb hts hw4 hown hE.1 hP 0 rfl rfl 2 (by decide) hf15 (fun _ h9 => h9) rfl dX4_refresh_23 ?_
  refine lv_iload_n hx hb dX4_refresh_26 rfl (lv_at hl 0 rfl) ?_
  refine va_getsN hx hb hE.2.1.1 hS hown (va_Nw.use rfl hE.2.2.2.2.1.2.2.1) (fun _ h9 => h9) dX4_refresh_27 ?_
  refine lv_iload_n hx hb dX4_refresh_30 rfl (lv_at hl 0 rfl) ?_
  refine va_ti (v := .int 4) hx hb hE.2.1.2 hS (zin (by decide +kernel)) rfl dX4_refresh_31 ?_
  refine lv_iconst (v := 1) hx hb dX4_refresh_32 (by decide) ?_
  refine lv_isub hx hb dX4_refresh_33 ?_
  refine zti (v := 3) (by decide) ?_
  refine va_iast hx hb hE.1 hP hD hS 3 0 rfl rfl (zin (by decide +kernel)) dX4_refresh_34 (fun H locs hP hD hS => ?_)
  have hP : va_P G.1 vwCl [(su, .inr (4, [.ref wa, .ref sl, .ref sh, .ref sa, .int 0])), (wa, .inr (6, [.ref ro, .int 0, .int 0])), (sl, .inl (G.2.1, 1024, .inl (upd (upd (upd (upd fl 0 0) 1 0) 2 0) 3 0))), (sh, .inl (G.2.1, 1024, .inl (upd (upd (upd (upd fh 0 255) 1 255) 2 1023) 3 3))), (sa, .inl (G.2.1, 256, .inl (fa)))] H := hP
  have hD : va_D A [(su, .inr (4, [.ref wa, .ref sl, .ref sh, .ref sa, .int 0])), (wa, .inr (6, [.ref ro, .int 0, .int 0])), (sl, .inl (G.2.1, 1024, .inl (upd (upd (upd (upd fl 0 0) 1 0) 2 0) 3 0))), (sh, .inl (G.2.1, 1024, .inl (upd (upd (upd (upd fh 0 255) 1 255) 2 1023) 3 3))), (sa, .inl (G.2.1, 256, .inl (fa)))] := hD
  refine lv_iinc (v := 4) (lv' := [(1, .int 4), (0, .ref su)]) hx hb dX4_refresh_35 hl (k := 0) rfl (by decide) (by decide) rfl (fun ls hl => ?_)
  refine lv_goto (tgt := 10) hx hb dX4_refresh_38 (by decide) ?_
  refine lv_iload_n hx hb dX4_refresh_10 rfl (lv_at hl 0 rfl) ?_
  refine lv_iconst (v := 4) hx hb dX4_refresh_11 (by decide) ?_
  refine lv_icmp_ge (tgt := 41) hx hb dX4_refresh_12 (by decide) (fun _ => ?_) (fun h9 => absurd (by decide) h9)
  refine lv_aload_n hx hb dX4_refresh_41 rfl (lv_at hl 1 rfl) ?_
  refine va_get (D := G.1) (ci := 4) (v := .ref sa) (C := RX4) (T := TX4) (N := 5) hx hb hts hw4 hown hE.1 hP 0 rfl rfl 3 (by decide) hf18 (fun _ h9 => h9) rfl dX4_refresh_42 ?_
  refine lv_iconst (v := 0) hx hb dX4_refresh_45 (by decide) ?_
  refine va_getsN hx hb hE.2.2.1.1 hS hown (va_Nw.use rfl hE.2.2.2.2.1.2.2.2.1) (fun _ h9 => h9) dX4_refresh_46 ?_
  refine lv_iconst (v := 0) hx hb dX4_refresh_49 (by decide) ?_
  refine va_ti (v := .int 268435456) hx hb hE.2.2.1.2 hS (zin (by decide +kernel)) rfl dX4_refresh_50 ?_
  refine va_iast hx hb hE.1 hP hD hS 4 0 rfl rfl (zin (by decide +kernel)) dX4_refresh_51 (fun H locs hP hD hS => ?_)
  have hP : va_P G.1 vwCl [(su, .inr (4, [.ref wa, .ref sl, .ref sh, .ref sa, .int 0])), (wa, .inr (6, [.ref ro, .int 0, .int 0])), (sl, .inl (G.2.1, 1024, .inl (upd (upd (upd (upd fl 0 0) 1 0) 2 0) 3 0))), (sh, .inl (G.2.1, 1024, .inl (upd (upd (upd (upd fh 0 255) 1 255) 2 1023) 3 3))), (sa, .inl (G.2.1, 256, .inl (upd fa 0 268435456)))] H := hP
  have hD : va_D A [(su, .inr (4, [.ref wa, .ref sl, .ref sh, .ref sa, .int 0])), (wa, .inr (6, [.ref ro, .int 0, .int 0])), (sl, .inl (G.2.1, 1024, .inl (upd (upd (upd (upd fl 0 0) 1 0) 2 0) 3 0))), (sh, .inl (G.2.1, 1024, .inl (upd (upd (upd (upd fh 0 255) 1 255) 2 1023) 3 3))), (sa, .inl (G.2.1, 256, .inl (upd fa 0 268435456)))] := hD
  refine lv_iconst (v := 1) hx hb dX4_refresh_52 (by decide) ?_
  refine lv_istore_n (lv' := [(1, .int 1), (0, .ref su)]) hx hb dX4_refresh_53 rfl hl (by decide) rfl (fun ls hl => ?_)
  refine lv_iload_n hx hb dX4_refresh_54 rfl (lv_at hl 0 rfl) ?_
  refine lv_aload_n hx hb dX4_refresh_55 rfl (lv_at hl 1 rfl) ?_
  refine zcall (wr := [(sl, .inl (G.2.1, 1024, .inl (upd (upd (upd (upd fl 0 0) 1 0) 2 0) 3 0))), (sh, .inl (G.2.1, 1024, .inl (upd (upd (upd (upd fh 0 255) 1 255) 2 1023) 3 3))), (sa, .inl (G.2.1, 256, .inl (upd fa 0 268435456)))]) (va_runV (As := []) (rest := [.int 1]) ⟨hx, hb, hml, hown, hts⟩ (z_X4_setCount l G su wa ro sl sh sa 0 H.size) (cwV 0 hts gX4_refresh_X4_setCount rfl rfl rfl (by decide +kernel) ⟨Nat.le_of_ble_eq_true rfl, Nat.le_of_ble_eq_true rfl⟩) (zPreV (Wc := [(su, .inr (4, [.ref wa, .ref sl, .ref sh, .ref sa, .int 0])), (wa, .inr (6, [.ref ro, .int 0, .int 0]))]) (q0 := 0) (ci := 4) (q := (RX4, TX4, 5)) hP hD hE hS hA [0, 1] rfl (by decide) rfl rfl) rfl rfl hl.1 rfl (lv_room (Nat.le_of_ble_eq_true rfl)) dX4_refresh_56 ⟨Nat.le_of_ble_eq_true rfl, Nat.le_of_ble_eq_true rfl⟩) hP hD hS hA [0, 1] [2, 3, 4] rfl rfl (by decide) (by decide) (fun u1 H locs hP hD hS => ?_)
  have hP : va_P G.1 vwCl [(sl, .inl (G.2.1, 1024, .inl (upd (upd (upd (upd fl 0 0) 1 0) 2 0) 3 0))), (sh, .inl (G.2.1, 1024, .inl (upd (upd (upd (upd fh 0 255) 1 255) 2 1023) 3 3))), (sa, .inl (G.2.1, 256, .inl (upd fa 0 268435456))), (su, .inr (4, [.ref wa, .ref sl, .ref sh, .ref sa, .int 0])), (wa, .inr (6, [.ref ro, .int 0, .int 0]))] H := hP
  have hD : va_D A [(sl, .inl (G.2.1, 1024, .inl (upd (upd (upd (upd fl 0 0) 1 0) 2 0) 3 0))), (sh, .inl (G.2.1, 1024, .inl (upd (upd (upd (upd fh 0 255) 1 255) 2 1023) 3 3))), (sa, .inl (G.2.1, 256, .inl (upd fa 0 268435456))), (su, .inr (4, [.ref wa, .ref sl, .ref sh, .ref sa, .int 0])), (wa, .inr (6, [.ref ro, .int 0, .int 0]))] := hD
  refine W.eq (g2 := F0 m 59 ls [.int 1, .int 1]) rfl ?_
  refine lv_icmp_ge (tgt := 73) hx hb dX4_refresh_59 (by decide) (fun _ => ?_) (fun h9 => absurd (by decide) h9)
  refine lv_aload_n hx hb dX4_refresh_73 rfl (lv_at hl 1 rfl) ?_
  refine zcall (wr := [(sl, .inl (G.2.1, 1024, .inl (upd (upd (upd (upd fl 0 0) 1 0) 2 0) 3 0))), (sh, .inl (G.2.1, 1024, .inl (upd (upd (upd (upd fh 0 255) 1 255) 2 1023) 3 3))), (sa, .inl (G.2.1, 256, .inl (upd fa 0 268435456)))]) (va_runV (As := []) (rest := []) ⟨hx, hb, hml, hown, hts⟩ (z_X4_takeOutLarger l G su wa ro sl sh sa 0 H.size) (cwV 0 hts gX4_refresh_X4_takeOutLarger rfl rfl rfl (by decide +kernel) ⟨Nat.le_of_ble_eq_true rfl, Nat.le_of_ble_eq_true rfl⟩) (zPreV (Wc := [(su, .inr (4, [.ref wa, .ref sl, .ref sh, .ref sa, .int 0])), (wa, .inr (6, [.ref ro, .int 0, .int 0]))]) (q0 := 3) (ci := 4) (q := (RX4, TX4, 5)) hP hD hE hS hA [3, 4] rfl (by decide) rfl rfl) rfl rfl hl.1 rfl (lv_room (Nat.le_of_ble_eq_true rfl)) dX4_refresh_74 ⟨Nat.le_of_ble_eq_true rfl, Nat.le_of_ble_eq_true rfl⟩) hP hD hS hA [3, 4] [0, 1, 2] rfl rfl (by decide) (by decide) (fun u2 H locs hP hD hS => ?_)
  have hP : va_P G.1 vwCl [(sl, .inl (G.2.1, 1024, .inl (upd (upd (upd (upd fl 0 0) 1 0) 2 0) 3 0))), (sh, .inl (G.2.1, 1024, .inl (upd (upd (upd (upd fh 0 255) 1 255) 2 1023) 3 3))), (sa, .inl (G.2.1, 256, .inl (upd fa 0 268435456))), (su, .inr (4, [.ref wa, .ref sl, .ref sh, .ref sa, .int 0])), (wa, .inr (6, [.ref ro, .int 0, .int 0]))] H := hP
  have hD : va_D A [(sl, .inl (G.2.1, 1024, .inl (upd (upd (upd (upd fl 0 0) 1 0) 2 0) 3 0))), (sh, .inl (G.2.1, 1024, .inl (upd (upd (upd (upd fh 0 255) 1 255) 2 1023) 3 3))), (sa, .inl (G.2.1, 256, .inl (upd fa 0 268435456))), (su, .inr (4, [.ref wa, .ref sl, .ref sh, .ref sa, .int 0])), (wa, .inr (6, [.ref ro, .int 0, .int 0]))] := hD
  refine W.eq (g2 := F0 m 77 ls []) rfl ?_
  refine lv_aload_n hx hb dX4_refresh_77 rfl (lv_at hl 1 rfl) ?_
  refine lv_iconst (v := 1) hx hb dX4_refresh_78 (by decide) ?_
  refine va_put (D := G.1) (ci := 4) (v := .int 1) (ty := tyX4 4) (C := RX4) (T := TX4) (N := 5) hx hb hts hw4 tyX4 tyX4_ok nmX4 hown hE.1 hP hD hS 3 rfl rfl 4 (by decide) hf25 (fun _ h9 => h9) rfl (by decide +kernel) rfl rfl (Nat.le_of_ble_eq_true rfl) dX4_refresh_79 (fun H locs hP hD hS => ?_)
  have hP : va_P G.1 vwCl [(sl, .inl (G.2.1, 1024, .inl (upd (upd (upd (upd fl 0 0) 1 0) 2 0) 3 0))), (sh, .inl (G.2.1, 1024, .inl (upd (upd (upd (upd fh 0 255) 1 255) 2 1023) 3 3))), (sa, .inl (G.2.1, 256, .inl (upd fa 0 268435456))), (su, .inr (4, [.ref wa, .ref sl, .ref sh, .ref sa, .int 1])), (wa, .inr (6, [.ref ro, .int 0, .int 0]))] H := hP
  have hD : va_D A [(sl, .inl (G.2.1, 1024, .inl (upd (upd (upd (upd fl 0 0) 1 0) 2 0) 3 0))), (sh, .inl (G.2.1, 1024, .inl (upd (upd (upd (upd fh 0 255) 1 255) 2 1023) 3 3))), (sa, .inl (G.2.1, 256, .inl (upd fa 0 268435456))), (su, .inr (4, [.ref wa, .ref sl, .ref sh, .ref sa, .int 1])), (wa, .inr (6, [.ref ro, .int 0, .int 0]))] := hD
  exact zend_v hx hb hr hlocks (fun k => [].getD k 0) hP hD hS (Nat.le_of_ble_eq_true rfl) (Nat.le_of_ble_eq_true rfl) dX4_refresh_82

set_option maxHeartbeats 4000000 in
set_option maxRecDepth 100000 in
theorem z_X4_amountAllowed (l : Launch) (G : zG) (su : Nat) (wa : Nat) (ro : Nat) (sl : Nat) (sh : Nat) (sa : Nat) (fsh : Int32) : zR l G yX4_amountAllowed wsX4_amountAllowed { frames := 2, cells := 0, slots := 0, locals := 44 } [(su, .inr (4, [.ref wa, .ref sl, .ref sh, .ref sa, .int fsh])), (wa, .inr (6, [.ref ro, .int 0, .int 0]))] [.ref su, .int 255] (some (.int 0)) (fun u => [(su, .inr (4, [.ref wa, .ref sl, .ref sh, .ref sa, .int fsh])), (wa, .inr (6, [.ref ro, .int 0, .int 0]))]) 0 0 := by
  refine zR_of (cc := cX4_amountAllowed) (maxL := 5) (rt := (some .int)) (by decide) rfl (Nat.le_of_ble_eq_true rfl) ?_
  intro p e s m below meth c A ls hx hb hml hr hts hown hlocks hin hA hE hP hD hS hl
  have hl : lv_has ls 5 [(0, .ref su), (1, .int 255)] := hl
  have hown : s.vm.findClass RX4 = some m.cls := hown
  have hP : va_P G.1 vwCl [(su, .inr (4, [.ref wa, .ref sl, .ref sh, .ref sa, .int fsh])), (wa, .inr (6, [.ref ro, .int 0, .int 0]))] s.heap := hP
  have hw4 : ∀ w ∈ u_ws RX4 TX4 5, w ∈ wsX4_amountAllowed := by decide +kernel
  have hf21 := hts (.fieldLink RX4 21 "Nettle$Survey" "wall" "LNettle$Wall;") (by decide +kernel)
  refine lv_aload_n hx hb dX4_amountAllowed_0 rfl (lv_at hl 0 rfl) ?_
  refine va_get (D := G.1) (ci := 4) (v := .ref wa) (C := RX4) (T := TX4) (N := 5) hx hb hts hw4 hown hE.1 hP 0 rfl rfl 0 (by decide) hf21 (fun _ h9 => h9) rfl dX4_amountAllowed_1 ?_
  refine zcall (wr := [(su, .inr (4, [.ref wa, .ref sl, .ref sh, .ref sa, .int fsh]))]) (va_runV (As := []) (rest := []) ⟨hx, hb, hml, hown, hts⟩ (z_X6_deciders l G wa ro s.heap.size) (cwV 0 hts gX4_amountAllowed_X6_deciders rfl rfl rfl (by decide +kernel) ⟨Nat.le_of_ble_eq_true rfl, Nat.le_of_ble_eq_true rfl⟩) (zPreV (Wc := [(wa, .inr (6, [.ref ro, .int 0, .int 0]))]) (q0 := 1) (ci := 6) (q := (RX6, TX6, 3)) hP hD hE hS hA [1] rfl (by decide) rfl rfl) rfl rfl hl.1 rfl (lv_room (Nat.le_of_ble_eq_true rfl)) dX4_amountAllowed_4 ⟨Nat.le_of_ble_eq_true rfl, Nat.le_of_ble_eq_true rfl⟩) hP hD hS hA [1] [0] rfl rfl (by decide) (by decide) (fun u1 H locs hP hD hS => ?_)
  have hP : va_P G.1 vwCl [(su, .inr (4, [.ref wa, .ref sl, .ref sh, .ref sa, .int fsh])), (wa, .inr (6, [.ref ro, .int 0, .int 0]))] H := hP
  have hD : va_D A [(su, .inr (4, [.ref wa, .ref sl, .ref sh, .ref sa, .int fsh])), (wa, .inr (6, [.ref ro, .int 0, .int 0]))] := hD
  refine W.eq (g2 := F0 m 7 ls [.int 0]) rfl ?_
  refine lv_iload_n hx hb dX4_amountAllowed_7 rfl (lv_at hl 1 rfl) ?_
  refine lv_iand hx hb dX4_amountAllowed_8 ?_
  refine zti (v := 0) (by decide) ?_
  refine lv_istore_n (lv' := [(2, .int 0), (0, .ref su), (1, .int 255)]) hx hb dX4_amountAllowed_9 rfl hl (by decide) rfl (fun ls hl => ?_)
  refine lv_iconst (v := 0) hx hb dX4_amountAllowed_10 (by decide) ?_
  refine lv_istore_n (lv' := [(3, .int 0), (2, .int 0), (0, .ref su), (1, .int 255)]) hx hb dX4_amountAllowed_11 rfl hl (by decide) rfl (fun ls hl => ?_)
  refine lv_iconst (v := 0) hx hb dX4_amountAllowed_12 (by decide) ?_
  refine lv_istore (lv' := [(4, .int 0), (3, .int 0), (2, .int 0), (0, .ref su), (1, .int 255)]) hx hb dX4_amountAllowed_13 hl (by decide) rfl (fun ls hl => ?_)
  refine lv_iload hx hb dX4_amountAllowed_15 (lv_at hl 0 rfl) ?_
  refine lv_aload_n hx hb dX4_amountAllowed_17 rfl (lv_at hl 3 rfl) ?_
  refine zcall (wr := []) (va_runV (As := []) (rest := [.int 0]) ⟨hx, hb, hml, hown, hts⟩ (z_X4_setCount l G su wa ro sl sh sa fsh H.size) (cwV 0 hts gX4_amountAllowed_X4_setCount rfl rfl rfl (by decide +kernel) ⟨Nat.le_of_ble_eq_true rfl, Nat.le_of_ble_eq_true rfl⟩) (zPreV (Wc := [(su, .inr (4, [.ref wa, .ref sl, .ref sh, .ref sa, .int fsh])), (wa, .inr (6, [.ref ro, .int 0, .int 0]))]) (q0 := 0) (ci := 4) (q := (RX4, TX4, 5)) hP hD hE hS hA [0, 1] rfl (by decide) rfl rfl) rfl rfl hl.1 rfl (lv_room (Nat.le_of_ble_eq_true rfl)) dX4_amountAllowed_18 ⟨Nat.le_of_ble_eq_true rfl, Nat.le_of_ble_eq_true rfl⟩) hP hD hS hA [0, 1] [] rfl rfl (by decide) (by decide) (fun u2 H locs hP hD hS => ?_)
  have hP : va_P G.1 vwCl [(su, .inr (4, [.ref wa, .ref sl, .ref sh, .ref sa, .int fsh])), (wa, .inr (6, [.ref ro, .int 0, .int 0]))] H := hP
  have hD : va_D A [(su, .inr (4, [.ref wa, .ref sl, .ref sh, .ref sa, .int fsh])), (wa, .inr (6, [.ref ro, .int 0, .int 0]))] := hD
  refine W.eq (g2 := F0 m 21 ls [.int 1, .int 0]) rfl ?_
  refine lv_icmp_ge (tgt := 54) hx hb dX4_amountAllowed_21 (by decide) (fun h9 => absurd h9 (by decide)) (fun _ => ?_)
  refine lv_aload_n hx hb dX4_amountAllowed_24 rfl (lv_at hl 3 rfl) ?_
  refine va_get (D := G.1) (ci := 4) (v := .ref wa) (C := RX4) (T := TX4) (N := 5) hx hb hts hw4 hown hE.1 hP 0 rfl rfl 0 (by decide) hf21 (fun _ h9 => h9) rfl dX4_amountAllowed_25 ?_
  refine lv_iload hx hb dX4_amountAllowed_28 (lv_at hl 0 rfl) ?_
  refine lv_iload_n hx hb dX4_amountAllowed_30 rfl (lv_at hl 2 rfl) ?_
  refine lv_iand hx hb dX4_amountAllowed_31 ?_
  refine zti (v := 0) (by decide) ?_
  refine zcall (wr := [(su, .inr (4, [.ref wa, .ref sl, .ref sh, .ref sa, .int fsh]))]) (va_runV (As := [.int 0]) (rest := []) ⟨hx, hb, hml, hown, hts⟩ (z_X6_allows l G wa ro 0 H.size) (cwV 1 hts gX4_amountAllowed_X6_allows rfl rfl rfl (by decide +kernel) ⟨Nat.le_of_ble_eq_true rfl, Nat.le_of_ble_eq_true rfl⟩) (zPreV (Wc := [(wa, .inr (6, [.ref ro, .int 0, .int 0]))]) (q0 := 1) (ci := 6) (q := (RX6, TX6, 3)) hP hD hE hS hA [1] rfl (by decide) rfl rfl) rfl rfl hl.1 rfl (lv_room (Nat.le_of_ble_eq_true rfl)) dX4_amountAllowed_32 ⟨Nat.le_of_ble_eq_true rfl, Nat.le_of_ble_eq_true rfl⟩) hP hD hS hA [1] [0] rfl rfl (by decide) (by decide) (fun u3 H locs hP hD hS => ?_)
  have hP : va_P G.1 vwCl [(su, .inr (4, [.ref wa, .ref sl, .ref sh, .ref sa, .int fsh])), (wa, .inr (6, [.ref ro, .int 0, .int 0]))] H := hP
  have hD : va_D A [(su, .inr (4, [.ref wa, .ref sl, .ref sh, .ref sa, .int fsh])), (wa, .inr (6, [.ref ro, .int 0, .int 0]))] := hD
  refine W.eq (g2 := F0 m 35 ls [.int 0]) rfl ?_
  refine lv_if_eq (tgt := 48) hx hb dX4_amountAllowed_35 (by decide) (fun _ => ?_) (fun h9 => absurd (by decide) h9)
  refine lv_iinc (v := 1) (lv' := [(4, .int 1), (3, .int 0), (2, .int 0), (0, .ref su), (1, .int 255)]) hx hb dX4_amountAllowed_48 hl (k := 0) rfl (by decide) (by decide) rfl (fun ls hl => ?_)
  refine lv_goto (tgt := 15) hx hb dX4_amountAllowed_51 (by decide) ?_
  refine lv_iload hx hb dX4_amountAllowed_15 (lv_at hl 0 rfl) ?_
  refine lv_aload_n hx hb dX4_amountAllowed_17 rfl (lv_at hl 3 rfl) ?_
  refine zcall (wr := []) (va_runV (As := []) (rest := [.int 1]) ⟨hx, hb, hml, hown, hts⟩ (z_X4_setCount l G su wa ro sl sh sa fsh H.size) (cwV 0 hts gX4_amountAllowed_X4_setCount rfl rfl rfl (by decide +kernel) ⟨Nat.le_of_ble_eq_true rfl, Nat.le_of_ble_eq_true rfl⟩) (zPreV (Wc := [(su, .inr (4, [.ref wa, .ref sl, .ref sh, .ref sa, .int fsh])), (wa, .inr (6, [.ref ro, .int 0, .int 0]))]) (q0 := 0) (ci := 4) (q := (RX4, TX4, 5)) hP hD hE hS hA [0, 1] rfl (by decide) rfl rfl) rfl rfl hl.1 rfl (lv_room (Nat.le_of_ble_eq_true rfl)) dX4_amountAllowed_18 ⟨Nat.le_of_ble_eq_true rfl, Nat.le_of_ble_eq_true rfl⟩) hP hD hS hA [0, 1] [] rfl rfl (by decide) (by decide) (fun u4 H locs hP hD hS => ?_)
  have hP : va_P G.1 vwCl [(su, .inr (4, [.ref wa, .ref sl, .ref sh, .ref sa, .int fsh])), (wa, .inr (6, [.ref ro, .int 0, .int 0]))] H := hP
  have hD : va_D A [(su, .inr (4, [.ref wa, .ref sl, .ref sh, .ref sa, .int fsh])), (wa, .inr (6, [.ref ro, .int 0, .int 0]))] := hD
  refine W.eq (g2 := F0 m 21 ls [.int 1, .int 1]) rfl ?_
  refine lv_icmp_ge (tgt := 54) hx hb dX4_amountAllowed_21 (by decide) (fun _ => ?_) (fun h9 => absurd (by decide) h9)
  refine lv_iload_n hx hb dX4_amountAllowed_54 rfl (lv_at hl 1 rfl) ?_
  exact zend_i hx hb hr hlocks (fun k => [].getD k 0) hP hD hS (Nat.le_of_ble_eq_true rfl) (Nat.le_of_ble_eq_true rfl) dX4_amountAllowed_55

set_option maxHeartbeats 4000000 in
set_option maxRecDepth 100000 in
theorem z_X1_cut0 (l : Launch) (G : zG) (cu : Nat) (wa : Nat) (wb : Nat) (ro : Nat) (rb : Nat) (cc : Nat) (cs : Nat) (cm : Nat) (fsh : Int32) (fc : Nat → Int32) (fs : Nat → Int32) (fm : Nat → Int32) : zR l G yX1_cut wsX1_cut { frames := 1, cells := 0, slots := 0, locals := 24 } [(cu, .inr (1, [.ref wa, .ref wb, .ref cc, .ref cs, .ref cm, .int fsh])), (wa, .inr (6, [.ref ro, .int 0, .int 0])), (wb, .inr (6, [.ref rb, .int 0, .int 0])), (cc, .inl (G.2.1, 4, .inl (fc))), (cs, .inl (G.2.1, 132, .inl (fs))), (cm, .inl (G.2.1, 132, .inl (fm)))] [.ref cu, .int 0] none (fun u => [(cu, .inr (1, [.ref wa, .ref wb, .ref cc, .ref cs, .ref cm, .int fsh])), (cc, .inl (G.2.1, 4, .inl (upd fc 0 1))), (cs, .inl (G.2.1, 132, .inl (upd fs 0 0))), (cm, .inl (G.2.1, 132, .inl (upd fm 0 0))), (wa, .inr (6, [.ref ro, .int 0, .int 0])), (wb, .inr (6, [.ref rb, .int 0, .int 0]))]) 0 0 := by
  refine zR_of (cc := cX1_cut) (maxL := 4) (rt := none) (by decide) rfl (Nat.le_of_ble_eq_true rfl) ?_
  intro p e s m below meth c A ls hx hb hml hr hts hown hlocks hin hA hE hP hD hS hl
  have hl : lv_has ls 4 [(0, .ref cu), (1, .int 0)] := hl
  have hown : s.vm.findClass RX1 = some m.cls := hown
  have hP : va_P G.1 vwCl [(cu, .inr (1, [.ref wa, .ref wb, .ref cc, .ref cs, .ref cm, .int fsh])), (wa, .inr (6, [.ref ro, .int 0, .int 0])), (wb, .inr (6, [.ref rb, .int 0, .int 0])), (cc, .inl (G.2.1, 4, .inl (fc))), (cs, .inl (G.2.1, 132, .inl (fs))), (cm, .inl (G.2.1, 132, .inl (fm)))] s.heap := hP
  have hw1 : ∀ w ∈ u_ws RX1 TX1 6, w ∈ wsX1_cut := by decide +kernel
  have hf15 := hts (.fieldLink RX1 15 "Nettle$Cuts" "starts" "[I") (by decide +kernel)
  have hf18 := hts (.fieldLink RX1 18 "Nettle$Cuts" "masks" "[I") (by decide +kernel)
  have hf21 := hts (.fieldLink RX1 21 "Nettle$Cuts" "now" "LNettle$Wall;") (by decide +kernel)
  have hf25 := hts (.fieldLink RX1 25 "Nettle$Cuts" "old" "LNettle$Wall;") (by decide +kernel)
  have hmamin := hts (.code Lib.Math.min.name Lib.Math.min.code 2 (some .int)) (by decide +kernel)
  have hml48 := hts (.methodLink RX1 48 Lib.Math.min.name) (by decide +kernel)
  have hstmin := hts (.static Lib.Math.min.name) (by decide +kernel)
  have hiniMath := hts (.initialized "java/lang/Math") (by decide +kernel)
  have hf9 := hts (.fieldLink RX1 9 "Nettle$Cuts" "counts" "[I") (by decide +kernel)
  refine lv_iconst (v := 0) hx hb dX1_cut_0 (by decide) ?_
  refine lv_istore_n (lv' := [(2, .int 0), (0, .ref cu), (1, .int 0)]) hx hb dX1_cut_1 rfl hl (by decide) rfl (fun ls hl => ?_)
  refine lv_iconst (v := 0) hx hb dX1_cut_2 (by decide) ?_
  refine lv_istore_n (lv' := [(3, .int 0), (2, .int 0), (0, .ref cu), (1, .int 0)]) hx hb dX1_cut_3 rfl hl (by decide) rfl (fun ls hl => ?_)
  refine lv_iload_n hx hb dX1_cut_4 rfl (lv_at hl 0 rfl) ?_
  refine lv_bipush (v := 33) hx hb dX1_cut_5 (by decide) ?_
  refine lv_icmp_ge (tgt := 92) hx hb dX1_cut_7 (by decide) (fun h9 => absurd h9 (by decide)) (fun _ => ?_)
  refine lv_iload_n hx hb dX1_cut_10 rfl (lv_at hl 1 rfl) ?_
  refine va_getsN hx hb hE.2.1.1 hS hown (va_Nw.use rfl hE.2.2.2.2.1.2.2.2.2.1) (fun _ h9 => h9) dX1_cut_11 ?_
  refine lv_iload_n hx hb dX1_cut_14 rfl (lv_at hl 3 rfl) ?_
  refine va_ti (v := .int 256) hx hb hE.2.1.2 hS (zin (by decide +kernel)) rfl dX1_cut_15 ?_
  refine lv_icmp_ge (tgt := 92) hx hb dX1_cut_16 (by decide) (fun h9 => absurd h9 (by decide)) (fun _ => ?_)
  refine lv_aload_n hx hb dX1_cut_19 rfl (lv_at hl 2 rfl) ?_
  refine va_get (D := G.1) (ci := 1) (v := .ref cs) (C := RX1) (T := TX1) (N := 6) hx hb hts hw1 hown hE.1 hP 0 rfl rfl 3 (by decide) hf15 (fun _ h9 => h9) rfl dX1_cut_20 ?_
  refine lv_iload_n hx hb dX1_cut_23 rfl (lv_at hl 3 rfl) ?_
  refine lv_bipush (v := 33) hx hb dX1_cut_24 (by decide) ?_
  refine lv_imul hx hb dX1_cut_26 ?_
  refine zti (v := 0) (by decide) ?_
  refine lv_iload_n hx hb dX1_cut_27 rfl (lv_at hl 0 rfl) ?_
  refine lv_iadd hx hb dX1_cut_28 ?_
  refine zti (v := 0) (by decide) ?_
  refine lv_iload_n hx hb dX1_cut_29 rfl (lv_at hl 1 rfl) ?_
  refine va_iast hx hb hE.1 hP hD hS 4 0 rfl rfl (zin (by decide +kernel)) dX1_cut_30 (fun H locs hP hD hS => ?_)
  have hP : va_P G.1 vwCl [(cu, .inr (1, [.ref wa, .ref wb, .ref cc, .ref cs, .ref cm, .int fsh])), (wa, .inr (6, [.ref ro, .int 0, .int 0])), (wb, .inr (6, [.ref rb, .int 0, .int 0])), (cc, .inl (G.2.1, 4, .inl (fc))), (cs, .inl (G.2.1, 132, .inl (upd fs 0 0))), (cm, .inl (G.2.1, 132, .inl (fm)))] H := hP
  have hD : va_D A [(cu, .inr (1, [.ref wa, .ref wb, .ref cc, .ref cs, .ref cm, .int fsh])), (wa, .inr (6, [.ref ro, .int 0, .int 0])), (wb, .inr (6, [.ref rb, .int 0, .int 0])), (cc, .inl (G.2.1, 4, .inl (fc))), (cs, .inl (G.2.1, 132, .inl (upd fs 0 0))), (cm, .inl (G.2.1, 132, .inl (fm)))] := hD
  refine lv_aload_n hx hb dX1_cut_31 rfl (lv_at hl 2 rfl) ?_
  refine va_get (D := G.1) (ci := 1) (v := .ref cm) (C := RX1) (T := TX1) (N := 6) hx hb hts hw1 hown hE.1 hP 0 rfl rfl 4 (by decide) hf18 (fun _ h9 => h9) rfl dX1_cut_32 ?_
  refine lv_iload_n hx hb dX1_cut_35 rfl (lv_at hl 3 rfl) ?_
  refine lv_bipush (v := 33) hx hb dX1_cut_36 (by decide) ?_
  refine lv_imul hx hb dX1_cut_38 ?_
  refine zti (v := 0) (by decide) ?_
  refine lv_iload_n hx hb dX1_cut_39 rfl (lv_at hl 0 rfl) ?_
  refine lv_iadd hx hb dX1_cut_40 ?_
  refine zti (v := 0) (by decide) ?_
  refine lv_aload_n hx hb dX1_cut_41 rfl (lv_at hl 2 rfl) ?_
  refine va_get (D := G.1) (ci := 1) (v := .ref wa) (C := RX1) (T := TX1) (N := 6) hx hb hts hw1 hown hE.1 hP 0 rfl rfl 0 (by decide) hf21 (fun _ h9 => h9) rfl dX1_cut_42 ?_
  refine lv_iload_n hx hb dX1_cut_45 rfl (lv_at hl 3 rfl) ?_
  refine lv_iload_n hx hb dX1_cut_46 rfl (lv_at hl 1 rfl) ?_
  refine zcall (wr := [(cu, .inr (1, [.ref wa, .ref wb, .ref cc, .ref cs, .ref cm, .int fsh])), (wb, .inr (6, [.ref rb, .int 0, .int 0])), (cc, .inl (G.2.1, 4, .inl (fc))), (cs, .inl (G.2.1, 132, .inl (upd fs 0 0))), (cm, .inl (G.2.1, 132, .inl (fm)))]) (va_runV (As := [.int 0, .int 0]) (rest := [.int 0, .ref cm]) ⟨hx, hb, hml, hown, hts⟩ (z_X6_having l G wa ro 0 0 H.size) (cwV 2 hts gX1_cut_X6_having rfl rfl rfl (by decide +kernel) ⟨Nat.le_of_ble_eq_true rfl, Nat.le_of_ble_eq_true rfl⟩) (zPreV (Wc := [(wa, .inr (6, [.ref ro, .int 0, .int 0]))]) (q0 := 1) (ci := 6) (q := (RX6, TX6, 3)) hP hD hE hS hA [1] rfl (by decide) rfl rfl) rfl rfl hl.1 rfl (lv_room (Nat.le_of_ble_eq_true rfl)) dX1_cut_47 ⟨Nat.le_of_ble_eq_true rfl, Nat.le_of_ble_eq_true rfl⟩) hP hD hS hA [1] [0, 2, 3, 4, 5] rfl rfl (by decide) (by decide) (fun u1 H locs hP hD hS => ?_)
  have hP : va_P G.1 vwCl [(cu, .inr (1, [.ref wa, .ref wb, .ref cc, .ref cs, .ref cm, .int fsh])), (wb, .inr (6, [.ref rb, .int 0, .int 0])), (cc, .inl (G.2.1, 4, .inl (fc))), (cs, .inl (G.2.1, 132, .inl (upd fs 0 0))), (cm, .inl (G.2.1, 132, .inl (fm))), (wa, .inr (6, [.ref ro, .int 0, .int 0]))] H := hP
  have hD : va_D A [(cu, .inr (1, [.ref wa, .ref wb, .ref cc, .ref cs, .ref cm, .int fsh])), (wb, .inr (6, [.ref rb, .int 0, .int 0])), (cc, .inl (G.2.1, 4, .inl (fc))), (cs, .inl (G.2.1, 132, .inl (upd fs 0 0))), (cm, .inl (G.2.1, 132, .inl (fm))), (wa, .inr (6, [.ref ro, .int 0, .int 0]))] := hD
  refine W.eq (g2 := F0 m 50 ls [.int 0, .int 0, .ref cm]) rfl ?_
  refine lv_aload_n hx hb dX1_cut_50 rfl (lv_at hl 2 rfl) ?_
  refine va_get (D := G.1) (ci := 1) (v := .ref wb) (C := RX1) (T := TX1) (N := 6) hx hb hts hw1 hown hE.1 hP 0 rfl rfl 1 (by decide) hf25 (fun _ h9 => h9) rfl dX1_cut_51 ?_
  refine lv_iload_n hx hb dX1_cut_54 rfl (lv_at hl 3 rfl) ?_
  refine lv_iload_n hx hb dX1_cut_55 rfl (lv_at hl 1 rfl) ?_
  refine zcall (wr := [(cu, .inr (1, [.ref wa, .ref wb, .ref cc, .ref cs, .ref cm, .int fsh])), (cc, .inl (G.2.1, 4, .inl (fc))), (cs, .inl (G.2.1, 132, .inl (upd fs 0 0))), (cm, .inl (G.2.1, 132, .inl (fm))), (wa, .inr (6, [.ref ro, .int 0, .int 0]))]) (va_runV (As := [.int 0, .int 0]) (rest := [.int 0, .int 0, .ref cm]) ⟨hx, hb, hml, hown, hts⟩ (z_X6_having l G wb rb 0 0 H.size) (cwV 2 hts gX1_cut_X6_having rfl rfl rfl (by decide +kernel) ⟨Nat.le_of_ble_eq_true rfl, Nat.le_of_ble_eq_true rfl⟩) (zPreV (Wc := [(wb, .inr (6, [.ref rb, .int 0, .int 0]))]) (q0 := 1) (ci := 6) (q := (RX6, TX6, 3)) hP hD hE hS hA [1] rfl (by decide) rfl rfl) rfl rfl hl.1 rfl (lv_room (Nat.le_of_ble_eq_true rfl)) dX1_cut_56 ⟨Nat.le_of_ble_eq_true rfl, Nat.le_of_ble_eq_true rfl⟩) hP hD hS hA [1] [0, 2, 3, 4, 5] rfl rfl (by decide) (by decide) (fun u2 H locs hP hD hS => ?_)
  have hP : va_P G.1 vwCl [(cu, .inr (1, [.ref wa, .ref wb, .ref cc, .ref cs, .ref cm, .int fsh])), (cc, .inl (G.2.1, 4, .inl (fc))), (cs, .inl (G.2.1, 132, .inl (upd fs 0 0))), (cm, .inl (G.2.1, 132, .inl (fm))), (wa, .inr (6, [.ref ro, .int 0, .int 0])), (wb, .inr (6, [.ref rb, .int 0, .int 0]))] H := hP
  have hD : va_D A [(cu, .inr (1, [.ref wa, .ref wb, .ref cc, .ref cs, .ref cm, .int fsh])), (cc, .inl (G.2.1, 4, .inl (fc))), (cs, .inl (G.2.1, 132, .inl (upd fs 0 0))), (cm, .inl (G.2.1, 132, .inl (fm))), (wa, .inr (6, [.ref ro, .int 0, .int 0])), (wb, .inr (6, [.ref rb, .int 0, .int 0]))] := hD
  refine W.eq (g2 := F0 m 59 ls [.int 0, .int 0, .int 0, .ref cm]) rfl ?_
  refine lv_bipush (v := 8) hx hb dX1_cut_59 (by decide) ?_
  refine lv_ishl hx hb dX1_cut_61 ?_
  refine zti (v := 0) (by decide) ?_
  refine lv_ior hx hb dX1_cut_62 ?_
  refine zti (v := 0) (by decide) ?_
  refine va_iast hx hb hE.1 hP hD hS 3 0 rfl rfl (zin (by decide +kernel)) dX1_cut_63 (fun H locs hP hD hS => ?_)
  have hP : va_P G.1 vwCl [(cu, .inr (1, [.ref wa, .ref wb, .ref cc, .ref cs, .ref cm, .int fsh])), (cc, .inl (G.2.1, 4, .inl (fc))), (cs, .inl (G.2.1, 132, .inl (upd fs 0 0))), (cm, .inl (G.2.1, 132, .inl (upd fm 0 0))), (wa, .inr (6, [.ref ro, .int 0, .int 0])), (wb, .inr (6, [.ref rb, .int 0, .int 0]))] H := hP
  have hD : va_D A [(cu, .inr (1, [.ref wa, .ref wb, .ref cc, .ref cs, .ref cm, .int fsh])), (cc, .inl (G.2.1, 4, .inl (fc))), (cs, .inl (G.2.1, 132, .inl (upd fs 0 0))), (cm, .inl (G.2.1, 132, .inl (upd fm 0 0))), (wa, .inr (6, [.ref ro, .int 0, .int 0])), (wb, .inr (6, [.ref rb, .int 0, .int 0]))] := hD
  refine lv_iinc (v := 1) (lv' := [(3, .int 1), (2, .int 0), (0, .ref cu), (1, .int 0)]) hx hb dX1_cut_64 hl (k := 0) rfl (by decide) (by decide) rfl (fun ls hl => ?_)
  refine lv_aload_n hx hb dX1_cut_67 rfl (lv_at hl 2 rfl) ?_
  refine va_get (D := G.1) (ci := 1) (v := .ref wa) (C := RX1) (T := TX1) (N := 6) hx hb hts hw1 hown hE.1 hP 0 rfl rfl 0 (by decide) hf21 (fun _ h9 => h9) rfl dX1_cut_68 ?_
  refine lv_iload_n hx hb dX1_cut_71 rfl (lv_at hl 3 rfl) ?_
  refine lv_iload_n hx hb dX1_cut_72 rfl (lv_at hl 1 rfl) ?_
  refine zcall (wr := [(cu, .inr (1, [.ref wa, .ref wb, .ref cc, .ref cs, .ref cm, .int fsh])), (cc, .inl (G.2.1, 4, .inl (fc))), (cs, .inl (G.2.1, 132, .inl (upd fs 0 0))), (cm, .inl (G.2.1, 132, .inl (upd fm 0 0))), (wb, .inr (6, [.ref rb, .int 0, .int 0]))]) (va_runV (As := [.int 0, .int 0]) (rest := []) ⟨hx, hb, hml, hown, hts⟩ (z_X6_nextCut0 l G wa ro H.size) (cwV 2 hts gX1_cut_X6_nextCut rfl rfl rfl (by decide +kernel) ⟨Nat.le_of_ble_eq_true rfl, Nat.le_of_ble_eq_true rfl⟩) (zPreV (Wc := [(wa, .inr (6, [.ref ro, .int 0, .int 0]))]) (q0 := 4) (ci := 6) (q := (RX6, TX6, 3)) hP hD hE hS hA [4] rfl (by decide) rfl rfl) rfl rfl hl.1 rfl (lv_room (Nat.le_of_ble_eq_true rfl)) dX1_cut_73 ⟨Nat.le_of_ble_eq_true rfl, Nat.le_of_ble_eq_true rfl⟩) hP hD hS hA [4] [0, 1, 2, 3, 5] rfl rfl (by decide) (by decide) (fun u3 H locs hP hD hS => ?_)
  have hP : va_P G.1 vwCl [(cu, .inr (1, [.ref wa, .ref wb, .ref cc, .ref cs, .ref cm, .int fsh])), (cc, .inl (G.2.1, 4, .inl (fc))), (cs, .inl (G.2.1, 132, .inl (upd fs 0 0))), (cm, .inl (G.2.1, 132, .inl (upd fm 0 0))), (wb, .inr (6, [.ref rb, .int 0, .int 0])), (wa, .inr (6, [.ref ro, .int 0, .int 0]))] H := hP
  have hD : va_D A [(cu, .inr (1, [.ref wa, .ref wb, .ref cc, .ref cs, .ref cm, .int fsh])), (cc, .inl (G.2.1, 4, .inl (fc))), (cs, .inl (G.2.1, 132, .inl (upd fs 0 0))), (cm, .inl (G.2.1, 132, .inl (upd fm 0 0))), (wb, .inr (6, [.ref rb, .int 0, .int 0])), (wa, .inr (6, [.ref ro, .int 0, .int 0]))] := hD
  refine W.eq (g2 := F0 m 76 ls [.int 256]) rfl ?_
  refine lv_aload_n hx hb dX1_cut_76 rfl (lv_at hl 2 rfl) ?_
  refine va_get (D := G.1) (ci := 1) (v := .ref wb) (C := RX1) (T := TX1) (N := 6) hx hb hts hw1 hown hE.1 hP 0 rfl rfl 1 (by decide) hf25 (fun _ h9 => h9) rfl dX1_cut_77 ?_
  refine lv_iload_n hx hb dX1_cut_80 rfl (lv_at hl 3 rfl) ?_
  refine lv_iload_n hx hb dX1_cut_81 rfl (lv_at hl 1 rfl) ?_
  refine zcall (wr := [(cu, .inr (1, [.ref wa, .ref wb, .ref cc, .ref cs, .ref cm, .int fsh])), (cc, .inl (G.2.1, 4, .inl (fc))), (cs, .inl (G.2.1, 132, .inl (upd fs 0 0))), (cm, .inl (G.2.1, 132, .inl (upd fm 0 0))), (wa, .inr (6, [.ref ro, .int 0, .int 0]))]) (va_runV (As := [.int 0, .int 0]) (rest := [.int 256]) ⟨hx, hb, hml, hown, hts⟩ (z_X6_nextCut0 l G wb rb H.size) (cwV 2 hts gX1_cut_X6_nextCut rfl rfl rfl (by decide +kernel) ⟨Nat.le_of_ble_eq_true rfl, Nat.le_of_ble_eq_true rfl⟩) (zPreV (Wc := [(wb, .inr (6, [.ref rb, .int 0, .int 0]))]) (q0 := 4) (ci := 6) (q := (RX6, TX6, 3)) hP hD hE hS hA [4] rfl (by decide) rfl rfl) rfl rfl hl.1 rfl (lv_room (Nat.le_of_ble_eq_true rfl)) dX1_cut_82 ⟨Nat.le_of_ble_eq_true rfl, Nat.le_of_ble_eq_true rfl⟩) hP hD hS hA [4] [0, 1, 2, 3, 5] rfl rfl (by decide) (by decide) (fun u4 H locs hP hD hS => ?_)
  have hP : va_P G.1 vwCl [(cu, .inr (1, [.ref wa, .ref wb, .ref cc, .ref cs, .ref cm, .int fsh])), (cc, .inl (G.2.1, 4, .inl (fc))), (cs, .inl (G.2.1, 132, .inl (upd fs 0 0))), (cm, .inl (G.2.1, 132, .inl (upd fm 0 0))), (wa, .inr (6, [.ref ro, .int 0, .int 0])), (wb, .inr (6, [.ref rb, .int 0, .int 0]))] H := hP
  have hD : va_D A [(cu, .inr (1, [.ref wa, .ref wb, .ref cc, .ref cs, .ref cm, .int fsh])), (cc, .inl (G.2.1, 4, .inl (fc))), (cs, .inl (G.2.1, 132, .inl (upd fs 0 0))), (cm, .inl (G.2.1, 132, .inl (upd fm 0 0))), (wa, .inr (6, [.ref ro, .int 0, .int 0])), (wb, .inr (6, [.ref rb, .int 0, .int 0]))] := hD
  refine W.eq (g2 := F0 m 85 ls [.int 256, .int 256]) rfl ?_
  refine va_mmin hx hb (hml.trans hl.1.symm) hown hml48 hstmin hiniMath hmamin (Nat.le_of_ble_eq_true rfl) (Nat.le_of_ble_eq_true rfl) (Nat.le_of_ble_eq_true rfl) (Nat.le_of_ble_eq_true rfl) dX1_cut_85 ?_
  refine zti (v := 256) (by decide) ?_
  refine lv_istore_n (lv' := [(2, .int 256), (3, .int 1), (0, .ref cu), (1, .int 0)]) hx hb dX1_cut_88 rfl hl (by decide) rfl (fun ls hl => ?_)
  refine lv_goto (tgt := 4) hx hb dX1_cut_89 (by decide) ?_
  refine lv_iload_n hx hb dX1_cut_4 rfl (lv_at hl 1 rfl) ?_
  refine lv_bipush (v := 33) hx hb dX1_cut_5 (by decide) ?_
  refine lv_icmp_ge (tgt := 92) hx hb dX1_cut_7 (by decide) (fun h9 => absurd h9 (by decide)) (fun _ => ?_)
  refine lv_iload_n hx hb dX1_cut_10 rfl (lv_at hl 0 rfl) ?_
  refine va_getsN hx hb hE.2.1.1 hS hown (va_Nw.use rfl hE.2.2.2.2.1.2.2.2.2.1) (fun _ h9 => h9) dX1_cut_11 ?_
  refine lv_iload_n hx hb dX1_cut_14 rfl (lv_at hl 3 rfl) ?_
  refine va_ti (v := .int 256) hx hb hE.2.1.2 hS (zin (by decide +kernel)) rfl dX1_cut_15 ?_
  refine lv_icmp_ge (tgt := 92) hx hb dX1_cut_16 (by decide) (fun _ => ?_) (fun h9 => absurd (by decide) h9)
  refine lv_aload_n hx hb dX1_cut_92 rfl (lv_at hl 2 rfl) ?_
  refine va_get (D := G.1) (ci := 1) (v := .ref cc) (C := RX1) (T := TX1) (N := 6) hx hb hts hw1 hown hE.1 hP 0 rfl rfl 2 (by decide) hf9 (fun _ h9 => h9) rfl dX1_cut_93 ?_
  refine lv_iload_n hx hb dX1_cut_96 rfl (lv_at hl 3 rfl) ?_
  refine lv_iload_n hx hb dX1_cut_97 rfl (lv_at hl 1 rfl) ?_
  refine va_iast hx hb hE.1 hP hD hS 1 0 rfl rfl (zin (by decide +kernel)) dX1_cut_98 (fun H locs hP hD hS => ?_)
  have hP : va_P G.1 vwCl [(cu, .inr (1, [.ref wa, .ref wb, .ref cc, .ref cs, .ref cm, .int fsh])), (cc, .inl (G.2.1, 4, .inl (upd fc 0 1))), (cs, .inl (G.2.1, 132, .inl (upd fs 0 0))), (cm, .inl (G.2.1, 132, .inl (upd fm 0 0))), (wa, .inr (6, [.ref ro, .int 0, .int 0])), (wb, .inr (6, [.ref rb, .int 0, .int 0]))] H := hP
  have hD : va_D A [(cu, .inr (1, [.ref wa, .ref wb, .ref cc, .ref cs, .ref cm, .int fsh])), (cc, .inl (G.2.1, 4, .inl (upd fc 0 1))), (cs, .inl (G.2.1, 132, .inl (upd fs 0 0))), (cm, .inl (G.2.1, 132, .inl (upd fm 0 0))), (wa, .inr (6, [.ref ro, .int 0, .int 0])), (wb, .inr (6, [.ref rb, .int 0, .int 0]))] := hD
  exact zend_v hx hb hr hlocks (fun k => [].getD k 0) hP hD hS (Nat.le_of_ble_eq_true rfl) (Nat.le_of_ble_eq_true rfl) dX1_cut_99

set_option maxHeartbeats 4000000 in
set_option maxRecDepth 100000 in
theorem z_X1_cut1 (l : Launch) (G : zG) (cu : Nat) (wa : Nat) (wb : Nat) (ro : Nat) (rb : Nat) (cc : Nat) (cs : Nat) (cm : Nat) (fsh : Int32) (fc : Nat → Int32) (fs : Nat → Int32) (fm : Nat → Int32) : zR l G yX1_cut wsX1_cut { frames := 1, cells := 0, slots := 0, locals := 24 } [(cu, .inr (1, [.ref wa, .ref wb, .ref cc, .ref cs, .ref cm, .int fsh])), (wa, .inr (6, [.ref ro, .int 0, .int 0])), (wb, .inr (6, [.ref rb, .int 0, .int 0])), (cc, .inl (G.2.1, 4, .inl (fc))), (cs, .inl (G.2.1, 132, .inl (fs))), (cm, .inl (G.2.1, 132, .inl (fm)))] [.ref cu, .int 1] none (fun u => [(cu, .inr (1, [.ref wa, .ref wb, .ref cc, .ref cs, .ref cm, .int fsh])), (cc, .inl (G.2.1, 4, .inl (upd fc 1 1))), (cs, .inl (G.2.1, 132, .inl (upd fs 33 0))), (cm, .inl (G.2.1, 132, .inl (upd fm 33 0))), (wa, .inr (6, [.ref ro, .int 0, .int 0])), (wb, .inr (6, [.ref rb, .int 0, .int 0]))]) 0 0 := by
  refine zR_of (cc := cX1_cut) (maxL := 4) (rt := none) (by decide) rfl (Nat.le_of_ble_eq_true rfl) ?_
  intro p e s m below meth c A ls hx hb hml hr hts hown hlocks hin hA hE hP hD hS hl
  have hl : lv_has ls 4 [(0, .ref cu), (1, .int 1)] := hl
  have hown : s.vm.findClass RX1 = some m.cls := hown
  have hP : va_P G.1 vwCl [(cu, .inr (1, [.ref wa, .ref wb, .ref cc, .ref cs, .ref cm, .int fsh])), (wa, .inr (6, [.ref ro, .int 0, .int 0])), (wb, .inr (6, [.ref rb, .int 0, .int 0])), (cc, .inl (G.2.1, 4, .inl (fc))), (cs, .inl (G.2.1, 132, .inl (fs))), (cm, .inl (G.2.1, 132, .inl (fm)))] s.heap := hP
  have hw1 : ∀ w ∈ u_ws RX1 TX1 6, w ∈ wsX1_cut := by decide +kernel
  have hf15 := hts (.fieldLink RX1 15 "Nettle$Cuts" "starts" "[I") (by decide +kernel)
  have hf18 := hts (.fieldLink RX1 18 "Nettle$Cuts" "masks" "[I") (by decide +kernel)
  have hf21 := hts (.fieldLink RX1 21 "Nettle$Cuts" "now" "LNettle$Wall;") (by decide +kernel)
  have hf25 := hts (.fieldLink RX1 25 "Nettle$Cuts" "old" "LNettle$Wall;") (by decide +kernel)
  have hmamin := hts (.code Lib.Math.min.name Lib.Math.min.code 2 (some .int)) (by decide +kernel)
  have hml48 := hts (.methodLink RX1 48 Lib.Math.min.name) (by decide +kernel)
  have hstmin := hts (.static Lib.Math.min.name) (by decide +kernel)
  have hiniMath := hts (.initialized "java/lang/Math") (by decide +kernel)
  have hf9 := hts (.fieldLink RX1 9 "Nettle$Cuts" "counts" "[I") (by decide +kernel)
  refine lv_iconst (v := 0) hx hb dX1_cut_0 (by decide) ?_
  refine lv_istore_n (lv' := [(2, .int 0), (0, .ref cu), (1, .int 1)]) hx hb dX1_cut_1 rfl hl (by decide) rfl (fun ls hl => ?_)
  refine lv_iconst (v := 0) hx hb dX1_cut_2 (by decide) ?_
  refine lv_istore_n (lv' := [(3, .int 0), (2, .int 0), (0, .ref cu), (1, .int 1)]) hx hb dX1_cut_3 rfl hl (by decide) rfl (fun ls hl => ?_)
  refine lv_iload_n hx hb dX1_cut_4 rfl (lv_at hl 0 rfl) ?_
  refine lv_bipush (v := 33) hx hb dX1_cut_5 (by decide) ?_
  refine lv_icmp_ge (tgt := 92) hx hb dX1_cut_7 (by decide) (fun h9 => absurd h9 (by decide)) (fun _ => ?_)
  refine lv_iload_n hx hb dX1_cut_10 rfl (lv_at hl 1 rfl) ?_
  refine va_getsN hx hb hE.2.1.1 hS hown (va_Nw.use rfl hE.2.2.2.2.1.2.2.2.2.1) (fun _ h9 => h9) dX1_cut_11 ?_
  refine lv_iload_n hx hb dX1_cut_14 rfl (lv_at hl 3 rfl) ?_
  refine va_ti (v := .int 256) hx hb hE.2.1.2 hS (zin (by decide +kernel)) rfl dX1_cut_15 ?_
  refine lv_icmp_ge (tgt := 92) hx hb dX1_cut_16 (by decide) (fun h9 => absurd h9 (by decide)) (fun _ => ?_)
  refine lv_aload_n hx hb dX1_cut_19 rfl (lv_at hl 2 rfl) ?_
  refine va_get (D := G.1) (ci := 1) (v := .ref cs) (C := RX1) (T := TX1) (N := 6) hx hb hts hw1 hown hE.1 hP 0 rfl rfl 3 (by decide) hf15 (fun _ h9 => h9) rfl dX1_cut_20 ?_
  refine lv_iload_n hx hb dX1_cut_23 rfl (lv_at hl 3 rfl) ?_
  refine lv_bipush (v := 33) hx hb dX1_cut_24 (by decide) ?_
  refine lv_imul hx hb dX1_cut_26 ?_
  refine zti (v := 33) (by decide) ?_
  refine lv_iload_n hx hb dX1_cut_27 rfl (lv_at hl 0 rfl) ?_
  refine lv_iadd hx hb dX1_cut_28 ?_
  refine zti (v := 33) (by decide) ?_
  refine lv_iload_n hx hb dX1_cut_29 rfl (lv_at hl 1 rfl) ?_
  refine va_iast hx hb hE.1 hP hD hS 4 0 rfl rfl (zin (by decide +kernel)) dX1_cut_30 (fun H locs hP hD hS => ?_)
  have hP : va_P G.1 vwCl [(cu, .inr (1, [.ref wa, .ref wb, .ref cc, .ref cs, .ref cm, .int fsh])), (wa, .inr (6, [.ref ro, .int 0, .int 0])), (wb, .inr (6, [.ref rb, .int 0, .int 0])), (cc, .inl (G.2.1, 4, .inl (fc))), (cs, .inl (G.2.1, 132, .inl (upd fs 33 0))), (cm, .inl (G.2.1, 132, .inl (fm)))] H := hP
  have hD : va_D A [(cu, .inr (1, [.ref wa, .ref wb, .ref cc, .ref cs, .ref cm, .int fsh])), (wa, .inr (6, [.ref ro, .int 0, .int 0])), (wb, .inr (6, [.ref rb, .int 0, .int 0])), (cc, .inl (G.2.1, 4, .inl (fc))), (cs, .inl (G.2.1, 132, .inl (upd fs 33 0))), (cm, .inl (G.2.1, 132, .inl (fm)))] := hD
  refine lv_aload_n hx hb dX1_cut_31 rfl (lv_at hl 2 rfl) ?_
  refine va_get (D := G.1) (ci := 1) (v := .ref cm) (C := RX1) (T := TX1) (N := 6) hx hb hts hw1 hown hE.1 hP 0 rfl rfl 4 (by decide) hf18 (fun _ h9 => h9) rfl dX1_cut_32 ?_
  refine lv_iload_n hx hb dX1_cut_35 rfl (lv_at hl 3 rfl) ?_
  refine lv_bipush (v := 33) hx hb dX1_cut_36 (by decide) ?_
  refine lv_imul hx hb dX1_cut_38 ?_
  refine zti (v := 33) (by decide) ?_
  refine lv_iload_n hx hb dX1_cut_39 rfl (lv_at hl 0 rfl) ?_
  refine lv_iadd hx hb dX1_cut_40 ?_
  refine zti (v := 33) (by decide) ?_
  refine lv_aload_n hx hb dX1_cut_41 rfl (lv_at hl 2 rfl) ?_
  refine va_get (D := G.1) (ci := 1) (v := .ref wa) (C := RX1) (T := TX1) (N := 6) hx hb hts hw1 hown hE.1 hP 0 rfl rfl 0 (by decide) hf21 (fun _ h9 => h9) rfl dX1_cut_42 ?_
  refine lv_iload_n hx hb dX1_cut_45 rfl (lv_at hl 3 rfl) ?_
  refine lv_iload_n hx hb dX1_cut_46 rfl (lv_at hl 1 rfl) ?_
  refine zcall (wr := [(cu, .inr (1, [.ref wa, .ref wb, .ref cc, .ref cs, .ref cm, .int fsh])), (wb, .inr (6, [.ref rb, .int 0, .int 0])), (cc, .inl (G.2.1, 4, .inl (fc))), (cs, .inl (G.2.1, 132, .inl (upd fs 33 0))), (cm, .inl (G.2.1, 132, .inl (fm)))]) (va_runV (As := [.int 1, .int 0]) (rest := [.int 33, .ref cm]) ⟨hx, hb, hml, hown, hts⟩ (z_X6_having l G wa ro 1 0 H.size) (cwV 2 hts gX1_cut_X6_having rfl rfl rfl (by decide +kernel) ⟨Nat.le_of_ble_eq_true rfl, Nat.le_of_ble_eq_true rfl⟩) (zPreV (Wc := [(wa, .inr (6, [.ref ro, .int 0, .int 0]))]) (q0 := 1) (ci := 6) (q := (RX6, TX6, 3)) hP hD hE hS hA [1] rfl (by decide) rfl rfl) rfl rfl hl.1 rfl (lv_room (Nat.le_of_ble_eq_true rfl)) dX1_cut_47 ⟨Nat.le_of_ble_eq_true rfl, Nat.le_of_ble_eq_true rfl⟩) hP hD hS hA [1] [0, 2, 3, 4, 5] rfl rfl (by decide) (by decide) (fun u1 H locs hP hD hS => ?_)
  have hP : va_P G.1 vwCl [(cu, .inr (1, [.ref wa, .ref wb, .ref cc, .ref cs, .ref cm, .int fsh])), (wb, .inr (6, [.ref rb, .int 0, .int 0])), (cc, .inl (G.2.1, 4, .inl (fc))), (cs, .inl (G.2.1, 132, .inl (upd fs 33 0))), (cm, .inl (G.2.1, 132, .inl (fm))), (wa, .inr (6, [.ref ro, .int 0, .int 0]))] H := hP
  have hD : va_D A [(cu, .inr (1, [.ref wa, .ref wb, .ref cc, .ref cs, .ref cm, .int fsh])), (wb, .inr (6, [.ref rb, .int 0, .int 0])), (cc, .inl (G.2.1, 4, .inl (fc))), (cs, .inl (G.2.1, 132, .inl (upd fs 33 0))), (cm, .inl (G.2.1, 132, .inl (fm))), (wa, .inr (6, [.ref ro, .int 0, .int 0]))] := hD
  refine W.eq (g2 := F0 m 50 ls [.int 0, .int 33, .ref cm]) rfl ?_
  refine lv_aload_n hx hb dX1_cut_50 rfl (lv_at hl 2 rfl) ?_
  refine va_get (D := G.1) (ci := 1) (v := .ref wb) (C := RX1) (T := TX1) (N := 6) hx hb hts hw1 hown hE.1 hP 0 rfl rfl 1 (by decide) hf25 (fun _ h9 => h9) rfl dX1_cut_51 ?_
  refine lv_iload_n hx hb dX1_cut_54 rfl (lv_at hl 3 rfl) ?_
  refine lv_iload_n hx hb dX1_cut_55 rfl (lv_at hl 1 rfl) ?_
  refine zcall (wr := [(cu, .inr (1, [.ref wa, .ref wb, .ref cc, .ref cs, .ref cm, .int fsh])), (cc, .inl (G.2.1, 4, .inl (fc))), (cs, .inl (G.2.1, 132, .inl (upd fs 33 0))), (cm, .inl (G.2.1, 132, .inl (fm))), (wa, .inr (6, [.ref ro, .int 0, .int 0]))]) (va_runV (As := [.int 1, .int 0]) (rest := [.int 0, .int 33, .ref cm]) ⟨hx, hb, hml, hown, hts⟩ (z_X6_having l G wb rb 1 0 H.size) (cwV 2 hts gX1_cut_X6_having rfl rfl rfl (by decide +kernel) ⟨Nat.le_of_ble_eq_true rfl, Nat.le_of_ble_eq_true rfl⟩) (zPreV (Wc := [(wb, .inr (6, [.ref rb, .int 0, .int 0]))]) (q0 := 1) (ci := 6) (q := (RX6, TX6, 3)) hP hD hE hS hA [1] rfl (by decide) rfl rfl) rfl rfl hl.1 rfl (lv_room (Nat.le_of_ble_eq_true rfl)) dX1_cut_56 ⟨Nat.le_of_ble_eq_true rfl, Nat.le_of_ble_eq_true rfl⟩) hP hD hS hA [1] [0, 2, 3, 4, 5] rfl rfl (by decide) (by decide) (fun u2 H locs hP hD hS => ?_)
  have hP : va_P G.1 vwCl [(cu, .inr (1, [.ref wa, .ref wb, .ref cc, .ref cs, .ref cm, .int fsh])), (cc, .inl (G.2.1, 4, .inl (fc))), (cs, .inl (G.2.1, 132, .inl (upd fs 33 0))), (cm, .inl (G.2.1, 132, .inl (fm))), (wa, .inr (6, [.ref ro, .int 0, .int 0])), (wb, .inr (6, [.ref rb, .int 0, .int 0]))] H := hP
  have hD : va_D A [(cu, .inr (1, [.ref wa, .ref wb, .ref cc, .ref cs, .ref cm, .int fsh])), (cc, .inl (G.2.1, 4, .inl (fc))), (cs, .inl (G.2.1, 132, .inl (upd fs 33 0))), (cm, .inl (G.2.1, 132, .inl (fm))), (wa, .inr (6, [.ref ro, .int 0, .int 0])), (wb, .inr (6, [.ref rb, .int 0, .int 0]))] := hD
  refine W.eq (g2 := F0 m 59 ls [.int 0, .int 0, .int 33, .ref cm]) rfl ?_
  refine lv_bipush (v := 8) hx hb dX1_cut_59 (by decide) ?_
  refine lv_ishl hx hb dX1_cut_61 ?_
  refine zti (v := 0) (by decide) ?_
  refine lv_ior hx hb dX1_cut_62 ?_
  refine zti (v := 0) (by decide) ?_
  refine va_iast hx hb hE.1 hP hD hS 3 0 rfl rfl (zin (by decide +kernel)) dX1_cut_63 (fun H locs hP hD hS => ?_)
  have hP : va_P G.1 vwCl [(cu, .inr (1, [.ref wa, .ref wb, .ref cc, .ref cs, .ref cm, .int fsh])), (cc, .inl (G.2.1, 4, .inl (fc))), (cs, .inl (G.2.1, 132, .inl (upd fs 33 0))), (cm, .inl (G.2.1, 132, .inl (upd fm 33 0))), (wa, .inr (6, [.ref ro, .int 0, .int 0])), (wb, .inr (6, [.ref rb, .int 0, .int 0]))] H := hP
  have hD : va_D A [(cu, .inr (1, [.ref wa, .ref wb, .ref cc, .ref cs, .ref cm, .int fsh])), (cc, .inl (G.2.1, 4, .inl (fc))), (cs, .inl (G.2.1, 132, .inl (upd fs 33 0))), (cm, .inl (G.2.1, 132, .inl (upd fm 33 0))), (wa, .inr (6, [.ref ro, .int 0, .int 0])), (wb, .inr (6, [.ref rb, .int 0, .int 0]))] := hD
  refine lv_iinc (v := 1) (lv' := [(3, .int 1), (2, .int 0), (0, .ref cu), (1, .int 1)]) hx hb dX1_cut_64 hl (k := 0) rfl (by decide) (by decide) rfl (fun ls hl => ?_)
  refine lv_aload_n hx hb dX1_cut_67 rfl (lv_at hl 2 rfl) ?_
  refine va_get (D := G.1) (ci := 1) (v := .ref wa) (C := RX1) (T := TX1) (N := 6) hx hb hts hw1 hown hE.1 hP 0 rfl rfl 0 (by decide) hf21 (fun _ h9 => h9) rfl dX1_cut_68 ?_
  refine lv_iload_n hx hb dX1_cut_71 rfl (lv_at hl 3 rfl) ?_
  refine lv_iload_n hx hb dX1_cut_72 rfl (lv_at hl 1 rfl) ?_
  refine zcall (wr := [(cu, .inr (1, [.ref wa, .ref wb, .ref cc, .ref cs, .ref cm, .int fsh])), (cc, .inl (G.2.1, 4, .inl (fc))), (cs, .inl (G.2.1, 132, .inl (upd fs 33 0))), (cm, .inl (G.2.1, 132, .inl (upd fm 33 0))), (wb, .inr (6, [.ref rb, .int 0, .int 0]))]) (va_runV (As := [.int 1, .int 0]) (rest := []) ⟨hx, hb, hml, hown, hts⟩ (z_X6_nextCut1 l G wa ro H.size) (cwV 2 hts gX1_cut_X6_nextCut rfl rfl rfl (by decide +kernel) ⟨Nat.le_of_ble_eq_true rfl, Nat.le_of_ble_eq_true rfl⟩) (zPreV (Wc := [(wa, .inr (6, [.ref ro, .int 0, .int 0]))]) (q0 := 4) (ci := 6) (q := (RX6, TX6, 3)) hP hD hE hS hA [4] rfl (by decide) rfl rfl) rfl rfl hl.1 rfl (lv_room (Nat.le_of_ble_eq_true rfl)) dX1_cut_73 ⟨Nat.le_of_ble_eq_true rfl, Nat.le_of_ble_eq_true rfl⟩) hP hD hS hA [4] [0, 1, 2, 3, 5] rfl rfl (by decide) (by decide) (fun u3 H locs hP hD hS => ?_)
  have hP : va_P G.1 vwCl [(cu, .inr (1, [.ref wa, .ref wb, .ref cc, .ref cs, .ref cm, .int fsh])), (cc, .inl (G.2.1, 4, .inl (fc))), (cs, .inl (G.2.1, 132, .inl (upd fs 33 0))), (cm, .inl (G.2.1, 132, .inl (upd fm 33 0))), (wb, .inr (6, [.ref rb, .int 0, .int 0])), (wa, .inr (6, [.ref ro, .int 0, .int 0]))] H := hP
  have hD : va_D A [(cu, .inr (1, [.ref wa, .ref wb, .ref cc, .ref cs, .ref cm, .int fsh])), (cc, .inl (G.2.1, 4, .inl (fc))), (cs, .inl (G.2.1, 132, .inl (upd fs 33 0))), (cm, .inl (G.2.1, 132, .inl (upd fm 33 0))), (wb, .inr (6, [.ref rb, .int 0, .int 0])), (wa, .inr (6, [.ref ro, .int 0, .int 0]))] := hD
  refine W.eq (g2 := F0 m 76 ls [.int 256]) rfl ?_
  refine lv_aload_n hx hb dX1_cut_76 rfl (lv_at hl 2 rfl) ?_
  refine va_get (D := G.1) (ci := 1) (v := .ref wb) (C := RX1) (T := TX1) (N := 6) hx hb hts hw1 hown hE.1 hP 0 rfl rfl 1 (by decide) hf25 (fun _ h9 => h9) rfl dX1_cut_77 ?_
  refine lv_iload_n hx hb dX1_cut_80 rfl (lv_at hl 3 rfl) ?_
  refine lv_iload_n hx hb dX1_cut_81 rfl (lv_at hl 1 rfl) ?_
  refine zcall (wr := [(cu, .inr (1, [.ref wa, .ref wb, .ref cc, .ref cs, .ref cm, .int fsh])), (cc, .inl (G.2.1, 4, .inl (fc))), (cs, .inl (G.2.1, 132, .inl (upd fs 33 0))), (cm, .inl (G.2.1, 132, .inl (upd fm 33 0))), (wa, .inr (6, [.ref ro, .int 0, .int 0]))]) (va_runV (As := [.int 1, .int 0]) (rest := [.int 256]) ⟨hx, hb, hml, hown, hts⟩ (z_X6_nextCut1 l G wb rb H.size) (cwV 2 hts gX1_cut_X6_nextCut rfl rfl rfl (by decide +kernel) ⟨Nat.le_of_ble_eq_true rfl, Nat.le_of_ble_eq_true rfl⟩) (zPreV (Wc := [(wb, .inr (6, [.ref rb, .int 0, .int 0]))]) (q0 := 4) (ci := 6) (q := (RX6, TX6, 3)) hP hD hE hS hA [4] rfl (by decide) rfl rfl) rfl rfl hl.1 rfl (lv_room (Nat.le_of_ble_eq_true rfl)) dX1_cut_82 ⟨Nat.le_of_ble_eq_true rfl, Nat.le_of_ble_eq_true rfl⟩) hP hD hS hA [4] [0, 1, 2, 3, 5] rfl rfl (by decide) (by decide) (fun u4 H locs hP hD hS => ?_)
  have hP : va_P G.1 vwCl [(cu, .inr (1, [.ref wa, .ref wb, .ref cc, .ref cs, .ref cm, .int fsh])), (cc, .inl (G.2.1, 4, .inl (fc))), (cs, .inl (G.2.1, 132, .inl (upd fs 33 0))), (cm, .inl (G.2.1, 132, .inl (upd fm 33 0))), (wa, .inr (6, [.ref ro, .int 0, .int 0])), (wb, .inr (6, [.ref rb, .int 0, .int 0]))] H := hP
  have hD : va_D A [(cu, .inr (1, [.ref wa, .ref wb, .ref cc, .ref cs, .ref cm, .int fsh])), (cc, .inl (G.2.1, 4, .inl (fc))), (cs, .inl (G.2.1, 132, .inl (upd fs 33 0))), (cm, .inl (G.2.1, 132, .inl (upd fm 33 0))), (wa, .inr (6, [.ref ro, .int 0, .int 0])), (wb, .inr (6, [.ref rb, .int 0, .int 0]))] := hD
  refine W.eq (g2 := F0 m 85 ls [.int 256, .int 256]) rfl ?_
  refine va_mmin hx hb (hml.trans hl.1.symm) hown hml48 hstmin hiniMath hmamin (Nat.le_of_ble_eq_true rfl) (Nat.le_of_ble_eq_true rfl) (Nat.le_of_ble_eq_true rfl) (Nat.le_of_ble_eq_true rfl) dX1_cut_85 ?_
  refine zti (v := 256) (by decide) ?_
  refine lv_istore_n (lv' := [(2, .int 256), (3, .int 1), (0, .ref cu), (1, .int 1)]) hx hb dX1_cut_88 rfl hl (by decide) rfl (fun ls hl => ?_)
  refine lv_goto (tgt := 4) hx hb dX1_cut_89 (by decide) ?_
  refine lv_iload_n hx hb dX1_cut_4 rfl (lv_at hl 1 rfl) ?_
  refine lv_bipush (v := 33) hx hb dX1_cut_5 (by decide) ?_
  refine lv_icmp_ge (tgt := 92) hx hb dX1_cut_7 (by decide) (fun h9 => absurd h9 (by decide)) (fun _ => ?_)
  refine lv_iload_n hx hb dX1_cut_10 rfl (lv_at hl 0 rfl) ?_
  refine va_getsN hx hb hE.2.1.1 hS hown (va_Nw.use rfl hE.2.2.2.2.1.2.2.2.2.1) (fun _ h9 => h9) dX1_cut_11 ?_
  refine lv_iload_n hx hb dX1_cut_14 rfl (lv_at hl 3 rfl) ?_
  refine va_ti (v := .int 256) hx hb hE.2.1.2 hS (zin (by decide +kernel)) rfl dX1_cut_15 ?_
  refine lv_icmp_ge (tgt := 92) hx hb dX1_cut_16 (by decide) (fun _ => ?_) (fun h9 => absurd (by decide) h9)
  refine lv_aload_n hx hb dX1_cut_92 rfl (lv_at hl 2 rfl) ?_
  refine va_get (D := G.1) (ci := 1) (v := .ref cc) (C := RX1) (T := TX1) (N := 6) hx hb hts hw1 hown hE.1 hP 0 rfl rfl 2 (by decide) hf9 (fun _ h9 => h9) rfl dX1_cut_93 ?_
  refine lv_iload_n hx hb dX1_cut_96 rfl (lv_at hl 3 rfl) ?_
  refine lv_iload_n hx hb dX1_cut_97 rfl (lv_at hl 1 rfl) ?_
  refine va_iast hx hb hE.1 hP hD hS 1 0 rfl rfl (zin (by decide +kernel)) dX1_cut_98 (fun H locs hP hD hS => ?_)
  have hP : va_P G.1 vwCl [(cu, .inr (1, [.ref wa, .ref wb, .ref cc, .ref cs, .ref cm, .int fsh])), (cc, .inl (G.2.1, 4, .inl (upd fc 1 1))), (cs, .inl (G.2.1, 132, .inl (upd fs 33 0))), (cm, .inl (G.2.1, 132, .inl (upd fm 33 0))), (wa, .inr (6, [.ref ro, .int 0, .int 0])), (wb, .inr (6, [.ref rb, .int 0, .int 0]))] H := hP
  have hD : va_D A [(cu, .inr (1, [.ref wa, .ref wb, .ref cc, .ref cs, .ref cm, .int fsh])), (cc, .inl (G.2.1, 4, .inl (upd fc 1 1))), (cs, .inl (G.2.1, 132, .inl (upd fs 33 0))), (cm, .inl (G.2.1, 132, .inl (upd fm 33 0))), (wa, .inr (6, [.ref ro, .int 0, .int 0])), (wb, .inr (6, [.ref rb, .int 0, .int 0]))] := hD
  exact zend_v hx hb hr hlocks (fun k => [].getD k 0) hP hD hS (Nat.le_of_ble_eq_true rfl) (Nat.le_of_ble_eq_true rfl) dX1_cut_99

set_option maxHeartbeats 4000000 in
set_option maxRecDepth 100000 in
theorem z_X1_cut2 (l : Launch) (G : zG) (cu : Nat) (wa : Nat) (wb : Nat) (ro : Nat) (rb : Nat) (cc : Nat) (cs : Nat) (cm : Nat) (fsh : Int32) (fc : Nat → Int32) (fs : Nat → Int32) (fm : Nat → Int32) : zR l G yX1_cut wsX1_cut { frames := 1, cells := 0, slots := 0, locals := 24 } [(cu, .inr (1, [.ref wa, .ref wb, .ref cc, .ref cs, .ref cm, .int fsh])), (wa, .inr (6, [.ref ro, .int 0, .int 0])), (wb, .inr (6, [.ref rb, .int 0, .int 0])), (cc, .inl (G.2.1, 4, .inl (fc))), (cs, .inl (G.2.1, 132, .inl (fs))), (cm, .inl (G.2.1, 132, .inl (fm)))] [.ref cu, .int 2] none (fun u => [(cu, .inr (1, [.ref wa, .ref wb, .ref cc, .ref cs, .ref cm, .int fsh])), (cc, .inl (G.2.1, 4, .inl (upd fc 2 1))), (cs, .inl (G.2.1, 132, .inl (upd fs 66 0))), (cm, .inl (G.2.1, 132, .inl (upd fm 66 0))), (wa, .inr (6, [.ref ro, .int 0, .int 0])), (wb, .inr (6, [.ref rb, .int 0, .int 0]))]) 0 0 := by
  refine zR_of (cc := cX1_cut) (maxL := 4) (rt := none) (by decide) rfl (Nat.le_of_ble_eq_true rfl) ?_
  intro p e s m below meth c A ls hx hb hml hr hts hown hlocks hin hA hE hP hD hS hl
  have hl : lv_has ls 4 [(0, .ref cu), (1, .int 2)] := hl
  have hown : s.vm.findClass RX1 = some m.cls := hown
  have hP : va_P G.1 vwCl [(cu, .inr (1, [.ref wa, .ref wb, .ref cc, .ref cs, .ref cm, .int fsh])), (wa, .inr (6, [.ref ro, .int 0, .int 0])), (wb, .inr (6, [.ref rb, .int 0, .int 0])), (cc, .inl (G.2.1, 4, .inl (fc))), (cs, .inl (G.2.1, 132, .inl (fs))), (cm, .inl (G.2.1, 132, .inl (fm)))] s.heap := hP
  have hw1 : ∀ w ∈ u_ws RX1 TX1 6, w ∈ wsX1_cut := by decide +kernel
  have hf15 := hts (.fieldLink RX1 15 "Nettle$Cuts" "starts" "[I") (by decide +kernel)
  have hf18 := hts (.fieldLink RX1 18 "Nettle$Cuts" "masks" "[I") (by decide +kernel)
  have hf21 := hts (.fieldLink RX1 21 "Nettle$Cuts" "now" "LNettle$Wall;") (by decide +kernel)
  have hf25 := hts (.fieldLink RX1 25 "Nettle$Cuts" "old" "LNettle$Wall;") (by decide +kernel)
  have hmamin := hts (.code Lib.Math.min.name Lib.Math.min.code 2 (some .int)) (by decide +kernel)
  have hml48 := hts (.methodLink RX1 48 Lib.Math.min.name) (by decide +kernel)
  have hstmin := hts (.static Lib.Math.min.name) (by decide +kernel)
  have hiniMath := hts (.initialized "java/lang/Math") (by decide +kernel)
  have hf9 := hts (.fieldLink RX1 9 "Nettle$Cuts" "counts" "[I") (by decide +kernel)
  refine lv_iconst (v := 0) hx hb dX1_cut_0 (by decide) ?_
  refine lv_istore_n (lv' := [(2, .int 0), (0, .ref cu), (1, .int 2)]) hx hb dX1_cut_1 rfl hl (by decide) rfl (fun ls hl => ?_)
  refine lv_iconst (v := 0) hx hb dX1_cut_2 (by decide) ?_
  refine lv_istore_n (lv' := [(3, .int 0), (2, .int 0), (0, .ref cu), (1, .int 2)]) hx hb dX1_cut_3 rfl hl (by decide) rfl (fun ls hl => ?_)
  refine lv_iload_n hx hb dX1_cut_4 rfl (lv_at hl 0 rfl) ?_
  refine lv_bipush (v := 33) hx hb dX1_cut_5 (by decide) ?_
  refine lv_icmp_ge (tgt := 92) hx hb dX1_cut_7 (by decide) (fun h9 => absurd h9 (by decide)) (fun _ => ?_)
  refine lv_iload_n hx hb dX1_cut_10 rfl (lv_at hl 1 rfl) ?_
  refine va_getsN hx hb hE.2.1.1 hS hown (va_Nw.use rfl hE.2.2.2.2.1.2.2.2.2.1) (fun _ h9 => h9) dX1_cut_11 ?_
  refine lv_iload_n hx hb dX1_cut_14 rfl (lv_at hl 3 rfl) ?_
  refine va_ti (v := .int 1024) hx hb hE.2.1.2 hS (zin (by decide +kernel)) rfl dX1_cut_15 ?_
  refine lv_icmp_ge (tgt := 92) hx hb dX1_cut_16 (by decide) (fun h9 => absurd h9 (by decide)) (fun _ => ?_)
  refine lv_aload_n hx hb dX1_cut_19 rfl (lv_at hl 2 rfl) ?_
  refine va_get (D := G.1) (ci := 1) (v := .ref cs) (C := RX1) (T := TX1) (N := 6) hx hb hts hw1 hown hE.1 hP 0 rfl rfl 3 (by decide) hf15 (fun _ h9 => h9) rfl dX1_cut_20 ?_
  refine lv_iload_n hx hb dX1_cut_23 rfl (lv_at hl 3 rfl) ?_
  refine lv_bipush (v := 33) hx hb dX1_cut_24 (by decide) ?_
  refine lv_imul hx hb dX1_cut_26 ?_
  refine zti (v := 66) (by decide) ?_
  refine lv_iload_n hx hb dX1_cut_27 rfl (lv_at hl 0 rfl) ?_
  refine lv_iadd hx hb dX1_cut_28 ?_
  refine zti (v := 66) (by decide) ?_
  refine lv_iload_n hx hb dX1_cut_29 rfl (lv_at hl 1 rfl) ?_
  refine va_iast hx hb hE.1 hP hD hS 4 0 rfl rfl (zin (by decide +kernel)) dX1_cut_30 (fun H locs hP hD hS => ?_)
  have hP : va_P G.1 vwCl [(cu, .inr (1, [.ref wa, .ref wb, .ref cc, .ref cs, .ref cm, .int fsh])), (wa, .inr (6, [.ref ro, .int 0, .int 0])), (wb, .inr (6, [.ref rb, .int 0, .int 0])), (cc, .inl (G.2.1, 4, .inl (fc))), (cs, .inl (G.2.1, 132, .inl (upd fs 66 0))), (cm, .inl (G.2.1, 132, .inl (fm)))] H := hP
  have hD : va_D A [(cu, .inr (1, [.ref wa, .ref wb, .ref cc, .ref cs, .ref cm, .int fsh])), (wa, .inr (6, [.ref ro, .int 0, .int 0])), (wb, .inr (6, [.ref rb, .int 0, .int 0])), (cc, .inl (G.2.1, 4, .inl (fc))), (cs, .inl (G.2.1, 132, .inl (upd fs 66 0))), (cm, .inl (G.2.1, 132, .inl (fm)))] := hD
  refine lv_aload_n hx hb dX1_cut_31 rfl (lv_at hl 2 rfl) ?_
  refine va_get (D := G.1) (ci := 1) (v := .ref cm) (C := RX1) (T := TX1) (N := 6) hx hb hts hw1 hown hE.1 hP 0 rfl rfl 4 (by decide) hf18 (fun _ h9 => h9) rfl dX1_cut_32 ?_
  refine lv_iload_n hx hb dX1_cut_35 rfl (lv_at hl 3 rfl) ?_
  refine lv_bipush (v := 33) hx hb dX1_cut_36 (by decide) ?_
  refine lv_imul hx hb dX1_cut_38 ?_
  refine zti (v := 66) (by decide) ?_
  refine lv_iload_n hx hb dX1_cut_39 rfl (lv_at hl 0 rfl) ?_
  refine lv_iadd hx hb dX1_cut_40 ?_
  refine zti (v := 66) (by decide) ?_
  refine lv_aload_n hx hb dX1_cut_41 rfl (lv_at hl 2 rfl) ?_
  refine va_get (D := G.1) (ci := 1) (v := .ref wa) (C := RX1) (T := TX1) (N := 6) hx hb hts hw1 hown hE.1 hP 0 rfl rfl 0 (by decide) hf21 (fun _ h9 => h9) rfl dX1_cut_42 ?_
  refine lv_iload_n hx hb dX1_cut_45 rfl (lv_at hl 3 rfl) ?_
  refine lv_iload_n hx hb dX1_cut_46 rfl (lv_at hl 1 rfl) ?_
  refine zcall (wr := [(cu, .inr (1, [.ref wa, .ref wb, .ref cc, .ref cs, .ref cm, .int fsh])), (wb, .inr (6, [.ref rb, .int 0, .int 0])), (cc, .inl (G.2.1, 4, .inl (fc))), (cs, .inl (G.2.1, 132, .inl (upd fs 66 0))), (cm, .inl (G.2.1, 132, .inl (fm)))]) (va_runV (As := [.int 2, .int 0]) (rest := [.int 66, .ref cm]) ⟨hx, hb, hml, hown, hts⟩ (z_X6_having l G wa ro 2 0 H.size) (cwV 2 hts gX1_cut_X6_having rfl rfl rfl (by decide +kernel) ⟨Nat.le_of_ble_eq_true rfl, Nat.le_of_ble_eq_true rfl⟩) (zPreV (Wc := [(wa, .inr (6, [.ref ro, .int 0, .int 0]))]) (q0 := 1) (ci := 6) (q := (RX6, TX6, 3)) hP hD hE hS hA [1] rfl (by decide) rfl rfl) rfl rfl hl.1 rfl (lv_room (Nat.le_of_ble_eq_true rfl)) dX1_cut_47 ⟨Nat.le_of_ble_eq_true rfl, Nat.le_of_ble_eq_true rfl⟩) hP hD hS hA [1] [0, 2, 3, 4, 5] rfl rfl (by decide) (by decide) (fun u1 H locs hP hD hS => ?_)
  have hP : va_P G.1 vwCl [(cu, .inr (1, [.ref wa, .ref wb, .ref cc, .ref cs, .ref cm, .int fsh])), (wb, .inr (6, [.ref rb, .int 0, .int 0])), (cc, .inl (G.2.1, 4, .inl (fc))), (cs, .inl (G.2.1, 132, .inl (upd fs 66 0))), (cm, .inl (G.2.1, 132, .inl (fm))), (wa, .inr (6, [.ref ro, .int 0, .int 0]))] H := hP
  have hD : va_D A [(cu, .inr (1, [.ref wa, .ref wb, .ref cc, .ref cs, .ref cm, .int fsh])), (wb, .inr (6, [.ref rb, .int 0, .int 0])), (cc, .inl (G.2.1, 4, .inl (fc))), (cs, .inl (G.2.1, 132, .inl (upd fs 66 0))), (cm, .inl (G.2.1, 132, .inl (fm))), (wa, .inr (6, [.ref ro, .int 0, .int 0]))] := hD
  refine W.eq (g2 := F0 m 50 ls [.int 0, .int 66, .ref cm]) rfl ?_
  refine lv_aload_n hx hb dX1_cut_50 rfl (lv_at hl 2 rfl) ?_
  refine va_get (D := G.1) (ci := 1) (v := .ref wb) (C := RX1) (T := TX1) (N := 6) hx hb hts hw1 hown hE.1 hP 0 rfl rfl 1 (by decide) hf25 (fun _ h9 => h9) rfl dX1_cut_51 ?_
  refine lv_iload_n hx hb dX1_cut_54 rfl (lv_at hl 3 rfl) ?_
  refine lv_iload_n hx hb dX1_cut_55 rfl (lv_at hl 1 rfl) ?_
  refine zcall (wr := [(cu, .inr (1, [.ref wa, .ref wb, .ref cc, .ref cs, .ref cm, .int fsh])), (cc, .inl (G.2.1, 4, .inl (fc))), (cs, .inl (G.2.1, 132, .inl (upd fs 66 0))), (cm, .inl (G.2.1, 132, .inl (fm))), (wa, .inr (6, [.ref ro, .int 0, .int 0]))]) (va_runV (As := [.int 2, .int 0]) (rest := [.int 0, .int 66, .ref cm]) ⟨hx, hb, hml, hown, hts⟩ (z_X6_having l G wb rb 2 0 H.size) (cwV 2 hts gX1_cut_X6_having rfl rfl rfl (by decide +kernel) ⟨Nat.le_of_ble_eq_true rfl, Nat.le_of_ble_eq_true rfl⟩) (zPreV (Wc := [(wb, .inr (6, [.ref rb, .int 0, .int 0]))]) (q0 := 1) (ci := 6) (q := (RX6, TX6, 3)) hP hD hE hS hA [1] rfl (by decide) rfl rfl) rfl rfl hl.1 rfl (lv_room (Nat.le_of_ble_eq_true rfl)) dX1_cut_56 ⟨Nat.le_of_ble_eq_true rfl, Nat.le_of_ble_eq_true rfl⟩) hP hD hS hA [1] [0, 2, 3, 4, 5] rfl rfl (by decide) (by decide) (fun u2 H locs hP hD hS => ?_)
  have hP : va_P G.1 vwCl [(cu, .inr (1, [.ref wa, .ref wb, .ref cc, .ref cs, .ref cm, .int fsh])), (cc, .inl (G.2.1, 4, .inl (fc))), (cs, .inl (G.2.1, 132, .inl (upd fs 66 0))), (cm, .inl (G.2.1, 132, .inl (fm))), (wa, .inr (6, [.ref ro, .int 0, .int 0])), (wb, .inr (6, [.ref rb, .int 0, .int 0]))] H := hP
  have hD : va_D A [(cu, .inr (1, [.ref wa, .ref wb, .ref cc, .ref cs, .ref cm, .int fsh])), (cc, .inl (G.2.1, 4, .inl (fc))), (cs, .inl (G.2.1, 132, .inl (upd fs 66 0))), (cm, .inl (G.2.1, 132, .inl (fm))), (wa, .inr (6, [.ref ro, .int 0, .int 0])), (wb, .inr (6, [.ref rb, .int 0, .int 0]))] := hD
  refine W.eq (g2 := F0 m 59 ls [.int 0, .int 0, .int 66, .ref cm]) rfl ?_
  refine lv_bipush (v := 8) hx hb dX1_cut_59 (by decide) ?_
  refine lv_ishl hx hb dX1_cut_61 ?_
  refine zti (v := 0) (by decide) ?_
  refine lv_ior hx hb dX1_cut_62 ?_
  refine zti (v := 0) (by decide) ?_
  refine va_iast hx hb hE.1 hP hD hS 3 0 rfl rfl (zin (by decide +kernel)) dX1_cut_63 (fun H locs hP hD hS => ?_)
  have hP : va_P G.1 vwCl [(cu, .inr (1, [.ref wa, .ref wb, .ref cc, .ref cs, .ref cm, .int fsh])), (cc, .inl (G.2.1, 4, .inl (fc))), (cs, .inl (G.2.1, 132, .inl (upd fs 66 0))), (cm, .inl (G.2.1, 132, .inl (upd fm 66 0))), (wa, .inr (6, [.ref ro, .int 0, .int 0])), (wb, .inr (6, [.ref rb, .int 0, .int 0]))] H := hP
  have hD : va_D A [(cu, .inr (1, [.ref wa, .ref wb, .ref cc, .ref cs, .ref cm, .int fsh])), (cc, .inl (G.2.1, 4, .inl (fc))), (cs, .inl (G.2.1, 132, .inl (upd fs 66 0))), (cm, .inl (G.2.1, 132, .inl (upd fm 66 0))), (wa, .inr (6, [.ref ro, .int 0, .int 0])), (wb, .inr (6, [.ref rb, .int 0, .int 0]))] := hD
  refine lv_iinc (v := 1) (lv' := [(3, .int 1), (2, .int 0), (0, .ref cu), (1, .int 2)]) hx hb dX1_cut_64 hl (k := 0) rfl (by decide) (by decide) rfl (fun ls hl => ?_)
  refine lv_aload_n hx hb dX1_cut_67 rfl (lv_at hl 2 rfl) ?_
  refine va_get (D := G.1) (ci := 1) (v := .ref wa) (C := RX1) (T := TX1) (N := 6) hx hb hts hw1 hown hE.1 hP 0 rfl rfl 0 (by decide) hf21 (fun _ h9 => h9) rfl dX1_cut_68 ?_
  refine lv_iload_n hx hb dX1_cut_71 rfl (lv_at hl 3 rfl) ?_
  refine lv_iload_n hx hb dX1_cut_72 rfl (lv_at hl 1 rfl) ?_
  refine zcall (wr := [(cu, .inr (1, [.ref wa, .ref wb, .ref cc, .ref cs, .ref cm, .int fsh])), (cc, .inl (G.2.1, 4, .inl (fc))), (cs, .inl (G.2.1, 132, .inl (upd fs 66 0))), (cm, .inl (G.2.1, 132, .inl (upd fm 66 0))), (wb, .inr (6, [.ref rb, .int 0, .int 0]))]) (va_runV (As := [.int 2, .int 0]) (rest := []) ⟨hx, hb, hml, hown, hts⟩ (z_X6_nextCut2 l G wa ro H.size) (cwV 2 hts gX1_cut_X6_nextCut rfl rfl rfl (by decide +kernel) ⟨Nat.le_of_ble_eq_true rfl, Nat.le_of_ble_eq_true rfl⟩) (zPreV (Wc := [(wa, .inr (6, [.ref ro, .int 0, .int 0]))]) (q0 := 4) (ci := 6) (q := (RX6, TX6, 3)) hP hD hE hS hA [4] rfl (by decide) rfl rfl) rfl rfl hl.1 rfl (lv_room (Nat.le_of_ble_eq_true rfl)) dX1_cut_73 ⟨Nat.le_of_ble_eq_true rfl, Nat.le_of_ble_eq_true rfl⟩) hP hD hS hA [4] [0, 1, 2, 3, 5] rfl rfl (by decide) (by decide) (fun u3 H locs hP hD hS => ?_)
  have hP : va_P G.1 vwCl [(cu, .inr (1, [.ref wa, .ref wb, .ref cc, .ref cs, .ref cm, .int fsh])), (cc, .inl (G.2.1, 4, .inl (fc))), (cs, .inl (G.2.1, 132, .inl (upd fs 66 0))), (cm, .inl (G.2.1, 132, .inl (upd fm 66 0))), (wb, .inr (6, [.ref rb, .int 0, .int 0])), (wa, .inr (6, [.ref ro, .int 0, .int 0]))] H := hP
  have hD : va_D A [(cu, .inr (1, [.ref wa, .ref wb, .ref cc, .ref cs, .ref cm, .int fsh])), (cc, .inl (G.2.1, 4, .inl (fc))), (cs, .inl (G.2.1, 132, .inl (upd fs 66 0))), (cm, .inl (G.2.1, 132, .inl (upd fm 66 0))), (wb, .inr (6, [.ref rb, .int 0, .int 0])), (wa, .inr (6, [.ref ro, .int 0, .int 0]))] := hD
  refine W.eq (g2 := F0 m 76 ls [.int 1024]) rfl ?_
  refine lv_aload_n hx hb dX1_cut_76 rfl (lv_at hl 2 rfl) ?_
  refine va_get (D := G.1) (ci := 1) (v := .ref wb) (C := RX1) (T := TX1) (N := 6) hx hb hts hw1 hown hE.1 hP 0 rfl rfl 1 (by decide) hf25 (fun _ h9 => h9) rfl dX1_cut_77 ?_
  refine lv_iload_n hx hb dX1_cut_80 rfl (lv_at hl 3 rfl) ?_
  refine lv_iload_n hx hb dX1_cut_81 rfl (lv_at hl 1 rfl) ?_
  refine zcall (wr := [(cu, .inr (1, [.ref wa, .ref wb, .ref cc, .ref cs, .ref cm, .int fsh])), (cc, .inl (G.2.1, 4, .inl (fc))), (cs, .inl (G.2.1, 132, .inl (upd fs 66 0))), (cm, .inl (G.2.1, 132, .inl (upd fm 66 0))), (wa, .inr (6, [.ref ro, .int 0, .int 0]))]) (va_runV (As := [.int 2, .int 0]) (rest := [.int 1024]) ⟨hx, hb, hml, hown, hts⟩ (z_X6_nextCut2 l G wb rb H.size) (cwV 2 hts gX1_cut_X6_nextCut rfl rfl rfl (by decide +kernel) ⟨Nat.le_of_ble_eq_true rfl, Nat.le_of_ble_eq_true rfl⟩) (zPreV (Wc := [(wb, .inr (6, [.ref rb, .int 0, .int 0]))]) (q0 := 4) (ci := 6) (q := (RX6, TX6, 3)) hP hD hE hS hA [4] rfl (by decide) rfl rfl) rfl rfl hl.1 rfl (lv_room (Nat.le_of_ble_eq_true rfl)) dX1_cut_82 ⟨Nat.le_of_ble_eq_true rfl, Nat.le_of_ble_eq_true rfl⟩) hP hD hS hA [4] [0, 1, 2, 3, 5] rfl rfl (by decide) (by decide) (fun u4 H locs hP hD hS => ?_)
  have hP : va_P G.1 vwCl [(cu, .inr (1, [.ref wa, .ref wb, .ref cc, .ref cs, .ref cm, .int fsh])), (cc, .inl (G.2.1, 4, .inl (fc))), (cs, .inl (G.2.1, 132, .inl (upd fs 66 0))), (cm, .inl (G.2.1, 132, .inl (upd fm 66 0))), (wa, .inr (6, [.ref ro, .int 0, .int 0])), (wb, .inr (6, [.ref rb, .int 0, .int 0]))] H := hP
  have hD : va_D A [(cu, .inr (1, [.ref wa, .ref wb, .ref cc, .ref cs, .ref cm, .int fsh])), (cc, .inl (G.2.1, 4, .inl (fc))), (cs, .inl (G.2.1, 132, .inl (upd fs 66 0))), (cm, .inl (G.2.1, 132, .inl (upd fm 66 0))), (wa, .inr (6, [.ref ro, .int 0, .int 0])), (wb, .inr (6, [.ref rb, .int 0, .int 0]))] := hD
  refine W.eq (g2 := F0 m 85 ls [.int 1024, .int 1024]) rfl ?_
  refine va_mmin hx hb (hml.trans hl.1.symm) hown hml48 hstmin hiniMath hmamin (Nat.le_of_ble_eq_true rfl) (Nat.le_of_ble_eq_true rfl) (Nat.le_of_ble_eq_true rfl) (Nat.le_of_ble_eq_true rfl) dX1_cut_85 ?_
  refine zti (v := 1024) (by decide) ?_
  refine lv_istore_n (lv' := [(2, .int 1024), (3, .int 1), (0, .ref cu), (1, .int 2)]) hx hb dX1_cut_88 rfl hl (by decide) rfl (fun ls hl => ?_)
  refine lv_goto (tgt := 4) hx hb dX1_cut_89 (by decide) ?_
  refine lv_iload_n hx hb dX1_cut_4 rfl (lv_at hl 1 rfl) ?_
  refine lv_bipush (v := 33) hx hb dX1_cut_5 (by decide) ?_
  refine lv_icmp_ge (tgt := 92) hx hb dX1_cut_7 (by decide) (fun h9 => absurd h9 (by decide)) (fun _ => ?_)
  refine lv_iload_n hx hb dX1_cut_10 rfl (lv_at hl 0 rfl) ?_
  refine va_getsN hx hb hE.2.1.1 hS hown (va_Nw.use rfl hE.2.2.2.2.1.2.2.2.2.1) (fun _ h9 => h9) dX1_cut_11 ?_
  refine lv_iload_n hx hb dX1_cut_14 rfl (lv_at hl 3 rfl) ?_
  refine va_ti (v := .int 1024) hx hb hE.2.1.2 hS (zin (by decide +kernel)) rfl dX1_cut_15 ?_
  refine lv_icmp_ge (tgt := 92) hx hb dX1_cut_16 (by decide) (fun _ => ?_) (fun h9 => absurd (by decide) h9)
  refine lv_aload_n hx hb dX1_cut_92 rfl (lv_at hl 2 rfl) ?_
  refine va_get (D := G.1) (ci := 1) (v := .ref cc) (C := RX1) (T := TX1) (N := 6) hx hb hts hw1 hown hE.1 hP 0 rfl rfl 2 (by decide) hf9 (fun _ h9 => h9) rfl dX1_cut_93 ?_
  refine lv_iload_n hx hb dX1_cut_96 rfl (lv_at hl 3 rfl) ?_
  refine lv_iload_n hx hb dX1_cut_97 rfl (lv_at hl 1 rfl) ?_
  refine va_iast hx hb hE.1 hP hD hS 1 0 rfl rfl (zin (by decide +kernel)) dX1_cut_98 (fun H locs hP hD hS => ?_)
  have hP : va_P G.1 vwCl [(cu, .inr (1, [.ref wa, .ref wb, .ref cc, .ref cs, .ref cm, .int fsh])), (cc, .inl (G.2.1, 4, .inl (upd fc 2 1))), (cs, .inl (G.2.1, 132, .inl (upd fs 66 0))), (cm, .inl (G.2.1, 132, .inl (upd fm 66 0))), (wa, .inr (6, [.ref ro, .int 0, .int 0])), (wb, .inr (6, [.ref rb, .int 0, .int 0]))] H := hP
  have hD : va_D A [(cu, .inr (1, [.ref wa, .ref wb, .ref cc, .ref cs, .ref cm, .int fsh])), (cc, .inl (G.2.1, 4, .inl (upd fc 2 1))), (cs, .inl (G.2.1, 132, .inl (upd fs 66 0))), (cm, .inl (G.2.1, 132, .inl (upd fm 66 0))), (wa, .inr (6, [.ref ro, .int 0, .int 0])), (wb, .inr (6, [.ref rb, .int 0, .int 0]))] := hD
  exact zend_v hx hb hr hlocks (fun k => [].getD k 0) hP hD hS (Nat.le_of_ble_eq_true rfl) (Nat.le_of_ble_eq_true rfl) dX1_cut_99

set_option maxHeartbeats 4000000 in
set_option maxRecDepth 100000 in
theorem z_X1_cut3 (l : Launch) (G : zG) (cu : Nat) (wa : Nat) (wb : Nat) (ro : Nat) (rb : Nat) (cc : Nat) (cs : Nat) (cm : Nat) (fsh : Int32) (fc : Nat → Int32) (fs : Nat → Int32) (fm : Nat → Int32) : zR l G yX1_cut wsX1_cut { frames := 1, cells := 0, slots := 0, locals := 24 } [(cu, .inr (1, [.ref wa, .ref wb, .ref cc, .ref cs, .ref cm, .int fsh])), (wa, .inr (6, [.ref ro, .int 0, .int 0])), (wb, .inr (6, [.ref rb, .int 0, .int 0])), (cc, .inl (G.2.1, 4, .inl (fc))), (cs, .inl (G.2.1, 132, .inl (fs))), (cm, .inl (G.2.1, 132, .inl (fm)))] [.ref cu, .int 3] none (fun u => [(cu, .inr (1, [.ref wa, .ref wb, .ref cc, .ref cs, .ref cm, .int fsh])), (cc, .inl (G.2.1, 4, .inl (upd fc 3 1))), (cs, .inl (G.2.1, 132, .inl (upd fs 99 0))), (cm, .inl (G.2.1, 132, .inl (upd fm 99 0))), (wa, .inr (6, [.ref ro, .int 0, .int 0])), (wb, .inr (6, [.ref rb, .int 0, .int 0]))]) 0 0 := by
  refine zR_of (cc := cX1_cut) (maxL := 4) (rt := none) (by decide) rfl (Nat.le_of_ble_eq_true rfl) ?_
  intro p e s m below meth c A ls hx hb hml hr hts hown hlocks hin hA hE hP hD hS hl
  have hl : lv_has ls 4 [(0, .ref cu), (1, .int 3)] := hl
  have hown : s.vm.findClass RX1 = some m.cls := hown
  have hP : va_P G.1 vwCl [(cu, .inr (1, [.ref wa, .ref wb, .ref cc, .ref cs, .ref cm, .int fsh])), (wa, .inr (6, [.ref ro, .int 0, .int 0])), (wb, .inr (6, [.ref rb, .int 0, .int 0])), (cc, .inl (G.2.1, 4, .inl (fc))), (cs, .inl (G.2.1, 132, .inl (fs))), (cm, .inl (G.2.1, 132, .inl (fm)))] s.heap := hP
  have hw1 : ∀ w ∈ u_ws RX1 TX1 6, w ∈ wsX1_cut := by decide +kernel
  have hf15 := hts (.fieldLink RX1 15 "Nettle$Cuts" "starts" "[I") (by decide +kernel)
  have hf18 := hts (.fieldLink RX1 18 "Nettle$Cuts" "masks" "[I") (by decide +kernel)
  have hf21 := hts (.fieldLink RX1 21 "Nettle$Cuts" "now" "LNettle$Wall;") (by decide +kernel)
  have hf25 := hts (.fieldLink RX1 25 "Nettle$Cuts" "old" "LNettle$Wall;") (by decide +kernel)
  have hmamin := hts (.code Lib.Math.min.name Lib.Math.min.code 2 (some .int)) (by decide +kernel)
  have hml48 := hts (.methodLink RX1 48 Lib.Math.min.name) (by decide +kernel)
  have hstmin := hts (.static Lib.Math.min.name) (by decide +kernel)
  have hiniMath := hts (.initialized "java/lang/Math") (by decide +kernel)
  have hf9 := hts (.fieldLink RX1 9 "Nettle$Cuts" "counts" "[I") (by decide +kernel)
  refine lv_iconst (v := 0) hx hb dX1_cut_0 (by decide) ?_
  refine lv_istore_n (lv' := [(2, .int 0), (0, .ref cu), (1, .int 3)]) hx hb dX1_cut_1 rfl hl (by decide) rfl (fun ls hl => ?_)
  refine lv_iconst (v := 0) hx hb dX1_cut_2 (by decide) ?_
  refine lv_istore_n (lv' := [(3, .int 0), (2, .int 0), (0, .ref cu), (1, .int 3)]) hx hb dX1_cut_3 rfl hl (by decide) rfl (fun ls hl => ?_)
  refine lv_iload_n hx hb dX1_cut_4 rfl (lv_at hl 0 rfl) ?_
  refine lv_bipush (v := 33) hx hb dX1_cut_5 (by decide) ?_
  refine lv_icmp_ge (tgt := 92) hx hb dX1_cut_7 (by decide) (fun h9 => absurd h9 (by decide)) (fun _ => ?_)
  refine lv_iload_n hx hb dX1_cut_10 rfl (lv_at hl 1 rfl) ?_
  refine va_getsN hx hb hE.2.1.1 hS hown (va_Nw.use rfl hE.2.2.2.2.1.2.2.2.2.1) (fun _ h9 => h9) dX1_cut_11 ?_
  refine lv_iload_n hx hb dX1_cut_14 rfl (lv_at hl 3 rfl) ?_
  refine va_ti (v := .int 4) hx hb hE.2.1.2 hS (zin (by decide +kernel)) rfl dX1_cut_15 ?_
  refine lv_icmp_ge (tgt := 92) hx hb dX1_cut_16 (by decide) (fun h9 => absurd h9 (by decide)) (fun _ => ?_)
  refine lv_aload_n hx hb dX1_cut_19 rfl (lv_at hl 2 rfl) ?_
  refine va_get (D := G.1) (ci := 1) (v := .ref cs) (C := RX1) (T := TX1) (N := 6) hx hb hts hw1 hown hE.1 hP 0 rfl rfl 3 (by decide) hf15 (fun _ h9 => h9) rfl dX1_cut_20 ?_
  refine lv_iload_n hx hb dX1_cut_23 rfl (lv_at hl 3 rfl) ?_
  refine lv_bipush (v := 33) hx hb dX1_cut_24 (by decide) ?_
  refine lv_imul hx hb dX1_cut_26 ?_
  refine zti (v := 99) (by decide) ?_
  refine lv_iload_n hx hb dX1_cut_27 rfl (lv_at hl 0 rfl) ?_
  refine lv_iadd hx hb dX1_cut_28 ?_
  refine zti (v := 99) (by decide) ?_
  refine lv_iload_n hx hb dX1_cut_29 rfl (lv_at hl 1 rfl) ?_
  refine va_iast hx hb hE.1 hP hD hS 4 0 rfl rfl (zin (by decide +kernel)) dX1_cut_30 (fun H locs hP hD hS => ?_)
  have hP : va_P G.1 vwCl [(cu, .inr (1, [.ref wa, .ref wb, .ref cc, .ref cs, .ref cm, .int fsh])), (wa, .inr (6, [.ref ro, .int 0, .int 0])), (wb, .inr (6, [.ref rb, .int 0, .int 0])), (cc, .inl (G.2.1, 4, .inl (fc))), (cs, .inl (G.2.1, 132, .inl (upd fs 99 0))), (cm, .inl (G.2.1, 132, .inl (fm)))] H := hP
  have hD : va_D A [(cu, .inr (1, [.ref wa, .ref wb, .ref cc, .ref cs, .ref cm, .int fsh])), (wa, .inr (6, [.ref ro, .int 0, .int 0])), (wb, .inr (6, [.ref rb, .int 0, .int 0])), (cc, .inl (G.2.1, 4, .inl (fc))), (cs, .inl (G.2.1, 132, .inl (upd fs 99 0))), (cm, .inl (G.2.1, 132, .inl (fm)))] := hD
  refine lv_aload_n hx hb dX1_cut_31 rfl (lv_at hl 2 rfl) ?_
  refine va_get (D := G.1) (ci := 1) (v := .ref cm) (C := RX1) (T := TX1) (N := 6) hx hb hts hw1 hown hE.1 hP 0 rfl rfl 4 (by decide) hf18 (fun _ h9 => h9) rfl dX1_cut_32 ?_
  refine lv_iload_n hx hb dX1_cut_35 rfl (lv_at hl 3 rfl) ?_
  refine lv_bipush (v := 33) hx hb dX1_cut_36 (by decide) ?_
  refine lv_imul hx hb dX1_cut_38 ?_
  refine zti (v := 99) (by decide) ?_
  refine lv_iload_n hx hb dX1_cut_39 rfl (lv_at hl 0 rfl) ?_
  refine lv_iadd hx hb dX1_cut_40 ?_
  refine zti (v := 99) (by decide) ?_
  refine lv_aload_n hx hb dX1_cut_41 rfl (lv_at hl 2 rfl) ?_
  refine va_get (D := G.1) (ci := 1) (v := .ref wa) (C := RX1) (T := TX1) (N := 6) hx hb hts hw1 hown hE.1 hP 0 rfl rfl 0 (by decide) hf21 (fun _ h9 => h9) rfl dX1_cut_42 ?_
  refine lv_iload_n hx hb dX1_cut_45 rfl (lv_at hl 3 rfl) ?_
  refine lv_iload_n hx hb dX1_cut_46 rfl (lv_at hl 1 rfl) ?_
  refine zcall (wr := [(cu, .inr (1, [.ref wa, .ref wb, .ref cc, .ref cs, .ref cm, .int fsh])), (wb, .inr (6, [.ref rb, .int 0, .int 0])), (cc, .inl (G.2.1, 4, .inl (fc))), (cs, .inl (G.2.1, 132, .inl (upd fs 99 0))), (cm, .inl (G.2.1, 132, .inl (fm)))]) (va_runV (As := [.int 3, .int 0]) (rest := [.int 99, .ref cm]) ⟨hx, hb, hml, hown, hts⟩ (z_X6_having l G wa ro 3 0 H.size) (cwV 2 hts gX1_cut_X6_having rfl rfl rfl (by decide +kernel) ⟨Nat.le_of_ble_eq_true rfl, Nat.le_of_ble_eq_true rfl⟩) (zPreV (Wc := [(wa, .inr (6, [.ref ro, .int 0, .int 0]))]) (q0 := 1) (ci := 6) (q := (RX6, TX6, 3)) hP hD hE hS hA [1] rfl (by decide) rfl rfl) rfl rfl hl.1 rfl (lv_room (Nat.le_of_ble_eq_true rfl)) dX1_cut_47 ⟨Nat.le_of_ble_eq_true rfl, Nat.le_of_ble_eq_true rfl⟩) hP hD hS hA [1] [0, 2, 3, 4, 5] rfl rfl (by decide) (by decide) (fun u1 H locs hP hD hS => ?_)
  have hP : va_P G.1 vwCl [(cu, .inr (1, [.ref wa, .ref wb, .ref cc, .ref cs, .ref cm, .int fsh])), (wb, .inr (6, [.ref rb, .int 0, .int 0])), (cc, .inl (G.2.1, 4, .inl (fc))), (cs, .inl (G.2.1, 132, .inl (upd fs 99 0))), (cm, .inl (G.2.1, 132, .inl (fm))), (wa, .inr (6, [.ref ro, .int 0, .int 0]))] H := hP
  have hD : va_D A [(cu, .inr (1, [.ref wa, .ref wb, .ref cc, .ref cs, .ref cm, .int fsh])), (wb, .inr (6, [.ref rb, .int 0, .int 0])), (cc, .inl (G.2.1, 4, .inl (fc))), (cs, .inl (G.2.1, 132, .inl (upd fs 99 0))), (cm, .inl (G.2.1, 132, .inl (fm))), (wa, .inr (6, [.ref ro, .int 0, .int 0]))] := hD
  refine W.eq (g2 := F0 m 50 ls [.int 0, .int 99, .ref cm]) rfl ?_
  refine lv_aload_n hx hb dX1_cut_50 rfl (lv_at hl 2 rfl) ?_
  refine va_get (D := G.1) (ci := 1) (v := .ref wb) (C := RX1) (T := TX1) (N := 6) hx hb hts hw1 hown hE.1 hP 0 rfl rfl 1 (by decide) hf25 (fun _ h9 => h9) rfl dX1_cut_51 ?_
  refine lv_iload_n hx hb dX1_cut_54 rfl (lv_at hl 3 rfl) ?_
  refine lv_iload_n hx hb dX1_cut_55 rfl (lv_at hl 1 rfl) ?_
  refine zcall (wr := [(cu, .inr (1, [.ref wa, .ref wb, .ref cc, .ref cs, .ref cm, .int fsh])), (cc, .inl (G.2.1, 4, .inl (fc))), (cs, .inl (G.2.1, 132, .inl (upd fs 99 0))), (cm, .inl (G.2.1, 132, .inl (fm))), (wa, .inr (6, [.ref ro, .int 0, .int 0]))]) (va_runV (As := [.int 3, .int 0]) (rest := [.int 0, .int 99, .ref cm]) ⟨hx, hb, hml, hown, hts⟩ (z_X6_having l G wb rb 3 0 H.size) (cwV 2 hts gX1_cut_X6_having rfl rfl rfl (by decide +kernel) ⟨Nat.le_of_ble_eq_true rfl, Nat.le_of_ble_eq_true rfl⟩) (zPreV (Wc := [(wb, .inr (6, [.ref rb, .int 0, .int 0]))]) (q0 := 1) (ci := 6) (q := (RX6, TX6, 3)) hP hD hE hS hA [1] rfl (by decide) rfl rfl) rfl rfl hl.1 rfl (lv_room (Nat.le_of_ble_eq_true rfl)) dX1_cut_56 ⟨Nat.le_of_ble_eq_true rfl, Nat.le_of_ble_eq_true rfl⟩) hP hD hS hA [1] [0, 2, 3, 4, 5] rfl rfl (by decide) (by decide) (fun u2 H locs hP hD hS => ?_)
  have hP : va_P G.1 vwCl [(cu, .inr (1, [.ref wa, .ref wb, .ref cc, .ref cs, .ref cm, .int fsh])), (cc, .inl (G.2.1, 4, .inl (fc))), (cs, .inl (G.2.1, 132, .inl (upd fs 99 0))), (cm, .inl (G.2.1, 132, .inl (fm))), (wa, .inr (6, [.ref ro, .int 0, .int 0])), (wb, .inr (6, [.ref rb, .int 0, .int 0]))] H := hP
  have hD : va_D A [(cu, .inr (1, [.ref wa, .ref wb, .ref cc, .ref cs, .ref cm, .int fsh])), (cc, .inl (G.2.1, 4, .inl (fc))), (cs, .inl (G.2.1, 132, .inl (upd fs 99 0))), (cm, .inl (G.2.1, 132, .inl (fm))), (wa, .inr (6, [.ref ro, .int 0, .int 0])), (wb, .inr (6, [.ref rb, .int 0, .int 0]))] := hD
  refine W.eq (g2 := F0 m 59 ls [.int 0, .int 0, .int 99, .ref cm]) rfl ?_
  refine lv_bipush (v := 8) hx hb dX1_cut_59 (by decide) ?_
  refine lv_ishl hx hb dX1_cut_61 ?_
  refine zti (v := 0) (by decide) ?_
  refine lv_ior hx hb dX1_cut_62 ?_
  refine zti (v := 0) (by decide) ?_
  refine va_iast hx hb hE.1 hP hD hS 3 0 rfl rfl (zin (by decide +kernel)) dX1_cut_63 (fun H locs hP hD hS => ?_)
  have hP : va_P G.1 vwCl [(cu, .inr (1, [.ref wa, .ref wb, .ref cc, .ref cs, .ref cm, .int fsh])), (cc, .inl (G.2.1, 4, .inl (fc))), (cs, .inl (G.2.1, 132, .inl (upd fs 99 0))), (cm, .inl (G.2.1, 132, .inl (upd fm 99 0))), (wa, .inr (6, [.ref ro, .int 0, .int 0])), (wb, .inr (6, [.ref rb, .int 0, .int 0]))] H := hP
  have hD : va_D A [(cu, .inr (1, [.ref wa, .ref wb, .ref cc, .ref cs, .ref cm, .int fsh])), (cc, .inl (G.2.1, 4, .inl (fc))), (cs, .inl (G.2.1, 132, .inl (upd fs 99 0))), (cm, .inl (G.2.1, 132, .inl (upd fm 99 0))), (wa, .inr (6, [.ref ro, .int 0, .int 0])), (wb, .inr (6, [.ref rb, .int 0, .int 0]))] := hD
  refine lv_iinc (v := 1) (lv' := [(3, .int 1), (2, .int 0), (0, .ref cu), (1, .int 3)]) hx hb dX1_cut_64 hl (k := 0) rfl (by decide) (by decide) rfl (fun ls hl => ?_)
  refine lv_aload_n hx hb dX1_cut_67 rfl (lv_at hl 2 rfl) ?_
  refine va_get (D := G.1) (ci := 1) (v := .ref wa) (C := RX1) (T := TX1) (N := 6) hx hb hts hw1 hown hE.1 hP 0 rfl rfl 0 (by decide) hf21 (fun _ h9 => h9) rfl dX1_cut_68 ?_
  refine lv_iload_n hx hb dX1_cut_71 rfl (lv_at hl 3 rfl) ?_
  refine lv_iload_n hx hb dX1_cut_72 rfl (lv_at hl 1 rfl) ?_
  refine zcall (wr := [(cu, .inr (1, [.ref wa, .ref wb, .ref cc, .ref cs, .ref cm, .int fsh])), (cc, .inl (G.2.1, 4, .inl (fc))), (cs, .inl (G.2.1, 132, .inl (upd fs 99 0))), (cm, .inl (G.2.1, 132, .inl (upd fm 99 0))), (wb, .inr (6, [.ref rb, .int 0, .int 0]))]) (va_runV (As := [.int 3, .int 0]) (rest := []) ⟨hx, hb, hml, hown, hts⟩ (z_X6_nextCut3 l G wa ro H.size) (cwV 2 hts gX1_cut_X6_nextCut rfl rfl rfl (by decide +kernel) ⟨Nat.le_of_ble_eq_true rfl, Nat.le_of_ble_eq_true rfl⟩) (zPreV (Wc := [(wa, .inr (6, [.ref ro, .int 0, .int 0]))]) (q0 := 4) (ci := 6) (q := (RX6, TX6, 3)) hP hD hE hS hA [4] rfl (by decide) rfl rfl) rfl rfl hl.1 rfl (lv_room (Nat.le_of_ble_eq_true rfl)) dX1_cut_73 ⟨Nat.le_of_ble_eq_true rfl, Nat.le_of_ble_eq_true rfl⟩) hP hD hS hA [4] [0, 1, 2, 3, 5] rfl rfl (by decide) (by decide) (fun u3 H locs hP hD hS => ?_)
  have hP : va_P G.1 vwCl [(cu, .inr (1, [.ref wa, .ref wb, .ref cc, .ref cs, .ref cm, .int fsh])), (cc, .inl (G.2.1, 4, .inl (fc))), (cs, .inl (G.2.1, 132, .inl (upd fs 99 0))), (cm, .inl (G.2.1, 132, .inl (upd fm 99 0))), (wb, .inr (6, [.ref rb, .int 0, .int 0])), (wa, .inr (6, [.ref ro, .int 0, .int 0]))] H := hP
  have hD : va_D A [(cu, .inr (1, [.ref wa, .ref wb, .ref cc, .ref cs, .ref cm, .int fsh])), (cc, .inl (G.2.1, 4, .inl (fc))), (cs, .inl (G.2.1, 132, .inl (upd fs 99 0))), (cm, .inl (G.2.1, 132, .inl (upd fm 99 0))), (wb, .inr (6, [.ref rb, .int 0, .int 0])), (wa, .inr (6, [.ref ro, .int 0, .int 0]))] := hD
  refine W.eq (g2 := F0 m 76 ls [.int 4]) rfl ?_
  refine lv_aload_n hx hb dX1_cut_76 rfl (lv_at hl 2 rfl) ?_
  refine va_get (D := G.1) (ci := 1) (v := .ref wb) (C := RX1) (T := TX1) (N := 6) hx hb hts hw1 hown hE.1 hP 0 rfl rfl 1 (by decide) hf25 (fun _ h9 => h9) rfl dX1_cut_77 ?_
  refine lv_iload_n hx hb dX1_cut_80 rfl (lv_at hl 3 rfl) ?_
  refine lv_iload_n hx hb dX1_cut_81 rfl (lv_at hl 1 rfl) ?_
  refine zcall (wr := [(cu, .inr (1, [.ref wa, .ref wb, .ref cc, .ref cs, .ref cm, .int fsh])), (cc, .inl (G.2.1, 4, .inl (fc))), (cs, .inl (G.2.1, 132, .inl (upd fs 99 0))), (cm, .inl (G.2.1, 132, .inl (upd fm 99 0))), (wa, .inr (6, [.ref ro, .int 0, .int 0]))]) (va_runV (As := [.int 3, .int 0]) (rest := [.int 4]) ⟨hx, hb, hml, hown, hts⟩ (z_X6_nextCut3 l G wb rb H.size) (cwV 2 hts gX1_cut_X6_nextCut rfl rfl rfl (by decide +kernel) ⟨Nat.le_of_ble_eq_true rfl, Nat.le_of_ble_eq_true rfl⟩) (zPreV (Wc := [(wb, .inr (6, [.ref rb, .int 0, .int 0]))]) (q0 := 4) (ci := 6) (q := (RX6, TX6, 3)) hP hD hE hS hA [4] rfl (by decide) rfl rfl) rfl rfl hl.1 rfl (lv_room (Nat.le_of_ble_eq_true rfl)) dX1_cut_82 ⟨Nat.le_of_ble_eq_true rfl, Nat.le_of_ble_eq_true rfl⟩) hP hD hS hA [4] [0, 1, 2, 3, 5] rfl rfl (by decide) (by decide) (fun u4 H locs hP hD hS => ?_)
  have hP : va_P G.1 vwCl [(cu, .inr (1, [.ref wa, .ref wb, .ref cc, .ref cs, .ref cm, .int fsh])), (cc, .inl (G.2.1, 4, .inl (fc))), (cs, .inl (G.2.1, 132, .inl (upd fs 99 0))), (cm, .inl (G.2.1, 132, .inl (upd fm 99 0))), (wa, .inr (6, [.ref ro, .int 0, .int 0])), (wb, .inr (6, [.ref rb, .int 0, .int 0]))] H := hP
  have hD : va_D A [(cu, .inr (1, [.ref wa, .ref wb, .ref cc, .ref cs, .ref cm, .int fsh])), (cc, .inl (G.2.1, 4, .inl (fc))), (cs, .inl (G.2.1, 132, .inl (upd fs 99 0))), (cm, .inl (G.2.1, 132, .inl (upd fm 99 0))), (wa, .inr (6, [.ref ro, .int 0, .int 0])), (wb, .inr (6, [.ref rb, .int 0, .int 0]))] := hD
  refine W.eq (g2 := F0 m 85 ls [.int 4, .int 4]) rfl ?_
  refine va_mmin hx hb (hml.trans hl.1.symm) hown hml48 hstmin hiniMath hmamin (Nat.le_of_ble_eq_true rfl) (Nat.le_of_ble_eq_true rfl) (Nat.le_of_ble_eq_true rfl) (Nat.le_of_ble_eq_true rfl) dX1_cut_85 ?_
  refine zti (v := 4) (by decide) ?_
  refine lv_istore_n (lv' := [(2, .int 4), (3, .int 1), (0, .ref cu), (1, .int 3)]) hx hb dX1_cut_88 rfl hl (by decide) rfl (fun ls hl => ?_)
  refine lv_goto (tgt := 4) hx hb dX1_cut_89 (by decide) ?_
  refine lv_iload_n hx hb dX1_cut_4 rfl (lv_at hl 1 rfl) ?_
  refine lv_bipush (v := 33) hx hb dX1_cut_5 (by decide) ?_
  refine lv_icmp_ge (tgt := 92) hx hb dX1_cut_7 (by decide) (fun h9 => absurd h9 (by decide)) (fun _ => ?_)
  refine lv_iload_n hx hb dX1_cut_10 rfl (lv_at hl 0 rfl) ?_
  refine va_getsN hx hb hE.2.1.1 hS hown (va_Nw.use rfl hE.2.2.2.2.1.2.2.2.2.1) (fun _ h9 => h9) dX1_cut_11 ?_
  refine lv_iload_n hx hb dX1_cut_14 rfl (lv_at hl 3 rfl) ?_
  refine va_ti (v := .int 4) hx hb hE.2.1.2 hS (zin (by decide +kernel)) rfl dX1_cut_15 ?_
  refine lv_icmp_ge (tgt := 92) hx hb dX1_cut_16 (by decide) (fun _ => ?_) (fun h9 => absurd (by decide) h9)
  refine lv_aload_n hx hb dX1_cut_92 rfl (lv_at hl 2 rfl) ?_
  refine va_get (D := G.1) (ci := 1) (v := .ref cc) (C := RX1) (T := TX1) (N := 6) hx hb hts hw1 hown hE.1 hP 0 rfl rfl 2 (by decide) hf9 (fun _ h9 => h9) rfl dX1_cut_93 ?_
  refine lv_iload_n hx hb dX1_cut_96 rfl (lv_at hl 3 rfl) ?_
  refine lv_iload_n hx hb dX1_cut_97 rfl (lv_at hl 1 rfl) ?_
  refine va_iast hx hb hE.1 hP hD hS 1 0 rfl rfl (zin (by decide +kernel)) dX1_cut_98 (fun H locs hP hD hS => ?_)
  have hP : va_P G.1 vwCl [(cu, .inr (1, [.ref wa, .ref wb, .ref cc, .ref cs, .ref cm, .int fsh])), (cc, .inl (G.2.1, 4, .inl (upd fc 3 1))), (cs, .inl (G.2.1, 132, .inl (upd fs 99 0))), (cm, .inl (G.2.1, 132, .inl (upd fm 99 0))), (wa, .inr (6, [.ref ro, .int 0, .int 0])), (wb, .inr (6, [.ref rb, .int 0, .int 0]))] H := hP
  have hD : va_D A [(cu, .inr (1, [.ref wa, .ref wb, .ref cc, .ref cs, .ref cm, .int fsh])), (cc, .inl (G.2.1, 4, .inl (upd fc 3 1))), (cs, .inl (G.2.1, 132, .inl (upd fs 99 0))), (cm, .inl (G.2.1, 132, .inl (upd fm 99 0))), (wa, .inr (6, [.ref ro, .int 0, .int 0])), (wb, .inr (6, [.ref rb, .int 0, .int 0]))] := hD
  exact zend_v hx hb hr hlocks (fun k => [].getD k 0) hP hD hS (Nat.le_of_ble_eq_true rfl) (Nat.le_of_ble_eq_true rfl) dX1_cut_99

set_option maxHeartbeats 4000000 in
set_option maxRecDepth 100000 in
theorem z_X1_refresh0 (l : Launch) (G : zG) (cu : Nat) (wa : Nat) (wb : Nat) (ro : Nat) (rb : Nat) (cc : Nat) (cs : Nat) (cm : Nat) (fc : Nat → Int32) (fs : Nat → Int32) (fm : Nat → Int32) : zR l G yX1_refresh wsX1_refresh { frames := 2, cells := 0, slots := 0, locals := 47 } [(cu, .inr (1, [.ref wa, .ref wb, .ref cc, .ref cs, .ref cm, .int 0])), (wa, .inr (6, [.ref ro, .int 0, .int 0])), (wb, .inr (6, [.ref rb, .int 0, .int 0])), (cc, .inl (G.2.1, 4, .inl (fc))), (cs, .inl (G.2.1, 132, .inl (fs))), (cm, .inl (G.2.1, 132, .inl (fm)))] [.ref cu] none (fun u => [(cu, .inr (1, [.ref wa, .ref wb, .ref cc, .ref cs, .ref cm, .int 1])), (cc, .inl (G.2.1, 4, .inl (upd (upd (upd (upd fc 0 1) 1 1) 2 1) 3 1))), (cs, .inl (G.2.1, 132, .inl (upd (upd (upd (upd fs 0 0) 33 0) 66 0) 99 0))), (cm, .inl (G.2.1, 132, .inl (upd (upd (upd (upd fm 0 0) 33 0) 66 0) 99 0))), (wa, .inr (6, [.ref ro, .int 0, .int 0])), (wb, .inr (6, [.ref rb, .int 0, .int 0]))]) 0 0 := by
  refine zR_of (cc := cX1_refresh) (maxL := 2) (rt := none) (by decide) rfl (Nat.le_of_ble_eq_true rfl) ?_
  intro p e s m below meth c A ls hx hb hml hr hts hown hlocks hin hA hE hP hD hS hl
  have hl : lv_has ls 2 [(0, .ref cu)] := hl
  have hown : s.vm.findClass RX1 = some m.cls := hown
  have hP : va_P G.1 vwCl [(cu, .inr (1, [.ref wa, .ref wb, .ref cc, .ref cs, .ref cm, .int 0])), (wa, .inr (6, [.ref ro, .int 0, .int 0])), (wb, .inr (6, [.ref rb, .int 0, .int 0])), (cc, .inl (G.2.1, 4, .inl (fc))), (cs, .inl (G.2.1, 132, .inl (fs))), (cm, .inl (G.2.1, 132, .inl (fm)))] s.heap := hP
  have hw1 : ∀ w ∈ u_ws RX1 TX1 6, w ∈ wsX1_refresh := by decide +kernel
  have hf28 := hts (.fieldLink RX1 28 "Nettle$Cuts" "isFresh" "Z") (by decide +kernel)
  refine lv_aload_n hx hb dX1_refresh_0 rfl (lv_at hl 0 rfl) ?_
  refine va_get (D := G.1) (ci := 1) (v := .int 0) (C := RX1) (T := TX1) (N := 6) hx hb hts hw1 hown hE.1 hP 0 rfl rfl 5 (by decide) hf28 (fun _ h9 => h9) rfl dX1_refresh_1 ?_
  refine lv_if_eq (tgt := 8) hx hb dX1_refresh_4 (by decide) (fun _ => ?_) (fun h9 => absurd (by decide) h9)
  refine lv_iconst (v := 0) hx hb dX1_refresh_8 (by decide) ?_
  refine lv_istore_n (lv' := [(1, .int 0), (0, .ref cu)]) hx hb dX1_refresh_9 rfl hl (by decide) rfl (fun ls hl => ?_)
  refine lv_iload_n hx hb dX1_refresh_10 rfl (lv_at hl 0 rfl) ?_
  refine lv_iconst (v := 4) hx hb dX1_refresh_11 (by decide) ?_
  refine lv_icmp_ge (tgt := 26) hx hb dX1_refresh_12 (by decide) (fun h9 => absurd h9 (by decide)) (fun _ => ?_)
  refine lv_aload_n hx hb dX1_refresh_15 rfl (lv_at hl 1 rfl) ?_
  refine lv_iload_n hx hb dX1_refresh_16 rfl (lv_at hl 0 rfl) ?_
  refine zcall (wr := []) (va_runV (As := [.int 0]) (rest := []) ⟨hx, hb, hml, hown, hts⟩ (z_X1_cut0 l G cu wa wb ro rb cc cs cm 0 (fc) (fs) (fm) s.heap.size) (cwV 1 hts gX1_refresh_X1_cut rfl rfl rfl (by decide +kernel) ⟨Nat.le_of_ble_eq_true rfl, Nat.le_of_ble_eq_true rfl⟩) (zPreV (Wc := [(cu, .inr (1, [.ref wa, .ref wb, .ref cc, .ref cs, .ref cm, .int 0])), (wa, .inr (6, [.ref ro, .int 0, .int 0])), (wb, .inr (6, [.ref rb, .int 0, .int 0])), (cc, .inl (G.2.1, 4, .inl (fc))), (cs, .inl (G.2.1, 132, .inl (fs))), (cm, .inl (G.2.1, 132, .inl (fm)))]) (q0 := 0) (ci := 1) (q := (RX1, TX1, 6)) hP hD hE hS hA [0, 1, 2, 3, 4, 5] rfl (by decide) rfl rfl) rfl rfl hl.1 rfl (lv_room (Nat.le_of_ble_eq_true rfl)) dX1_refresh_17 ⟨Nat.le_of_ble_eq_true rfl, Nat.le_of_ble_eq_true rfl⟩) hP hD hS hA [0, 1, 2, 3, 4, 5] [] rfl rfl (by decide) (by decide) (fun u1 H locs hP hD hS => ?_)
  have hP : va_P G.1 vwCl [(cu, .inr (1, [.ref wa, .ref wb, .ref cc, .ref cs, .ref cm, .int 0])), (cc, .inl (G.2.1, 4, .inl (upd fc 0 1))), (cs, .inl (G.2.1, 132, .inl (upd fs 0 0))), (cm, .inl (G.2.1, 132, .inl (upd fm 0 0))), (wa, .inr (6, [.ref ro, .int 0, .int 0])), (wb, .inr (6, [.ref rb, .int 0, .int 0]))] H := hP
  have hD : va_D A [(cu, .inr (1, [.ref wa, .ref wb, .ref cc, .ref cs, .ref cm, .int 0])), (cc, .inl (G.2.1, 4, .inl (upd fc 0 1))), (cs, .inl (G.2.1, 132, .inl (upd fs 0 0))), (cm, .inl (G.2.1, 132, .inl (upd fm 0 0))), (wa, .inr (6, [.ref ro, .int 0, .int 0])), (wb, .inr (6, [.ref rb, .int 0, .int 0]))] := hD
  refine W.eq (g2 := F0 m 20 ls []) rfl ?_
  refine lv_iinc (v := 1) (lv' := [(1, .int 1), (0, .ref cu)]) hx hb dX1_refresh_20 hl (k := 0) rfl (by decide) (by decide) rfl (fun ls hl => ?_)
  refine lv_goto (tgt := 10) hx hb dX1_refresh_23 (by decide) ?_
  refine lv_iload_n hx hb dX1_refresh_10 rfl (lv_at hl 0 rfl) ?_
  refine lv_iconst (v := 4) hx hb dX1_refresh_11 (by decide) ?_
  refine lv_icmp_ge (tgt := 26) hx hb dX1_refresh_12 (by decide) (fun h9 => absurd h9 (by decide)) (fun _ => ?_)
  refine lv_aload_n hx hb dX1_refresh_15 rfl (lv_at hl 1 rfl) ?_
  refine lv_iload_n hx hb dX1_refresh_16 rfl (lv_at hl 0 rfl) ?_
  refine zcall (wr := []) (va_runV (As := [.int 1]) (rest := []) ⟨hx, hb, hml, hown, hts⟩ (z_X1_cut1 l G cu wa wb ro rb cc cs cm 0 (upd fc 0 1) (upd fs 0 0) (upd fm 0 0) H.size) (cwV 1 hts gX1_refresh_X1_cut rfl rfl rfl (by decide +kernel) ⟨Nat.le_of_ble_eq_true rfl, Nat.le_of_ble_eq_true rfl⟩) (zPreV (Wc := [(cu, .inr (1, [.ref wa, .ref wb, .ref cc, .ref cs, .ref cm, .int 0])), (wa, .inr (6, [.ref ro, .int 0, .int 0])), (wb, .inr (6, [.ref rb, .int 0, .int 0])), (cc, .inl (G.2.1, 4, .inl (upd fc 0 1))), (cs, .inl (G.2.1, 132, .inl (upd fs 0 0))), (cm, .inl (G.2.1, 132, .inl (upd fm 0 0)))]) (q0 := 0) (ci := 1) (q := (RX1, TX1, 6)) hP hD hE hS hA [0, 4, 5, 1, 2, 3] rfl (by decide) rfl rfl) rfl rfl hl.1 rfl (lv_room (Nat.le_of_ble_eq_true rfl)) dX1_refresh_17 ⟨Nat.le_of_ble_eq_true rfl, Nat.le_of_ble_eq_true rfl⟩) hP hD hS hA [0, 4, 5, 1, 2, 3] [] rfl rfl (by decide) (by decide) (fun u2 H locs hP hD hS => ?_)
  have hP : va_P G.1 vwCl [(cu, .inr (1, [.ref wa, .ref wb, .ref cc, .ref cs, .ref cm, .int 0])), (cc, .inl (G.2.1, 4, .inl (upd (upd fc 0 1) 1 1))), (cs, .inl (G.2.1, 132, .inl (upd (upd fs 0 0) 33 0))), (cm, .inl (G.2.1, 132, .inl (upd (upd fm 0 0) 33 0))), (wa, .inr (6, [.ref ro, .int 0, .int 0])), (wb, .inr (6, [.ref rb, .int 0, .int 0]))] H := hP
  have hD : va_D A [(cu, .inr (1, [.ref wa, .ref wb, .ref cc, .ref cs, .ref cm, .int 0])), (cc, .inl (G.2.1, 4, .inl (upd (upd fc 0 1) 1 1))), (cs, .inl (G.2.1, 132, .inl (upd (upd fs 0 0) 33 0))), (cm, .inl (G.2.1, 132, .inl (upd (upd fm 0 0) 33 0))), (wa, .inr (6, [.ref ro, .int 0, .int 0])), (wb, .inr (6, [.ref rb, .int 0, .int 0]))] := hD
  refine W.eq (g2 := F0 m 20 ls []) rfl ?_
  refine lv_iinc (v := 2) (lv' := [(1, .int 2), (0, .ref cu)]) hx hb dX1_refresh_20 hl (k := 0) rfl (by decide) (by decide) rfl (fun ls hl => ?_)
  refine lv_goto (tgt := 10) hx hb dX1_refresh_23 (by decide) ?_
  refine lv_iload_n hx hb dX1_refresh_10 rfl (lv_at hl 0 rfl) ?_
  refine lv_iconst (v := 4) hx hb dX1_refresh_11 (by decide) ?_
  refine lv_icmp_ge (tgt := 26) hx hb dX1_refresh_12 (by decide) (fun h9 => absurd h9 (by decide)) (fun _ => ?_)
  refine lv_aload_n hx hb dX1_refresh_15 rfl (lv_at hl 1 rfl) ?_
  refine lv_iload_n hx hb dX1_refresh_16 rfl (lv_at hl 0 rfl) ?_
  refine zcall (wr := []) (va_runV (As := [.int 2]) (rest := []) ⟨hx, hb, hml, hown, hts⟩ (z_X1_cut2 l G cu wa wb ro rb cc cs cm 0 (upd (upd fc 0 1) 1 1) (upd (upd fs 0 0) 33 0) (upd (upd fm 0 0) 33 0) H.size) (cwV 1 hts gX1_refresh_X1_cut rfl rfl rfl (by decide +kernel) ⟨Nat.le_of_ble_eq_true rfl, Nat.le_of_ble_eq_true rfl⟩) (zPreV (Wc := [(cu, .inr (1, [.ref wa, .ref wb, .ref cc, .ref cs, .ref cm, .int 0])), (wa, .inr (6, [.ref ro, .int 0, .int 0])), (wb, .inr (6, [.ref rb, .int 0, .int 0])), (cc, .inl (G.2.1, 4, .inl (upd (upd fc 0 1) 1 1))), (cs, .inl (G.2.1, 132, .inl (upd (upd fs 0 0) 33 0))), (cm, .inl (G.2.1, 132, .inl (upd (upd fm 0 0) 33 0)))]) (q0 := 0) (ci := 1) (q := (RX1, TX1, 6)) hP hD hE hS hA [0, 4, 5, 1, 2, 3] rfl (by decide) rfl rfl) rfl rfl hl.1 rfl (lv_room (Nat.le_of_ble_eq_true rfl)) dX1_refresh_17 ⟨Nat.le_of_ble_eq_true rfl, Nat.le_of_ble_eq_true rfl⟩) hP hD hS hA [0, 4, 5, 1, 2, 3] [] rfl rfl (by decide) (by decide) (fun u3 H locs hP hD hS => ?_)
  have hP : va_P G.1 vwCl [(cu, .inr (1, [.ref wa, .ref wb, .ref cc, .ref cs, .ref cm, .int 0])), (cc, .inl (G.2.1, 4, .inl (upd (upd (upd fc 0 1) 1 1) 2 1))), (cs, .inl (G.2.1, 132, .inl (upd (upd (upd fs 0 0) 33 0) 66 0))), (cm, .inl (G.2.1, 132, .inl (upd (upd (upd fm 0 0) 33 0) 66 0))), (wa, .inr (6, [.ref ro, .int 0, .int 0])), (wb, .inr (6, [.ref rb, .int 0, .int 0]))] H := hP
  have hD : va_D A [(cu, .inr (1, [.ref wa, .ref wb, .ref cc, .ref cs, .ref cm, .int 0])), (cc, .inl (G.2.1, 4, .inl (upd (upd (upd fc 0 1) 1 1) 2 1))), (cs, .inl (G.2.1, 132, .inl (upd (upd (upd fs 0 0) 33 0) 66 0))), (cm, .inl (G.2.1, 132, .inl (upd (upd (upd fm 0 0) 33 0) 66 0))), (wa, .inr (6, [.ref ro, .int 0, .int 0])), (wb, .inr (6, [.ref rb, .int 0, .int 0]))] := hD
  refine W.eq (g2 := F0 m 20 ls []) rfl ?_
  refine lv_iinc (v := 3) (lv' := [(1, .int 3), (0, .ref cu)]) hx hb dX1_refresh_20 hl (k := 0) rfl (by decide) (by decide) rfl (fun ls hl => ?_)
  refine lv_goto (tgt := 10) hx hb dX1_refresh_23 (by decide) ?_
  refine lv_iload_n hx hb dX1_refresh_10 rfl (lv_at hl 0 rfl) ?_
  refine lv_iconst (v := 4) hx hb dX1_refresh_11 (by decide) ?_
  refine lv_icmp_ge (tgt := 26) hx hb dX1_refresh_12 (by decide) (fun h9 => absurd h9 (by decide)) (fun _ => ?_)
  refine lv_aload_n hx hb dX1_refresh_15 rfl (lv_at hl 1 rfl) ?_
  refine lv_iload_n hx hb dX1_refresh_16 rfl (lv_at hl 0 rfl) ?_
  refine zcall (wr := []) (va_runV (As := [.int 3]) (rest := []) ⟨hx, hb, hml, hown, hts⟩ (z_X1_cut3 l G cu wa wb ro rb cc cs cm 0 (upd (upd (upd fc 0 1) 1 1) 2 1) (upd (upd (upd fs 0 0) 33 0) 66 0) (upd (upd (upd fm 0 0) 33 0) 66 0) H.size) (cwV 1 hts gX1_refresh_X1_cut rfl rfl rfl (by decide +kernel) ⟨Nat.le_of_ble_eq_true rfl, Nat.le_of_ble_eq_true rfl⟩) (zPreV (Wc := [(cu, .inr (1, [.ref wa, .ref wb, .ref cc, .ref cs, .ref cm, .int 0])), (wa, .inr (6, [.ref ro, .int 0, .int 0])), (wb, .inr (6, [.ref rb, .int 0, .int 0])), (cc, .inl (G.2.1, 4, .inl (upd (upd (upd fc 0 1) 1 1) 2 1))), (cs, .inl (G.2.1, 132, .inl (upd (upd (upd fs 0 0) 33 0) 66 0))), (cm, .inl (G.2.1, 132, .inl (upd (upd (upd fm 0 0) 33 0) 66 0)))]) (q0 := 0) (ci := 1) (q := (RX1, TX1, 6)) hP hD hE hS hA [0, 4, 5, 1, 2, 3] rfl (by decide) rfl rfl) rfl rfl hl.1 rfl (lv_room (Nat.le_of_ble_eq_true rfl)) dX1_refresh_17 ⟨Nat.le_of_ble_eq_true rfl, Nat.le_of_ble_eq_true rfl⟩) hP hD hS hA [0, 4, 5, 1, 2, 3] [] rfl rfl (by decide) (by decide) (fun u4 H locs hP hD hS => ?_)
  have hP : va_P G.1 vwCl [(cu, .inr (1, [.ref wa, .ref wb, .ref cc, .ref cs, .ref cm, .int 0])), (cc, .inl (G.2.1, 4, .inl (upd (upd (upd (upd fc 0 1) 1 1) 2 1) 3 1))), (cs, .inl (G.2.1, 132, .inl (upd (upd (upd (upd fs 0 0) 33 0) 66 0) 99 0))), (cm, .inl (G.2.1, 132, .inl (upd (upd (upd (upd fm 0 0) 33 0) 66 0) 99 0))), (wa, .inr (6, [.ref ro, .int 0, .int 0])), (wb, .inr (6, [.ref rb, .int 0, .int 0]))] H := hP
  have hD : va_D A [(cu, .inr (1, [.ref wa, .ref wb, .ref cc, .ref cs, .ref cm, .int 0])), (cc, .inl (G.2.1, 4, .inl (upd (upd (upd (upd fc 0 1) 1 1) 2 1) 3 1))), (cs, .inl (G.2.1, 132, .inl (upd (upd (upd (upd fs 0 0) 33 0) 66 0) 99 0))), (cm, .inl (G.2.1, 132, .inl (upd (upd (upd (upd fm 0 0) 33 0) 66 0) 99 0))), (wa, .inr (6, [.ref ro, .int 0, .int 0])), (wb, .inr (6, [.ref rb, .int 0, .int 0]))] := hD
  refine W.eq (g2 := F0 m 20 ls []) rfl ?_
  refine lv_iinc (v := 4) (lv' := [(1, .int 4), (0, .ref cu)]) hx hb dX1_refresh_20 hl (k := 0) rfl (by decide) (by decide) rfl (fun ls hl => ?_)
  refine lv_goto (tgt := 10) hx hb dX1_refresh_23 (by decide) ?_
  refine lv_iload_n hx hb dX1_refresh_10 rfl (lv_at hl 0 rfl) ?_
  refine lv_iconst (v := 4) hx hb dX1_refresh_11 (by decide) ?_
  refine lv_icmp_ge (tgt := 26) hx hb dX1_refresh_12 (by decide) (fun _ => ?_) (fun h9 => absurd (by decide) h9)
  refine lv_aload_n hx hb dX1_refresh_26 rfl (lv_at hl 1 rfl) ?_
  refine lv_iconst (v := 1) hx hb dX1_refresh_27 (by decide) ?_
  refine va_put (D := G.1) (ci := 1) (v := .int 1) (ty := tyX1 5) (C := RX1) (T := TX1) (N := 6) hx hb hts hw1 tyX1 tyX1_ok nmX1 hown hE.1 hP hD hS 0 rfl rfl 5 (by decide) hf28 (fun _ h9 => h9) rfl (by decide +kernel) rfl rfl (Nat.le_of_ble_eq_true rfl) dX1_refresh_28 (fun H locs hP hD hS => ?_)
  have hP : va_P G.1 vwCl [(cu, .inr (1, [.ref wa, .ref wb, .ref cc, .ref cs, .ref cm, .int 1])), (cc, .inl (G.2.1, 4, .inl (upd (upd (upd (upd fc 0 1) 1 1) 2 1) 3 1))), (cs, .inl (G.2.1, 132, .inl (upd (upd (upd (upd fs 0 0) 33 0) 66 0) 99 0))), (cm, .inl (G.2.1, 132, .inl (upd (upd (upd (upd fm 0 0) 33 0) 66 0) 99 0))), (wa, .inr (6, [.ref ro, .int 0, .int 0])), (wb, .inr (6, [.ref rb, .int 0, .int 0]))] H := hP
  have hD : va_D A [(cu, .inr (1, [.ref wa, .ref wb, .ref cc, .ref cs, .ref cm, .int 1])), (cc, .inl (G.2.1, 4, .inl (upd (upd (upd (upd fc 0 1) 1 1) 2 1) 3 1))), (cs, .inl (G.2.1, 132, .inl (upd (upd (upd (upd fs 0 0) 33 0) 66 0) 99 0))), (cm, .inl (G.2.1, 132, .inl (upd (upd (upd (upd fm 0 0) 33 0) 66 0) 99 0))), (wa, .inr (6, [.ref ro, .int 0, .int 0])), (wb, .inr (6, [.ref rb, .int 0, .int 0]))] := hD
  exact zend_v hx hb hr hlocks (fun k => [].getD k 0) hP hD hS (Nat.le_of_ble_eq_true rfl) (Nat.le_of_ble_eq_true rfl) dX1_refresh_31

set_option maxHeartbeats 4000000 in
set_option maxRecDepth 100000 in
theorem z_X1_refresh1 (l : Launch) (G : zG) (cu : Nat) (wa : Nat) (wb : Nat) (cc : Nat) (cs : Nat) (cm : Nat) : zR l G yX1_refresh wsX1_refresh { frames := 0, cells := 0, slots := 0, locals := 0 } [(cu, .inr (1, [.ref wa, .ref wb, .ref cc, .ref cs, .ref cm, .int 1]))] [.ref cu] none (fun u => [(cu, .inr (1, [.ref wa, .ref wb, .ref cc, .ref cs, .ref cm, .int 1]))]) 0 0 := by
  refine zR_of (cc := cX1_refresh) (maxL := 2) (rt := none) (by decide) rfl (Nat.le_of_ble_eq_true rfl) ?_
  intro p e s m below meth c A ls hx hb hml hr hts hown hlocks hin hA hE hP hD hS hl
  have hl : lv_has ls 2 [(0, .ref cu)] := hl
  have hown : s.vm.findClass RX1 = some m.cls := hown
  have hP : va_P G.1 vwCl [(cu, .inr (1, [.ref wa, .ref wb, .ref cc, .ref cs, .ref cm, .int 1]))] s.heap := hP
  have hw1 : ∀ w ∈ u_ws RX1 TX1 6, w ∈ wsX1_refresh := by decide +kernel
  have hf28 := hts (.fieldLink RX1 28 "Nettle$Cuts" "isFresh" "Z") (by decide +kernel)
  refine lv_aload_n hx hb dX1_refresh_0 rfl (lv_at hl 0 rfl) ?_
  refine va_get (D := G.1) (ci := 1) (v := .int 1) (C := RX1) (T := TX1) (N := 6) hx hb hts hw1 hown hE.1 hP 0 rfl rfl 5 (by decide) hf28 (fun _ h9 => h9) rfl dX1_refresh_1 ?_
  refine lv_if_eq (tgt := 8) hx hb dX1_refresh_4 (by decide) (fun h9 => absurd h9 (by decide)) (fun _ => ?_)
  exact zend_v hx hb hr hlocks (fun k => [].getD k 0) hP hD hS (Nat.le_of_ble_eq_true rfl) (Nat.le_of_ble_eq_true rfl) dX1_refresh_7
