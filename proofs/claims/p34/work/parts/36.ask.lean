/-! the survey is asked -/
theorem dX4_amountOf_0 : decode cX4_amountOf 0 = .ok (.iconst 1, 1) := by decide +kernel
theorem dX4_amountOf_1 : decode cX4_amountOf 1 = .ok (.iload_n 1, 1) := by decide +kernel
theorem dX4_amountOf_2 : decode cX4_amountOf 2 = .ok (.ishl, 1) := by decide +kernel
theorem dX4_amountOf_3 : decode cX4_amountOf 3 = .ok (.istore_n 2, 1) := by decide +kernel
theorem dX4_amountOf_4 : decode cX4_amountOf 4 = .ok (.aload_n 0, 1) := by decide +kernel
theorem dX4_amountOf_5 : decode cX4_amountOf 5 = .ok (.getfield 21, 3) := by decide +kernel
set_option maxRecDepth 20000 in
theorem ggX4_amountOf_X6_deciders : GoodIn wsX4_amountOf wsX6_deciders := goodIn_r _ [7, 8, 9, 10, 11, 12, 13, 14, 15, 27, 28, 29, 30, 31, 32, 33] (by decide +kernel) (by decide +kernel)
set_option maxRecDepth 20000 in
theorem gX4_amountOf_X6_deciders : GoodIn wsX4_amountOf (wsV RX4 73 RX6 yX6_deciders wsX6_deciders) := goodIn_app (goodIn_of _ (by decide +kernel)) ggX4_amountOf_X6_deciders
theorem dX4_amountOf_8 : decode cX4_amountOf 8 = .ok (.invokevirtual 73, 3) := by decide +kernel
theorem dX4_amountOf_11 : decode cX4_amountOf 11 = .ok (.iload_n 2, 1) := by decide +kernel
theorem dX4_amountOf_12 : decode cX4_amountOf 12 = .ok (.iconst 1, 1) := by decide +kernel
theorem dX4_amountOf_13 : decode cX4_amountOf 13 = .ok (.isub, 1) := by decide +kernel
theorem dX4_amountOf_14 : decode cX4_amountOf 14 = .ok (.iand, 1) := by decide +kernel
theorem dX4_amountOf_15 : decode cX4_amountOf 15 = .ok (.istore_n 3, 1) := by decide +kernel
theorem dX4_amountOf_16 : decode cX4_amountOf 16 = .ok (.iconst 0, 1) := by decide +kernel
theorem dX4_amountOf_17 : decode cX4_amountOf 17 = .ok (.istore 4, 2) := by decide +kernel
theorem dX4_amountOf_19 : decode cX4_amountOf 19 = .ok (.iconst 0, 1) := by decide +kernel
theorem dX4_amountOf_20 : decode cX4_amountOf 20 = .ok (.istore 5, 2) := by decide +kernel
theorem dX4_amountOf_22 : decode cX4_amountOf 22 = .ok (.iload 5, 2) := by decide +kernel
theorem dX4_amountOf_24 : decode cX4_amountOf 24 = .ok (.aload_n 0, 1) := by decide +kernel
set_option maxRecDepth 20000 in
theorem ggX4_amountOf_X4_setCount : GoodIn wsX4_amountOf wsX4_setCount := goodIn_r _ [20, 1, 21, 22, 23, 24, 25, 26, 27, 28, 29] (by decide +kernel) (by decide +kernel)
set_option maxRecDepth 20000 in
theorem gX4_amountOf_X4_setCount : GoodIn wsX4_amountOf (wsV RX4 35 RX4 yX4_setCount wsX4_setCount) := goodIn_app (goodIn_of _ (by decide +kernel)) ggX4_amountOf_X4_setCount
theorem dX4_amountOf_25 : decode cX4_amountOf 25 = .ok (.invokevirtual 35, 3) := by decide +kernel
theorem dX4_amountOf_28 : decode cX4_amountOf 28 = .ok (.if_icmp .ge 35, 3) := by decide +kernel
theorem dX4_amountOf_63 : decode cX4_amountOf 63 = .ok (.iload 4, 2) := by decide +kernel
theorem dX4_amountOf_65 : decode cX4_amountOf 65 = .ok (.ireturn, 1) := by decide +kernel
theorem dX4_amountOf_31 : decode cX4_amountOf 31 = .ok (.iload 5, 2) := by decide +kernel
theorem dX4_amountOf_33 : decode cX4_amountOf 33 = .ok (.iload_n 2, 1) := by decide +kernel
theorem dX4_amountOf_34 : decode cX4_amountOf 34 = .ok (.iand, 1) := by decide +kernel
theorem dX4_amountOf_35 : decode cX4_amountOf 35 = .ok (.ifCond .eq 22, 3) := by decide +kernel
theorem dX4_amountOf_57 : decode cX4_amountOf 57 = .ok (.iinc 5 1, 3) := by decide +kernel
theorem dX4_amountOf_60 : decode cX4_amountOf 60 = .ok (.goto (-38), 3) := by decide +kernel
theorem dX4_amountOf_38 : decode cX4_amountOf 38 = .ok (.iload 5, 2) := by decide +kernel
theorem dX4_amountOf_40 : decode cX4_amountOf 40 = .ok (.iload_n 3, 1) := by decide +kernel
theorem dX4_amountOf_41 : decode cX4_amountOf 41 = .ok (.iand, 1) := by decide +kernel
theorem dX4_amountOf_42 : decode cX4_amountOf 42 = .ok (.ifCond .ne 15, 3) := by decide +kernel
theorem dX4_amountOf_45 : decode cX4_amountOf 45 = .ok (.iload 4, 2) := by decide +kernel
theorem dX4_amountOf_47 : decode cX4_amountOf 47 = .ok (.aload_n 0, 1) := by decide +kernel
theorem dX4_amountOf_48 : decode cX4_amountOf 48 = .ok (.getfield 18, 3) := by decide +kernel
theorem dX4_amountOf_51 : decode cX4_amountOf 51 = .ok (.iload 5, 2) := by decide +kernel
theorem dX4_amountOf_53 : decode cX4_amountOf 53 = .ok (.iaload, 1) := by decide +kernel
theorem dX4_amountOf_54 : decode cX4_amountOf 54 = .ok (.iadd, 1) := by decide +kernel
theorem dX4_amountOf_55 : decode cX4_amountOf 55 = .ok (.istore 4, 2) := by decide +kernel
theorem dX4_amountAllowed_0 : decode cX4_amountAllowed 0 = .ok (.aload_n 0, 1) := by decide +kernel
theorem dX4_amountAllowed_1 : decode cX4_amountAllowed 1 = .ok (.getfield 21, 3) := by decide +kernel
set_option maxRecDepth 20000 in
theorem ggX4_amountAllowed_X6_deciders : GoodIn wsX4_amountAllowed wsX6_deciders := goodIn_r _ [7, 8, 9, 10, 11, 12, 13, 14, 15, 37, 38, 39, 40, 41, 42, 43] (by decide +kernel) (by decide +kernel)
set_option maxRecDepth 20000 in
theorem gX4_amountAllowed_X6_deciders : GoodIn wsX4_amountAllowed (wsV RX4 73 RX6 yX6_deciders wsX6_deciders) := goodIn_app (goodIn_of _ (by decide +kernel)) ggX4_amountAllowed_X6_deciders
theorem dX4_amountAllowed_4 : decode cX4_amountAllowed 4 = .ok (.invokevirtual 73, 3) := by decide +kernel
theorem dX4_amountAllowed_7 : decode cX4_amountAllowed 7 = .ok (.iload_n 1, 1) := by decide +kernel
theorem dX4_amountAllowed_8 : decode cX4_amountAllowed 8 = .ok (.iand, 1) := by decide +kernel
theorem dX4_amountAllowed_9 : decode cX4_amountAllowed 9 = .ok (.istore_n 2, 1) := by decide +kernel
theorem dX4_amountAllowed_10 : decode cX4_amountAllowed 10 = .ok (.iconst 0, 1) := by decide +kernel
theorem dX4_amountAllowed_11 : decode cX4_amountAllowed 11 = .ok (.istore_n 3, 1) := by decide +kernel
theorem dX4_amountAllowed_12 : decode cX4_amountAllowed 12 = .ok (.iconst 0, 1) := by decide +kernel
theorem dX4_amountAllowed_13 : decode cX4_amountAllowed 13 = .ok (.istore 4, 2) := by decide +kernel
theorem dX4_amountAllowed_15 : decode cX4_amountAllowed 15 = .ok (.iload 4, 2) := by decide +kernel
theorem dX4_amountAllowed_17 : decode cX4_amountAllowed 17 = .ok (.aload_n 0, 1) := by decide +kernel
set_option maxRecDepth 20000 in
theorem ggX4_amountAllowed_X4_setCount : GoodIn wsX4_amountAllowed wsX4_setCount := goodIn_r _ [20, 1, 21, 32, 33, 34, 35, 36, 37, 38, 39] (by decide +kernel) (by decide +kernel)
set_option maxRecDepth 20000 in
theorem gX4_amountAllowed_X4_setCount : GoodIn wsX4_amountAllowed (wsV RX4 35 RX4 yX4_setCount wsX4_setCount) := goodIn_app (goodIn_of _ (by decide +kernel)) ggX4_amountAllowed_X4_setCount
theorem dX4_amountAllowed_18 : decode cX4_amountAllowed 18 = .ok (.invokevirtual 35, 3) := by decide +kernel
theorem dX4_amountAllowed_21 : decode cX4_amountAllowed 21 = .ok (.if_icmp .ge 33, 3) := by decide +kernel
theorem dX4_amountAllowed_54 : decode cX4_amountAllowed 54 = .ok (.iload_n 3, 1) := by decide +kernel
theorem dX4_amountAllowed_55 : decode cX4_amountAllowed 55 = .ok (.ireturn, 1) := by decide +kernel
theorem dX4_amountAllowed_24 : decode cX4_amountAllowed 24 = .ok (.aload_n 0, 1) := by decide +kernel
theorem dX4_amountAllowed_25 : decode cX4_amountAllowed 25 = .ok (.getfield 21, 3) := by decide +kernel
theorem dX4_amountAllowed_28 : decode cX4_amountAllowed 28 = .ok (.iload 4, 2) := by decide +kernel
theorem dX4_amountAllowed_30 : decode cX4_amountAllowed 30 = .ok (.iload_n 2, 1) := by decide +kernel
theorem dX4_amountAllowed_31 : decode cX4_amountAllowed 31 = .ok (.iand, 1) := by decide +kernel
set_option maxRecDepth 20000 in
theorem ggX4_amountAllowed_X6_allows : GoodIn wsX4_amountAllowed wsX6_allows := goodIn_r _ [25, 26, 9, 27, 28, 29, 30, 6, 31, 8, 37, 38, 39, 40, 41, 42, 43] (by decide +kernel) (by decide +kernel)
set_option maxRecDepth 20000 in
theorem gX4_amountAllowed_X6_allows : GoodIn wsX4_amountAllowed (wsV RX4 76 RX6 yX6_allows wsX6_allows) := goodIn_app (goodIn_of _ (by decide +kernel)) ggX4_amountAllowed_X6_allows
theorem dX4_amountAllowed_32 : decode cX4_amountAllowed 32 = .ok (.invokevirtual 76, 3) := by decide +kernel
theorem dX4_amountAllowed_35 : decode cX4_amountAllowed 35 = .ok (.ifCond .eq 13, 3) := by decide +kernel
theorem dX4_amountAllowed_48 : decode cX4_amountAllowed 48 = .ok (.iinc 4 1, 3) := by decide +kernel
theorem dX4_amountAllowed_51 : decode cX4_amountAllowed 51 = .ok (.goto (-36), 3) := by decide +kernel
theorem dX4_amountAllowed_38 : decode cX4_amountAllowed 38 = .ok (.iload_n 3, 1) := by decide +kernel
theorem dX4_amountAllowed_39 : decode cX4_amountAllowed 39 = .ok (.aload_n 0, 1) := by decide +kernel
theorem dX4_amountAllowed_40 : decode cX4_amountAllowed 40 = .ok (.getfield 18, 3) := by decide +kernel
theorem dX4_amountAllowed_43 : decode cX4_amountAllowed 43 = .ok (.iload 4, 2) := by decide +kernel
theorem dX4_amountAllowed_45 : decode cX4_amountAllowed 45 = .ok (.iaload, 1) := by decide +kernel
theorem dX4_amountAllowed_46 : decode cX4_amountAllowed 46 = .ok (.iadd, 1) := by decide +kernel
theorem dX4_amountAllowed_47 : decode cX4_amountAllowed 47 = .ok (.istore_n 3, 1) := by decide +kernel
theorem dX4_isDead_0 : decode cX4_isDead 0 = .ok (.aload_n 0, 1) := by decide +kernel
theorem dX4_isDead_1 : decode cX4_isDead 1 = .ok (.iload_n 1, 1) := by decide +kernel
set_option maxRecDepth 20000 in
theorem ggX4_isDead_X4_amountOf : GoodIn wsX4_isDead wsX4_amountOf := goodIn_r _ [5, 6, 7, 8, 9, 10, 11, 12, 13, 14, 15, 16, 17, 18, 19, 20, 21, 22, 23, 4, 24, 25, 26, 27, 28, 29, 30, 31, 32, 33, 34, 35, 36, 37] (by decide +kernel) (by decide +kernel)
set_option maxRecDepth 20000 in
theorem gX4_isDead_X4_amountOf : GoodIn wsX4_isDead (wsV RX4 80 RX4 yX4_amountOf wsX4_amountOf) := goodIn_app (goodIn_of _ (by decide +kernel)) ggX4_isDead_X4_amountOf
theorem dX4_isDead_2 : decode cX4_isDead 2 = .ok (.invokevirtual 80, 3) := by decide +kernel
theorem dX4_isDead_5 : decode cX4_isDead 5 = .ok (.ifCond .ne 7, 3) := by decide +kernel
theorem dX4_isDead_12 : decode cX4_isDead 12 = .ok (.iconst 0, 1) := by decide +kernel
theorem dX4_isDead_13 : decode cX4_isDead 13 = .ok (.ireturn, 1) := by decide +kernel
theorem dX4_isDead_8 : decode cX4_isDead 8 = .ok (.iconst 1, 1) := by decide +kernel
theorem dX4_isDead_9 : decode cX4_isDead 9 = .ok (.goto 4, 3) := by decide +kernel
theorem dX4_isNeedless_0 : decode cX4_isNeedless 0 = .ok (.aload_n 0, 1) := by decide +kernel
theorem dX4_isNeedless_1 : decode cX4_isNeedless 1 = .ok (.getfield 21, 3) := by decide +kernel
theorem dX4_isNeedless_4 : decode cX4_isNeedless 4 = .ok (.getfield 56, 3) := by decide +kernel
theorem dX4_isNeedless_7 : decode cX4_isNeedless 7 = .ok (.iload_n 1, 1) := by decide +kernel
theorem dX4_isNeedless_8 : decode cX4_isNeedless 8 = .ok (.aaload, 1) := by decide +kernel
set_option maxRecDepth 20000 in
theorem ggX4_isNeedless_X3_isNote : GoodIn wsX4_isNeedless wsX3_isNote := goodIn_r _ [8, 9, 42, 43, 44, 45] (by decide +kernel) (by decide +kernel)
set_option maxRecDepth 20000 in
theorem gX4_isNeedless_X3_isNote : GoodIn wsX4_isNeedless (wsV RX4 83 RX3 yX3_isNote wsX3_isNote) := goodIn_app (goodIn_of _ (by decide +kernel)) ggX4_isNeedless_X3_isNote
theorem dX4_isNeedless_9 : decode cX4_isNeedless 9 = .ok (.invokevirtual 83, 3) := by decide +kernel
theorem dX4_isNeedless_12 : decode cX4_isNeedless 12 = .ok (.ifCond .eq 5, 3) := by decide +kernel
theorem dX4_isNeedless_17 : decode cX4_isNeedless 17 = .ok (.aload_n 0, 1) := by decide +kernel
theorem dX4_isNeedless_18 : decode cX4_isNeedless 18 = .ok (.getfield 21, 3) := by decide +kernel
set_option maxRecDepth 20000 in
theorem ggX4_isNeedless_X6_deciders : GoodIn wsX4_isNeedless wsX6_deciders := goodIn_r _ [14, 15, 16, 17, 5, 6, 7, 8, 9, 39, 40, 41, 42, 43, 44, 45] (by decide +kernel) (by decide +kernel)
set_option maxRecDepth 20000 in
theorem gX4_isNeedless_X6_deciders : GoodIn wsX4_isNeedless (wsV RX4 73 RX6 yX6_deciders wsX6_deciders) := goodIn_app (goodIn_of _ (by decide +kernel)) ggX4_isNeedless_X6_deciders
theorem dX4_isNeedless_21 : decode cX4_isNeedless 21 = .ok (.invokevirtual 73, 3) := by decide +kernel
theorem dX4_isNeedless_24 : decode cX4_isNeedless 24 = .ok (.istore_n 2, 1) := by decide +kernel
theorem dX4_isNeedless_25 : decode cX4_isNeedless 25 = .ok (.iload_n 2, 1) := by decide +kernel
theorem dX4_isNeedless_26 : decode cX4_isNeedless 26 = .ok (.iconst 1, 1) := by decide +kernel
theorem dX4_isNeedless_27 : decode cX4_isNeedless 27 = .ok (.iload_n 1, 1) := by decide +kernel
theorem dX4_isNeedless_28 : decode cX4_isNeedless 28 = .ok (.ishl, 1) := by decide +kernel
theorem dX4_isNeedless_29 : decode cX4_isNeedless 29 = .ok (.isub, 1) := by decide +kernel
theorem dX4_isNeedless_30 : decode cX4_isNeedless 30 = .ok (.istore_n 3, 1) := by decide +kernel
theorem dX4_isNeedless_31 : decode cX4_isNeedless 31 = .ok (.iconst 0, 1) := by decide +kernel
theorem dX4_isNeedless_32 : decode cX4_isNeedless 32 = .ok (.istore 4, 2) := by decide +kernel
theorem dX4_isNeedless_34 : decode cX4_isNeedless 34 = .ok (.iload 4, 2) := by decide +kernel
theorem dX4_isNeedless_36 : decode cX4_isNeedless 36 = .ok (.aload_n 0, 1) := by decide +kernel
set_option maxRecDepth 20000 in
theorem ggX4_isNeedless_X4_setCount : GoodIn wsX4_isNeedless wsX4_setCount := goodIn_r _ [22, 1, 23, 34, 35, 36, 37, 38, 39, 40, 41] (by decide +kernel) (by decide +kernel)
set_option maxRecDepth 20000 in
theorem gX4_isNeedless_X4_setCount : GoodIn wsX4_isNeedless (wsV RX4 35 RX4 yX4_setCount wsX4_setCount) := goodIn_app (goodIn_of _ (by decide +kernel)) ggX4_isNeedless_X4_setCount
theorem dX4_isNeedless_37 : decode cX4_isNeedless 37 = .ok (.invokevirtual 35, 3) := by decide +kernel
theorem dX4_isNeedless_40 : decode cX4_isNeedless 40 = .ok (.if_icmp .ge 46, 3) := by decide +kernel
theorem dX4_isNeedless_86 : decode cX4_isNeedless 86 = .ok (.iconst 1, 1) := by decide +kernel
theorem dX4_isNeedless_87 : decode cX4_isNeedless 87 = .ok (.ireturn, 1) := by decide +kernel
theorem dX4_isNeedless_43 : decode cX4_isNeedless 43 = .ok (.aload_n 0, 1) := by decide +kernel
theorem dX4_isNeedless_44 : decode cX4_isNeedless 44 = .ok (.getfield 18, 3) := by decide +kernel
theorem dX4_isNeedless_47 : decode cX4_isNeedless 47 = .ok (.iload 4, 2) := by decide +kernel
theorem dX4_isNeedless_49 : decode cX4_isNeedless 49 = .ok (.iaload, 1) := by decide +kernel
theorem dX4_isNeedless_50 : decode cX4_isNeedless 50 = .ok (.ifCond .le 30, 3) := by decide +kernel
theorem dX4_isNeedless_80 : decode cX4_isNeedless 80 = .ok (.iinc 4 1, 3) := by decide +kernel
theorem dX4_isNeedless_83 : decode cX4_isNeedless 83 = .ok (.goto (-49), 3) := by decide +kernel
theorem dX4_isNeedless_53 : decode cX4_isNeedless 53 = .ok (.aload_n 0, 1) := by decide +kernel
theorem dX4_isNeedless_54 : decode cX4_isNeedless 54 = .ok (.getfield 21, 3) := by decide +kernel
theorem dX4_isNeedless_57 : decode cX4_isNeedless 57 = .ok (.iload 4, 2) := by decide +kernel
theorem dX4_isNeedless_59 : decode cX4_isNeedless 59 = .ok (.iload_n 2, 1) := by decide +kernel
theorem dX4_isNeedless_60 : decode cX4_isNeedless 60 = .ok (.iand, 1) := by decide +kernel
set_option maxRecDepth 20000 in
theorem ggX4_isNeedless_X6_allows : GoodIn wsX4_isNeedless wsX6_allows := goodIn_r _ [27, 28, 16, 29, 30, 31, 32, 13, 33, 15, 39, 40, 41, 42, 43, 44, 45] (by decide +kernel) (by decide +kernel)
set_option maxRecDepth 20000 in
theorem gX4_isNeedless_X6_allows : GoodIn wsX4_isNeedless (wsV RX4 76 RX6 yX6_allows wsX6_allows) := goodIn_app (goodIn_of _ (by decide +kernel)) ggX4_isNeedless_X6_allows
theorem dX4_isNeedless_61 : decode cX4_isNeedless 61 = .ok (.invokevirtual 76, 3) := by decide +kernel
theorem dX4_isNeedless_64 : decode cX4_isNeedless 64 = .ok (.aload_n 0, 1) := by decide +kernel
theorem dX4_isNeedless_65 : decode cX4_isNeedless 65 = .ok (.getfield 21, 3) := by decide +kernel
theorem dX4_isNeedless_68 : decode cX4_isNeedless 68 = .ok (.iload 4, 2) := by decide +kernel
theorem dX4_isNeedless_70 : decode cX4_isNeedless 70 = .ok (.iload_n 3, 1) := by decide +kernel
theorem dX4_isNeedless_71 : decode cX4_isNeedless 71 = .ok (.iand, 1) := by decide +kernel
theorem dX4_isNeedless_72 : decode cX4_isNeedless 72 = .ok (.invokevirtual 76, 3) := by decide +kernel
theorem dX4_isNeedless_75 : decode cX4_isNeedless 75 = .ok (.if_icmp .eq 5, 3) := by decide +kernel
theorem dX4_isNeedless_78 : decode cX4_isNeedless 78 = .ok (.iconst 0, 1) := by decide +kernel
theorem dX4_isNeedless_79 : decode cX4_isNeedless 79 = .ok (.ireturn, 1) := by decide +kernel
theorem dX4_isNeedless_15 : decode cX4_isNeedless 15 = .ok (.iconst 0, 1) := by decide +kernel
theorem dX4_isNeedless_16 : decode cX4_isNeedless 16 = .ok (.ireturn, 1) := by decide +kernel
theorem dX4_allowsMoved_0 : decode cX4_allowsMoved 0 = .ok (.iconst 1, 1) := by decide +kernel
theorem dX4_allowsMoved_1 : decode cX4_allowsMoved 1 = .ok (.iload_n 2, 1) := by decide +kernel
theorem dX4_allowsMoved_2 : decode cX4_allowsMoved 2 = .ok (.ishl, 1) := by decide +kernel
theorem dX4_allowsMoved_3 : decode cX4_allowsMoved 3 = .ok (.istore 4, 2) := by decide +kernel
theorem dX4_allowsMoved_5 : decode cX4_allowsMoved 5 = .ok (.iload_n 1, 1) := by decide +kernel
theorem dX4_allowsMoved_6 : decode cX4_allowsMoved 6 = .ok (.iload 4, 2) := by decide +kernel
theorem dX4_allowsMoved_8 : decode cX4_allowsMoved 8 = .ok (.iconst (-1), 1) := by decide +kernel
theorem dX4_allowsMoved_9 : decode cX4_allowsMoved 9 = .ok (.ixor, 1) := by decide +kernel
theorem dX4_allowsMoved_10 : decode cX4_allowsMoved 10 = .ok (.iand, 1) := by decide +kernel
theorem dX4_allowsMoved_11 : decode cX4_allowsMoved 11 = .ok (.istore 5, 2) := by decide +kernel
theorem dX4_allowsMoved_13 : decode cX4_allowsMoved 13 = .ok (.iload_n 3, 1) := by decide +kernel
theorem dX4_allowsMoved_14 : decode cX4_allowsMoved 14 = .ok (.iload_n 2, 1) := by decide +kernel
theorem dX4_allowsMoved_15 : decode cX4_allowsMoved 15 = .ok (.if_icmp .ge 11, 3) := by decide +kernel
theorem dX4_allowsMoved_26 : decode cX4_allowsMoved 26 = .ok (.iconst 2, 1) := by decide +kernel
theorem dX4_allowsMoved_27 : decode cX4_allowsMoved 27 = .ok (.iload_n 3, 1) := by decide +kernel
theorem dX4_allowsMoved_28 : decode cX4_allowsMoved 28 = .ok (.ishl, 1) := by decide +kernel
theorem dX4_allowsMoved_29 : decode cX4_allowsMoved 29 = .ok (.iconst 1, 1) := by decide +kernel
theorem dX4_allowsMoved_30 : decode cX4_allowsMoved 30 = .ok (.isub, 1) := by decide +kernel
theorem dX4_allowsMoved_31 : decode cX4_allowsMoved 31 = .ok (.istore 6, 2) := by decide +kernel
theorem dX4_allowsMoved_33 : decode cX4_allowsMoved 33 = .ok (.iload_n 1, 1) := by decide +kernel
theorem dX4_allowsMoved_34 : decode cX4_allowsMoved 34 = .ok (.iload 4, 2) := by decide +kernel
theorem dX4_allowsMoved_36 : decode cX4_allowsMoved 36 = .ok (.iand, 1) := by decide +kernel
theorem dX4_allowsMoved_37 : decode cX4_allowsMoved 37 = .ok (.ifCond .eq 21, 3) := by decide +kernel
theorem dX4_allowsMoved_58 : decode cX4_allowsMoved 58 = .ok (.aload_n 0, 1) := by decide +kernel
theorem dX4_allowsMoved_59 : decode cX4_allowsMoved 59 = .ok (.getfield 21, 3) := by decide +kernel
theorem dX4_allowsMoved_62 : decode cX4_allowsMoved 62 = .ok (.iload 5, 2) := by decide +kernel
set_option maxRecDepth 20000 in
theorem ggX4_allowsMoved_X6_allows : GoodIn wsX4_allowsMoved wsX6_allows := goodIn_r _ [6, 7, 8, 9, 10, 11, 12, 5, 13, 14, 20, 21, 22, 23, 24, 25, 26] (by decide +kernel) (by decide +kernel)
set_option maxRecDepth 20000 in
theorem gX4_allowsMoved_X6_allows : GoodIn wsX4_allowsMoved (wsV RX4 76 RX6 yX6_allows wsX6_allows) := goodIn_app (goodIn_of _ (by decide +kernel)) ggX4_allowsMoved_X6_allows
theorem dX4_allowsMoved_64 : decode cX4_allowsMoved 64 = .ok (.invokevirtual 76, 3) := by decide +kernel
theorem dX4_allowsMoved_67 : decode cX4_allowsMoved 67 = .ok (.ireturn, 1) := by decide +kernel
theorem dX4_allowsMoved_40 : decode cX4_allowsMoved 40 = .ok (.iload 5, 2) := by decide +kernel
theorem dX4_allowsMoved_42 : decode cX4_allowsMoved 42 = .ok (.iload 6, 2) := by decide +kernel
theorem dX4_allowsMoved_44 : decode cX4_allowsMoved 44 = .ok (.iand, 1) := by decide +kernel
theorem dX4_allowsMoved_45 : decode cX4_allowsMoved 45 = .ok (.ifCond .ne 13, 3) := by decide +kernel
theorem dX4_allowsMoved_48 : decode cX4_allowsMoved 48 = .ok (.aload_n 0, 1) := by decide +kernel
theorem dX4_allowsMoved_49 : decode cX4_allowsMoved 49 = .ok (.getfield 21, 3) := by decide +kernel
theorem dX4_allowsMoved_52 : decode cX4_allowsMoved 52 = .ok (.iload 4, 2) := by decide +kernel
theorem dX4_allowsMoved_54 : decode cX4_allowsMoved 54 = .ok (.invokevirtual 76, 3) := by decide +kernel
theorem dX4_allowsMoved_57 : decode cX4_allowsMoved 57 = .ok (.ireturn, 1) := by decide +kernel
theorem dX4_amountMoved_0 : decode cX4_amountMoved 0 = .ok (.aload_n 0, 1) := by decide +kernel
theorem dX4_amountMoved_1 : decode cX4_amountMoved 1 = .ok (.getfield 21, 3) := by decide +kernel
set_option maxRecDepth 20000 in
theorem ggX4_amountMoved_X6_deciders : GoodIn wsX4_amountMoved wsX6_deciders := goodIn_r _ [7, 8, 9, 10, 11, 12, 13, 14, 15, 41, 42, 43, 44, 45, 46, 47] (by decide +kernel) (by decide +kernel)
set_option maxRecDepth 20000 in
theorem gX4_amountMoved_X6_deciders : GoodIn wsX4_amountMoved (wsV RX4 73 RX6 yX6_deciders wsX6_deciders) := goodIn_app (goodIn_of _ (by decide +kernel)) ggX4_amountMoved_X6_deciders
theorem dX4_amountMoved_4 : decode cX4_amountMoved 4 = .ok (.invokevirtual 73, 3) := by decide +kernel
theorem dX4_amountMoved_7 : decode cX4_amountMoved 7 = .ok (.istore_n 3, 1) := by decide +kernel
theorem dX4_amountMoved_8 : decode cX4_amountMoved 8 = .ok (.iconst 0, 1) := by decide +kernel
theorem dX4_amountMoved_9 : decode cX4_amountMoved 9 = .ok (.istore 4, 2) := by decide +kernel
theorem dX4_amountMoved_11 : decode cX4_amountMoved 11 = .ok (.iconst 0, 1) := by decide +kernel
theorem dX4_amountMoved_12 : decode cX4_amountMoved 12 = .ok (.istore 5, 2) := by decide +kernel
theorem dX4_amountMoved_14 : decode cX4_amountMoved 14 = .ok (.iload 5, 2) := by decide +kernel
theorem dX4_amountMoved_16 : decode cX4_amountMoved 16 = .ok (.aload_n 0, 1) := by decide +kernel
set_option maxRecDepth 20000 in
theorem ggX4_amountMoved_X4_setCount : GoodIn wsX4_amountMoved wsX4_setCount := goodIn_r _ [20, 1, 21, 36, 37, 38, 39, 40, 41, 42, 43] (by decide +kernel) (by decide +kernel)
set_option maxRecDepth 20000 in
theorem gX4_amountMoved_X4_setCount : GoodIn wsX4_amountMoved (wsV RX4 35 RX4 yX4_setCount wsX4_setCount) := goodIn_app (goodIn_of _ (by decide +kernel)) ggX4_amountMoved_X4_setCount
theorem dX4_amountMoved_17 : decode cX4_amountMoved 17 = .ok (.invokevirtual 35, 3) := by decide +kernel
theorem dX4_amountMoved_20 : decode cX4_amountMoved 20 = .ok (.if_icmp .ge 45, 3) := by decide +kernel
theorem dX4_amountMoved_65 : decode cX4_amountMoved 65 = .ok (.iload 4, 2) := by decide +kernel
theorem dX4_amountMoved_67 : decode cX4_amountMoved 67 = .ok (.ireturn, 1) := by decide +kernel
theorem dX4_amountMoved_23 : decode cX4_amountMoved 23 = .ok (.aload_n 0, 1) := by decide +kernel
theorem dX4_amountMoved_24 : decode cX4_amountMoved 24 = .ok (.getfield 21, 3) := by decide +kernel
theorem dX4_amountMoved_27 : decode cX4_amountMoved 27 = .ok (.iload 5, 2) := by decide +kernel
theorem dX4_amountMoved_29 : decode cX4_amountMoved 29 = .ok (.iload_n 3, 1) := by decide +kernel
theorem dX4_amountMoved_30 : decode cX4_amountMoved 30 = .ok (.iand, 1) := by decide +kernel
set_option maxRecDepth 20000 in
theorem ggX4_amountMoved_X6_allows : GoodIn wsX4_amountMoved wsX6_allows := goodIn_r _ [25, 26, 9, 27, 28, 29, 30, 6, 31, 8, 41, 42, 43, 44, 45, 46, 47] (by decide +kernel) (by decide +kernel)
set_option maxRecDepth 20000 in
theorem gX4_amountMoved_X6_allows : GoodIn wsX4_amountMoved (wsV RX4 76 RX6 yX6_allows wsX6_allows) := goodIn_app (goodIn_of _ (by decide +kernel)) ggX4_amountMoved_X6_allows
theorem dX4_amountMoved_31 : decode cX4_amountMoved 31 = .ok (.invokevirtual 76, 3) := by decide +kernel
theorem dX4_amountMoved_34 : decode cX4_amountMoved 34 = .ok (.aload_n 0, 1) := by decide +kernel
theorem dX4_amountMoved_35 : decode cX4_amountMoved 35 = .ok (.iload 5, 2) := by decide +kernel
theorem dX4_amountMoved_37 : decode cX4_amountMoved 37 = .ok (.iload_n 3, 1) := by decide +kernel
theorem dX4_amountMoved_38 : decode cX4_amountMoved 38 = .ok (.iand, 1) := by decide +kernel
theorem dX4_amountMoved_39 : decode cX4_amountMoved 39 = .ok (.iload_n 1, 1) := by decide +kernel
theorem dX4_amountMoved_40 : decode cX4_amountMoved 40 = .ok (.iload_n 2, 1) := by decide +kernel
set_option maxRecDepth 20000 in
theorem ggX4_amountMoved_X4_allowsMoved : GoodIn wsX4_amountMoved wsX4_allowsMoved := goodIn_r _ [35, 1, 22, 23, 24, 6, 25, 26, 9, 27, 28, 29, 30, 31, 8, 36, 37, 38, 39, 40, 41, 42, 43, 44, 45, 46, 47] (by decide +kernel) (by decide +kernel)
set_option maxRecDepth 20000 in
theorem gX4_amountMoved_X4_allowsMoved : GoodIn wsX4_amountMoved (wsV RX4 87 RX4 yX4_allowsMoved wsX4_allowsMoved) := goodIn_app (goodIn_of _ (by decide +kernel)) ggX4_amountMoved_X4_allowsMoved
theorem dX4_amountMoved_41 : decode cX4_amountMoved 41 = .ok (.invokevirtual 87, 3) := by decide +kernel
theorem dX4_amountMoved_44 : decode cX4_amountMoved 44 = .ok (.if_icmp .eq 15, 3) := by decide +kernel
theorem dX4_amountMoved_59 : decode cX4_amountMoved 59 = .ok (.iinc 5 1, 3) := by decide +kernel
theorem dX4_amountMoved_62 : decode cX4_amountMoved 62 = .ok (.goto (-48), 3) := by decide +kernel
/-- the sets of which the RULE q decides: it is in, none that is no NOTE is ahead of it -/
def zPdc (X : Nat → Nat → Int) (q m : Nat) : Prop := m.testBit q = true ∧ ∀ j : Nat, j < q → ¬ (m.testBit j = true ∧ (zDec X 0).testBit j = true)
theorem zPdc_iff {X : Nat → Nat → Int} {q m : Nat} : zPdc X q m ↔ (m &&& 2 ^ q ≠ 0 ∧ m &&& (zDec X 0 &&& (2 ^ q - 1)) = 0) := by
  have h1 : m.testBit q = true ↔ m &&& 2 ^ q ≠ 0 := by
    rw [Ne, zand_two]
    cases m.testBit q
    · exact ⟨fun h => (by cases h), fun h => absurd rfl h⟩
    · exact ⟨fun _ h => (by cases h), fun _ => rfl⟩
  unfold zPdc
  rw [h1, zand_nil]
  constructor
  · rintro ⟨a, b⟩
    refine ⟨a, fun i ⟨h2, h3⟩ => ?_⟩
    rw [Nat.testBit_and, zmask_bit, Bool.and_eq_true, decide_eq_true_iff] at h3
    exact b i h3.2 ⟨h2, h3.1⟩
  · rintro ⟨a, b⟩
    refine ⟨a, fun j hj ⟨h2, h3⟩ => b j ⟨h2, ?_⟩⟩
    rw [Nat.testBit_and, zmask_bit, h3, decide_eq_true hj]
    rfl
theorem zDec_bit {X : Nat → Nat → Int} {a i : Nat} : (zDec X a).testBit i = true ↔ i < zN X a ∧ X (zr X a i) 0 ≠ 2 := by
  unfold zDec zPd
  rw [zSet_bit, Bool.and_eq_true, decide_eq_true_iff, decide_eq_true_iff]
theorem zDec_lt {X : Nat → Nat → Int} (hV : zV X) {a : Nat} (ha : zIsW a) : zDec X a < 256 := zSet_256 (hV.n ha).2 _
/-- a RULE that is no NOTE, without which each set allows the same -/
def zNl (X : Nat → Nat → Int) (q : Nat) : Prop := X (zr X 0 q) 0 ≠ 2 ∧ ∀ j : Nat, j < 2 ^ zN X 0 → 0 < X 56 j → (zAl X 0 (j &&& zDec X 0) ↔ zAl X 0 (j &&& zDel (zDec X 0) q))
theorem zi_cpl {q : Nat} (hq : q < 8) : zi ((2 ^ q : Nat) : Int) ^^^ zi (-1) = zi (-((2 ^ q : Nat) : Int) - 1) := by
  have key : ∀ q : Fin 8, zi ((2 ^ q.val : Nat) : Int) ^^^ zi (-1) = zi (-((2 ^ q.val : Nat) : Int) - 1) := by decide +kernel
  exact key ⟨q, hq⟩
theorem zi_del {u q : Nat} (hu : u < 256) (hq : q < 8) : zi (u : Int) &&& zi (-((2 ^ q : Nat) : Int) - 1) = zi ((zDel u q : Nat) : Int) := by
  rw [← zi_cpl hq]
  exact zi_not hu hq
theorem zAl_mv {X : Nat → Nat → Int} {u q : Nat} (hn : zN X 0 ≤ 8) (hu : u < 256) (hq : q < 8) (h : ¬ (u &&& 2 ^ q ≠ 0 ∧ zDel u q &&& (2 ^ (q + 1) - 1) = 0)) : zAl X 0 (zDel u q) ↔ zAl X 0 u := by
  cases hb : u.testBit q
  · rw [zDel_id hu hq hb]
  · have h1 : ¬ (zDel u q &&& (2 ^ (q + 1) - 1) = 0) := fun z => h ⟨fun z2 => (by rw [zand_two.mp z2] at hb; cases hb), z⟩
    rcases zFi_or (zN X 0) u with ⟨k, hk⟩ | hk
    · refine zAl_del hn hq hk (fun e => h1 (zand_nil.mpr fun i ⟨h2, h3⟩ => ?_))
      rw [zmask_bit, decide_eq_true_iff] at h3
      rw [zDel_bit hq (by omega), Bool.and_eq_true, decide_eq_true_iff] at h2
      have h4 := hk.2.2 i (by omega)
      rw [h2.1] at h4
      cases h4
    · rw [zAl_no hk, zAl_no (hk.del hn hq)]
theorem zAl_mv2 {X : Nat → Nat → Int} {u q : Nat} (hq8 : q < 8) (hq : q < zN X 0) (h : u &&& 2 ^ q ≠ 0) (h2 : zDel u q &&& (2 ^ (q + 1) - 1) = 0) : zAl X 0 (2 ^ q) ↔ zAl X 0 u := by
  refine zAl_same ⟨hq, ?_, fun j hj => ?_⟩
  · cases hb : u.testBit q
    · exact absurd (zand_two.mpr hb) h
    · rfl
  · cases hb : u.testBit j
    · rfl
    · refine absurd ⟨?_, ?_⟩ (zand_nil.mp h2 j)
      · rw [zDel_bit hq8 (by omega), hb, decide_eq_true (show j ≠ q by omega)]; rfl
      · rw [zmask_bit, decide_eq_true (by omega)]

set_option maxHeartbeats 4000000 in
set_option maxRecDepth 100000 in
/-- amountOf -/
theorem c_X4_amountOf (l : Launch) (G : zG) (ad : Nat → Nat) (X : Nat → Nat → Int) (q : Nat) (hV : zV X) (hSv : zSv X X) (hq : q < zN X 0) : zR l G yX4_amountOf wsX4_amountOf { frames := 2, cells := 0, slots := 0, locals := 42 } (zpic G ad X) [.ref (ad 53), .int (zi (q : Int))] (zq G ad X (fun w => w = zm X (zPdc X q))) 0 0 := by
  refine zR_of (cc := cX4_amountOf) (maxL := 6) (rt := (some .int)) (by decide) rfl (Nat.le_of_ble_eq_true rfl) ?_
  intro p e s m below meth c A ls hx hb hml hr hts hown hlocks hin0 hA hE hP hD hS hl
  have hl : lv_has ls 6 [(0, .ref (ad 53)), (1, .int (zi (q : Int)))] := hl
  have hown : s.vm.findClass RX4 = some m.cls := hown
  have hn := hV.n (Or.inl rfl : zIsW 0)
  have h256 := z2_256 hn.2
  have hdl := zDec_lt hV (Or.inl rfl : zIsW 0)
  have hw4 : ∀ w ∈ u_ws RX4 TX4 5, w ∈ wsX4_amountOf := by decide +kernel
  have hf21 := hts (.fieldLink RX4 21 "Nettle$Survey" "wall" "LNettle$Wall;") (by decide +kernel)
  have hf18 := hts (.fieldLink RX4 18 "Nettle$Survey" "amounts" "[I") (by decide +kernel)
  refine lv_iconst (v := zi 1) hx hb dX4_amountOf_0 rfl ?_
  refine lv_iload_n hx hb dX4_amountOf_1 rfl (lv_at hl 1 rfl) ?_
  refine lv_ishl hx hb dX4_amountOf_2 (zti (v := zi ((2 ^ q : Nat) : Int)) (zi_shl1 (by omega)) ?_)
  refine lv_istore_n (lv' := [(2, .int (zi ((2 ^ q : Nat) : Int))), (0, .ref (ad 53)), (1, .int (zi (q : Int)))]) hx hb dX4_amountOf_3 rfl hl (by decide) rfl (fun ls hl => ?_)
  refine lv_aload_n hx hb dX4_amountOf_4 rfl (lv_at hl 1 rfl) ?_
  refine va_get (D := G.1) (ci := 4) (v := .ref (ad 0)) (C := RX4) (T := TX4) (N := 5) hx hb hts hw4 hown hE.1 hP 53 p_53 rfl 0 (by decide) hf21 (fun _ h9 => h9) rfl dX4_amountOf_5 ?_
  refine zcall (wr := []) (va_runV (As := []) (rest := []) ⟨hx, hb, hml, hown, hts⟩ (c_X6_deciders l G ad X 0 hV (Or.inl rfl) s.heap.size) (cwV 0 hts gX4_amountOf_X6_deciders rfl rfl rfl (by decide +kernel) ⟨Nat.le_of_ble_eq_true rfl, Nat.le_of_ble_eq_true rfl⟩) (zPreV (wr := []) (wc := zpic G ad X) (q0 := 0) (ci := 6) (q := (RX6, TX6, 3)) hP hD hE hS hA rfl (p_w (Or.inl rfl))) rfl rfl hl.1 rfl (lv_room (Nat.le_of_ble_eq_true rfl)) dX4_amountOf_8 ⟨Nat.le_of_ble_eq_true rfl, Nat.le_of_ble_eq_true rfl⟩) hP hD hS hA (fun _ _ H locs hf hP hD hS => ?_)
  obtain ⟨v1, rfl, hv1, rfl⟩ := hf
  have hP : va_P G.1 vwCl (zpic G ad X) H := hP
  have hD : va_D A (zpic G ad X) := hD
  refine W.eq (g2 := F0 m 11 ls [.int (zi v1)]) rfl ?_
  refine lv_iload_n hx hb dX4_amountOf_11 rfl (lv_at hl 0 rfl) ?_
  refine lv_iconst (v := zi 1) hx hb dX4_amountOf_12 rfl ?_
  refine lv_isub hx hb dX4_amountOf_13 (zti (v := zi (((2 ^ q : Nat) : Int) - 1)) (zi_sub _ _) ?_)
  refine zti (v := zi ((2 ^ q - 1 : Nat) : Int)) (congrArg zi (by have h2q : 1 ≤ 2 ^ q := Nat.one_le_two_pow; omega)) ?_
  refine lv_iand hx hb dX4_amountOf_14 (zti (v := zi ((zDec X 0 &&& (2 ^ q - 1) : Nat) : Int)) (by rw [hv1]; exact zi_and _ _) ?_)
  refine lv_istore_n (lv' := [(3, .int (zi ((zDec X 0 &&& (2 ^ q - 1) : Nat) : Int))), (2, .int (zi ((2 ^ q : Nat) : Int))), (0, .ref (ad 53)), (1, .int (zi (q : Int)))]) hx hb dX4_amountOf_15 rfl hl (by decide) rfl (fun ls hl => ?_)
  refine lv_iconst (v := zi 0) hx hb dX4_amountOf_16 rfl ?_
  refine lv_istore (lv' := [(4, .int (zi 0)), (3, .int (zi ((zDec X 0 &&& (2 ^ q - 1) : Nat) : Int))), (2, .int (zi ((2 ^ q : Nat) : Int))), (0, .ref (ad 53)), (1, .int (zi (q : Int)))]) hx hb dX4_amountOf_17 hl (by decide) rfl (fun ls hl => ?_)
  refine lv_iconst (v := zi 0) hx hb dX4_amountOf_19 rfl ?_
  refine lv_istore (lv' := [(5, .int (zi 0)), (4, .int (zi 0)), (3, .int (zi ((zDec X 0 &&& (2 ^ q - 1) : Nat) : Int))), (2, .int (zi ((2 ^ q : Nat) : Int))), (0, .ref (ad 53)), (1, .int (zi (q : Int)))]) hx hb dX4_amountOf_20 hl (by decide) rfl (fun ls hl => ?_)
  refine zloop2 (fun (u : Nat) (p : Int) => 256 - u) (fun (u : Nat) (p : Int) (H : Heap) (locs : List Loc) (ls : Array Slot) => va_P G.1 vwCl (zpic G ad X) H ∧ va_D A (zpic G ad X) ∧ va_S A s.heap H locs ∧ lv_has ls 6 [(5, .int (zi (u : Int))), (4, .int (zi p)), (3, .int (zi ((zDec X 0 &&& (2 ^ q - 1) : Nat) : Int))), (2, .int (zi ((2 ^ q : Nat) : Int))), (0, .ref (ad 53))] ∧ (u ≤ 2 ^ zN X 0) ∧ (p = zm X (fun m => m < u ∧ zPdc X q m))) ?_ 0 0 ⟨hP, hD, hS, lv_sub hl [0, 1, 2, 3, 4] rfl, (Nat.zero_le _), zm_start.symm⟩
  intro u p ih H locs ls ⟨hP, hD, hS, hl, hu, hp⟩
  refine lv_iload hx hb dX4_amountOf_22 (lv_at hl 0 rfl) ?_
  refine lv_aload_n hx hb dX4_amountOf_24 rfl (lv_at hl 4 rfl) ?_
  refine zcall (wr := []) (va_runV (As := []) (rest := [.int (zi (u : Int))]) ⟨hx, hb, hml, hown, hts⟩ (c_X4_setCount l G ad X hV H.size) (cwV 0 hts gX4_amountOf_X4_setCount rfl rfl rfl (by decide +kernel) ⟨Nat.le_of_ble_eq_true rfl, Nat.le_of_ble_eq_true rfl⟩) (zPreV (wr := []) (wc := zpic G ad X) (q0 := 53) (ci := 4) (q := (RX4, TX4, 5)) hP hD hE hS hA rfl p_53) rfl rfl hl.1 rfl (lv_room (Nat.le_of_ble_eq_true rfl)) dX4_amountOf_25 ⟨Nat.le_of_ble_eq_true rfl, Nat.le_of_ble_eq_true rfl⟩) hP hD hS hA (fun _ _ H locs hf hP hD hS => ?_)
  obtain ⟨v2, rfl, hv2, rfl⟩ := hf
  have hP : va_P G.1 vwCl (zpic G ad X) H := hP
  have hD : va_D A (zpic G ad X) := hD
  refine W.eq (g2 := F0 m 28 ls [.int (zi v2), .int (zi (u : Int))]) rfl ?_
  refine zc_ge (tgt := 63) hx hb dX4_amountOf_28 (by decide) (by omega) (by omega) (fun h28 => ?_) (fun h28 => ?_)
  · refine lv_iload hx hb dX4_amountOf_63 (lv_at hl 1 rfl) ?_
    exact zend_i hx hb hr hlocks hP hD hS (Nat.le_of_ble_eq_true rfl) (Nat.le_of_ble_eq_true rfl) dX4_amountOf_65 ⟨_, rfl, (by have hun : u = 2 ^ zN X 0 := (by omega); rw [hp, hun, zm_full]), rfl⟩
  · have ha1 : u &&& 2 ^ q ≤ u := Nat.and_le_left
    have ha2 : u &&& (zDec X 0 &&& (2 ^ q - 1)) ≤ u := Nat.and_le_left
    refine lv_iload hx hb dX4_amountOf_31 (lv_at hl 0 rfl) ?_
    refine lv_iload_n hx hb dX4_amountOf_33 rfl (lv_at hl 3 rfl) ?_
    refine lv_iand hx hb dX4_amountOf_34 (zti (v := zi ((u &&& 2 ^ q : Nat) : Int)) (zi_and _ _) ?_)
    refine z0_eq (tgt := 57) hx hb dX4_amountOf_35 (by decide) (by omega) (fun h35 => ?_) (fun h35 => ?_)
    · refine lv_iinc (v := zi ((u : Int) + 1)) (lv' := [(5, .int (zi ((u : Int) + 1))), (4, .int (zi p)), (3, .int (zi ((zDec X 0 &&& (2 ^ q - 1) : Nat) : Int))), (2, .int (zi ((2 ^ q : Nat) : Int))), (0, .ref (ad 53))]) hx hb dX4_amountOf_57 hl (k := 0) rfl (zi_add _ _) (by decide) rfl (fun ls hl => ?_)
      refine lv_goto (tgt := 22) hx hb dX4_amountOf_60 (by decide) ?_
      exact ih (u + 1) p (by omega) H locs ls ⟨hP, hD, hS, lv_sub hl [0, 1, 2, 3, 4] rfl, (by omega), (by rw [zm_no (P := zPdc X q) (fun z => absurd (zPdc_iff.mp z).1 (by omega))]; exact hp)⟩
    · refine lv_iload hx hb dX4_amountOf_38 (lv_at hl 0 rfl) ?_
      refine lv_iload_n hx hb dX4_amountOf_40 rfl (lv_at hl 2 rfl) ?_
      refine lv_iand hx hb dX4_amountOf_41 (zti (v := zi ((u &&& (zDec X 0 &&& (2 ^ q - 1)) : Nat) : Int)) (zi_and _ _) ?_)
      refine z0_ne (tgt := 57) hx hb dX4_amountOf_42 (by decide) (by omega) (fun h42 => ?_) (fun h42 => ?_)
      · refine lv_iinc (v := zi ((u : Int) + 1)) (lv' := [(5, .int (zi ((u : Int) + 1))), (4, .int (zi p)), (3, .int (zi ((zDec X 0 &&& (2 ^ q - 1) : Nat) : Int))), (2, .int (zi ((2 ^ q : Nat) : Int))), (0, .ref (ad 53))]) hx hb dX4_amountOf_57 hl (k := 0) rfl (zi_add _ _) (by decide) rfl (fun ls hl => ?_)
        refine lv_goto (tgt := 22) hx hb dX4_amountOf_60 (by decide) ?_
        exact ih (u + 1) p (by omega) H locs ls ⟨hP, hD, hS, lv_sub hl [0, 1, 2, 3, 4] rfl, (by omega), (by rw [zm_no (P := zPdc X q) (fun z => absurd (zPdc_iff.mp z).2 (by omega))]; exact hp)⟩
      · refine lv_iload hx hb dX4_amountOf_45 (lv_at hl 1 rfl) ?_
        refine lv_aload_n hx hb dX4_amountOf_47 rfl (lv_at hl 4 rfl) ?_
        refine va_get (D := G.1) (ci := 4) (v := .ref (ad 56)) (C := RX4) (T := TX4) (N := 5) hx hb hts hw4 hown hE.1 hP 53 p_53 rfl 3 (by decide) hf18 (fun _ h9 => h9) rfl dX4_amountOf_48 ?_
        refine lv_iload hx hb dX4_amountOf_51 (lv_at hl 0 rfl) ?_
        refine zild hx hb hE hP 56 256 (fun _ => rfl) (by decide) u rfl (by omega) (by decide) dX4_amountOf_53 ?_
        refine lv_iadd hx hb dX4_amountOf_54 (zti (v := zi (p + (X 56 u))) (zi_add _ _) ?_)
        refine lv_istore (lv' := [(4, .int (zi (p + (X 56 u)))), (5, .int (zi (u : Int))), (3, .int (zi ((zDec X 0 &&& (2 ^ q - 1) : Nat) : Int))), (2, .int (zi ((2 ^ q : Nat) : Int))), (0, .ref (ad 53))]) hx hb dX4_amountOf_55 hl (by decide) rfl (fun ls hl => ?_)
        refine lv_iinc (v := zi ((u : Int) + 1)) (lv' := [(5, .int (zi ((u : Int) + 1))), (4, .int (zi (p + (X 56 u)))), (3, .int (zi ((zDec X 0 &&& (2 ^ q - 1) : Nat) : Int))), (2, .int (zi ((2 ^ q : Nat) : Int))), (0, .ref (ad 53))]) hx hb dX4_amountOf_57 hl (k := 1) rfl (zi_add _ _) (by decide) rfl (fun ls hl => ?_)
        refine lv_goto (tgt := 22) hx hb dX4_amountOf_60 (by decide) ?_
        exact ih (u + 1) (p + (X 56 u)) (by omega) H locs ls ⟨hP, hD, hS, lv_sub hl [0, 1, 2, 3, 4] rfl, (by omega), (by rw [zm_yes (P := zPdc X q) (zPdc_iff.mpr ⟨by omega, by omega⟩), ← hSv u (by omega), hp])⟩

set_option maxHeartbeats 4000000 in
set_option maxRecDepth 100000 in
/-- amountAllowed -/
theorem c_X4_amountAllowed (l : Launch) (G : zG) (ad : Nat → Nat) (X : Nat → Nat → Int) (pr : Nat) (hV : zV X) (hSv : zSv X X) (hpr : pr < 256) : zR l G yX4_amountAllowed wsX4_amountAllowed { frames := 2, cells := 0, slots := 0, locals := 44 } (zpic G ad X) [.ref (ad 53), .int (zi (pr : Int))] (zq G ad X (fun w => w = zm X (fun m => zAl X 0 (m &&& (zDec X 0 &&& pr))))) 0 0 := by
  refine zR_of (cc := cX4_amountAllowed) (maxL := 5) (rt := (some .int)) (by decide) rfl (Nat.le_of_ble_eq_true rfl) ?_
  intro p e s m below meth c A ls hx hb hml hr hts hown hlocks hin0 hA hE hP hD hS hl
  have hl : lv_has ls 5 [(0, .ref (ad 53)), (1, .int (zi (pr : Int)))] := hl
  have hown : s.vm.findClass RX4 = some m.cls := hown
  have hn := hV.n (Or.inl rfl : zIsW 0)
  have h256 := z2_256 hn.2
  have hdl := zDec_lt hV (Or.inl rfl : zIsW 0)
  have hw4 : ∀ w ∈ u_ws RX4 TX4 5, w ∈ wsX4_amountAllowed := by decide +kernel
  have hf21 := hts (.fieldLink RX4 21 "Nettle$Survey" "wall" "LNettle$Wall;") (by decide +kernel)
  have hf18 := hts (.fieldLink RX4 18 "Nettle$Survey" "amounts" "[I") (by decide +kernel)
  refine lv_aload_n hx hb dX4_amountAllowed_0 rfl (lv_at hl 0 rfl) ?_
  refine va_get (D := G.1) (ci := 4) (v := .ref (ad 0)) (C := RX4) (T := TX4) (N := 5) hx hb hts hw4 hown hE.1 hP 53 p_53 rfl 0 (by decide) hf21 (fun _ h9 => h9) rfl dX4_amountAllowed_1 ?_
  refine zcall (wr := []) (va_runV (As := []) (rest := []) ⟨hx, hb, hml, hown, hts⟩ (c_X6_deciders l G ad X 0 hV (Or.inl rfl) s.heap.size) (cwV 0 hts gX4_amountAllowed_X6_deciders rfl rfl rfl (by decide +kernel) ⟨Nat.le_of_ble_eq_true rfl, Nat.le_of_ble_eq_true rfl⟩) (zPreV (wr := []) (wc := zpic G ad X) (q0 := 0) (ci := 6) (q := (RX6, TX6, 3)) hP hD hE hS hA rfl (p_w (Or.inl rfl))) rfl rfl hl.1 rfl (lv_room (Nat.le_of_ble_eq_true rfl)) dX4_amountAllowed_4 ⟨Nat.le_of_ble_eq_true rfl, Nat.le_of_ble_eq_true rfl⟩) hP hD hS hA (fun _ _ H locs hf hP hD hS => ?_)
  obtain ⟨v1, rfl, hv1, rfl⟩ := hf
  have hP : va_P G.1 vwCl (zpic G ad X) H := hP
  have hD : va_D A (zpic G ad X) := hD
  refine W.eq (g2 := F0 m 7 ls [.int (zi v1)]) rfl ?_
  refine lv_iload_n hx hb dX4_amountAllowed_7 rfl (lv_at hl 1 rfl) ?_
  refine lv_iand hx hb dX4_amountAllowed_8 (zti (v := zi ((zDec X 0 &&& pr : Nat) : Int)) (by rw [hv1]; exact zi_and _ _) ?_)
  refine lv_istore_n (lv' := [(2, .int (zi ((zDec X 0 &&& pr : Nat) : Int))), (0, .ref (ad 53)), (1, .int (zi (pr : Int)))]) hx hb dX4_amountAllowed_9 rfl hl (by decide) rfl (fun ls hl => ?_)
  refine lv_iconst (v := zi 0) hx hb dX4_amountAllowed_10 rfl ?_
  refine lv_istore_n (lv' := [(3, .int (zi 0)), (2, .int (zi ((zDec X 0 &&& pr : Nat) : Int))), (0, .ref (ad 53)), (1, .int (zi (pr : Int)))]) hx hb dX4_amountAllowed_11 rfl hl (by decide) rfl (fun ls hl => ?_)
  refine lv_iconst (v := zi 0) hx hb dX4_amountAllowed_12 rfl ?_
  refine lv_istore (lv' := [(4, .int (zi 0)), (3, .int (zi 0)), (2, .int (zi ((zDec X 0 &&& pr : Nat) : Int))), (0, .ref (ad 53)), (1, .int (zi (pr : Int)))]) hx hb dX4_amountAllowed_13 hl (by decide) rfl (fun ls hl => ?_)
  refine zloop2 (fun (u : Nat) (p : Int) => 256 - u) (fun (u : Nat) (p : Int) (H : Heap) (locs : List Loc) (ls : Array Slot) => va_P G.1 vwCl (zpic G ad X) H ∧ va_D A (zpic G ad X) ∧ va_S A s.heap H locs ∧ lv_has ls 5 [(4, .int (zi (u : Int))), (3, .int (zi p)), (2, .int (zi ((zDec X 0 &&& pr : Nat) : Int))), (0, .ref (ad 53))] ∧ (u ≤ 2 ^ zN X 0) ∧ (p = zm X (fun m => m < u ∧ zAl X 0 (m &&& (zDec X 0 &&& pr))))) ?_ 0 0 ⟨hP, hD, hS, lv_sub hl [0, 1, 2, 3] rfl, (Nat.zero_le _), (zm_start (P := fun m => zAl X 0 (m &&& (zDec X 0 &&& pr)))).symm⟩
  intro u p ih H locs ls ⟨hP, hD, hS, hl, hu, hp⟩
  refine lv_iload hx hb dX4_amountAllowed_15 (lv_at hl 0 rfl) ?_
  refine lv_aload_n hx hb dX4_amountAllowed_17 rfl (lv_at hl 3 rfl) ?_
  refine zcall (wr := []) (va_runV (As := []) (rest := [.int (zi (u : Int))]) ⟨hx, hb, hml, hown, hts⟩ (c_X4_setCount l G ad X hV H.size) (cwV 0 hts gX4_amountAllowed_X4_setCount rfl rfl rfl (by decide +kernel) ⟨Nat.le_of_ble_eq_true rfl, Nat.le_of_ble_eq_true rfl⟩) (zPreV (wr := []) (wc := zpic G ad X) (q0 := 53) (ci := 4) (q := (RX4, TX4, 5)) hP hD hE hS hA rfl p_53) rfl rfl hl.1 rfl (lv_room (Nat.le_of_ble_eq_true rfl)) dX4_amountAllowed_18 ⟨Nat.le_of_ble_eq_true rfl, Nat.le_of_ble_eq_true rfl⟩) hP hD hS hA (fun _ _ H locs hf hP hD hS => ?_)
  obtain ⟨v2, rfl, hv2, rfl⟩ := hf
  have hP : va_P G.1 vwCl (zpic G ad X) H := hP
  have hD : va_D A (zpic G ad X) := hD
  refine W.eq (g2 := F0 m 21 ls [.int (zi v2), .int (zi (u : Int))]) rfl ?_
  refine zc_ge (tgt := 54) hx hb dX4_amountAllowed_21 (by decide) (by omega) (by omega) (fun h21 => ?_) (fun h21 => ?_)
  · refine lv_iload_n hx hb dX4_amountAllowed_54 rfl (lv_at hl 1 rfl) ?_
    exact zend_i hx hb hr hlocks hP hD hS (Nat.le_of_ble_eq_true rfl) (Nat.le_of_ble_eq_true rfl) dX4_amountAllowed_55 ⟨_, rfl, (by have hun : u = 2 ^ zN X 0 := (by omega); rw [hp, hun, zm_full]), rfl⟩
  · have ha1 : u &&& (zDec X 0 &&& pr) ≤ u := Nat.and_le_left
    refine lv_aload_n hx hb dX4_amountAllowed_24 rfl (lv_at hl 3 rfl) ?_
    refine va_get (D := G.1) (ci := 4) (v := .ref (ad 0)) (C := RX4) (T := TX4) (N := 5) hx hb hts hw4 hown hE.1 hP 53 p_53 rfl 0 (by decide) hf21 (fun _ h9 => h9) rfl dX4_amountAllowed_25 ?_
    refine lv_iload hx hb dX4_amountAllowed_28 (lv_at hl 0 rfl) ?_
    refine lv_iload_n hx hb dX4_amountAllowed_30 rfl (lv_at hl 2 rfl) ?_
    refine lv_iand hx hb dX4_amountAllowed_31 (zti (v := zi ((u &&& (zDec X 0 &&& pr) : Nat) : Int)) (zi_and _ _) ?_)
    refine zcall (wr := []) (va_runV (As := [.int (zi ((u &&& (zDec X 0 &&& pr) : Nat) : Int))]) (rest := []) ⟨hx, hb, hml, hown, hts⟩ (c_X6_allows l G ad X 0 (u &&& (zDec X 0 &&& pr) : Nat) hV (Or.inl rfl) (by omega) H.size) (cwV 1 hts gX4_amountAllowed_X6_allows rfl rfl rfl (by decide +kernel) ⟨Nat.le_of_ble_eq_true rfl, Nat.le_of_ble_eq_true rfl⟩) (zPreV (wr := []) (wc := zpic G ad X) (q0 := 0) (ci := 6) (q := (RX6, TX6, 3)) hP hD hE hS hA rfl (p_w (Or.inl rfl))) rfl rfl hl.1 rfl (lv_room (Nat.le_of_ble_eq_true rfl)) dX4_amountAllowed_32 ⟨Nat.le_of_ble_eq_true rfl, Nat.le_of_ble_eq_true rfl⟩) hP hD hS hA (fun _ _ H locs hf hP hD hS => ?_)
    obtain ⟨v3, rfl, hv3, rfl⟩ := hf
    have hP : va_P G.1 vwCl (zpic G ad X) H := hP
    have hD : va_D A (zpic G ad X) := hD
    refine W.eq (g2 := F0 m 35 ls [.int (zi v3)]) rfl ?_
    refine z0_eq (tgt := 48) hx hb dX4_amountAllowed_35 (by decide) (by omega) (fun h35 => ?_) (fun h35 => ?_)
    · refine lv_iinc (v := zi ((u : Int) + 1)) (lv' := [(4, .int (zi ((u : Int) + 1))), (3, .int (zi p)), (2, .int (zi ((zDec X 0 &&& pr : Nat) : Int))), (0, .ref (ad 53))]) hx hb dX4_amountAllowed_48 hl (k := 0) rfl (zi_add _ _) (by decide) rfl (fun ls hl => ?_)
      refine lv_goto (tgt := 15) hx hb dX4_amountAllowed_51 (by decide) ?_
      exact ih (u + 1) p (by omega) H locs ls ⟨hP, hD, hS, lv_sub hl [0, 1, 2, 3] rfl, (by omega), (by rw [zm_no (P := fun m => zAl X 0 (m &&& (zDec X 0 &&& pr))) (by rcases hv3 with h | h; omega; exact h.2)]; exact hp)⟩
    · refine lv_iload_n hx hb dX4_amountAllowed_38 rfl (lv_at hl 1 rfl) ?_
      refine lv_aload_n hx hb dX4_amountAllowed_39 rfl (lv_at hl 3 rfl) ?_
      refine va_get (D := G.1) (ci := 4) (v := .ref (ad 56)) (C := RX4) (T := TX4) (N := 5) hx hb hts hw4 hown hE.1 hP 53 p_53 rfl 3 (by decide) hf18 (fun _ h9 => h9) rfl dX4_amountAllowed_40 ?_
      refine lv_iload hx hb dX4_amountAllowed_43 (lv_at hl 0 rfl) ?_
      refine zild hx hb hE hP 56 256 (fun _ => rfl) (by decide) u rfl (by omega) (by decide) dX4_amountAllowed_45 ?_
      refine lv_iadd hx hb dX4_amountAllowed_46 (zti (v := zi (p + (X 56 u))) (zi_add _ _) ?_)
      refine lv_istore_n (lv' := [(3, .int (zi (p + (X 56 u)))), (4, .int (zi (u : Int))), (2, .int (zi ((zDec X 0 &&& pr : Nat) : Int))), (0, .ref (ad 53))]) hx hb dX4_amountAllowed_47 rfl hl (by decide) rfl (fun ls hl => ?_)
      refine lv_iinc (v := zi ((u : Int) + 1)) (lv' := [(4, .int (zi ((u : Int) + 1))), (3, .int (zi (p + (X 56 u)))), (2, .int (zi ((zDec X 0 &&& pr : Nat) : Int))), (0, .ref (ad 53))]) hx hb dX4_amountAllowed_48 hl (k := 1) rfl (zi_add _ _) (by decide) rfl (fun ls hl => ?_)
      refine lv_goto (tgt := 15) hx hb dX4_amountAllowed_51 (by decide) ?_
      exact ih (u + 1) (p + (X 56 u)) (by omega) H locs ls ⟨hP, hD, hS, lv_sub hl [0, 1, 2, 3] rfl, (by omega), (by rw [zm_yes (P := fun m => zAl X 0 (m &&& (zDec X 0 &&& pr))) (by rcases hv3 with h | h; exact h.2; omega), ← hSv u (by omega), hp])⟩

set_option maxHeartbeats 4000000 in
set_option maxRecDepth 100000 in
/-- isDead -/
theorem c_X4_isDead (l : Launch) (G : zG) (ad : Nat → Nat) (X : Nat → Nat → Int) (q : Nat) (hV : zV X) (hSv : zSv X X) (hq : q < zN X 0) : zR l G yX4_isDead wsX4_isDead { frames := 3, cells := 0, slots := 0, locals := 67 } (zpic G ad X) [.ref (ad 53), .int (zi (q : Int))] (zq G ad X (fun w => (w = 1 ∧ zm X (zPdc X q) = 0) ∨ (w = 0 ∧ zm X (zPdc X q) ≠ 0))) 0 0 := by
  refine zR_of (cc := cX4_isDead) (maxL := 2) (rt := (some .boolean)) (by decide) rfl (Nat.le_of_ble_eq_true rfl) ?_
  intro p e s m below meth c A ls hx hb hml hr hts hown hlocks hin0 hA hE hP hD hS hl
  have hl : lv_has ls 2 [(0, .ref (ad 53)), (1, .int (zi (q : Int)))] := hl
  have hown : s.vm.findClass RX4 = some m.cls := hown
  have hn := hV.n (Or.inl rfl : zIsW 0)
  have hb1 := zm_nn (X := X) (P := zPdc X q)
  have hb2 := zm_top (X := X) (P := zPdc X q)
  refine lv_aload_n hx hb dX4_isDead_0 rfl (lv_at hl 0 rfl) ?_
  refine lv_iload_n hx hb dX4_isDead_1 rfl (lv_at hl 1 rfl) ?_
  refine zcall (wr := []) (va_runV (As := [.int (zi (q : Int))]) (rest := []) ⟨hx, hb, hml, hown, hts⟩ (c_X4_amountOf l G ad X q hV (by omega) (by omega) s.heap.size) (cwV 1 hts gX4_isDead_X4_amountOf rfl rfl rfl (by decide +kernel) ⟨Nat.le_of_ble_eq_true rfl, Nat.le_of_ble_eq_true rfl⟩) (zPreV (wr := []) (wc := zpic G ad X) (q0 := 53) (ci := 4) (q := (RX4, TX4, 5)) hP hD hE hS hA rfl p_53) rfl rfl hl.1 rfl (lv_room (Nat.le_of_ble_eq_true rfl)) dX4_isDead_2 ⟨Nat.le_of_ble_eq_true rfl, Nat.le_of_ble_eq_true rfl⟩) hP hD hS hA (fun _ _ H locs hf hP hD hS => ?_)
  obtain ⟨v1, rfl, hv1, rfl⟩ := hf
  have hP : va_P G.1 vwCl (zpic G ad X) H := hP
  have hD : va_D A (zpic G ad X) := hD
  refine W.eq (g2 := F0 m 5 ls [.int (zi v1)]) rfl ?_
  refine z0_ne (tgt := 12) hx hb dX4_isDead_5 (by decide) (by omega) (fun h5 => ?_) (fun h5 => ?_)
  · refine lv_iconst (v := zi 0) hx hb dX4_isDead_12 rfl ?_
    exact zend_z hx hb hr hlocks (by decide +kernel) hP hD hS (Nat.le_of_ble_eq_true rfl) (Nat.le_of_ble_eq_true rfl) dX4_isDead_13 ⟨_, rfl, (by omega), rfl⟩
  · refine lv_iconst (v := zi 1) hx hb dX4_isDead_8 rfl ?_
    refine lv_goto (tgt := 13) hx hb dX4_isDead_9 (by decide) ?_
    exact zend_z hx hb hr hlocks (by decide +kernel) hP hD hS (Nat.le_of_ble_eq_true rfl) (Nat.le_of_ble_eq_true rfl) dX4_isDead_13 ⟨_, rfl, (by omega), rfl⟩

set_option maxHeartbeats 4000000 in
set_option maxRecDepth 100000 in
/-- isNeedless -/
theorem c_X4_isNeedless (l : Launch) (G : zG) (ad : Nat → Nat) (X : Nat → Nat → Int) (q : Nat) (hV : zV X) (hSv : zSv X X) (hq : q < zN X 0) : zR l G yX4_isNeedless wsX4_isNeedless { frames := 2, cells := 0, slots := 0, locals := 44 } (zpic G ad X) [.ref (ad 53), .int (zi (q : Int))] (zq G ad X (fun w => (w = 1 ∧ zNl X q) ∨ (w = 0 ∧ ¬ zNl X q))) 0 0 := by
  refine zR_of (cc := cX4_isNeedless) (maxL := 5) (rt := (some .boolean)) (by decide) rfl (Nat.le_of_ble_eq_true rfl) ?_
  intro p e s m below meth c A ls hx hb hml hr hts hown hlocks hin0 hA hE hP hD hS hl
  have hl : lv_has ls 5 [(0, .ref (ad 53)), (1, .int (zi (q : Int)))] := hl
  have hown : s.vm.findClass RX4 = some m.cls := hown
  have hn := hV.n (Or.inl rfl : zIsW 0)
  have h256 := z2_256 hn.2
  have hdl := zDec_lt hV (Or.inl rfl : zIsW 0)
  have hw4 : ∀ w ∈ u_ws RX4 TX4 5, w ∈ wsX4_isNeedless := by decide +kernel
  have hf21 := hts (.fieldLink RX4 21 "Nettle$Survey" "wall" "LNettle$Wall;") (by decide +kernel)
  have hw6 : ∀ w ∈ u_ws RX6 TX6 3, w ∈ wsX4_isNeedless := by decide +kernel
  have hf56 := hts (.fieldLink RX4 56 "Nettle$Wall" "rows" "[LNettle$Rule;") (by decide +kernel)
  have hf18 := hts (.fieldLink RX4 18 "Nettle$Survey" "amounts" "[I") (by decide +kernel)
  refine lv_aload_n hx hb dX4_isNeedless_0 rfl (lv_at hl 0 rfl) ?_
  refine va_get (D := G.1) (ci := 4) (v := .ref (ad 0)) (C := RX4) (T := TX4) (N := 5) hx hb hts hw4 hown hE.1 hP 53 p_53 rfl 0 (by decide) hf21 (fun _ h9 => h9) rfl dX4_isNeedless_1 ?_
  refine va_get (D := G.1) (ci := 6) (v := .ref (ad 1)) (C := RX6) (T := TX6) (N := 3) hx hb hts hw6 hown hE.1 hP 0 (p_w (Or.inl rfl)) rfl 0 (by decide) hf56 (fun _ h9 => h9) rfl dX4_isNeedless_4 ?_
  refine lv_iload_n hx hb dX4_isNeedless_7 rfl (lv_at hl 1 rfl) ?_
  refine zqld hx hb hE hP (Or.inl rfl) q rfl (by omega) dX4_isNeedless_8 ?_
  have hR1 : zIsR (zr X 0 q) := hV.isR (Or.inl rfl) (by omega)
  refine zcall (wr := []) (va_runV (As := []) (rest := []) ⟨hx, hb, hml, hown, hts⟩ (c_X3_isNote l G ad X (zr X 0 q) hV hR1 s.heap.size) (cwV 0 hts gX4_isNeedless_X3_isNote rfl rfl rfl (by decide +kernel) ⟨Nat.le_of_ble_eq_true rfl, Nat.le_of_ble_eq_true rfl⟩) (zPreV (wr := []) (wc := zpic G ad X) (q0 := (zr X 0 q)) (ci := 3) (q := (RX3, TX3, 4)) hP hD hE hS hA rfl (p_r hR1)) rfl rfl hl.1 rfl (lv_room (Nat.le_of_ble_eq_true rfl)) dX4_isNeedless_9 ⟨Nat.le_of_ble_eq_true rfl, Nat.le_of_ble_eq_true rfl⟩) hP hD hS hA (fun _ _ H locs hf hP hD hS => ?_)
  obtain ⟨v1, rfl, hv1, rfl⟩ := hf
  have hP : va_P G.1 vwCl (zpic G ad X) H := hP
  have hD : va_D A (zpic G ad X) := hD
  refine W.eq (g2 := F0 m 12 ls [.int (zi v1)]) rfl ?_
  refine z0_eq (tgt := 17) hx hb dX4_isNeedless_12 (by decide) (by omega) (fun h12 => ?_) (fun h12 => ?_)
  · have hnt : X (zr X 0 q) 0 ≠ 2 := by rcases hv1 with h | h; omega; exact h.2
    have hqd := zDel_sub (u := zDec X 0) (q := q) hdl (by omega) (zDec_bit.mpr ⟨hq, hnt⟩)
    refine lv_aload_n hx hb dX4_isNeedless_17 rfl (lv_at hl 0 rfl) ?_
    refine va_get (D := G.1) (ci := 4) (v := .ref (ad 0)) (C := RX4) (T := TX4) (N := 5) hx hb hts hw4 hown hE.1 hP 53 p_53 rfl 0 (by decide) hf21 (fun _ h9 => h9) rfl dX4_isNeedless_18 ?_
    refine zcall (wr := []) (va_runV (As := []) (rest := []) ⟨hx, hb, hml, hown, hts⟩ (c_X6_deciders l G ad X 0 hV (Or.inl rfl) H.size) (cwV 0 hts gX4_isNeedless_X6_deciders rfl rfl rfl (by decide +kernel) ⟨Nat.le_of_ble_eq_true rfl, Nat.le_of_ble_eq_true rfl⟩) (zPreV (wr := []) (wc := zpic G ad X) (q0 := 0) (ci := 6) (q := (RX6, TX6, 3)) hP hD hE hS hA rfl (p_w (Or.inl rfl))) rfl rfl hl.1 rfl (lv_room (Nat.le_of_ble_eq_true rfl)) dX4_isNeedless_21 ⟨Nat.le_of_ble_eq_true rfl, Nat.le_of_ble_eq_true rfl⟩) hP hD hS hA (fun _ _ H locs hf hP hD hS => ?_)
    obtain ⟨v2, rfl, hv2, rfl⟩ := hf
    have hP : va_P G.1 vwCl (zpic G ad X) H := hP
    have hD : va_D A (zpic G ad X) := hD
    refine W.eq (g2 := F0 m 24 ls [.int (zi v2)]) rfl ?_
    rw [hv2]
    refine lv_istore_n (lv' := [(2, .int (zi (zDec X 0 : Int))), (0, .ref (ad 53)), (1, .int (zi (q : Int)))]) hx hb dX4_isNeedless_24 rfl hl (by decide) rfl (fun ls hl => ?_)
    refine lv_iload_n hx hb dX4_isNeedless_25 rfl (lv_at hl 0 rfl) ?_
    refine lv_iconst (v := zi 1) hx hb dX4_isNeedless_26 rfl ?_
    refine lv_iload_n hx hb dX4_isNeedless_27 rfl (lv_at hl 2 rfl) ?_
    refine lv_ishl hx hb dX4_isNeedless_28 (zti (v := zi ((2 ^ q : Nat) : Int)) (zi_shl1 (by omega)) ?_)
    refine lv_isub hx hb dX4_isNeedless_29 (zti (v := zi ((zDec X 0 : Int) - ((2 ^ q : Nat) : Int))) (zi_sub _ _) ?_)
    refine zti (v := zi ((zDel (zDec X 0) q : Nat) : Int)) (congrArg zi (by omega)) ?_
    refine lv_istore_n (lv' := [(3, .int (zi ((zDel (zDec X 0) q : Nat) : Int))), (2, .int (zi (zDec X 0 : Int))), (0, .ref (ad 53)), (1, .int (zi (q : Int)))]) hx hb dX4_isNeedless_30 rfl hl (by decide) rfl (fun ls hl => ?_)
    refine lv_iconst (v := zi 0) hx hb dX4_isNeedless_31 rfl ?_
    refine lv_istore (lv' := [(4, .int (zi 0)), (3, .int (zi ((zDel (zDec X 0) q : Nat) : Int))), (2, .int (zi (zDec X 0 : Int))), (0, .ref (ad 53)), (1, .int (zi (q : Int)))]) hx hb dX4_isNeedless_32 hl (by decide) rfl (fun ls hl => ?_)
    refine zloop1 (fun (u : Nat) => 256 - u) (fun (u : Nat) (H : Heap) (locs : List Loc) (ls : Array Slot) => va_P G.1 vwCl (zpic G ad X) H ∧ va_D A (zpic G ad X) ∧ va_S A s.heap H locs ∧ lv_has ls 5 [(4, .int (zi (u : Int))), (3, .int (zi ((zDel (zDec X 0) q : Nat) : Int))), (2, .int (zi (zDec X 0 : Int))), (0, .ref (ad 53))] ∧ (u ≤ 2 ^ zN X 0) ∧ (∀ j : Nat, j < u → 0 < X 56 j → (zAl X 0 (j &&& zDec X 0) ↔ zAl X 0 (j &&& zDel (zDec X 0) q)))) ?_ 0 ⟨hP, hD, hS, lv_sub hl [0, 1, 2, 3] rfl, (Nat.zero_le _), (fun j h1 => by omega)⟩
    intro u ih H locs ls ⟨hP, hD, hS, hl, hu, hw⟩
    refine lv_iload hx hb dX4_isNeedless_34 (lv_at hl 0 rfl) ?_
    refine lv_aload_n hx hb dX4_isNeedless_36 rfl (lv_at hl 3 rfl) ?_
    refine zcall (wr := []) (va_runV (As := []) (rest := [.int (zi (u : Int))]) ⟨hx, hb, hml, hown, hts⟩ (c_X4_setCount l G ad X hV H.size) (cwV 0 hts gX4_isNeedless_X4_setCount rfl rfl rfl (by decide +kernel) ⟨Nat.le_of_ble_eq_true rfl, Nat.le_of_ble_eq_true rfl⟩) (zPreV (wr := []) (wc := zpic G ad X) (q0 := 53) (ci := 4) (q := (RX4, TX4, 5)) hP hD hE hS hA rfl p_53) rfl rfl hl.1 rfl (lv_room (Nat.le_of_ble_eq_true rfl)) dX4_isNeedless_37 ⟨Nat.le_of_ble_eq_true rfl, Nat.le_of_ble_eq_true rfl⟩) hP hD hS hA (fun _ _ H locs hf hP hD hS => ?_)
    obtain ⟨v3, rfl, hv3, rfl⟩ := hf
    have hP : va_P G.1 vwCl (zpic G ad X) H := hP
    have hD : va_D A (zpic G ad X) := hD
    refine W.eq (g2 := F0 m 40 ls [.int (zi v3), .int (zi (u : Int))]) rfl ?_
    refine zc_ge (tgt := 86) hx hb dX4_isNeedless_40 (by decide) (by omega) (by omega) (fun h40 => ?_) (fun h40 => ?_)
    · refine lv_iconst (v := zi 1) hx hb dX4_isNeedless_86 rfl ?_
      exact zend_z hx hb hr hlocks (by decide +kernel) hP hD hS (Nat.le_of_ble_eq_true rfl) (Nat.le_of_ble_eq_true rfl) dX4_isNeedless_87 ⟨_, rfl, (Or.inl ⟨rfl, hnt, fun j hj h9 => hw j (by omega) h9⟩), rfl⟩
    · have hbu := hSv.bd (u := u) (by omega)
      have ha1 : u &&& zDec X 0 ≤ u := Nat.and_le_left
      have ha2 : u &&& zDel (zDec X 0) q ≤ u := Nat.and_le_left
      refine lv_aload_n hx hb dX4_isNeedless_43 rfl (lv_at hl 3 rfl) ?_
      refine va_get (D := G.1) (ci := 4) (v := .ref (ad 56)) (C := RX4) (T := TX4) (N := 5) hx hb hts hw4 hown hE.1 hP 53 p_53 rfl 3 (by decide) hf18 (fun _ h9 => h9) rfl dX4_isNeedless_44 ?_
      refine lv_iload hx hb dX4_isNeedless_47 (lv_at hl 0 rfl) ?_
      refine zild hx hb hE hP 56 256 (fun _ => rfl) (by decide) u rfl (by omega) (by decide) dX4_isNeedless_49 ?_
      refine z0_le (tgt := 80) hx hb dX4_isNeedless_50 (by decide) (by omega) (fun h50 => ?_) (fun h50 => ?_)
      · refine lv_iinc (v := zi ((u : Int) + 1)) (lv' := [(4, .int (zi ((u : Int) + 1))), (3, .int (zi ((zDel (zDec X 0) q : Nat) : Int))), (2, .int (zi (zDec X 0 : Int))), (0, .ref (ad 53))]) hx hb dX4_isNeedless_80 hl (k := 0) rfl (zi_add _ _) (by decide) rfl (fun ls hl => ?_)
        refine lv_goto (tgt := 34) hx hb dX4_isNeedless_83 (by decide) ?_
        exact ih (u + 1) (by omega) H locs ls ⟨hP, hD, hS, lv_sub hl [0, 1, 2, 3] rfl, (by omega), (fun j h1 => by by_cases hk : j < u; exact hw j hk; have hjk : j = u := (by omega); rw [hjk]; intro h9; omega)⟩
      · refine lv_aload_n hx hb dX4_isNeedless_53 rfl (lv_at hl 3 rfl) ?_
        refine va_get (D := G.1) (ci := 4) (v := .ref (ad 0)) (C := RX4) (T := TX4) (N := 5) hx hb hts hw4 hown hE.1 hP 53 p_53 rfl 0 (by decide) hf21 (fun _ h9 => h9) rfl dX4_isNeedless_54 ?_
        refine lv_iload hx hb dX4_isNeedless_57 (lv_at hl 0 rfl) ?_
        refine lv_iload_n hx hb dX4_isNeedless_59 rfl (lv_at hl 2 rfl) ?_
        refine lv_iand hx hb dX4_isNeedless_60 (zti (v := zi ((u &&& zDec X 0 : Nat) : Int)) (zi_and _ _) ?_)
        refine zcall (wr := []) (va_runV (As := [.int (zi ((u &&& zDec X 0 : Nat) : Int))]) (rest := []) ⟨hx, hb, hml, hown, hts⟩ (c_X6_allows l G ad X 0 (u &&& zDec X 0 : Nat) hV (Or.inl rfl) (by omega) H.size) (cwV 1 hts gX4_isNeedless_X6_allows rfl rfl rfl (by decide +kernel) ⟨Nat.le_of_ble_eq_true rfl, Nat.le_of_ble_eq_true rfl⟩) (zPreV (wr := []) (wc := zpic G ad X) (q0 := 0) (ci := 6) (q := (RX6, TX6, 3)) hP hD hE hS hA rfl (p_w (Or.inl rfl))) rfl rfl hl.1 rfl (lv_room (Nat.le_of_ble_eq_true rfl)) dX4_isNeedless_61 ⟨Nat.le_of_ble_eq_true rfl, Nat.le_of_ble_eq_true rfl⟩) hP hD hS hA (fun _ _ H locs hf hP hD hS => ?_)
        obtain ⟨v4, rfl, hv4, rfl⟩ := hf
        have hP : va_P G.1 vwCl (zpic G ad X) H := hP
        have hD : va_D A (zpic G ad X) := hD
        refine W.eq (g2 := F0 m 64 ls [.int (zi v4)]) rfl ?_
        refine lv_aload_n hx hb dX4_isNeedless_64 rfl (lv_at hl 3 rfl) ?_
        refine va_get (D := G.1) (ci := 4) (v := .ref (ad 0)) (C := RX4) (T := TX4) (N := 5) hx hb hts hw4 hown hE.1 hP 53 p_53 rfl 0 (by decide) hf21 (fun _ h9 => h9) rfl dX4_isNeedless_65 ?_
        refine lv_iload hx hb dX4_isNeedless_68 (lv_at hl 0 rfl) ?_
        refine lv_iload_n hx hb dX4_isNeedless_70 rfl (lv_at hl 1 rfl) ?_
        refine lv_iand hx hb dX4_isNeedless_71 (zti (v := zi ((u &&& zDel (zDec X 0) q : Nat) : Int)) (zi_and _ _) ?_)
        refine zcall (wr := []) (va_runV (As := [.int (zi ((u &&& zDel (zDec X 0) q : Nat) : Int))]) (rest := [.int (zi v4)]) ⟨hx, hb, hml, hown, hts⟩ (c_X6_allows l G ad X 0 (u &&& zDel (zDec X 0) q : Nat) hV (Or.inl rfl) (by omega) H.size) (cwV 1 hts gX4_isNeedless_X6_allows rfl rfl rfl (by decide +kernel) ⟨Nat.le_of_ble_eq_true rfl, Nat.le_of_ble_eq_true rfl⟩) (zPreV (wr := []) (wc := zpic G ad X) (q0 := 0) (ci := 6) (q := (RX6, TX6, 3)) hP hD hE hS hA rfl (p_w (Or.inl rfl))) rfl rfl hl.1 rfl (lv_room (Nat.le_of_ble_eq_true rfl)) dX4_isNeedless_72 ⟨Nat.le_of_ble_eq_true rfl, Nat.le_of_ble_eq_true rfl⟩) hP hD hS hA (fun _ _ H locs hf hP hD hS => ?_)
        obtain ⟨v5, rfl, hv5, rfl⟩ := hf
        have hP : va_P G.1 vwCl (zpic G ad X) H := hP
        have hD : va_D A (zpic G ad X) := hD
        refine W.eq (g2 := F0 m 75 ls [.int (zi v5), .int (zi v4)]) rfl ?_
        refine zc_eq (tgt := 80) hx hb dX4_isNeedless_75 (by decide) (by omega) (by omega) (fun h75 => ?_) (fun h75 => ?_)
        · refine lv_iinc (v := zi ((u : Int) + 1)) (lv' := [(4, .int (zi ((u : Int) + 1))), (3, .int (zi ((zDel (zDec X 0) q : Nat) : Int))), (2, .int (zi (zDec X 0 : Int))), (0, .ref (ad 53))]) hx hb dX4_isNeedless_80 hl (k := 0) rfl (zi_add _ _) (by decide) rfl (fun ls hl => ?_)
          refine lv_goto (tgt := 34) hx hb dX4_isNeedless_83 (by decide) ?_
          exact ih (u + 1) (by omega) H locs ls ⟨hP, hD, hS, lv_sub hl [0, 1, 2, 3] rfl, (by omega), (fun j h1 => by by_cases hk : j < u; exact hw j hk; have hjk : j = u := (by omega); rw [hjk]; exact fun _ => by rcases hv4 with h | h <;> rcases hv5 with h5 | h5 <;> first | exact ⟨fun _ => h5.2, fun _ => h.2⟩ | exact ⟨fun z => absurd z h.2, fun z => absurd z h5.2⟩ | omega)⟩
        · refine lv_iconst (v := zi 0) hx hb dX4_isNeedless_78 rfl ?_
          exact zend_z hx hb hr hlocks (by decide +kernel) hP hD hS (Nat.le_of_ble_eq_true rfl) (Nat.le_of_ble_eq_true rfl) dX4_isNeedless_79 ⟨_, rfl, (Or.inr ⟨rfl, fun z => by have z2 := z.2 u (by omega) (by omega); rcases hv4 with h | h <;> rcases hv5 with h5 | h5 <;> first | exact h5.2 (z2.mp h.2) | exact h.2 (z2.mpr h5.2) | omega⟩), rfl⟩
  · refine lv_iconst (v := zi 0) hx hb dX4_isNeedless_15 rfl ?_
    exact zend_z hx hb hr hlocks (by decide +kernel) hP hD hS (Nat.le_of_ble_eq_true rfl) (Nat.le_of_ble_eq_true rfl) dX4_isNeedless_16 ⟨_, rfl, (Or.inr ⟨rfl, fun z => z.1 (by rcases hv1 with h | h; exact h.2; omega)⟩), rfl⟩

set_option maxHeartbeats 4000000 in
set_option maxRecDepth 100000 in
/-- allowsMoved -/
theorem c_X4_allowsMoved (l : Launch) (G : zG) (ad : Nat → Nat) (X : Nat → Nat → Int) (u : Nat) (q : Nat) (hV : zV X) (hu : u < 256) (hq : q < zN X 0) : zR l G yX4_allowsMoved wsX4_allowsMoved { frames := 2, cells := 0, slots := 0, locals := 44 } (zpic G ad X) [.ref (ad 53), .int (zi (u : Int)), .int (zi (q : Int)), .int (zi (q : Int))] (zq G ad X (fun w => (w = 1 ∧ zAl X 0 u) ∨ (w = 0 ∧ ¬ zAl X 0 u))) 0 0 := by
  refine zR_of (cc := cX4_allowsMoved) (maxL := 7) (rt := (some .boolean)) (by decide) rfl (Nat.le_of_ble_eq_true rfl) ?_
  intro p e s m below meth c A ls hx hb hml hr hts hown hlocks hin0 hA hE hP hD hS hl
  have hl : lv_has ls 7 [(0, .ref (ad 53)), (1, .int (zi (u : Int))), (2, .int (zi (q : Int))), (3, .int (zi (q : Int)))] := hl
  have hown : s.vm.findClass RX4 = some m.cls := hown
  have hn := hV.n (Or.inl rfl : zIsW 0)
  have h256 := z2_256 hn.2
  have hw4 : ∀ w ∈ u_ws RX4 TX4 5, w ∈ wsX4_allowsMoved := by decide +kernel
  have hf21 := hts (.fieldLink RX4 21 "Nettle$Survey" "wall" "LNettle$Wall;") (by decide +kernel)
  refine lv_iconst (v := zi 1) hx hb dX4_allowsMoved_0 rfl ?_
  refine lv_iload_n hx hb dX4_allowsMoved_1 rfl (lv_at hl 2 rfl) ?_
  refine lv_ishl hx hb dX4_allowsMoved_2 (zti (v := zi ((2 ^ q : Nat) : Int)) (zi_shl1 (by omega)) ?_)
  refine lv_istore (lv' := [(4, .int (zi ((2 ^ q : Nat) : Int))), (0, .ref (ad 53)), (1, .int (zi (u : Int))), (2, .int (zi (q : Int))), (3, .int (zi (q : Int)))]) hx hb dX4_allowsMoved_3 hl (by decide) rfl (fun ls hl => ?_)
  refine lv_iload_n hx hb dX4_allowsMoved_5 rfl (lv_at hl 2 rfl) ?_
  refine lv_iload hx hb dX4_allowsMoved_6 (lv_at hl 0 rfl) ?_
  refine lv_iconst (v := zi (-1)) hx hb dX4_allowsMoved_8 rfl ?_
  refine lv_ixor hx hb dX4_allowsMoved_9 (zti (v := zi (-((2 ^ q : Nat) : Int) - 1)) (zi_cpl (by omega)) ?_)
  refine lv_iand hx hb dX4_allowsMoved_10 (zti (v := zi ((zDel u q : Nat) : Int)) (zi_del hu (by omega)) ?_)
  refine lv_istore (lv' := [(5, .int (zi ((zDel u q : Nat) : Int))), (4, .int (zi ((2 ^ q : Nat) : Int))), (0, .ref (ad 53)), (1, .int (zi (u : Int))), (2, .int (zi (q : Int))), (3, .int (zi (q : Int)))]) hx hb dX4_allowsMoved_11 hl (by decide) rfl (fun ls hl => ?_)
  refine lv_iload_n hx hb dX4_allowsMoved_13 rfl (lv_at hl 5 rfl) ?_
  refine lv_iload_n hx hb dX4_allowsMoved_14 rfl (lv_at hl 4 rfl) ?_
  refine zc_ge (tgt := 26) hx hb dX4_allowsMoved_15 (by decide) (by omega) (by omega) (fun h15 => ?_) (fun h9 => by exfalso; omega)
  refine lv_iconst (v := zi 2) hx hb dX4_allowsMoved_26 rfl ?_
  refine lv_iload_n hx hb dX4_allowsMoved_27 rfl (lv_at hl 5 rfl) ?_
  refine lv_ishl hx hb dX4_allowsMoved_28 (zti (v := zi ((2 ^ (q + 1) : Nat) : Int)) (zi_shl2 (by omega)) ?_)
  refine lv_iconst (v := zi 1) hx hb dX4_allowsMoved_29 rfl ?_
  refine lv_isub hx hb dX4_allowsMoved_30 (zti (v := zi (((2 ^ (q + 1) : Nat) : Int) - 1)) (zi_sub _ _) ?_)
  refine zti (v := zi ((2 ^ (q + 1) - 1 : Nat) : Int)) (congrArg zi (by have h2q : 1 ≤ 2 ^ (q + 1) := Nat.one_le_two_pow; omega)) ?_
  refine lv_istore (lv' := [(6, .int (zi ((2 ^ (q + 1) - 1 : Nat) : Int))), (5, .int (zi ((zDel u q : Nat) : Int))), (4, .int (zi ((2 ^ q : Nat) : Int))), (0, .ref (ad 53)), (1, .int (zi (u : Int))), (2, .int (zi (q : Int))), (3, .int (zi (q : Int)))]) hx hb dX4_allowsMoved_31 hl (by decide) rfl (fun ls hl => ?_)
  have ha1 : u &&& 2 ^ q ≤ u := Nat.and_le_left
  have ha2 : zDel u q &&& (2 ^ (q + 1) - 1) ≤ zDel u q := Nat.and_le_left
  have ha3 : zDel u q ≤ u := Nat.and_le_left
  have hq2 : 2 ^ q < 256 := Nat.lt_of_lt_of_le (z2_lt (show q < 8 by omega)) (by decide)
  refine lv_iload_n hx hb dX4_allowsMoved_33 rfl (lv_at hl 4 rfl) ?_
  refine lv_iload hx hb dX4_allowsMoved_34 (lv_at hl 2 rfl) ?_
  refine lv_iand hx hb dX4_allowsMoved_36 (zti (v := zi ((u &&& 2 ^ q : Nat) : Int)) (zi_and _ _) ?_)
  refine z0_eq (tgt := 58) hx hb dX4_allowsMoved_37 (by decide) (by omega) (fun h37 => ?_) (fun h37 => ?_)
  · refine lv_aload_n hx hb dX4_allowsMoved_58 rfl (lv_at hl 3 rfl) ?_
    refine va_get (D := G.1) (ci := 4) (v := .ref (ad 0)) (C := RX4) (T := TX4) (N := 5) hx hb hts hw4 hown hE.1 hP 53 p_53 rfl 0 (by decide) hf21 (fun _ h9 => h9) rfl dX4_allowsMoved_59 ?_
    refine lv_iload hx hb dX4_allowsMoved_62 (lv_at hl 1 rfl) ?_
    refine zcall (wr := []) (va_runV (As := [.int (zi ((zDel u q : Nat) : Int))]) (rest := []) ⟨hx, hb, hml, hown, hts⟩ (c_X6_allows l G ad X 0 (zDel u q : Nat) hV (Or.inl rfl) (by omega) s.heap.size) (cwV 1 hts gX4_allowsMoved_X6_allows rfl rfl rfl (by decide +kernel) ⟨Nat.le_of_ble_eq_true rfl, Nat.le_of_ble_eq_true rfl⟩) (zPreV (wr := []) (wc := zpic G ad X) (q0 := 0) (ci := 6) (q := (RX6, TX6, 3)) hP hD hE hS hA rfl (p_w (Or.inl rfl))) rfl rfl hl.1 rfl (lv_room (Nat.le_of_ble_eq_true rfl)) dX4_allowsMoved_64 ⟨Nat.le_of_ble_eq_true rfl, Nat.le_of_ble_eq_true rfl⟩) hP hD hS hA (fun _ _ H locs hf hP hD hS => ?_)
    obtain ⟨v1, rfl, hv1, rfl⟩ := hf
    have hP : va_P G.1 vwCl (zpic G ad X) H := hP
    have hD : va_D A (zpic G ad X) := hD
    refine W.eq (g2 := F0 m 67 ls [.int (zi v1)]) rfl ?_
    exact zend_z hx hb hr hlocks (zbool (by omega)) hP hD hS (Nat.le_of_ble_eq_true rfl) (Nat.le_of_ble_eq_true rfl) dX4_allowsMoved_67 ⟨_, rfl, (by rw [← zAl_mv (X := X) (u := u) (q := q) hn.2 hu (by omega) (fun z => by omega)]; exact hv1), rfl⟩
  · refine lv_iload hx hb dX4_allowsMoved_40 (lv_at hl 1 rfl) ?_
    refine lv_iload hx hb dX4_allowsMoved_42 (lv_at hl 0 rfl) ?_
    refine lv_iand hx hb dX4_allowsMoved_44 (zti (v := zi ((zDel u q &&& (2 ^ (q + 1) - 1) : Nat) : Int)) (zi_and _ _) ?_)
    refine z0_ne (tgt := 58) hx hb dX4_allowsMoved_45 (by decide) (by omega) (fun h45 => ?_) (fun h45 => ?_)
    · refine lv_aload_n hx hb dX4_allowsMoved_58 rfl (lv_at hl 3 rfl) ?_
      refine va_get (D := G.1) (ci := 4) (v := .ref (ad 0)) (C := RX4) (T := TX4) (N := 5) hx hb hts hw4 hown hE.1 hP 53 p_53 rfl 0 (by decide) hf21 (fun _ h9 => h9) rfl dX4_allowsMoved_59 ?_
      refine lv_iload hx hb dX4_allowsMoved_62 (lv_at hl 1 rfl) ?_
      refine zcall (wr := []) (va_runV (As := [.int (zi ((zDel u q : Nat) : Int))]) (rest := []) ⟨hx, hb, hml, hown, hts⟩ (c_X6_allows l G ad X 0 (zDel u q : Nat) hV (Or.inl rfl) (by omega) s.heap.size) (cwV 1 hts gX4_allowsMoved_X6_allows rfl rfl rfl (by decide +kernel) ⟨Nat.le_of_ble_eq_true rfl, Nat.le_of_ble_eq_true rfl⟩) (zPreV (wr := []) (wc := zpic G ad X) (q0 := 0) (ci := 6) (q := (RX6, TX6, 3)) hP hD hE hS hA rfl (p_w (Or.inl rfl))) rfl rfl hl.1 rfl (lv_room (Nat.le_of_ble_eq_true rfl)) dX4_allowsMoved_64 ⟨Nat.le_of_ble_eq_true rfl, Nat.le_of_ble_eq_true rfl⟩) hP hD hS hA (fun _ _ H locs hf hP hD hS => ?_)
      obtain ⟨v1, rfl, hv1, rfl⟩ := hf
      have hP : va_P G.1 vwCl (zpic G ad X) H := hP
      have hD : va_D A (zpic G ad X) := hD
      refine W.eq (g2 := F0 m 67 ls [.int (zi v1)]) rfl ?_
      exact zend_z hx hb hr hlocks (zbool (by omega)) hP hD hS (Nat.le_of_ble_eq_true rfl) (Nat.le_of_ble_eq_true rfl) dX4_allowsMoved_67 ⟨_, rfl, (by rw [← zAl_mv (X := X) (u := u) (q := q) hn.2 hu (by omega) (fun z => by omega)]; exact hv1), rfl⟩
    · refine lv_aload_n hx hb dX4_allowsMoved_48 rfl (lv_at hl 3 rfl) ?_
      refine va_get (D := G.1) (ci := 4) (v := .ref (ad 0)) (C := RX4) (T := TX4) (N := 5) hx hb hts hw4 hown hE.1 hP 53 p_53 rfl 0 (by decide) hf21 (fun _ h9 => h9) rfl dX4_allowsMoved_49 ?_
      refine lv_iload hx hb dX4_allowsMoved_52 (lv_at hl 2 rfl) ?_
      refine zcall (wr := []) (va_runV (As := [.int (zi ((2 ^ q : Nat) : Int))]) (rest := []) ⟨hx, hb, hml, hown, hts⟩ (c_X6_allows l G ad X 0 (2 ^ q : Nat) hV (Or.inl rfl) (by omega) s.heap.size) (cwV 1 hts gX4_allowsMoved_X6_allows rfl rfl rfl (by decide +kernel) ⟨Nat.le_of_ble_eq_true rfl, Nat.le_of_ble_eq_true rfl⟩) (zPreV (wr := []) (wc := zpic G ad X) (q0 := 0) (ci := 6) (q := (RX6, TX6, 3)) hP hD hE hS hA rfl (p_w (Or.inl rfl))) rfl rfl hl.1 rfl (lv_room (Nat.le_of_ble_eq_true rfl)) dX4_allowsMoved_54 ⟨Nat.le_of_ble_eq_true rfl, Nat.le_of_ble_eq_true rfl⟩) hP hD hS hA (fun _ _ H locs hf hP hD hS => ?_)
      obtain ⟨v1, rfl, hv1, rfl⟩ := hf
      have hP : va_P G.1 vwCl (zpic G ad X) H := hP
      have hD : va_D A (zpic G ad X) := hD
      refine W.eq (g2 := F0 m 57 ls [.int (zi v1)]) rfl ?_
      exact zend_z hx hb hr hlocks (zbool (by omega)) hP hD hS (Nat.le_of_ble_eq_true rfl) (Nat.le_of_ble_eq_true rfl) dX4_allowsMoved_57 ⟨_, rfl, (by rw [← zAl_mv2 (by omega) hq (by omega) (by omega)]; exact hv1), rfl⟩

set_option maxHeartbeats 4000000 in
set_option maxRecDepth 100000 in
/-- amountMoved -/
theorem c_X4_amountMoved (l : Launch) (G : zG) (ad : Nat → Nat) (X : Nat → Nat → Int) (q : Nat) (hV : zV X) (hq : q < zN X 0) : zR l G yX4_amountMoved wsX4_amountMoved { frames := 3, cells := 0, slots := 0, locals := 70 } (zpic G ad X) [.ref (ad 53), .int (zi (q : Int)), .int (zi (q : Int))] (zq G ad X (fun w => w = 0)) 0 0 := by
  refine zR_of (cc := cX4_amountMoved) (maxL := 6) (rt := (some .int)) (by decide) rfl (Nat.le_of_ble_eq_true rfl) ?_
  intro p e s m below meth c A ls hx hb hml hr hts hown hlocks hin0 hA hE hP hD hS hl
  have hl : lv_has ls 6 [(0, .ref (ad 53)), (1, .int (zi (q : Int))), (2, .int (zi (q : Int)))] := hl
  have hown : s.vm.findClass RX4 = some m.cls := hown
  have hn := hV.n (Or.inl rfl : zIsW 0)
  have h256 := z2_256 hn.2
  have hw4 : ∀ w ∈ u_ws RX4 TX4 5, w ∈ wsX4_amountMoved := by decide +kernel
  have hf21 := hts (.fieldLink RX4 21 "Nettle$Survey" "wall" "LNettle$Wall;") (by decide +kernel)
  refine lv_aload_n hx hb dX4_amountMoved_0 rfl (lv_at hl 0 rfl) ?_
  refine va_get (D := G.1) (ci := 4) (v := .ref (ad 0)) (C := RX4) (T := TX4) (N := 5) hx hb hts hw4 hown hE.1 hP 53 p_53 rfl 0 (by decide) hf21 (fun _ h9 => h9) rfl dX4_amountMoved_1 ?_
  refine zcall (wr := []) (va_runV (As := []) (rest := []) ⟨hx, hb, hml, hown, hts⟩ (c_X6_deciders l G ad X 0 hV (Or.inl rfl) s.heap.size) (cwV 0 hts gX4_amountMoved_X6_deciders rfl rfl rfl (by decide +kernel) ⟨Nat.le_of_ble_eq_true rfl, Nat.le_of_ble_eq_true rfl⟩) (zPreV (wr := []) (wc := zpic G ad X) (q0 := 0) (ci := 6) (q := (RX6, TX6, 3)) hP hD hE hS hA rfl (p_w (Or.inl rfl))) rfl rfl hl.1 rfl (lv_room (Nat.le_of_ble_eq_true rfl)) dX4_amountMoved_4 ⟨Nat.le_of_ble_eq_true rfl, Nat.le_of_ble_eq_true rfl⟩) hP hD hS hA (fun _ _ H locs hf hP hD hS => ?_)
  obtain ⟨v1, rfl, hv1, rfl⟩ := hf
  have hP : va_P G.1 vwCl (zpic G ad X) H := hP
  have hD : va_D A (zpic G ad X) := hD
  refine W.eq (g2 := F0 m 7 ls [.int (zi v1)]) rfl ?_
  rw [hv1]
  refine lv_istore_n (lv' := [(3, .int (zi (zDec X 0 : Int))), (0, .ref (ad 53)), (1, .int (zi (q : Int))), (2, .int (zi (q : Int)))]) hx hb dX4_amountMoved_7 rfl hl (by decide) rfl (fun ls hl => ?_)
  refine lv_iconst (v := zi 0) hx hb dX4_amountMoved_8 rfl ?_
  refine lv_istore (lv' := [(4, .int (zi 0)), (3, .int (zi (zDec X 0 : Int))), (0, .ref (ad 53)), (1, .int (zi (q : Int))), (2, .int (zi (q : Int)))]) hx hb dX4_amountMoved_9 hl (by decide) rfl (fun ls hl => ?_)
  refine lv_iconst (v := zi 0) hx hb dX4_amountMoved_11 rfl ?_
  refine lv_istore (lv' := [(5, .int (zi 0)), (4, .int (zi 0)), (3, .int (zi (zDec X 0 : Int))), (0, .ref (ad 53)), (1, .int (zi (q : Int))), (2, .int (zi (q : Int)))]) hx hb dX4_amountMoved_12 hl (by decide) rfl (fun ls hl => ?_)
  refine zloop1 (fun (u : Nat) => 256 - u) (fun (u : Nat) (H : Heap) (locs : List Loc) (ls : Array Slot) => va_P G.1 vwCl (zpic G ad X) H ∧ va_D A (zpic G ad X) ∧ va_S A s.heap H locs ∧ lv_has ls 6 [(5, .int (zi (u : Int))), (4, .int (zi 0)), (3, .int (zi (zDec X 0 : Int))), (2, .int (zi (q : Int))), (1, .int (zi (q : Int))), (0, .ref (ad 53))] ∧ (u ≤ 2 ^ zN X 0)) ?_ 0 ⟨hP, hD, hS, lv_sub hl [0, 1, 2, 5, 4, 3] rfl, (Nat.zero_le _)⟩
  intro u ih H locs ls ⟨hP, hD, hS, hl, hu⟩
  refine lv_iload hx hb dX4_amountMoved_14 (lv_at hl 0 rfl) ?_
  refine lv_aload_n hx hb dX4_amountMoved_16 rfl (lv_at hl 5 rfl) ?_
  refine zcall (wr := []) (va_runV (As := []) (rest := [.int (zi (u : Int))]) ⟨hx, hb, hml, hown, hts⟩ (c_X4_setCount l G ad X hV H.size) (cwV 0 hts gX4_amountMoved_X4_setCount rfl rfl rfl (by decide +kernel) ⟨Nat.le_of_ble_eq_true rfl, Nat.le_of_ble_eq_true rfl⟩) (zPreV (wr := []) (wc := zpic G ad X) (q0 := 53) (ci := 4) (q := (RX4, TX4, 5)) hP hD hE hS hA rfl p_53) rfl rfl hl.1 rfl (lv_room (Nat.le_of_ble_eq_true rfl)) dX4_amountMoved_17 ⟨Nat.le_of_ble_eq_true rfl, Nat.le_of_ble_eq_true rfl⟩) hP hD hS hA (fun _ _ H locs hf hP hD hS => ?_)
  obtain ⟨v2, rfl, hv2, rfl⟩ := hf
  have hP : va_P G.1 vwCl (zpic G ad X) H := hP
  have hD : va_D A (zpic G ad X) := hD
  refine W.eq (g2 := F0 m 20 ls [.int (zi v2), .int (zi (u : Int))]) rfl ?_
  refine zc_ge (tgt := 65) hx hb dX4_amountMoved_20 (by decide) (by omega) (by omega) (fun h20 => ?_) (fun h20 => ?_)
  · refine lv_iload hx hb dX4_amountMoved_65 (lv_at hl 1 rfl) ?_
    exact zend_i hx hb hr hlocks hP hD hS (Nat.le_of_ble_eq_true rfl) (Nat.le_of_ble_eq_true rfl) dX4_amountMoved_67 ⟨_, rfl, rfl, rfl⟩
  · have ha1 : u &&& zDec X 0 ≤ u := Nat.and_le_left
    refine lv_aload_n hx hb dX4_amountMoved_23 rfl (lv_at hl 5 rfl) ?_
    refine va_get (D := G.1) (ci := 4) (v := .ref (ad 0)) (C := RX4) (T := TX4) (N := 5) hx hb hts hw4 hown hE.1 hP 53 p_53 rfl 0 (by decide) hf21 (fun _ h9 => h9) rfl dX4_amountMoved_24 ?_
    refine lv_iload hx hb dX4_amountMoved_27 (lv_at hl 0 rfl) ?_
    refine lv_iload_n hx hb dX4_amountMoved_29 rfl (lv_at hl 2 rfl) ?_
    refine lv_iand hx hb dX4_amountMoved_30 (zti (v := zi ((u &&& zDec X 0 : Nat) : Int)) (zi_and _ _) ?_)
    refine zcall (wr := []) (va_runV (As := [.int (zi ((u &&& zDec X 0 : Nat) : Int))]) (rest := []) ⟨hx, hb, hml, hown, hts⟩ (c_X6_allows l G ad X 0 (u &&& zDec X 0 : Nat) hV (Or.inl rfl) (by omega) H.size) (cwV 1 hts gX4_amountMoved_X6_allows rfl rfl rfl (by decide +kernel) ⟨Nat.le_of_ble_eq_true rfl, Nat.le_of_ble_eq_true rfl⟩) (zPreV (wr := []) (wc := zpic G ad X) (q0 := 0) (ci := 6) (q := (RX6, TX6, 3)) hP hD hE hS hA rfl (p_w (Or.inl rfl))) rfl rfl hl.1 rfl (lv_room (Nat.le_of_ble_eq_true rfl)) dX4_amountMoved_31 ⟨Nat.le_of_ble_eq_true rfl, Nat.le_of_ble_eq_true rfl⟩) hP hD hS hA (fun _ _ H locs hf hP hD hS => ?_)
    obtain ⟨v3, rfl, hv3, rfl⟩ := hf
    have hP : va_P G.1 vwCl (zpic G ad X) H := hP
    have hD : va_D A (zpic G ad X) := hD
    refine W.eq (g2 := F0 m 34 ls [.int (zi v3)]) rfl ?_
    refine lv_aload_n hx hb dX4_amountMoved_34 rfl (lv_at hl 5 rfl) ?_
    refine lv_iload hx hb dX4_amountMoved_35 (lv_at hl 0 rfl) ?_
    refine lv_iload_n hx hb dX4_amountMoved_37 rfl (lv_at hl 2 rfl) ?_
    refine lv_iand hx hb dX4_amountMoved_38 (zti (v := zi ((u &&& zDec X 0 : Nat) : Int)) (zi_and _ _) ?_)
    refine lv_iload_n hx hb dX4_amountMoved_39 rfl (lv_at hl 4 rfl) ?_
    refine lv_iload_n hx hb dX4_amountMoved_40 rfl (lv_at hl 3 rfl) ?_
    refine zcall (wr := []) (va_runV (As := [.int (zi ((u &&& zDec X 0 : Nat) : Int)), .int (zi (q : Int)), .int (zi (q : Int))]) (rest := [.int (zi v3)]) ⟨hx, hb, hml, hown, hts⟩ (c_X4_allowsMoved l G ad X (u &&& zDec X 0 : Nat) q hV (by omega) (by omega) H.size) (cwV 3 hts gX4_amountMoved_X4_allowsMoved rfl rfl rfl (by decide +kernel) ⟨Nat.le_of_ble_eq_true rfl, Nat.le_of_ble_eq_true rfl⟩) (zPreV (wr := []) (wc := zpic G ad X) (q0 := 53) (ci := 4) (q := (RX4, TX4, 5)) hP hD hE hS hA rfl p_53) rfl rfl hl.1 rfl (lv_room (Nat.le_of_ble_eq_true rfl)) dX4_amountMoved_41 ⟨Nat.le_of_ble_eq_true rfl, Nat.le_of_ble_eq_true rfl⟩) hP hD hS hA (fun _ _ H locs hf hP hD hS => ?_)
    obtain ⟨v4, rfl, hv4, rfl⟩ := hf
    have hP : va_P G.1 vwCl (zpic G ad X) H := hP
    have hD : va_D A (zpic G ad X) := hD
    refine W.eq (g2 := F0 m 44 ls [.int (zi v4), .int (zi v3)]) rfl ?_
    refine zc_eq (tgt := 59) hx hb dX4_amountMoved_44 (by decide) (by omega) (by omega) (fun h44 => ?_) (fun h9 => absurd h9 (fun z => z (by rcases hv3 with h | h <;> rcases hv4 with h4 | h4 <;> first | exact absurd h.2 h4.2 | exact absurd h4.2 h.2 | omega)))
    refine lv_iinc (v := zi ((u : Int) + 1)) (lv' := [(5, .int (zi ((u : Int) + 1))), (4, .int (zi 0)), (3, .int (zi (zDec X 0 : Int))), (2, .int (zi (q : Int))), (1, .int (zi (q : Int))), (0, .ref (ad 53))]) hx hb dX4_amountMoved_59 hl (k := 0) rfl (zi_add _ _) (by decide) rfl (fun ls hl => ?_)
    refine lv_goto (tgt := 14) hx hb dX4_amountMoved_62 (by decide) ?_
    exact ih (u + 1) (by omega) H locs ls ⟨hP, hD, hS, lv_sub hl [0, 1, 2, 3, 4, 5] rfl, (by omega)⟩
