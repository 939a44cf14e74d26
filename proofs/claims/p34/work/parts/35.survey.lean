/-! the survey is made -/
theorem dX4_setCount_0 : decode cX4_setCount 0 = .ok (.iconst 1, 1) := by decide +kernel
theorem dX4_setCount_1 : decode cX4_setCount 1 = .ok (.aload_n 0, 1) := by decide +kernel
theorem dX4_setCount_2 : decode cX4_setCount 2 = .ok (.getfield 21, 3) := by decide +kernel
theorem dX4_setCount_5 : decode cX4_setCount 5 = .ok (.getfield 46, 3) := by decide +kernel
theorem dX4_setCount_8 : decode cX4_setCount 8 = .ok (.ishl, 1) := by decide +kernel
theorem dX4_setCount_9 : decode cX4_setCount 9 = .ok (.ireturn, 1) := by decide +kernel
theorem dX4_measure_0 : decode cX4_measure 0 = .ok (.aload_n 0, 1) := by decide +kernel
theorem dX4_measure_1 : decode cX4_measure 1 = .ok (.getfield 21, 3) := by decide +kernel
theorem dX4_measure_4 : decode cX4_measure 4 = .ok (.iload_n 1, 1) := by decide +kernel
set_option maxRecDepth 20000 in
theorem ggX4_measure_X6_firstOf : GoodIn wsX4_measure wsX6_firstOf := goodIn_r _ [19, 20, 26, 27, 28] (by decide +kernel) (by decide +kernel)
set_option maxRecDepth 20000 in
theorem gX4_measure_X6_firstOf : GoodIn wsX4_measure (wsV RX4 52 RX6 yX6_firstOf wsX6_firstOf) := goodIn_app (goodIn_of _ (by decide +kernel)) ggX4_measure_X6_firstOf
theorem dX4_measure_5 : decode cX4_measure 5 = .ok (.invokevirtual 52, 3) := by decide +kernel
theorem dX4_measure_8 : decode cX4_measure 8 = .ok (.istore_n 2, 1) := by decide +kernel
theorem dX4_measure_9 : decode cX4_measure 9 = .ok (.iload_n 2, 1) := by decide +kernel
theorem dX4_measure_10 : decode cX4_measure 10 = .ok (.ifCond .ge 4, 3) := by decide +kernel
theorem dX4_measure_14 : decode cX4_measure 14 = .ok (.aload_n 0, 1) := by decide +kernel
theorem dX4_measure_15 : decode cX4_measure 15 = .ok (.getfield 21, 3) := by decide +kernel
theorem dX4_measure_18 : decode cX4_measure 18 = .ok (.getfield 56, 3) := by decide +kernel
theorem dX4_measure_21 : decode cX4_measure 21 = .ok (.iload_n 2, 1) := by decide +kernel
theorem dX4_measure_22 : decode cX4_measure 22 = .ok (.aaload, 1) := by decide +kernel
theorem dX4_measure_23 : decode cX4_measure 23 = .ok (.astore_n 3, 1) := by decide +kernel
theorem dX4_measure_24 : decode cX4_measure 24 = .ok (.iload_n 1, 1) := by decide +kernel
theorem dX4_measure_25 : decode cX4_measure 25 = .ok (.iconst 1, 1) := by decide +kernel
theorem dX4_measure_26 : decode cX4_measure 26 = .ok (.iload_n 2, 1) := by decide +kernel
theorem dX4_measure_27 : decode cX4_measure 27 = .ok (.ishl, 1) := by decide +kernel
theorem dX4_measure_28 : decode cX4_measure 28 = .ok (.isub, 1) := by decide +kernel
theorem dX4_measure_29 : decode cX4_measure 29 = .ok (.istore 4, 2) := by decide +kernel
theorem dX4_measure_31 : decode cX4_measure 31 = .ok (.iconst 1, 1) := by decide +kernel
theorem dX4_measure_32 : decode cX4_measure 32 = .ok (.istore 5, 2) := by decide +kernel
theorem dX4_measure_34 : decode cX4_measure 34 = .ok (.iconst 0, 1) := by decide +kernel
theorem dX4_measure_35 : decode cX4_measure 35 = .ok (.istore 6, 2) := by decide +kernel
theorem dX4_measure_37 : decode cX4_measure 37 = .ok (.iload 6, 2) := by decide +kernel
theorem dX4_measure_39 : decode cX4_measure 39 = .ok (.iconst 4, 1) := by decide +kernel
theorem dX4_measure_40 : decode cX4_measure 40 = .ok (.if_icmp .ge 99, 3) := by decide +kernel
theorem dX4_measure_139 : decode cX4_measure 139 = .ok (.aload_n 0, 1) := by decide +kernel
theorem dX4_measure_140 : decode cX4_measure 140 = .ok (.getfield 18, 3) := by decide +kernel
theorem dX4_measure_143 : decode cX4_measure 143 = .ok (.iload_n 1, 1) := by decide +kernel
theorem dX4_measure_144 : decode cX4_measure 144 = .ok (.iload 5, 2) := by decide +kernel
theorem dX4_measure_146 : decode cX4_measure 146 = .ok (.iastore, 1) := by decide +kernel
theorem dX4_measure_147 : decode cX4_measure 147 = .ok (.return_, 1) := by decide +kernel
theorem dX4_measure_43 : decode cX4_measure 43 = .ok (.aload_n 3, 1) := by decide +kernel
theorem dX4_measure_44 : decode cX4_measure 44 = .ok (.getfield 60, 3) := by decide +kernel
theorem dX4_measure_47 : decode cX4_measure 47 = .ok (.iload 6, 2) := by decide +kernel
theorem dX4_measure_49 : decode cX4_measure 49 = .ok (.iaload, 1) := by decide +kernel
theorem dX4_measure_50 : decode cX4_measure 50 = .ok (.aload_n 0, 1) := by decide +kernel
theorem dX4_measure_51 : decode cX4_measure 51 = .ok (.getfield 9, 3) := by decide +kernel
theorem dX4_measure_54 : decode cX4_measure 54 = .ok (.iload 4, 2) := by decide +kernel
theorem dX4_measure_56 : decode cX4_measure 56 = .ok (.iconst 4, 1) := by decide +kernel
theorem dX4_measure_57 : decode cX4_measure 57 = .ok (.imul, 1) := by decide +kernel
theorem dX4_measure_58 : decode cX4_measure 58 = .ok (.iload 6, 2) := by decide +kernel
theorem dX4_measure_60 : decode cX4_measure 60 = .ok (.iadd, 1) := by decide +kernel
theorem dX4_measure_61 : decode cX4_measure 61 = .ok (.iaload, 1) := by decide +kernel
theorem dX4_measure_62 : decode cX4_measure 62 = .ok (.invokestatic 63, 3) := by decide +kernel
theorem dX4_measure_65 : decode cX4_measure 65 = .ok (.istore 7, 2) := by decide +kernel
theorem dX4_measure_67 : decode cX4_measure 67 = .ok (.aload_n 3, 1) := by decide +kernel
theorem dX4_measure_68 : decode cX4_measure 68 = .ok (.getfield 69, 3) := by decide +kernel
theorem dX4_measure_71 : decode cX4_measure 71 = .ok (.iload 6, 2) := by decide +kernel
theorem dX4_measure_73 : decode cX4_measure 73 = .ok (.iaload, 1) := by decide +kernel
theorem dX4_measure_74 : decode cX4_measure 74 = .ok (.aload_n 0, 1) := by decide +kernel
theorem dX4_measure_75 : decode cX4_measure 75 = .ok (.getfield 15, 3) := by decide +kernel
theorem dX4_measure_78 : decode cX4_measure 78 = .ok (.iload 4, 2) := by decide +kernel
theorem dX4_measure_80 : decode cX4_measure 80 = .ok (.iconst 4, 1) := by decide +kernel
theorem dX4_measure_81 : decode cX4_measure 81 = .ok (.imul, 1) := by decide +kernel
theorem dX4_measure_82 : decode cX4_measure 82 = .ok (.iload 6, 2) := by decide +kernel
theorem dX4_measure_84 : decode cX4_measure 84 = .ok (.iadd, 1) := by decide +kernel
theorem dX4_measure_85 : decode cX4_measure 85 = .ok (.iaload, 1) := by decide +kernel
theorem dX4_measure_86 : decode cX4_measure 86 = .ok (.invokestatic 70, 3) := by decide +kernel
theorem dX4_measure_89 : decode cX4_measure 89 = .ok (.istore 8, 2) := by decide +kernel
theorem dX4_measure_91 : decode cX4_measure 91 = .ok (.aload_n 0, 1) := by decide +kernel
theorem dX4_measure_92 : decode cX4_measure 92 = .ok (.getfield 9, 3) := by decide +kernel
theorem dX4_measure_95 : decode cX4_measure 95 = .ok (.iload_n 1, 1) := by decide +kernel
theorem dX4_measure_96 : decode cX4_measure 96 = .ok (.iconst 4, 1) := by decide +kernel
theorem dX4_measure_97 : decode cX4_measure 97 = .ok (.imul, 1) := by decide +kernel
theorem dX4_measure_98 : decode cX4_measure 98 = .ok (.iload 6, 2) := by decide +kernel
theorem dX4_measure_100 : decode cX4_measure 100 = .ok (.iadd, 1) := by decide +kernel
theorem dX4_measure_101 : decode cX4_measure 101 = .ok (.iload 7, 2) := by decide +kernel
theorem dX4_measure_103 : decode cX4_measure 103 = .ok (.iastore, 1) := by decide +kernel
theorem dX4_measure_104 : decode cX4_measure 104 = .ok (.aload_n 0, 1) := by decide +kernel
theorem dX4_measure_105 : decode cX4_measure 105 = .ok (.getfield 15, 3) := by decide +kernel
theorem dX4_measure_108 : decode cX4_measure 108 = .ok (.iload_n 1, 1) := by decide +kernel
theorem dX4_measure_109 : decode cX4_measure 109 = .ok (.iconst 4, 1) := by decide +kernel
theorem dX4_measure_110 : decode cX4_measure 110 = .ok (.imul, 1) := by decide +kernel
theorem dX4_measure_111 : decode cX4_measure 111 = .ok (.iload 6, 2) := by decide +kernel
theorem dX4_measure_113 : decode cX4_measure 113 = .ok (.iadd, 1) := by decide +kernel
theorem dX4_measure_114 : decode cX4_measure 114 = .ok (.iload 8, 2) := by decide +kernel
theorem dX4_measure_116 : decode cX4_measure 116 = .ok (.iastore, 1) := by decide +kernel
theorem dX4_measure_117 : decode cX4_measure 117 = .ok (.iload 5, 2) := by decide +kernel
theorem dX4_measure_119 : decode cX4_measure 119 = .ok (.iconst 0, 1) := by decide +kernel
theorem dX4_measure_120 : decode cX4_measure 120 = .ok (.iload 8, 2) := by decide +kernel
theorem dX4_measure_122 : decode cX4_measure 122 = .ok (.iload 7, 2) := by decide +kernel
theorem dX4_measure_124 : decode cX4_measure 124 = .ok (.isub, 1) := by decide +kernel
theorem dX4_measure_125 : decode cX4_measure 125 = .ok (.iconst 1, 1) := by decide +kernel
theorem dX4_measure_126 : decode cX4_measure 126 = .ok (.iadd, 1) := by decide +kernel
theorem dX4_measure_127 : decode cX4_measure 127 = .ok (.invokestatic 63, 3) := by decide +kernel
theorem dX4_measure_130 : decode cX4_measure 130 = .ok (.imul, 1) := by decide +kernel
theorem dX4_measure_131 : decode cX4_measure 131 = .ok (.istore 5, 2) := by decide +kernel
theorem dX4_measure_133 : decode cX4_measure 133 = .ok (.iinc 6 1, 3) := by decide +kernel
theorem dX4_measure_136 : decode cX4_measure 136 = .ok (.goto (-99), 3) := by decide +kernel
theorem dX4_takeOutLarger_0 : decode cX4_takeOutLarger 0 = .ok (.iconst 0, 1) := by decide +kernel
theorem dX4_takeOutLarger_1 : decode cX4_takeOutLarger 1 = .ok (.istore_n 1, 1) := by decide +kernel
theorem dX4_takeOutLarger_2 : decode cX4_takeOutLarger 2 = .ok (.iload_n 1, 1) := by decide +kernel
theorem dX4_takeOutLarger_3 : decode cX4_takeOutLarger 3 = .ok (.aload_n 0, 1) := by decide +kernel
theorem dX4_takeOutLarger_4 : decode cX4_takeOutLarger 4 = .ok (.getfield 21, 3) := by decide +kernel
theorem dX4_takeOutLarger_7 : decode cX4_takeOutLarger 7 = .ok (.getfield 46, 3) := by decide +kernel
theorem dX4_takeOutLarger_10 : decode cX4_takeOutLarger 10 = .ok (.if_icmp .ge 52, 3) := by decide +kernel
theorem dX4_takeOutLarger_62 : decode cX4_takeOutLarger 62 = .ok (.return_, 1) := by decide +kernel
theorem dX4_takeOutLarger_13 : decode cX4_takeOutLarger 13 = .ok (.iconst 1, 1) := by decide +kernel
theorem dX4_takeOutLarger_14 : decode cX4_takeOutLarger 14 = .ok (.iload_n 1, 1) := by decide +kernel
theorem dX4_takeOutLarger_15 : decode cX4_takeOutLarger 15 = .ok (.ishl, 1) := by decide +kernel
theorem dX4_takeOutLarger_16 : decode cX4_takeOutLarger 16 = .ok (.istore_n 2, 1) := by decide +kernel
theorem dX4_takeOutLarger_17 : decode cX4_takeOutLarger 17 = .ok (.iconst 0, 1) := by decide +kernel
theorem dX4_takeOutLarger_18 : decode cX4_takeOutLarger 18 = .ok (.istore_n 3, 1) := by decide +kernel
theorem dX4_takeOutLarger_19 : decode cX4_takeOutLarger 19 = .ok (.iload_n 3, 1) := by decide +kernel
theorem dX4_takeOutLarger_20 : decode cX4_takeOutLarger 20 = .ok (.aload_n 0, 1) := by decide +kernel
set_option maxRecDepth 20000 in
theorem ggX4_takeOutLarger_X4_setCount : GoodIn wsX4_takeOutLarger wsX4_setCount := goodIn_r _ [8, 1, 2, 9, 10, 11, 12, 13, 14, 15, 16] (by decide +kernel) (by decide +kernel)
set_option maxRecDepth 20000 in
theorem gX4_takeOutLarger_X4_setCount : GoodIn wsX4_takeOutLarger (wsV RX4 35 RX4 yX4_setCount wsX4_setCount) := goodIn_app (goodIn_of _ (by decide +kernel)) ggX4_takeOutLarger_X4_setCount
theorem dX4_takeOutLarger_21 : decode cX4_takeOutLarger 21 = .ok (.invokevirtual 35, 3) := by decide +kernel
theorem dX4_takeOutLarger_24 : decode cX4_takeOutLarger 24 = .ok (.if_icmp .ge 32, 3) := by decide +kernel
theorem dX4_takeOutLarger_56 : decode cX4_takeOutLarger 56 = .ok (.iinc 1 1, 3) := by decide +kernel
theorem dX4_takeOutLarger_59 : decode cX4_takeOutLarger 59 = .ok (.goto (-57), 3) := by decide +kernel
theorem dX4_takeOutLarger_27 : decode cX4_takeOutLarger 27 = .ok (.iload_n 3, 1) := by decide +kernel
theorem dX4_takeOutLarger_28 : decode cX4_takeOutLarger 28 = .ok (.iload_n 2, 1) := by decide +kernel
theorem dX4_takeOutLarger_29 : decode cX4_takeOutLarger 29 = .ok (.iand, 1) := by decide +kernel
theorem dX4_takeOutLarger_30 : decode cX4_takeOutLarger 30 = .ok (.ifCond .ne 20, 3) := by decide +kernel
theorem dX4_takeOutLarger_50 : decode cX4_takeOutLarger 50 = .ok (.iinc 3 1, 3) := by decide +kernel
theorem dX4_takeOutLarger_53 : decode cX4_takeOutLarger 53 = .ok (.goto (-34), 3) := by decide +kernel
theorem dX4_takeOutLarger_33 : decode cX4_takeOutLarger 33 = .ok (.aload_n 0, 1) := by decide +kernel
theorem dX4_takeOutLarger_34 : decode cX4_takeOutLarger 34 = .ok (.getfield 18, 3) := by decide +kernel
theorem dX4_takeOutLarger_37 : decode cX4_takeOutLarger 37 = .ok (.iload_n 3, 1) := by decide +kernel
theorem dX4_takeOutLarger_38 : decode cX4_takeOutLarger 38 = .ok (.dup2, 1) := by decide +kernel
theorem dX4_takeOutLarger_39 : decode cX4_takeOutLarger 39 = .ok (.iaload, 1) := by decide +kernel
theorem dX4_takeOutLarger_40 : decode cX4_takeOutLarger 40 = .ok (.aload_n 0, 1) := by decide +kernel
theorem dX4_takeOutLarger_41 : decode cX4_takeOutLarger 41 = .ok (.getfield 18, 3) := by decide +kernel
theorem dX4_takeOutLarger_44 : decode cX4_takeOutLarger 44 = .ok (.iload_n 3, 1) := by decide +kernel
theorem dX4_takeOutLarger_45 : decode cX4_takeOutLarger 45 = .ok (.iload_n 2, 1) := by decide +kernel
theorem dX4_takeOutLarger_46 : decode cX4_takeOutLarger 46 = .ok (.ior, 1) := by decide +kernel
theorem dX4_takeOutLarger_47 : decode cX4_takeOutLarger 47 = .ok (.iaload, 1) := by decide +kernel
theorem dX4_takeOutLarger_48 : decode cX4_takeOutLarger 48 = .ok (.isub, 1) := by decide +kernel
theorem dX4_takeOutLarger_49 : decode cX4_takeOutLarger 49 = .ok (.iastore, 1) := by decide +kernel
theorem dX4_refresh_0 : decode cX4_refresh 0 = .ok (.aload_n 0, 1) := by decide +kernel
theorem dX4_refresh_1 : decode cX4_refresh 1 = .ok (.getfield 25, 3) := by decide +kernel
theorem dX4_refresh_4 : decode cX4_refresh 4 = .ok (.ifCond .eq 4, 3) := by decide +kernel
theorem dX4_refresh_8 : decode cX4_refresh 8 = .ok (.iconst 0, 1) := by decide +kernel
theorem dX4_refresh_9 : decode cX4_refresh 9 = .ok (.istore_n 1, 1) := by decide +kernel
theorem dX4_refresh_10 : decode cX4_refresh 10 = .ok (.iload_n 1, 1) := by decide +kernel
theorem dX4_refresh_11 : decode cX4_refresh 11 = .ok (.iconst 4, 1) := by decide +kernel
theorem dX4_refresh_12 : decode cX4_refresh 12 = .ok (.if_icmp .ge 29, 3) := by decide +kernel
theorem dX4_refresh_15 : decode cX4_refresh 15 = .ok (.aload_n 0, 1) := by decide +kernel
theorem dX4_refresh_16 : decode cX4_refresh 16 = .ok (.getfield 9, 3) := by decide +kernel
theorem dX4_refresh_19 : decode cX4_refresh 19 = .ok (.iload_n 1, 1) := by decide +kernel
theorem dX4_refresh_20 : decode cX4_refresh 20 = .ok (.iconst 0, 1) := by decide +kernel
theorem dX4_refresh_21 : decode cX4_refresh 21 = .ok (.iastore, 1) := by decide +kernel
theorem dX4_refresh_22 : decode cX4_refresh 22 = .ok (.aload_n 0, 1) := by decide +kernel
theorem dX4_refresh_23 : decode cX4_refresh 23 = .ok (.getfield 15, 3) := by decide +kernel
theorem dX4_refresh_26 : decode cX4_refresh 26 = .ok (.iload_n 1, 1) := by decide +kernel
theorem dX4_refresh_27 : decode cX4_refresh 27 = .ok (.getstatic 29, 3) := by decide +kernel
theorem dX4_refresh_30 : decode cX4_refresh 30 = .ok (.iload_n 1, 1) := by decide +kernel
theorem dX4_refresh_31 : decode cX4_refresh 31 = .ok (.iaload, 1) := by decide +kernel
theorem dX4_refresh_32 : decode cX4_refresh 32 = .ok (.iconst 1, 1) := by decide +kernel
theorem dX4_refresh_33 : decode cX4_refresh 33 = .ok (.isub, 1) := by decide +kernel
theorem dX4_refresh_34 : decode cX4_refresh 34 = .ok (.iastore, 1) := by decide +kernel
theorem dX4_refresh_35 : decode cX4_refresh 35 = .ok (.iinc 1 1, 3) := by decide +kernel
theorem dX4_refresh_38 : decode cX4_refresh 38 = .ok (.goto (-28), 3) := by decide +kernel
theorem dX4_refresh_41 : decode cX4_refresh 41 = .ok (.aload_n 0, 1) := by decide +kernel
theorem dX4_refresh_42 : decode cX4_refresh 42 = .ok (.getfield 18, 3) := by decide +kernel
theorem dX4_refresh_45 : decode cX4_refresh 45 = .ok (.iconst 0, 1) := by decide +kernel
theorem dX4_refresh_46 : decode cX4_refresh 46 = .ok (.getstatic 32, 3) := by decide +kernel
theorem dX4_refresh_49 : decode cX4_refresh 49 = .ok (.iconst 0, 1) := by decide +kernel
theorem dX4_refresh_50 : decode cX4_refresh 50 = .ok (.iaload, 1) := by decide +kernel
theorem dX4_refresh_51 : decode cX4_refresh 51 = .ok (.iastore, 1) := by decide +kernel
theorem dX4_refresh_52 : decode cX4_refresh 52 = .ok (.iconst 1, 1) := by decide +kernel
theorem dX4_refresh_53 : decode cX4_refresh 53 = .ok (.istore_n 1, 1) := by decide +kernel
theorem dX4_refresh_54 : decode cX4_refresh 54 = .ok (.iload_n 1, 1) := by decide +kernel
theorem dX4_refresh_55 : decode cX4_refresh 55 = .ok (.aload_n 0, 1) := by decide +kernel
set_option maxRecDepth 20000 in
theorem ggX4_refresh_X4_setCount : GoodIn wsX4_refresh wsX4_setCount := goodIn_r _ [9, 10, 11, 36, 37, 38, 39, 40, 41, 42, 43] (by decide +kernel) (by decide +kernel)
set_option maxRecDepth 20000 in
theorem gX4_refresh_X4_setCount : GoodIn wsX4_refresh (wsV RX4 35 RX4 yX4_setCount wsX4_setCount) := goodIn_app (goodIn_of _ (by decide +kernel)) ggX4_refresh_X4_setCount
theorem dX4_refresh_56 : decode cX4_refresh 56 = .ok (.invokevirtual 35, 3) := by decide +kernel
theorem dX4_refresh_59 : decode cX4_refresh 59 = .ok (.if_icmp .ge 14, 3) := by decide +kernel
theorem dX4_refresh_73 : decode cX4_refresh 73 = .ok (.aload_n 0, 1) := by decide +kernel
set_option maxRecDepth 20000 in
theorem ggX4_refresh_X4_takeOutLarger : GoodIn wsX4_refresh wsX4_takeOutLarger := goodIn_r _ [35, 10, 11, 4, 5, 6, 7, 8, 9, 36, 37, 38, 39, 40, 41, 42, 43] (by decide +kernel) (by decide +kernel)
set_option maxRecDepth 20000 in
theorem gX4_refresh_X4_takeOutLarger : GoodIn wsX4_refresh (wsV RX4 43 RX4 yX4_takeOutLarger wsX4_takeOutLarger) := goodIn_app (goodIn_of _ (by decide +kernel)) ggX4_refresh_X4_takeOutLarger
theorem dX4_refresh_74 : decode cX4_refresh 74 = .ok (.invokevirtual 43, 3) := by decide +kernel
theorem dX4_refresh_77 : decode cX4_refresh 77 = .ok (.aload_n 0, 1) := by decide +kernel
theorem dX4_refresh_78 : decode cX4_refresh 78 = .ok (.iconst 1, 1) := by decide +kernel
theorem dX4_refresh_79 : decode cX4_refresh 79 = .ok (.putfield 25, 3) := by decide +kernel
theorem dX4_refresh_82 : decode cX4_refresh 82 = .ok (.return_, 1) := by decide +kernel
theorem dX4_refresh_62 : decode cX4_refresh 62 = .ok (.aload_n 0, 1) := by decide +kernel
theorem dX4_refresh_63 : decode cX4_refresh 63 = .ok (.iload_n 1, 1) := by decide +kernel
set_option maxRecDepth 20000 in
theorem ggX4_refresh_X4_measure : GoodIn wsX4_refresh wsX4_measure := goodIn_r _ [15, 10, 16, 17, 2, 18, 19, 20, 21, 22, 3, 23, 24, 25, 4, 26, 27, 28, 29, 30, 31, 36, 37, 38, 39, 40, 41, 42, 43, 44, 45, 46, 47] (by decide +kernel) (by decide +kernel)
set_option maxRecDepth 20000 in
theorem gX4_refresh_X4_measure : GoodIn wsX4_refresh (wsV RX4 39 RX4 yX4_measure wsX4_measure) := goodIn_app (goodIn_of _ (by decide +kernel)) ggX4_refresh_X4_measure
theorem dX4_refresh_64 : decode cX4_refresh 64 = .ok (.invokevirtual 39, 3) := by decide +kernel
theorem dX4_refresh_67 : decode cX4_refresh 67 = .ok (.iinc 1 1, 3) := by decide +kernel
theorem dX4_refresh_70 : decode cX4_refresh 70 = .ok (.goto (-16), 3) := by decide +kernel
theorem dX4_refresh_7 : decode cX4_refresh 7 = .ok (.return_, 1) := by decide +kernel
def zLo (X : Nat → Nat → Int) (k t h : Nat) : Int := max (X (zr X 0 k + 1) h) (X 54 (4 * t + h))
def zHi (X : Nat → Nat → Int) (k t h : Nat) : Int := min (X (zr X 0 k + 2) h) (X 55 (4 * t + h))
theorem zWe.bd {X Y : Nat → Nat → Int} (h : zWe X Y) (hV : zV X) {u g : Nat} {lo hi : Int} : zBd Y u g lo hi ↔ zBd X u g lo hi := by
  have hn := hV.n (Or.inl rfl : zIsW 0)
  unfold zBd
  rw [h.n (Or.inl rfl : zIsW 0)]
  have key : ∀ v : Int, (∀ i : Nat, i < zN X 0 → u.testBit i = true → Y (zr Y 0 i + 1) g ≤ v ∧ v ≤ Y (zr Y 0 i + 2) g) ↔ (∀ i : Nat, i < zN X 0 → u.testBit i = true → X (zr X 0 i + 1) g ≤ v ∧ v ≤ X (zr X 0 i + 2) g) := by
    intro v
    have e : ∀ i : Nat, i < zN X 0 → (Y (zr Y 0 i + 1) g ≤ v ∧ v ≤ Y (zr Y 0 i + 2) g ↔ X (zr X 0 i + 1) g ≤ v ∧ v ≤ X (zr X 0 i + 2) g) := fun i hi => by
      have hc := h.cell hV (Or.inl rfl : zIsW 0) (show i < 8 by omega)
      rw [h.r (Or.inl rfl : zIsW 0), hc.2.1, hc.2.2]
    exact ⟨fun q i hi hb => (e i hi).mp (q i hi hb), fun q i hi hb => (e i hi).mpr (q i hi hb)⟩
  constructor
  · exact fun q => ⟨q.1, fun v h0 h1 => (q.2 v h0 h1).trans (key v)⟩
  · exact fun q => ⟨q.1, fun v h0 h1 => (q.2 v h0 h1).trans (key v).symm⟩

set_option maxHeartbeats 4000000 in
set_option maxRecDepth 100000 in
/-- setCount -/
theorem c_X4_setCount (l : Launch) (G : zG) (ad : Nat → Nat) (X : Nat → Nat → Int) (hV : zV X) : zR l G yX4_setCount wsX4_setCount { frames := 0, cells := 0, slots := 0, locals := 0 } (zpic G ad X) [.ref (ad 53)] (zq G ad X (fun w => w = ((2 ^ zN X 0 : Nat) : Int))) 0 0 := by
  refine zR_of (cc := cX4_setCount) (maxL := 1) (rt := (some .int)) (by decide) rfl (Nat.le_of_ble_eq_true rfl) ?_
  intro p e s m below meth c A ls hx hb hml hr hts hown hlocks hin0 hA hE hP hD hS hl
  have hl : lv_has ls 1 [(0, .ref (ad 53))] := hl
  have hown : s.vm.findClass RX4 = some m.cls := hown
  have hn := hV.n (Or.inl rfl : zIsW 0)
  have hw4 : ∀ w ∈ u_ws RX4 TX4 5, w ∈ wsX4_setCount := by decide +kernel
  have hf21 := hts (.fieldLink RX4 21 "Nettle$Survey" "wall" "LNettle$Wall;") (by decide +kernel)
  have hw6 : ∀ w ∈ u_ws RX6 TX6 3, w ∈ wsX4_setCount := by decide +kernel
  have hf46 := hts (.fieldLink RX4 46 "Nettle$Wall" "count" "I") (by decide +kernel)
  refine lv_iconst (v := zi 1) hx hb dX4_setCount_0 rfl ?_
  refine lv_aload_n hx hb dX4_setCount_1 rfl (lv_at hl 0 rfl) ?_
  refine va_get (D := G.1) (ci := 4) (v := .ref (ad 0)) (C := RX4) (T := TX4) (N := 5) hx hb hts hw4 hown hE.1 hP 53 p_53 rfl 0 (by decide) hf21 (fun _ h9 => h9) rfl dX4_setCount_2 ?_
  refine va_get (D := G.1) (ci := 6) (v := .int (zi (X 0 1))) (C := RX6) (T := TX6) (N := 3) hx hb hts hw6 hown hE.1 hP 0 (p_w (Or.inl rfl)) rfl 1 (by decide) hf46 (fun _ h9 => h9) rfl dX4_setCount_5 ?_
  refine zti (v := zi ((zN X 0 : Nat) : Int)) (congrArg zi hn.1) ?_
  refine lv_ishl hx hb dX4_setCount_8 (zti (v := zi ((2 ^ zN X 0 : Nat) : Int)) (zi_shl1 (by omega)) ?_)
  exact zend_i hx hb hr hlocks hP hD hS (Nat.le_of_ble_eq_true rfl) (Nat.le_of_ble_eq_true rfl) dX4_setCount_9 ⟨_, rfl, rfl, rfl⟩

set_option maxHeartbeats 4000000 in
set_option maxRecDepth 100000 in
/-- measure -/
theorem c_X4_measure (l : Launch) (G : zG) (ad : Nat → Nat) (X : Nat → Nat → Int) (u : Nat) (hV : zV X) (hu : 0 < u ∧ u < 2 ^ zN X 0) (hL : ∀ t : Nat, t < u → ∀ g : Nat, g < 4 → zBd X t g (X 54 (4 * t + g)) (X 55 (4 * t + g))) : zR l G yX4_measure wsX4_measure { frames := 1, cells := 0, slots := 0, locals := 22 } (zpic G ad X) [.ref (ad 53), .int (zi (u : Int))] (zv G ad (fun Y => (∀ c : Nat, c ≠ 54 → c ≠ 55 → c ≠ 56 → Y c = X c) ∧ (∀ t : Nat, t < u + 1 → ∀ g : Nat, g < 4 → zBd X t g (Y 54 (4 * t + g)) (Y 55 (4 * t + g))) ∧ (∀ t : Nat, t ≠ u → Y 56 t = X 56 t) ∧ Y 56 u = zm X (zPq 0 u))) 0 0 := by
  refine zR_of (cc := cX4_measure) (maxL := 9) (rt := none) (by decide) rfl (Nat.le_of_ble_eq_true rfl) ?_
  intro p e s m below meth c A ls hx hb hml hr hts hown hlocks hin0 hA hE hP hD hS hl
  have hl : lv_has ls 9 [(0, .ref (ad 53)), (1, .int (zi (u : Int)))] := hl
  have hown : s.vm.findClass RX4 = some m.cls := hown
  have hn := hV.n (Or.inl rfl : zIsW 0)
  have h256 := z2_256 hn.2
  have hw4 : ∀ w ∈ u_ws RX4 TX4 5, w ∈ wsX4_measure := by decide +kernel
  have hf21 := hts (.fieldLink RX4 21 "Nettle$Survey" "wall" "LNettle$Wall;") (by decide +kernel)
  have hw6 : ∀ w ∈ u_ws RX6 TX6 3, w ∈ wsX4_measure := by decide +kernel
  have hf56 := hts (.fieldLink RX4 56 "Nettle$Wall" "rows" "[LNettle$Rule;") (by decide +kernel)
  have hf18 := hts (.fieldLink RX4 18 "Nettle$Survey" "amounts" "[I") (by decide +kernel)
  have hw3 : ∀ w ∈ u_ws RX3 TX3 4, w ∈ wsX4_measure := by decide +kernel
  have hf60 := hts (.fieldLink RX4 60 "Nettle$Rule" "lows" "[I") (by decide +kernel)
  have hf9 := hts (.fieldLink RX4 9 "Nettle$Survey" "lows" "[I") (by decide +kernel)
  have hmamax := hts (.code Lib.Math.max.name Lib.Math.max.code 2 (some .int)) (by decide +kernel)
  have hml63 := hts (.methodLink RX4 63 Lib.Math.max.name) (by decide +kernel)
  have hstmax := hts (.static Lib.Math.max.name) (by decide +kernel)
  have hiniMath := hts (.initialized "java/lang/Math") (by decide +kernel)
  have hf69 := hts (.fieldLink RX4 69 "Nettle$Rule" "highs" "[I") (by decide +kernel)
  have hf15 := hts (.fieldLink RX4 15 "Nettle$Survey" "highs" "[I") (by decide +kernel)
  have hmamin := hts (.code Lib.Math.min.name Lib.Math.min.code 2 (some .int)) (by decide +kernel)
  have hml70 := hts (.methodLink RX4 70 Lib.Math.min.name) (by decide +kernel)
  have hstmin := hts (.static Lib.Math.min.name) (by decide +kernel)
  refine lv_aload_n hx hb dX4_measure_0 rfl (lv_at hl 0 rfl) ?_
  refine va_get (D := G.1) (ci := 4) (v := .ref (ad 0)) (C := RX4) (T := TX4) (N := 5) hx hb hts hw4 hown hE.1 hP 53 p_53 rfl 0 (by decide) hf21 (fun _ h9 => h9) rfl dX4_measure_1 ?_
  refine lv_iload_n hx hb dX4_measure_4 rfl (lv_at hl 1 rfl) ?_
  refine zcall (wr := []) (va_runV (As := [.int (zi (u : Int))]) (rest := []) ⟨hx, hb, hml, hown, hts⟩ (c_X6_firstOf l G ad X 0 u hV (Or.inl rfl) (by omega) s.heap.size) (cwV 1 hts gX4_measure_X6_firstOf rfl rfl rfl (by decide +kernel) ⟨Nat.le_of_ble_eq_true rfl, Nat.le_of_ble_eq_true rfl⟩) (zPreV (wr := []) (wc := zpic G ad X) (q0 := 0) (ci := 6) (q := (RX6, TX6, 3)) hP hD hE hS hA rfl (p_w (Or.inl rfl))) rfl rfl hl.1 rfl (lv_room (Nat.le_of_ble_eq_true rfl)) dX4_measure_5 ⟨Nat.le_of_ble_eq_true rfl, Nat.le_of_ble_eq_true rfl⟩) hP hD hS hA (fun _ _ H locs hf hP hD hS => ?_)
  obtain ⟨v1, rfl, hv1, rfl⟩ := hf
  have hP : va_P G.1 vwCl (zpic G ad X) H := hP
  have hD : va_D A (zpic G ad X) := hD
  refine W.eq (g2 := F0 m 8 ls [.int (zi v1)]) rfl ?_
  refine lv_istore_n (lv' := [(2, .int (zi v1)), (0, .ref (ad 53)), (1, .int (zi (u : Int)))]) hx hb dX4_measure_8 rfl hl (by decide) rfl (fun ls hl => ?_)
  obtain ⟨k, rfl, hk⟩ : ∃ k : Nat, v1 = (k : Int) ∧ zFi (zN X 0) u k := by rcases hv1.2.2 with h | h; exact h; exact absurd (zNo_zero hu.2 h.2) (by omega)
  have hk1 := hk.1
  have hd0 : 0 < 2 ^ k := Nat.pow_pos (by omega)
  have hds := zDel_sub (u := u) (q := k) (by omega) (by omega) hk.2.1
  obtain ⟨t, ht⟩ : ∃ t : Nat, t = zDel u k := ⟨_, rfl⟩
  rw [← ht] at hds
  have hlt := zr_lt hV (Or.inl rfl : zIsW 0) (show k < 8 by omega)
  have hL2 : ∀ h : Nat, h < 4 → zBd X (zDel u k) h (X 54 (4 * t + h)) (X 55 (4 * t + h)) := fun h h2 => by rw [← ht]; exact hL t (by omega) h h2
  refine lv_iload_n hx hb dX4_measure_9 rfl (lv_at hl 0 rfl) ?_
  refine z0_ge (tgt := 14) hx hb dX4_measure_10 (by decide) (by omega) (fun h10 => ?_) (fun h9 => by exfalso; omega)
  refine lv_aload_n hx hb dX4_measure_14 rfl (lv_at hl 1 rfl) ?_
  refine va_get (D := G.1) (ci := 4) (v := .ref (ad 0)) (C := RX4) (T := TX4) (N := 5) hx hb hts hw4 hown hE.1 hP 53 p_53 rfl 0 (by decide) hf21 (fun _ h9 => h9) rfl dX4_measure_15 ?_
  refine va_get (D := G.1) (ci := 6) (v := .ref (ad 1)) (C := RX6) (T := TX6) (N := 3) hx hb hts hw6 hown hE.1 hP 0 (p_w (Or.inl rfl)) rfl 0 (by decide) hf56 (fun _ h9 => h9) rfl dX4_measure_18 ?_
  refine lv_iload_n hx hb dX4_measure_21 rfl (lv_at hl 0 rfl) ?_
  refine zqld hx hb hE hP (Or.inl rfl) k rfl (by omega) dX4_measure_22 ?_
  have hR1 : zIsR (zr X 0 k) := hV.isR (Or.inl rfl) (by omega)
  refine lv_astore_n (lv' := [(3, .ref (ad (zr X 0 k))), (2, .int (zi (k : Int))), (0, .ref (ad 53)), (1, .int (zi (u : Int)))]) hx hb dX4_measure_23 rfl hl (by decide) rfl (fun ls hl => ?_)
  refine lv_iload_n hx hb dX4_measure_24 rfl (lv_at hl 3 rfl) ?_
  refine lv_iconst (v := zi 1) hx hb dX4_measure_25 rfl ?_
  refine lv_iload_n hx hb dX4_measure_26 rfl (lv_at hl 1 rfl) ?_
  refine lv_ishl hx hb dX4_measure_27 (zti (v := zi ((2 ^ k : Nat) : Int)) (zi_shl1 (by omega)) ?_)
  refine lv_isub hx hb dX4_measure_28 (zti (v := zi ((u : Int) - ((2 ^ k : Nat) : Int))) (zi_sub _ _) ?_)
  refine zti (v := zi (t : Int)) (congrArg zi (by omega)) ?_
  refine lv_istore (lv' := [(4, .int (zi (t : Int))), (3, .ref (ad (zr X 0 k))), (2, .int (zi (k : Int))), (0, .ref (ad 53)), (1, .int (zi (u : Int)))]) hx hb dX4_measure_29 hl (by decide) rfl (fun ls hl => ?_)
  refine lv_iconst (v := zi 1) hx hb dX4_measure_31 rfl ?_
  refine lv_istore (lv' := [(5, .int (zi 1)), (4, .int (zi (t : Int))), (3, .ref (ad (zr X 0 k))), (2, .int (zi (k : Int))), (0, .ref (ad 53)), (1, .int (zi (u : Int)))]) hx hb dX4_measure_32 hl (by decide) rfl (fun ls hl => ?_)
  refine lv_iconst (v := zi 0) hx hb dX4_measure_34 rfl ?_
  refine lv_istore (lv' := [(6, .int (zi 0)), (5, .int (zi 1)), (4, .int (zi (t : Int))), (3, .ref (ad (zr X 0 k))), (2, .int (zi (k : Int))), (0, .ref (ad 53)), (1, .int (zi (u : Int)))]) hx hb dX4_measure_35 hl (by decide) rfl (fun ls hl => ?_)
  refine zloop3 (fun (g : Nat) (Y : Nat → Nat → Int) (am : Int) => 4 - g) (fun (g : Nat) (Y : Nat → Nat → Int) (am : Int) (H : Heap) (locs : List Loc) (ls : Array Slot) => va_P G.1 vwCl (zpic G ad Y) H ∧ va_D A (zpic G ad Y) ∧ va_S A s.heap H locs ∧ lv_has ls 9 [(6, .int (zi (g : Int))), (5, .int (zi am)), (4, .int (zi (t : Int))), (3, .ref (ad (zr X 0 k))), (1, .int (zi (u : Int))), (0, .ref (ad 53))] ∧ (g ≤ 4) ∧ (∀ c : Nat, c ≠ 54 → c ≠ 55 → Y c = X c) ∧ (∀ t2 : Nat, t2 < u → ∀ h : Nat, h < 4 → Y 54 (4 * t2 + h) = X 54 (4 * t2 + h) ∧ Y 55 (4 * t2 + h) = X 55 (4 * t2 + h)) ∧ (∀ h : Nat, h < g → Y 54 (4 * u + h) = zLo X k t h ∧ Y 55 (4 * u + h) = zHi X k t h) ∧ (am = zBoxA (fun h => zHi X k t h - zLo X k t h + 1) g)) ?_ 0 X 1 ⟨hP, hD, hS, lv_sub hl [0, 1, 2, 3, 6, 5] rfl, (by omega), (fun c h1 h2 => rfl), (fun t2 h1 h h2 => ⟨rfl, rfl⟩), (fun h h1 => by omega), rfl⟩
  intro g Y am ih H locs ls ⟨hP, hD, hS, hl, hg, hyc, hy1, hy2, ham⟩
  refine lv_iload hx hb dX4_measure_37 (lv_at hl 0 rfl) ?_
  refine lv_iconst (v := zi 4) hx hb dX4_measure_39 rfl ?_
  refine zc_ge (tgt := 139) hx hb dX4_measure_40 (by decide) (by omega) (by decide) (fun h40 => ?_) (fun h40 => ?_)
  · refine lv_aload_n hx hb dX4_measure_139 rfl (lv_at hl 5 rfl) ?_
    refine va_get (D := G.1) (ci := 4) (v := .ref (ad 56)) (C := RX4) (T := TX4) (N := 5) hx hb hts hw4 hown hE.1 hP 53 p_53 rfl 3 (by decide) hf18 (fun _ h9 => h9) rfl dX4_measure_140 ?_
    refine lv_iload_n hx hb dX4_measure_143 rfl (lv_at hl 4 rfl) ?_
    refine lv_iload hx hb dX4_measure_144 (lv_at hl 1 rfl) ?_
    refine zist hx hb hE hP hD hS 56 256 (fun _ => rfl) (by decide) u rfl (by omega) (by decide) dX4_measure_146 (fun H locs hP hD hS => ?_)
    exact zend_v hx hb hr hlocks hP hD hS (Nat.le_of_ble_eq_true rfl) (Nat.le_of_ble_eq_true rfl) dX4_measure_147 ⟨_, rfl, (by have hg4 : g = 4 := (by omega); rw [hg4] at hy2 ham; exact ⟨fun c h1 h2 h3 => (by rw [zw_cell h3]; exact hyc c h1 h2), fun t2 h1 h h2 => (by rw [zw_cell (show (54 : Nat) ≠ 56 by decide), zw_cell (show (55 : Nat) ≠ 56 by decide)]; by_cases e9 : t2 = u; (rw [e9, (hy2 h h2).1, (hy2 h h2).2]; exact zBd_step hV (by omega) hk h2 (hL2 h h2)); (rw [(hy1 t2 (by omega) h h2).1, (hy1 t2 (by omega) h h2).2]; exact hL t2 (by omega) h h2)), fun t2 h1 => (by rw [zw_ne h1, hyc 56 (by omega) (by omega)]), (by rw [zw_at, ham]; exact (zPq_box hV hu.2 (zLo X k t) (zHi X k t) (fun h h2 => zBd_step hV (by omega) hk h2 (hL2 h h2))).symm)⟩), rfl⟩
  · have hYV : zV Y := hV.eq (fun c h9 => hyc c (by omega) (by omega))
    have hrf := hYV.rf hR1 (show g < 4 by omega)
    have hb4 := (hL t (by omega) g (by omega)).1
    have e54 : Y 54 (4 * t + g) = X 54 (4 * t + g) := (hy1 t (by omega) g (by omega)).1
    have e55 : Y 55 (4 * t + g) = X 55 (4 * t + g) := (hy1 t (by omega) g (by omega)).2
    have er1 : Y (zr X 0 k + 1) = X (zr X 0 k + 1) := hyc _ (by omega) (by omega)
    have er2 : Y (zr X 0 k + 2) = X (zr X 0 k + 2) := hyc _ (by omega) (by omega)
    have elo : max (Y (zr X 0 k + 1) g) (Y 54 (4 * t + g)) = zLo X k t g := by unfold zLo; rw [er1, e54]
    have ehi : min (Y (zr X 0 k + 2) g) (Y 55 (4 * t + g)) = zHi X k t g := by unfold zHi; rw [er2, e55]
    have hsf := zS_le g
    refine lv_aload_n hx hb dX4_measure_43 rfl (lv_at hl 3 rfl) ?_
    refine va_get (D := G.1) (ci := 3) (v := .ref (ad ((zr X 0 k) + 1))) (C := RX3) (T := TX3) (N := 4) hx hb hts hw3 hown hE.1 hP (zr X 0 k) (p_r hR1) rfl 2 (by decide) hf60 (fun _ h9 => h9) rfl dX4_measure_44 ?_
    refine lv_iload hx hb dX4_measure_47 (lv_at hl 0 rfl) ?_
    refine zild hx hb hE hP ((zr X 0 k) + 1) 4 (a_l hR1) (by have := hR1.lt; omega) g rfl (by omega) (by decide) dX4_measure_49 ?_
    refine lv_aload_n hx hb dX4_measure_50 rfl (lv_at hl 5 rfl) ?_
    refine va_get (D := G.1) (ci := 4) (v := .ref (ad 54)) (C := RX4) (T := TX4) (N := 5) hx hb hts hw4 hown hE.1 hP 53 p_53 rfl 1 (by decide) hf9 (fun _ h9 => h9) rfl dX4_measure_51 ?_
    refine lv_iload hx hb dX4_measure_54 (lv_at hl 2 rfl) ?_
    refine lv_iconst (v := zi 4) hx hb dX4_measure_56 rfl ?_
    refine lv_imul hx hb dX4_measure_57 (zti (v := zi ((t : Int) * 4)) (zi_mul _ _) ?_)
    refine lv_iload hx hb dX4_measure_58 (lv_at hl 0 rfl) ?_
    refine lv_iadd hx hb dX4_measure_60 (zti (v := zi (((t : Int) * 4) + (g : Int))) (zi_add _ _) ?_)
    refine zild hx hb hE hP 54 1024 (fun _ => rfl) (by decide) (4 * t + g) (by omega) (by omega) (by decide) dX4_measure_61 ?_
    refine va_mmax hx hb (hml.trans hl.1.symm) hown hml63 hstmax hiniMath hmamax (Nat.le_of_ble_eq_true rfl) (Nat.le_of_ble_eq_true rfl) (Nat.le_of_ble_eq_true rfl) (Nat.le_of_ble_eq_true rfl) dX4_measure_62 ?_
    refine zti (v := zi (max (Y ((zr X 0 k) + 1) g) (Y 54 (4 * t + g)))) (zi_max (by omega) (by omega)) ?_
    refine lv_istore (lv' := [(7, .int (zi (max (Y ((zr X 0 k) + 1) g) (Y 54 (4 * t + g))))), (6, .int (zi (g : Int))), (5, .int (zi am)), (4, .int (zi (t : Int))), (3, .ref (ad (zr X 0 k))), (1, .int (zi (u : Int))), (0, .ref (ad 53))]) hx hb dX4_measure_65 hl (by decide) rfl (fun ls hl => ?_)
    refine lv_aload_n hx hb dX4_measure_67 rfl (lv_at hl 4 rfl) ?_
    refine va_get (D := G.1) (ci := 3) (v := .ref (ad ((zr X 0 k) + 2))) (C := RX3) (T := TX3) (N := 4) hx hb hts hw3 hown hE.1 hP (zr X 0 k) (p_r hR1) rfl 3 (by decide) hf69 (fun _ h9 => h9) rfl dX4_measure_68 ?_
    refine lv_iload hx hb dX4_measure_71 (lv_at hl 1 rfl) ?_
    refine zild hx hb hE hP ((zr X 0 k) + 2) 4 (a_h hR1) (by have := hR1.lt; omega) g rfl (by omega) (by decide) dX4_measure_73 ?_
    refine lv_aload_n hx hb dX4_measure_74 rfl (lv_at hl 6 rfl) ?_
    refine va_get (D := G.1) (ci := 4) (v := .ref (ad 55)) (C := RX4) (T := TX4) (N := 5) hx hb hts hw4 hown hE.1 hP 53 p_53 rfl 2 (by decide) hf15 (fun _ h9 => h9) rfl dX4_measure_75 ?_
    refine lv_iload hx hb dX4_measure_78 (lv_at hl 3 rfl) ?_
    refine lv_iconst (v := zi 4) hx hb dX4_measure_80 rfl ?_
    refine lv_imul hx hb dX4_measure_81 (zti (v := zi ((t : Int) * 4)) (zi_mul _ _) ?_)
    refine lv_iload hx hb dX4_measure_82 (lv_at hl 1 rfl) ?_
    refine lv_iadd hx hb dX4_measure_84 (zti (v := zi (((t : Int) * 4) + (g : Int))) (zi_add _ _) ?_)
    refine zild hx hb hE hP 55 1024 (fun _ => rfl) (by decide) (4 * t + g) (by omega) (by omega) (by decide) dX4_measure_85 ?_
    refine va_mmin hx hb (hml.trans hl.1.symm) hown hml70 hstmin hiniMath hmamin (Nat.le_of_ble_eq_true rfl) (Nat.le_of_ble_eq_true rfl) (Nat.le_of_ble_eq_true rfl) (Nat.le_of_ble_eq_true rfl) dX4_measure_86 ?_
    refine zti (v := zi (min (Y ((zr X 0 k) + 2) g) (Y 55 (4 * t + g)))) (zi_min (by omega) (by omega)) ?_
    refine lv_istore (lv' := [(8, .int (zi (min (Y ((zr X 0 k) + 2) g) (Y 55 (4 * t + g))))), (7, .int (zi (max (Y ((zr X 0 k) + 1) g) (Y 54 (4 * t + g))))), (6, .int (zi (g : Int))), (5, .int (zi am)), (4, .int (zi (t : Int))), (3, .ref (ad (zr X 0 k))), (1, .int (zi (u : Int))), (0, .ref (ad 53))]) hx hb dX4_measure_89 hl (by decide) rfl (fun ls hl => ?_)
    refine lv_aload_n hx hb dX4_measure_91 rfl (lv_at hl 7 rfl) ?_
    refine va_get (D := G.1) (ci := 4) (v := .ref (ad 54)) (C := RX4) (T := TX4) (N := 5) hx hb hts hw4 hown hE.1 hP 53 p_53 rfl 1 (by decide) hf9 (fun _ h9 => h9) rfl dX4_measure_92 ?_
    refine lv_iload_n hx hb dX4_measure_95 rfl (lv_at hl 6 rfl) ?_
    refine lv_iconst (v := zi 4) hx hb dX4_measure_96 rfl ?_
    refine lv_imul hx hb dX4_measure_97 (zti (v := zi ((u : Int) * 4)) (zi_mul _ _) ?_)
    refine lv_iload hx hb dX4_measure_98 (lv_at hl 2 rfl) ?_
    refine lv_iadd hx hb dX4_measure_100 (zti (v := zi (((u : Int) * 4) + (g : Int))) (zi_add _ _) ?_)
    refine lv_iload hx hb dX4_measure_101 (lv_at hl 1 rfl) ?_
    refine zist hx hb hE hP hD hS 54 1024 (fun _ => rfl) (by decide) (4 * u + g) (by omega) (by omega) (by decide) dX4_measure_103 (fun H locs hP hD hS => ?_)
    refine lv_aload_n hx hb dX4_measure_104 rfl (lv_at hl 7 rfl) ?_
    refine va_get (D := G.1) (ci := 4) (v := .ref (ad 55)) (C := RX4) (T := TX4) (N := 5) hx hb hts hw4 hown hE.1 hP 53 p_53 rfl 2 (by decide) hf15 (fun _ h9 => h9) rfl dX4_measure_105 ?_
    refine lv_iload_n hx hb dX4_measure_108 rfl (lv_at hl 6 rfl) ?_
    refine lv_iconst (v := zi 4) hx hb dX4_measure_109 rfl ?_
    refine lv_imul hx hb dX4_measure_110 (zti (v := zi ((u : Int) * 4)) (zi_mul _ _) ?_)
    refine lv_iload hx hb dX4_measure_111 (lv_at hl 2 rfl) ?_
    refine lv_iadd hx hb dX4_measure_113 (zti (v := zi (((u : Int) * 4) + (g : Int))) (zi_add _ _) ?_)
    refine lv_iload hx hb dX4_measure_114 (lv_at hl 0 rfl) ?_
    refine zist hx hb hE hP hD hS 55 1024 (fun _ => rfl) (by decide) (4 * u + g) (by omega) (by omega) (by decide) dX4_measure_116 (fun H locs hP hD hS => ?_)
    refine lv_iload hx hb dX4_measure_117 (lv_at hl 3 rfl) ?_
    refine lv_iconst (v := zi 0) hx hb dX4_measure_119 rfl ?_
    refine lv_iload hx hb dX4_measure_120 (lv_at hl 0 rfl) ?_
    refine lv_iload hx hb dX4_measure_122 (lv_at hl 1 rfl) ?_
    refine lv_isub hx hb dX4_measure_124 (zti (v := zi ((min (Y ((zr X 0 k) + 2) g) (Y 55 (4 * t + g))) - (max (Y ((zr X 0 k) + 1) g) (Y 54 (4 * t + g))))) (zi_sub _ _) ?_)
    refine lv_iconst (v := zi 1) hx hb dX4_measure_125 rfl ?_
    refine lv_iadd hx hb dX4_measure_126 (zti (v := zi (((min (Y ((zr X 0 k) + 2) g) (Y 55 (4 * t + g))) - (max (Y ((zr X 0 k) + 1) g) (Y 54 (4 * t + g)))) + 1)) (zi_add _ _) ?_)
    refine va_mmax hx hb (hml.trans hl.1.symm) hown hml63 hstmax hiniMath hmamax (Nat.le_of_ble_eq_true rfl) (Nat.le_of_ble_eq_true rfl) (Nat.le_of_ble_eq_true rfl) (Nat.le_of_ble_eq_true rfl) dX4_measure_127 ?_
    refine zti (v := zi (max 0 (((min (Y ((zr X 0 k) + 2) g) (Y 55 (4 * t + g))) - (max (Y ((zr X 0 k) + 1) g) (Y 54 (4 * t + g)))) + 1))) (zi_max (by decide) (by omega)) ?_
    refine lv_imul hx hb dX4_measure_130 (zti (v := zi (am * (max 0 (((min (Y ((zr X 0 k) + 2) g) (Y 55 (4 * t + g))) - (max (Y ((zr X 0 k) + 1) g) (Y 54 (4 * t + g)))) + 1)))) (zi_mul _ _) ?_)
    refine lv_istore (lv' := [(5, .int (zi (am * (max 0 (((min (Y ((zr X 0 k) + 2) g) (Y 55 (4 * t + g))) - (max (Y ((zr X 0 k) + 1) g) (Y 54 (4 * t + g)))) + 1))))), (8, .int (zi (min (Y ((zr X 0 k) + 2) g) (Y 55 (4 * t + g))))), (7, .int (zi (max (Y ((zr X 0 k) + 1) g) (Y 54 (4 * t + g))))), (6, .int (zi (g : Int))), (4, .int (zi (t : Int))), (3, .ref (ad (zr X 0 k))), (1, .int (zi (u : Int))), (0, .ref (ad 53))]) hx hb dX4_measure_131 hl (by decide) rfl (fun ls hl => ?_)
    refine lv_iinc (v := zi ((g : Int) + 1)) (lv' := [(6, .int (zi ((g : Int) + 1))), (5, .int (zi (am * (max 0 (((min (Y ((zr X 0 k) + 2) g) (Y 55 (4 * t + g))) - (max (Y ((zr X 0 k) + 1) g) (Y 54 (4 * t + g)))) + 1))))), (8, .int (zi (min (Y ((zr X 0 k) + 2) g) (Y 55 (4 * t + g))))), (7, .int (zi (max (Y ((zr X 0 k) + 1) g) (Y 54 (4 * t + g))))), (4, .int (zi (t : Int))), (3, .ref (ad (zr X 0 k))), (1, .int (zi (u : Int))), (0, .ref (ad 53))]) hx hb dX4_measure_133 hl (k := 3) rfl (zi_add _ _) (by decide) rfl (fun ls hl => ?_)
    refine lv_goto (tgt := 37) hx hb dX4_measure_136 (by decide) ?_
    exact ih (g + 1) (zw (zw Y 54 (4 * u + g) (max (Y ((zr X 0 k) + 1) g) (Y 54 (4 * t + g)))) 55 (4 * u + g) (min (Y ((zr X 0 k) + 2) g) (Y 55 (4 * t + g)))) (am * (max 0 (((min (Y ((zr X 0 k) + 2) g) (Y 55 (4 * t + g))) - (max (Y ((zr X 0 k) + 1) g) (Y 54 (4 * t + g)))) + 1))) (by omega) H locs ls ⟨hP, hD, hS, lv_sub hl [0, 1, 4, 5, 6, 7] rfl, (by omega), (fun c h1 h2 => by rw [zw_cell h2, zw_cell h1]; exact hyc c h1 h2), (fun t2 h1 h h2 => by have hne : 4 * t2 + h ≠ 4 * u + g := (by omega); rw [zw_cell (show (54 : Nat) ≠ 55 by decide), zw_ne hne, zw_ne hne, zw_cell (show (55 : Nat) ≠ 54 by decide)]; exact hy1 t2 h1 h h2), (fun h h1 => by by_cases e9 : h = g; (rw [e9]; exact ⟨by rw [zw_cell (show (54 : Nat) ≠ 55 by decide), zw_at]; exact elo, by rw [zw_at]; exact ehi⟩); (have hne : 4 * u + h ≠ 4 * u + g := (by omega); rw [zw_cell (show (54 : Nat) ≠ 55 by decide), zw_ne hne, zw_ne hne, zw_cell (show (55 : Nat) ≠ 54 by decide)]; exact hy2 h (by omega))), (by rw [ham, elo, ehi]; rfl)⟩

set_option maxHeartbeats 4000000 in
set_option maxRecDepth 100000 in
/-- takeOutLarger -/
theorem c_X4_takeOutLarger (l : Launch) (G : zG) (ad : Nat → Nat) (X : Nat → Nat → Int) (hV : zV X) (hTA : ∀ u : Nat, u < 2 ^ zN X 0 → X 56 u = zm X (zPq 0 u)) : zR l G yX4_takeOutLarger wsX4_takeOutLarger { frames := 1, cells := 0, slots := 0, locals := 20 } (zpic G ad X) [.ref (ad 53)] (zv G ad (fun Y => (∀ c : Nat, c ≠ 56 → Y c = X c) ∧ zSv X Y)) 0 0 := by
  refine zR_of (cc := cX4_takeOutLarger) (maxL := 4) (rt := none) (by decide) rfl (Nat.le_of_ble_eq_true rfl) ?_
  intro p e s m below meth c A ls hx hb hml hr hts hown hlocks hin0 hA hE hP hD hS hl
  have hl : lv_has ls 4 [(0, .ref (ad 53))] := hl
  have hown : s.vm.findClass RX4 = some m.cls := hown
  have hn := hV.n (Or.inl rfl : zIsW 0)
  have h256 := z2_256 hn.2
  have hw4 : ∀ w ∈ u_ws RX4 TX4 5, w ∈ wsX4_takeOutLarger := by decide +kernel
  have hf21 := hts (.fieldLink RX4 21 "Nettle$Survey" "wall" "LNettle$Wall;") (by decide +kernel)
  have hw6 : ∀ w ∈ u_ws RX6 TX6 3, w ∈ wsX4_takeOutLarger := by decide +kernel
  have hf46 := hts (.fieldLink RX4 46 "Nettle$Wall" "count" "I") (by decide +kernel)
  have hf18 := hts (.fieldLink RX4 18 "Nettle$Survey" "amounts" "[I") (by decide +kernel)
  refine lv_iconst (v := zi 0) hx hb dX4_takeOutLarger_0 rfl ?_
  refine lv_istore_n (lv' := [(1, .int (zi 0)), (0, .ref (ad 53))]) hx hb dX4_takeOutLarger_1 rfl hl (by decide) rfl (fun ls hl => ?_)
  refine zloop2 (fun (k : Nat) (Y : Nat → Nat → Int) => 8 - k) (fun (k : Nat) (Y : Nat → Nat → Int) (H : Heap) (locs : List Loc) (ls : Array Slot) => va_P G.1 vwCl (zpic G ad Y) H ∧ va_D A (zpic G ad Y) ∧ va_S A s.heap H locs ∧ lv_has ls 4 [(1, .int (zi (k : Int))), (0, .ref (ad 53))] ∧ (k ≤ zN X 0) ∧ (∀ c : Nat, c ≠ 56 → Y c = X c) ∧ (∀ u : Nat, u < 2 ^ zN X 0 → Y 56 u = zm X (zPq k u))) ?_ 0 X ⟨hP, hD, hS, lv_sub hl [0, 1] rfl, (by omega), (fun c h1 => rfl), hTA⟩
  intro k Y ih H locs ls ⟨hP, hD, hS, hl, hk, hy, hw⟩
  have hYV : zV Y := hV.eq (fun c h9 => hy c (by omega))
  have hY0 : Y 0 = X 0 := hy 0 (by omega)
  have hYn : zN Y 0 = zN X 0 := zN_eq hY0
  have hY1 : Y 0 1 = (zN X 0 : Int) := by rw [hY0]; exact hn.1
  refine lv_iload_n hx hb dX4_takeOutLarger_2 rfl (lv_at hl 0 rfl) ?_
  refine lv_aload_n hx hb dX4_takeOutLarger_3 rfl (lv_at hl 1 rfl) ?_
  refine va_get (D := G.1) (ci := 4) (v := .ref (ad 0)) (C := RX4) (T := TX4) (N := 5) hx hb hts hw4 hown hE.1 hP 53 p_53 rfl 0 (by decide) hf21 (fun _ h9 => h9) rfl dX4_takeOutLarger_4 ?_
  refine va_get (D := G.1) (ci := 6) (v := .int (zi (Y 0 1))) (C := RX6) (T := TX6) (N := 3) hx hb hts hw6 hown hE.1 hP 0 (p_w (Or.inl rfl)) rfl 1 (by decide) hf46 (fun _ h9 => h9) rfl dX4_takeOutLarger_7 ?_
  refine zc_ge (tgt := 62) hx hb dX4_takeOutLarger_10 (by decide) (by omega) (by omega) (fun h10 => ?_) (fun h10 => ?_)
  · exact zend_v hx hb hr hlocks hP hD hS (Nat.le_of_ble_eq_true rfl) (Nat.le_of_ble_eq_true rfl) dX4_takeOutLarger_62 ⟨_, rfl, ⟨hy, fun u hu => by have hkn : k = zN X 0 := (by omega); rw [hw u hu, hkn]; exact zPq_n hu⟩, rfl⟩
  · refine lv_iconst (v := zi 1) hx hb dX4_takeOutLarger_13 rfl ?_
    refine lv_iload_n hx hb dX4_takeOutLarger_14 rfl (lv_at hl 0 rfl) ?_
    refine lv_ishl hx hb dX4_takeOutLarger_15 (zti (v := zi ((2 ^ k : Nat) : Int)) (zi_shl1 (by omega)) ?_)
    refine lv_istore_n (lv' := [(2, .int (zi ((2 ^ k : Nat) : Int))), (1, .int (zi (k : Int))), (0, .ref (ad 53))]) hx hb dX4_takeOutLarger_16 rfl hl (by decide) rfl (fun ls hl => ?_)
    refine lv_iconst (v := zi 0) hx hb dX4_takeOutLarger_17 rfl ?_
    refine lv_istore_n (lv' := [(3, .int (zi 0)), (2, .int (zi ((2 ^ k : Nat) : Int))), (1, .int (zi (k : Int))), (0, .ref (ad 53))]) hx hb dX4_takeOutLarger_18 rfl hl (by decide) rfl (fun ls hl => ?_)
    refine zloop2 (fun (t : Nat) (Z : Nat → Nat → Int) => 256 - t) (fun (t : Nat) (Z : Nat → Nat → Int) (H : Heap) (locs : List Loc) (ls : Array Slot) => va_P G.1 vwCl (zpic G ad Z) H ∧ va_D A (zpic G ad Z) ∧ va_S A s.heap H locs ∧ lv_has ls 4 [(3, .int (zi (t : Int))), (2, .int (zi ((2 ^ k : Nat) : Int))), (1, .int (zi (k : Int))), (0, .ref (ad 53))] ∧ (t ≤ 2 ^ zN X 0) ∧ (∀ c : Nat, c ≠ 56 → Z c = X c) ∧ (∀ u : Nat, u < 2 ^ zN X 0 → Z 56 u = if u < t then zm X (zPq (k + 1) u) else zm X (zPq k u))) ?_ 0 Y ⟨hP, hD, hS, lv_sub hl [0, 1, 2, 3] rfl, (Nat.zero_le _), hy, (fun u hu => by rw [if_neg (by omega)]; exact hw u hu)⟩
    intro t Z ih19 H locs ls ⟨hP, hD, hS, hl, ht, hz, hv⟩
    have hZV : zV Z := hV.eq (fun c h9 => hz c (by omega))
    have hZ0 : Z 0 = X 0 := hz 0 (by omega)
    have hZn : zN Z 0 = zN X 0 := zN_eq hZ0
    have hZ1 : Z 0 1 = (zN X 0 : Int) := by rw [hZ0]; exact hn.1
    refine lv_iload_n hx hb dX4_takeOutLarger_19 rfl (lv_at hl 0 rfl) ?_
    refine lv_aload_n hx hb dX4_takeOutLarger_20 rfl (lv_at hl 3 rfl) ?_
    refine zcall (wr := []) (va_runV (As := []) (rest := [.int (zi (t : Int))]) ⟨hx, hb, hml, hown, hts⟩ (c_X4_setCount l G ad Z hZV H.size) (cwV 0 hts gX4_takeOutLarger_X4_setCount rfl rfl rfl (by decide +kernel) ⟨Nat.le_of_ble_eq_true rfl, Nat.le_of_ble_eq_true rfl⟩) (zPreV (wr := []) (wc := zpic G ad Z) (q0 := 53) (ci := 4) (q := (RX4, TX4, 5)) hP hD hE hS hA rfl p_53) rfl rfl hl.1 rfl (lv_room (Nat.le_of_ble_eq_true rfl)) dX4_takeOutLarger_21 ⟨Nat.le_of_ble_eq_true rfl, Nat.le_of_ble_eq_true rfl⟩) hP hD hS hA (fun _ _ H locs hf hP hD hS => ?_)
    obtain ⟨v1, rfl, hv1, rfl⟩ := hf
    have hP : va_P G.1 vwCl (zpic G ad Z) H := hP
    have hD : va_D A (zpic G ad Z) := hD
    refine W.eq (g2 := F0 m 24 ls [.int (zi v1), .int (zi (t : Int))]) rfl ?_
    have hv1n : v1 = ((2 ^ zN X 0 : Nat) : Int) := by rw [hv1, hZn]
    refine zc_ge (tgt := 56) hx hb dX4_takeOutLarger_24 (by decide) (by omega) (by omega) (fun h24 => ?_) (fun h24 => ?_)
    · refine lv_iinc (v := zi ((k : Int) + 1)) (lv' := [(1, .int (zi ((k : Int) + 1))), (3, .int (zi (t : Int))), (2, .int (zi ((2 ^ k : Nat) : Int))), (0, .ref (ad 53))]) hx hb dX4_takeOutLarger_56 hl (k := 2) rfl (zi_add _ _) (by decide) rfl (fun ls hl => ?_)
      refine lv_goto (tgt := 2) hx hb dX4_takeOutLarger_59 (by decide) ?_
      exact ih (k + 1) Z (by omega) H locs ls ⟨hP, hD, hS, lv_sub hl [0, 3] rfl, (by omega), hz, (fun u hu => by rw [hv u hu, if_pos (by omega)])⟩
    · have hand : t &&& 2 ^ k ≤ t := Nat.and_le_left
      refine lv_iload_n hx hb dX4_takeOutLarger_27 rfl (lv_at hl 0 rfl) ?_
      refine lv_iload_n hx hb dX4_takeOutLarger_28 rfl (lv_at hl 1 rfl) ?_
      refine lv_iand hx hb dX4_takeOutLarger_29 (zti (v := zi ((t &&& 2 ^ k : Nat) : Int)) (zi_and _ _) ?_)
      refine z0_ne (tgt := 50) hx hb dX4_takeOutLarger_30 (by decide) (by omega) (fun h30 => ?_) (fun h30 => ?_)
      · have hbt : t.testBit k = true := by cases hb9 : t.testBit k; (exact absurd (zand_two.mpr hb9) (by omega)); rfl
        refine lv_iinc (v := zi ((t : Int) + 1)) (lv' := [(3, .int (zi ((t : Int) + 1))), (2, .int (zi ((2 ^ k : Nat) : Int))), (1, .int (zi (k : Int))), (0, .ref (ad 53))]) hx hb dX4_takeOutLarger_50 hl (k := 0) rfl (zi_add _ _) (by decide) rfl (fun ls hl => ?_)
        refine lv_goto (tgt := 19) hx hb dX4_takeOutLarger_53 (by decide) ?_
        exact ih19 (t + 1) Z (by omega) H locs ls ⟨hP, hD, hS, lv_sub hl [0, 1, 2, 3] rfl, (by omega), hz, (fun u hu => by rw [hv u hu]; by_cases e9 : u = t; (rw [e9, if_neg (by omega), if_pos (by omega)]; exact (zm_congr (fun m _ => zPq_yes hbt)).symm); (by_cases e8 : u < t; (rw [if_pos e8, if_pos (by omega)]); (rw [if_neg e8, if_neg (by omega)])))⟩
      · have hbt : t.testBit k = false := zand_two.mp (by omega)
        have hor : t ||| 2 ^ k < 2 ^ zN X 0 := Nat.or_lt_two_pow (by omega) (z2_lt (by omega))
        have hor2 : t ≤ t ||| 2 ^ k := Nat.left_le_or
        refine lv_aload_n hx hb dX4_takeOutLarger_33 rfl (lv_at hl 3 rfl) ?_
        refine va_get (D := G.1) (ci := 4) (v := .ref (ad 56)) (C := RX4) (T := TX4) (N := 5) hx hb hts hw4 hown hE.1 hP 53 p_53 rfl 3 (by decide) hf18 (fun _ h9 => h9) rfl dX4_takeOutLarger_34 ?_
        refine lv_iload_n hx hb dX4_takeOutLarger_37 rfl (lv_at hl 0 rfl) ?_
        refine lv_dup2_11 hx hb dX4_takeOutLarger_38 rfl rfl ?_
        refine zild hx hb hE hP 56 256 (fun _ => rfl) (by decide) t rfl (by omega) (by decide) dX4_takeOutLarger_39 ?_
        refine lv_aload_n hx hb dX4_takeOutLarger_40 rfl (lv_at hl 3 rfl) ?_
        refine va_get (D := G.1) (ci := 4) (v := .ref (ad 56)) (C := RX4) (T := TX4) (N := 5) hx hb hts hw4 hown hE.1 hP 53 p_53 rfl 3 (by decide) hf18 (fun _ h9 => h9) rfl dX4_takeOutLarger_41 ?_
        refine lv_iload_n hx hb dX4_takeOutLarger_44 rfl (lv_at hl 0 rfl) ?_
        refine lv_iload_n hx hb dX4_takeOutLarger_45 rfl (lv_at hl 1 rfl) ?_
        refine lv_ior hx hb dX4_takeOutLarger_46 (zti (v := zi ((t ||| 2 ^ k : Nat) : Int)) (zi_or _ _) ?_)
        refine zild hx hb hE hP 56 256 (fun _ => rfl) (by decide) (t ||| 2 ^ k) rfl (by omega) (by decide) dX4_takeOutLarger_47 ?_
        refine lv_isub hx hb dX4_takeOutLarger_48 (zti (v := zi ((Z 56 t) - (Z 56 (t ||| 2 ^ k)))) (zi_sub _ _) ?_)
        refine zist hx hb hE hP hD hS 56 256 (fun _ => rfl) (by decide) t rfl (by omega) (by decide) dX4_takeOutLarger_49 (fun H locs hP hD hS => ?_)
        refine lv_iinc (v := zi ((t : Int) + 1)) (lv' := [(3, .int (zi ((t : Int) + 1))), (2, .int (zi ((2 ^ k : Nat) : Int))), (1, .int (zi (k : Int))), (0, .ref (ad 53))]) hx hb dX4_takeOutLarger_50 hl (k := 0) rfl (zi_add _ _) (by decide) rfl (fun ls hl => ?_)
        refine lv_goto (tgt := 19) hx hb dX4_takeOutLarger_53 (by decide) ?_
        exact ih19 (t + 1) (zw Z 56 t ((Z 56 t) - (Z 56 (t ||| 2 ^ k)))) (by omega) H locs ls ⟨hP, hD, hS, lv_sub hl [0, 1, 2, 3] rfl, (by omega), (fun c h1 => by rw [zw_cell h1]; exact hz c h1), (fun u hu => by by_cases e9 : u = t; (rw [e9, zw_at, hv t (by omega), hv (t ||| 2 ^ k) hor, if_neg (by omega), if_neg (by omega), if_pos (by omega)]; exact (zPq_no hbt).symm); (rw [zw_ne e9, hv u hu]; by_cases e8 : u < t; (rw [if_pos e8, if_pos (by omega)]); (rw [if_neg e8, if_neg (by omega)])))⟩

set_option maxHeartbeats 4000000 in
set_option maxRecDepth 100000 in
/-- refresh -/
theorem c_X4_refresh (l : Launch) (G : zG) (ad : Nat → Nat) (X : Nat → Nat → Int) (hV : zV X) (hSu : X 53 4 = 0 ∨ (X 53 4 = 1 ∧ zSv X X)) : zR l G yX4_refresh wsX4_refresh { frames := 2, cells := 0, slots := 0, locals := 50 } (zpic G ad X) [.ref (ad 53)] (zv G ad (fun Y => (X 53 4 = 1 → Y = X) ∧ (∀ c : Nat, c ≠ 53 → c ≠ 54 → c ≠ 55 → c ≠ 56 → Y c = X c) ∧ Y 53 4 = 1 ∧ zSv X Y)) 0 0 := by
  refine zR_of (cc := cX4_refresh) (maxL := 2) (rt := none) (by decide) rfl (Nat.le_of_ble_eq_true rfl) ?_
  intro p e s m below meth c A ls hx hb hml hr hts hown hlocks hin0 hA hE hP hD hS hl
  have hl : lv_has ls 2 [(0, .ref (ad 53))] := hl
  have hown : s.vm.findClass RX4 = some m.cls := hown
  have hn := hV.n (Or.inl rfl : zIsW 0)
  have h256 := z2_256 hn.2
  have hs01 : X 53 4 = 0 ∨ X 53 4 = 1 := hSu.elim Or.inl (fun q => Or.inr q.1)
  have h2p : 1 ≤ 2 ^ zN X 0 := Nat.one_le_two_pow
  have hw4 : ∀ w ∈ u_ws RX4 TX4 5, w ∈ wsX4_refresh := by decide +kernel
  have hf25 := hts (.fieldLink RX4 25 "Nettle$Survey" "isFresh" "Z") (by decide +kernel)
  have hf9 := hts (.fieldLink RX4 9 "Nettle$Survey" "lows" "[I") (by decide +kernel)
  have hf15 := hts (.fieldLink RX4 15 "Nettle$Survey" "highs" "[I") (by decide +kernel)
  have hf18 := hts (.fieldLink RX4 18 "Nettle$Survey" "amounts" "[I") (by decide +kernel)
  refine lv_aload_n hx hb dX4_refresh_0 rfl (lv_at hl 0 rfl) ?_
  refine va_get (D := G.1) (ci := 4) (v := .int (zi (X 53 4))) (C := RX4) (T := TX4) (N := 5) hx hb hts hw4 hown hE.1 hP 53 p_53 rfl 4 (by decide) hf25 (fun _ h9 => h9) rfl dX4_refresh_1 ?_
  refine z0_eq (tgt := 8) hx hb dX4_refresh_4 (by decide) (by omega) (fun h4 => ?_) (fun h4 => ?_)
  · refine lv_iconst (v := zi 0) hx hb dX4_refresh_8 rfl ?_
    refine lv_istore_n (lv' := [(1, .int (zi 0)), (0, .ref (ad 53))]) hx hb dX4_refresh_9 rfl hl (by decide) rfl (fun ls hl => ?_)
    refine lv_iload_n hx hb dX4_refresh_10 rfl (lv_at hl 0 rfl) ?_
    refine lv_iconst (v := zi 4) hx hb dX4_refresh_11 rfl ?_
    refine zc_ge (tgt := 41) hx hb dX4_refresh_12 (by decide) (by decide) (by decide) (fun h9 => absurd h9 (by decide)) (fun h12 => ?_)
    refine lv_aload_n hx hb dX4_refresh_15 rfl (lv_at hl 1 rfl) ?_
    refine va_get (D := G.1) (ci := 4) (v := .ref (ad 54)) (C := RX4) (T := TX4) (N := 5) hx hb hts hw4 hown hE.1 hP 53 p_53 rfl 1 (by decide) hf9 (fun _ h9 => h9) rfl dX4_refresh_16 ?_
    refine lv_iload_n hx hb dX4_refresh_19 rfl (lv_at hl 0 rfl) ?_
    refine lv_iconst (v := zi 0) hx hb dX4_refresh_20 rfl ?_
    refine zist hx hb hE hP hD hS 54 1024 (fun _ => rfl) (by decide) 0 rfl (by decide) (by decide) dX4_refresh_21 (fun H locs hP hD hS => ?_)
    refine lv_aload_n hx hb dX4_refresh_22 rfl (lv_at hl 1 rfl) ?_
    refine va_get (D := G.1) (ci := 4) (v := .ref (ad 55)) (C := RX4) (T := TX4) (N := 5) hx hb hts hw4 hown hE.1 hP 53 p_53 rfl 2 (by decide) hf15 (fun _ h9 => h9) rfl dX4_refresh_23 ?_
    refine lv_iload_n hx hb dX4_refresh_26 rfl (lv_at hl 0 rfl) ?_
    refine va_getsN hx hb hE.2.1.1 hS hown (va_Nw.use rfl hE.2.2.2.1.2.2.1) (fun _ h9 => h9) dX4_refresh_27 ?_
    refine lv_iload_n hx hb dX4_refresh_30 rfl (lv_at hl 0 rfl) ?_
    refine zsz_ld hx hb hE hS 0 rfl (by decide) dX4_refresh_31 ?_
    refine zti (v := zi 256) rfl ?_
    refine lv_iconst (v := zi 1) hx hb dX4_refresh_32 rfl ?_
    refine lv_isub hx hb dX4_refresh_33 (zti (v := zi 255) (zi_sub _ _) ?_)
    refine zist hx hb hE hP hD hS 55 1024 (fun _ => rfl) (by decide) 0 rfl (by decide) (by decide) dX4_refresh_34 (fun H locs hP hD hS => ?_)
    refine lv_iinc (v := zi 1) (lv' := [(1, .int (zi 1)), (0, .ref (ad 53))]) hx hb dX4_refresh_35 hl (k := 0) rfl (zi_add _ _) (by decide) rfl (fun ls hl => ?_)
    refine lv_goto (tgt := 10) hx hb dX4_refresh_38 (by decide) ?_
    refine lv_iload_n hx hb dX4_refresh_10 rfl (lv_at hl 0 rfl) ?_
    refine lv_iconst (v := zi 4) hx hb dX4_refresh_11 rfl ?_
    refine zc_ge (tgt := 41) hx hb dX4_refresh_12 (by decide) (by decide) (by decide) (fun h9 => absurd h9 (by decide)) (fun h12 => ?_)
    refine lv_aload_n hx hb dX4_refresh_15 rfl (lv_at hl 1 rfl) ?_
    refine va_get (D := G.1) (ci := 4) (v := .ref (ad 54)) (C := RX4) (T := TX4) (N := 5) hx hb hts hw4 hown hE.1 hP 53 p_53 rfl 1 (by decide) hf9 (fun _ h9 => h9) rfl dX4_refresh_16 ?_
    refine lv_iload_n hx hb dX4_refresh_19 rfl (lv_at hl 0 rfl) ?_
    refine lv_iconst (v := zi 0) hx hb dX4_refresh_20 rfl ?_
    refine zist hx hb hE hP hD hS 54 1024 (fun _ => rfl) (by decide) 1 rfl (by decide) (by decide) dX4_refresh_21 (fun H locs hP hD hS => ?_)
    refine lv_aload_n hx hb dX4_refresh_22 rfl (lv_at hl 1 rfl) ?_
    refine va_get (D := G.1) (ci := 4) (v := .ref (ad 55)) (C := RX4) (T := TX4) (N := 5) hx hb hts hw4 hown hE.1 hP 53 p_53 rfl 2 (by decide) hf15 (fun _ h9 => h9) rfl dX4_refresh_23 ?_
    refine lv_iload_n hx hb dX4_refresh_26 rfl (lv_at hl 0 rfl) ?_
    refine va_getsN hx hb hE.2.1.1 hS hown (va_Nw.use rfl hE.2.2.2.1.2.2.1) (fun _ h9 => h9) dX4_refresh_27 ?_
    refine lv_iload_n hx hb dX4_refresh_30 rfl (lv_at hl 0 rfl) ?_
    refine zsz_ld hx hb hE hS 1 rfl (by decide) dX4_refresh_31 ?_
    refine zti (v := zi 256) rfl ?_
    refine lv_iconst (v := zi 1) hx hb dX4_refresh_32 rfl ?_
    refine lv_isub hx hb dX4_refresh_33 (zti (v := zi 255) (zi_sub _ _) ?_)
    refine zist hx hb hE hP hD hS 55 1024 (fun _ => rfl) (by decide) 1 rfl (by decide) (by decide) dX4_refresh_34 (fun H locs hP hD hS => ?_)
    refine lv_iinc (v := zi 2) (lv' := [(1, .int (zi 2)), (0, .ref (ad 53))]) hx hb dX4_refresh_35 hl (k := 0) rfl (zi_add _ _) (by decide) rfl (fun ls hl => ?_)
    refine lv_goto (tgt := 10) hx hb dX4_refresh_38 (by decide) ?_
    refine lv_iload_n hx hb dX4_refresh_10 rfl (lv_at hl 0 rfl) ?_
    refine lv_iconst (v := zi 4) hx hb dX4_refresh_11 rfl ?_
    refine zc_ge (tgt := 41) hx hb dX4_refresh_12 (by decide) (by decide) (by decide) (fun h9 => absurd h9 (by decide)) (fun h12 => ?_)
    refine lv_aload_n hx hb dX4_refresh_15 rfl (lv_at hl 1 rfl) ?_
    refine va_get (D := G.1) (ci := 4) (v := .ref (ad 54)) (C := RX4) (T := TX4) (N := 5) hx hb hts hw4 hown hE.1 hP 53 p_53 rfl 1 (by decide) hf9 (fun _ h9 => h9) rfl dX4_refresh_16 ?_
    refine lv_iload_n hx hb dX4_refresh_19 rfl (lv_at hl 0 rfl) ?_
    refine lv_iconst (v := zi 0) hx hb dX4_refresh_20 rfl ?_
    refine zist hx hb hE hP hD hS 54 1024 (fun _ => rfl) (by decide) 2 rfl (by decide) (by decide) dX4_refresh_21 (fun H locs hP hD hS => ?_)
    refine lv_aload_n hx hb dX4_refresh_22 rfl (lv_at hl 1 rfl) ?_
    refine va_get (D := G.1) (ci := 4) (v := .ref (ad 55)) (C := RX4) (T := TX4) (N := 5) hx hb hts hw4 hown hE.1 hP 53 p_53 rfl 2 (by decide) hf15 (fun _ h9 => h9) rfl dX4_refresh_23 ?_
    refine lv_iload_n hx hb dX4_refresh_26 rfl (lv_at hl 0 rfl) ?_
    refine va_getsN hx hb hE.2.1.1 hS hown (va_Nw.use rfl hE.2.2.2.1.2.2.1) (fun _ h9 => h9) dX4_refresh_27 ?_
    refine lv_iload_n hx hb dX4_refresh_30 rfl (lv_at hl 0 rfl) ?_
    refine zsz_ld hx hb hE hS 2 rfl (by decide) dX4_refresh_31 ?_
    refine zti (v := zi 1024) rfl ?_
    refine lv_iconst (v := zi 1) hx hb dX4_refresh_32 rfl ?_
    refine lv_isub hx hb dX4_refresh_33 (zti (v := zi 1023) (zi_sub _ _) ?_)
    refine zist hx hb hE hP hD hS 55 1024 (fun _ => rfl) (by decide) 2 rfl (by decide) (by decide) dX4_refresh_34 (fun H locs hP hD hS => ?_)
    refine lv_iinc (v := zi 3) (lv' := [(1, .int (zi 3)), (0, .ref (ad 53))]) hx hb dX4_refresh_35 hl (k := 0) rfl (zi_add _ _) (by decide) rfl (fun ls hl => ?_)
    refine lv_goto (tgt := 10) hx hb dX4_refresh_38 (by decide) ?_
    refine lv_iload_n hx hb dX4_refresh_10 rfl (lv_at hl 0 rfl) ?_
    refine lv_iconst (v := zi 4) hx hb dX4_refresh_11 rfl ?_
    refine zc_ge (tgt := 41) hx hb dX4_refresh_12 (by decide) (by decide) (by decide) (fun h9 => absurd h9 (by decide)) (fun h12 => ?_)
    refine lv_aload_n hx hb dX4_refresh_15 rfl (lv_at hl 1 rfl) ?_
    refine va_get (D := G.1) (ci := 4) (v := .ref (ad 54)) (C := RX4) (T := TX4) (N := 5) hx hb hts hw4 hown hE.1 hP 53 p_53 rfl 1 (by decide) hf9 (fun _ h9 => h9) rfl dX4_refresh_16 ?_
    refine lv_iload_n hx hb dX4_refresh_19 rfl (lv_at hl 0 rfl) ?_
    refine lv_iconst (v := zi 0) hx hb dX4_refresh_20 rfl ?_
    refine zist hx hb hE hP hD hS 54 1024 (fun _ => rfl) (by decide) 3 rfl (by decide) (by decide) dX4_refresh_21 (fun H locs hP hD hS => ?_)
    refine lv_aload_n hx hb dX4_refresh_22 rfl (lv_at hl 1 rfl) ?_
    refine va_get (D := G.1) (ci := 4) (v := .ref (ad 55)) (C := RX4) (T := TX4) (N := 5) hx hb hts hw4 hown hE.1 hP 53 p_53 rfl 2 (by decide) hf15 (fun _ h9 => h9) rfl dX4_refresh_23 ?_
    refine lv_iload_n hx hb dX4_refresh_26 rfl (lv_at hl 0 rfl) ?_
    refine va_getsN hx hb hE.2.1.1 hS hown (va_Nw.use rfl hE.2.2.2.1.2.2.1) (fun _ h9 => h9) dX4_refresh_27 ?_
    refine lv_iload_n hx hb dX4_refresh_30 rfl (lv_at hl 0 rfl) ?_
    refine zsz_ld hx hb hE hS 3 rfl (by decide) dX4_refresh_31 ?_
    refine zti (v := zi 4) rfl ?_
    refine lv_iconst (v := zi 1) hx hb dX4_refresh_32 rfl ?_
    refine lv_isub hx hb dX4_refresh_33 (zti (v := zi 3) (zi_sub _ _) ?_)
    refine zist hx hb hE hP hD hS 55 1024 (fun _ => rfl) (by decide) 3 rfl (by decide) (by decide) dX4_refresh_34 (fun H locs hP hD hS => ?_)
    refine lv_iinc (v := zi 4) (lv' := [(1, .int (zi 4)), (0, .ref (ad 53))]) hx hb dX4_refresh_35 hl (k := 0) rfl (zi_add _ _) (by decide) rfl (fun ls hl => ?_)
    refine lv_goto (tgt := 10) hx hb dX4_refresh_38 (by decide) ?_
    refine lv_iload_n hx hb dX4_refresh_10 rfl (lv_at hl 0 rfl) ?_
    refine lv_iconst (v := zi 4) hx hb dX4_refresh_11 rfl ?_
    refine zc_ge (tgt := 41) hx hb dX4_refresh_12 (by decide) (by decide) (by decide) (fun h12 => ?_) (fun h9 => absurd h9 (by decide))
    refine lv_aload_n hx hb dX4_refresh_41 rfl (lv_at hl 1 rfl) ?_
    refine va_get (D := G.1) (ci := 4) (v := .ref (ad 56)) (C := RX4) (T := TX4) (N := 5) hx hb hts hw4 hown hE.1 hP 53 p_53 rfl 3 (by decide) hf18 (fun _ h9 => h9) rfl dX4_refresh_42 ?_
    refine lv_iconst (v := zi 0) hx hb dX4_refresh_45 rfl ?_
    refine va_getsN hx hb hE.2.2.1.1 hS hown (va_Nw.use rfl hE.2.2.2.1.2.2.2.1) (fun _ h9 => h9) dX4_refresh_46 ?_
    refine lv_iconst (v := zi 0) hx hb dX4_refresh_49 rfl ?_
    refine zam_ld hx hb hE hS 0 rfl (by decide) dX4_refresh_50 ?_
    refine zti (v := zi 268435456) rfl ?_
    refine zist hx hb hE hP hD hS 56 256 (fun _ => rfl) (by decide) 0 rfl (by decide) (by decide) dX4_refresh_51 (fun H locs hP hD hS => ?_)
    refine lv_iconst (v := zi 1) hx hb dX4_refresh_52 rfl ?_
    refine lv_istore_n (lv' := [(1, .int (zi 1)), (0, .ref (ad 53))]) hx hb dX4_refresh_53 rfl hl (by decide) rfl (fun ls hl => ?_)
    refine zloop2 (fun (u : Nat) (Y : Nat → Nat → Int) => 256 - u) (fun (u : Nat) (Y : Nat → Nat → Int) (H : Heap) (locs : List Loc) (ls : Array Slot) => va_P G.1 vwCl (zpic G ad Y) H ∧ va_D A (zpic G ad Y) ∧ va_S A s.heap H locs ∧ lv_has ls 2 [(1, .int (zi (u : Int))), (0, .ref (ad 53))] ∧ (1 ≤ u ∧ u ≤ 2 ^ zN X 0) ∧ (∀ c : Nat, c ≠ 54 → c ≠ 55 → c ≠ 56 → Y c = X c) ∧ (∀ t : Nat, t < u → ∀ g : Nat, g < 4 → zBd X t g (Y 54 (4 * t + g)) (Y 55 (4 * t + g))) ∧ (∀ t : Nat, t < u → Y 56 t = zm X (zPq 0 t))) ?_ 1 (zw (zw (zw (zw (zw (zw (zw (zw (zw X 54 0 0) 55 0 255) 54 1 0) 55 1 255) 54 2 0) 55 2 1023) 54 3 0) 55 3 3) 56 0 268435456) ⟨hP, hD, hS, lv_sub hl [0, 1] rfl, (by omega), (fun c h1 h2 h3 => by simp [zw_cell h1, zw_cell h2, zw_cell h3]), (fun t h1 g h2 => by have ht : t = 0 := (by omega); subst ht; have hg4 : g = 0 ∨ g = 1 ∨ g = 2 ∨ g = 3 := (by omega); rcases hg4 with rfl | rfl | rfl | rfl <;> simp [zw_get] <;> exact zBd_0 X _), (fun t h1 => by have ht : t = 0 := (by omega); rw [ht, zw_at]; exact (zPq_nil X).symm)⟩
    intro u Y ih H locs ls ⟨hP, hD, hS, hl, hu, hyc, hy1, hy2⟩
    have hwe : zWe X Y := fun c h9 => hyc c (by omega) (by omega) (by omega)
    have hYV : zV Y := hwe.v hV
    have hYn : zN Y 0 = zN X 0 := hwe.n (Or.inl rfl : zIsW 0)
    refine lv_iload_n hx hb dX4_refresh_54 rfl (lv_at hl 0 rfl) ?_
    refine lv_aload_n hx hb dX4_refresh_55 rfl (lv_at hl 1 rfl) ?_
    refine zcall (wr := []) (va_runV (As := []) (rest := [.int (zi (u : Int))]) ⟨hx, hb, hml, hown, hts⟩ (c_X4_setCount l G ad Y hYV H.size) (cwV 0 hts gX4_refresh_X4_setCount rfl rfl rfl (by decide +kernel) ⟨Nat.le_of_ble_eq_true rfl, Nat.le_of_ble_eq_true rfl⟩) (zPreV (wr := []) (wc := zpic G ad Y) (q0 := 53) (ci := 4) (q := (RX4, TX4, 5)) hP hD hE hS hA rfl p_53) rfl rfl hl.1 rfl (lv_room (Nat.le_of_ble_eq_true rfl)) dX4_refresh_56 ⟨Nat.le_of_ble_eq_true rfl, Nat.le_of_ble_eq_true rfl⟩) hP hD hS hA (fun _ _ H locs hf hP hD hS => ?_)
    obtain ⟨v1, rfl, hv1, rfl⟩ := hf
    have hP : va_P G.1 vwCl (zpic G ad Y) H := hP
    have hD : va_D A (zpic G ad Y) := hD
    refine W.eq (g2 := F0 m 59 ls [.int (zi v1), .int (zi (u : Int))]) rfl ?_
    have hv1n : v1 = ((2 ^ zN X 0 : Nat) : Int) := by rw [hv1, hYn]
    refine zc_ge (tgt := 73) hx hb dX4_refresh_59 (by decide) (by omega) (by omega) (fun h59 => ?_) (fun h59 => ?_)
    · refine lv_aload_n hx hb dX4_refresh_73 rfl (lv_at hl 1 rfl) ?_
      refine zcall (wr := []) (va_runV (As := []) (rest := []) ⟨hx, hb, hml, hown, hts⟩ (c_X4_takeOutLarger l G ad Y hYV (fun t h1 => by rw [hwe.m hV]; exact hy2 t (by rw [hYn] at h1; omega)) H.size) (cwV 0 hts gX4_refresh_X4_takeOutLarger rfl rfl rfl (by decide +kernel) ⟨Nat.le_of_ble_eq_true rfl, Nat.le_of_ble_eq_true rfl⟩) (zPreV (wr := []) (wc := zpic G ad Y) (q0 := 53) (ci := 4) (q := (RX4, TX4, 5)) hP hD hE hS hA rfl p_53) rfl rfl hl.1 rfl (lv_room (Nat.le_of_ble_eq_true rfl)) dX4_refresh_74 ⟨Nat.le_of_ble_eq_true rfl, Nat.le_of_ble_eq_true rfl⟩) hP hD hS hA (fun _ _ H locs hf hP hD hS => ?_)
      obtain ⟨X1, rfl, hX1, rfl⟩ := hf
      have hP : va_P G.1 vwCl (zpic G ad X1) H := hP
      have hD : va_D A (zpic G ad X1) := hD
      refine W.eq (g2 := F0 m 77 ls []) rfl ?_
      refine lv_aload_n hx hb dX4_refresh_77 rfl (lv_at hl 1 rfl) ?_
      refine lv_iconst (v := zi 1) hx hb dX4_refresh_78 rfl ?_
      refine zput (C := RX4) (T := TX4) (N := 5) (ci := 4) (v := .int (zi 1)) (ty := tyX4 4) hx hb hts hw4 tyX4 tyX4_ok nmX4 hown hE hP hD hS 53 p_53 rfl 4 (by decide) hf25 (fun _ h9 => h9) rfl (by decide +kernel) rfl rfl (Nat.le_of_ble_eq_true rfl) (s_53 1) dX4_refresh_79 (fun H locs hP hD hS => ?_)
      exact zend_v hx hb hr hlocks hP hD hS (Nat.le_of_ble_eq_true rfl) (Nat.le_of_ble_eq_true rfl) dX4_refresh_82 ⟨_, rfl, ⟨fun h9 => by omega, fun c h1 h2 h3 h5 => by rw [zw_cell h1, hX1.1 c h5]; exact hyc c h2 h3 h5, zw_at _ _ _ _, fun t ht => by rw [zw_cell (show (56 : Nat) ≠ 53 by decide), hX1.2 t (by rw [hYn]; exact ht), hwe.m hV]⟩, rfl⟩
    · refine lv_aload_n hx hb dX4_refresh_62 rfl (lv_at hl 1 rfl) ?_
      refine lv_iload_n hx hb dX4_refresh_63 rfl (lv_at hl 0 rfl) ?_
      refine zcall (wr := []) (va_runV (As := [.int (zi (u : Int))]) (rest := []) ⟨hx, hb, hml, hown, hts⟩ (c_X4_measure l G ad Y u hYV ⟨by omega, by rw [hYn]; omega⟩ (fun t h1 g h2 => (hwe.bd hV).mpr (hy1 t h1 g h2)) H.size) (cwV 1 hts gX4_refresh_X4_measure rfl rfl rfl (by decide +kernel) ⟨Nat.le_of_ble_eq_true rfl, Nat.le_of_ble_eq_true rfl⟩) (zPreV (wr := []) (wc := zpic G ad Y) (q0 := 53) (ci := 4) (q := (RX4, TX4, 5)) hP hD hE hS hA rfl p_53) rfl rfl hl.1 rfl (lv_room (Nat.le_of_ble_eq_true rfl)) dX4_refresh_64 ⟨Nat.le_of_ble_eq_true rfl, Nat.le_of_ble_eq_true rfl⟩) hP hD hS hA (fun _ _ H locs hf hP hD hS => ?_)
      obtain ⟨X1, rfl, hX1, rfl⟩ := hf
      have hP : va_P G.1 vwCl (zpic G ad X1) H := hP
      have hD : va_D A (zpic G ad X1) := hD
      refine W.eq (g2 := F0 m 67 ls []) rfl ?_
      refine lv_iinc (v := zi ((u : Int) + 1)) (lv' := [(1, .int (zi ((u : Int) + 1))), (0, .ref (ad 53))]) hx hb dX4_refresh_67 hl (k := 0) rfl (zi_add _ _) (by decide) rfl (fun ls hl => ?_)
      refine lv_goto (tgt := 54) hx hb dX4_refresh_70 (by decide) ?_
      exact ih (u + 1) X1 (by omega) H locs ls ⟨hP, hD, hS, lv_sub hl [0, 1] rfl, (by omega), (fun c h1 h2 h3 => by rw [hX1.1 c h1 h2 h3]; exact hyc c h1 h2 h3), (fun t h1 g h2 => (hwe.bd hV).mp (hX1.2.1 t h1 g h2)), (fun t h1 => by by_cases e9 : t = u; (rw [e9, hX1.2.2.2, hwe.m hV]); (rw [hX1.2.2.1 t e9]; exact hy2 t (by omega)))⟩
  · exact zend_v hx hb hr hlocks hP hD hS (Nat.le_of_ble_eq_true rfl) (Nat.le_of_ble_eq_true rfl) dX4_refresh_7 ⟨_, rfl, (by rcases hSu with h | h; omega; exact ⟨fun _ => rfl, fun c _ _ _ _ => rfl, h.1, h.2⟩), rfl⟩
