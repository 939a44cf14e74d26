/-! RULES -/
theorem dX3_isNote_0 : decode cX3_isNote 0 = .ok (.aload_n 0, 1) := by decide +kernel
theorem dX3_isNote_1 : decode cX3_isNote 1 = .ok (.getfield 18, 3) := by decide +kernel
theorem dX3_isNote_4 : decode cX3_isNote 4 = .ok (.iconst 2, 1) := by decide +kernel
theorem dX3_isNote_5 : decode cX3_isNote 5 = .ok (.if_icmp .ne 7, 3) := by decide +kernel
theorem dX3_isNote_12 : decode cX3_isNote 12 = .ok (.iconst 0, 1) := by decide +kernel
theorem dX3_isNote_13 : decode cX3_isNote 13 = .ok (.ireturn, 1) := by decide +kernel
theorem dX3_isNote_8 : decode cX3_isNote 8 = .ok (.iconst 1, 1) := by decide +kernel
theorem dX3_isNote_9 : decode cX3_isNote 9 = .ok (.goto 4, 3) := by decide +kernel
theorem dX3_width_0 : decode cX3_width 0 = .ok (.aload_n 0, 1) := by decide +kernel
theorem dX3_width_1 : decode cX3_width 1 = .ok (.getfield 15, 3) := by decide +kernel
theorem dX3_width_4 : decode cX3_width 4 = .ok (.iload_n 1, 1) := by decide +kernel
theorem dX3_width_5 : decode cX3_width 5 = .ok (.iaload, 1) := by decide +kernel
theorem dX3_width_6 : decode cX3_width 6 = .ok (.aload_n 0, 1) := by decide +kernel
theorem dX3_width_7 : decode cX3_width 7 = .ok (.getfield 9, 3) := by decide +kernel
theorem dX3_width_10 : decode cX3_width 10 = .ok (.iload_n 1, 1) := by decide +kernel
theorem dX3_width_11 : decode cX3_width 11 = .ok (.iaload, 1) := by decide +kernel
theorem dX3_width_12 : decode cX3_width 12 = .ok (.isub, 1) := by decide +kernel
theorem dX3_width_13 : decode cX3_width 13 = .ok (.iconst 1, 1) := by decide +kernel
theorem dX3_width_14 : decode cX3_width 14 = .ok (.iadd, 1) := by decide +kernel
theorem dX3_width_15 : decode cX3_width 15 = .ok (.ireturn, 1) := by decide +kernel
theorem dX3_has_0 : decode cX3_has 0 = .ok (.aload_n 0, 1) := by decide +kernel
theorem dX3_has_1 : decode cX3_has 1 = .ok (.getfield 9, 3) := by decide +kernel
theorem dX3_has_4 : decode cX3_has 4 = .ok (.iload_n 1, 1) := by decide +kernel
theorem dX3_has_5 : decode cX3_has 5 = .ok (.iaload, 1) := by decide +kernel
theorem dX3_has_6 : decode cX3_has 6 = .ok (.iload_n 2, 1) := by decide +kernel
theorem dX3_has_7 : decode cX3_has 7 = .ok (.if_icmp .gt 17, 3) := by decide +kernel
theorem dX3_has_24 : decode cX3_has 24 = .ok (.iconst 0, 1) := by decide +kernel
theorem dX3_has_25 : decode cX3_has 25 = .ok (.ireturn, 1) := by decide +kernel
theorem dX3_has_10 : decode cX3_has 10 = .ok (.iload_n 2, 1) := by decide +kernel
theorem dX3_has_11 : decode cX3_has 11 = .ok (.aload_n 0, 1) := by decide +kernel
theorem dX3_has_12 : decode cX3_has 12 = .ok (.getfield 15, 3) := by decide +kernel
theorem dX3_has_15 : decode cX3_has 15 = .ok (.iload_n 1, 1) := by decide +kernel
theorem dX3_has_16 : decode cX3_has 16 = .ok (.iaload, 1) := by decide +kernel
theorem dX3_has_17 : decode cX3_has 17 = .ok (.if_icmp .gt 7, 3) := by decide +kernel
theorem dX3_has_20 : decode cX3_has 20 = .ok (.iconst 1, 1) := by decide +kernel
theorem dX3_has_21 : decode cX3_has 21 = .ok (.goto 4, 3) := by decide +kernel
theorem dX3_isWholeFrom_0 : decode cX3_isWholeFrom 0 = .ok (.iload_n 1, 1) := by decide +kernel
theorem dX3_isWholeFrom_1 : decode cX3_isWholeFrom 1 = .ok (.istore_n 2, 1) := by decide +kernel
theorem dX3_isWholeFrom_2 : decode cX3_isWholeFrom 2 = .ok (.iload_n 2, 1) := by decide +kernel
theorem dX3_isWholeFrom_3 : decode cX3_isWholeFrom 3 = .ok (.iconst 4, 1) := by decide +kernel
theorem dX3_isWholeFrom_4 : decode cX3_isWholeFrom 4 = .ok (.if_icmp .ge 36, 3) := by decide +kernel
theorem dX3_isWholeFrom_40 : decode cX3_isWholeFrom 40 = .ok (.iconst 1, 1) := by decide +kernel
theorem dX3_isWholeFrom_41 : decode cX3_isWholeFrom 41 = .ok (.ireturn, 1) := by decide +kernel
theorem dX3_isWholeFrom_7 : decode cX3_isWholeFrom 7 = .ok (.aload_n 0, 1) := by decide +kernel
theorem dX3_isWholeFrom_8 : decode cX3_isWholeFrom 8 = .ok (.getfield 9, 3) := by decide +kernel
theorem dX3_isWholeFrom_11 : decode cX3_isWholeFrom 11 = .ok (.iload_n 2, 1) := by decide +kernel
theorem dX3_isWholeFrom_12 : decode cX3_isWholeFrom 12 = .ok (.iaload, 1) := by decide +kernel
theorem dX3_isWholeFrom_13 : decode cX3_isWholeFrom 13 = .ok (.ifCond .ne 19, 3) := by decide +kernel
theorem dX3_isWholeFrom_32 : decode cX3_isWholeFrom 32 = .ok (.iconst 0, 1) := by decide +kernel
theorem dX3_isWholeFrom_33 : decode cX3_isWholeFrom 33 = .ok (.ireturn, 1) := by decide +kernel
theorem dX3_isWholeFrom_16 : decode cX3_isWholeFrom 16 = .ok (.aload_n 0, 1) := by decide +kernel
theorem dX3_isWholeFrom_17 : decode cX3_isWholeFrom 17 = .ok (.getfield 15, 3) := by decide +kernel
theorem dX3_isWholeFrom_20 : decode cX3_isWholeFrom 20 = .ok (.iload_n 2, 1) := by decide +kernel
theorem dX3_isWholeFrom_21 : decode cX3_isWholeFrom 21 = .ok (.iaload, 1) := by decide +kernel
theorem dX3_isWholeFrom_22 : decode cX3_isWholeFrom 22 = .ok (.getstatic 25, 3) := by decide +kernel
theorem dX3_isWholeFrom_25 : decode cX3_isWholeFrom 25 = .ok (.iload_n 2, 1) := by decide +kernel
theorem dX3_isWholeFrom_26 : decode cX3_isWholeFrom 26 = .ok (.iaload, 1) := by decide +kernel
theorem dX3_isWholeFrom_27 : decode cX3_isWholeFrom 27 = .ok (.iconst 1, 1) := by decide +kernel
theorem dX3_isWholeFrom_28 : decode cX3_isWholeFrom 28 = .ok (.isub, 1) := by decide +kernel
theorem dX3_isWholeFrom_29 : decode cX3_isWholeFrom 29 = .ok (.if_icmp .eq 5, 3) := by decide +kernel
theorem dX3_isWholeFrom_34 : decode cX3_isWholeFrom 34 = .ok (.iinc 2 1, 3) := by decide +kernel
theorem dX3_isWholeFrom_37 : decode cX3_isWholeFrom 37 = .ok (.goto (-35), 3) := by decide +kernel
theorem dX3_meets_0 : decode cX3_meets 0 = .ok (.iconst 0, 1) := by decide +kernel
theorem dX3_meets_1 : decode cX3_meets 1 = .ok (.istore_n 2, 1) := by decide +kernel
theorem dX3_meets_2 : decode cX3_meets 2 = .ok (.iload_n 2, 1) := by decide +kernel
theorem dX3_meets_3 : decode cX3_meets 3 = .ok (.iconst 4, 1) := by decide +kernel
theorem dX3_meets_4 : decode cX3_meets 4 = .ok (.if_icmp .ge 22, 3) := by decide +kernel
theorem dX3_meets_26 : decode cX3_meets 26 = .ok (.iconst 1, 1) := by decide +kernel
theorem dX3_meets_27 : decode cX3_meets 27 = .ok (.ireturn, 1) := by decide +kernel
theorem dX3_meets_7 : decode cX3_meets 7 = .ok (.aload_n 0, 1) := by decide +kernel
theorem dX3_meets_8 : decode cX3_meets 8 = .ok (.iload_n 2, 1) := by decide +kernel
theorem dX3_meets_9 : decode cX3_meets 9 = .ok (.aload_n 1, 1) := by decide +kernel
theorem dX3_meets_10 : decode cX3_meets 10 = .ok (.iload_n 2, 1) := by decide +kernel
theorem dX3_meets_11 : decode cX3_meets 11 = .ok (.iaload, 1) := by decide +kernel
set_option maxRecDepth 20000 in
theorem ggX3_meets_X3_has : GoodIn wsX3_meets wsX3_has := goodIn_r _ [5, 6, 7, 8, 9, 10, 11] (by decide +kernel) (by decide +kernel)
set_option maxRecDepth 20000 in
theorem gX3_meets_X3_has : GoodIn wsX3_meets (wsV RX3 28 RX3 yX3_has wsX3_has) := goodIn_app (goodIn_of _ (by decide +kernel)) ggX3_meets_X3_has
theorem dX3_meets_12 : decode cX3_meets 12 = .ok (.invokevirtual 28, 3) := by decide +kernel
theorem dX3_meets_15 : decode cX3_meets 15 = .ok (.ifCond .ne 5, 3) := by decide +kernel
theorem dX3_meets_20 : decode cX3_meets 20 = .ok (.iinc 2 1, 3) := by decide +kernel
theorem dX3_meets_23 : decode cX3_meets 23 = .ok (.goto (-21), 3) := by decide +kernel
theorem dX3_meets_18 : decode cX3_meets 18 = .ok (.iconst 0, 1) := by decide +kernel
theorem dX3_meets_19 : decode cX3_meets 19 = .ok (.ireturn, 1) := by decide +kernel
theorem dX3_covers_0 : decode cX3_covers 0 = .ok (.iconst 0, 1) := by decide +kernel
theorem dX3_covers_1 : decode cX3_covers 1 = .ok (.istore_n 2, 1) := by decide +kernel
theorem dX3_covers_2 : decode cX3_covers 2 = .ok (.iload_n 2, 1) := by decide +kernel
theorem dX3_covers_3 : decode cX3_covers 3 = .ok (.iconst 4, 1) := by decide +kernel
theorem dX3_covers_4 : decode cX3_covers 4 = .ok (.if_icmp .ge 41, 3) := by decide +kernel
theorem dX3_covers_45 : decode cX3_covers 45 = .ok (.iconst 1, 1) := by decide +kernel
theorem dX3_covers_46 : decode cX3_covers 46 = .ok (.ireturn, 1) := by decide +kernel
theorem dX3_covers_7 : decode cX3_covers 7 = .ok (.aload_n 1, 1) := by decide +kernel
theorem dX3_covers_8 : decode cX3_covers 8 = .ok (.getfield 9, 3) := by decide +kernel
theorem dX3_covers_11 : decode cX3_covers 11 = .ok (.iload_n 2, 1) := by decide +kernel
theorem dX3_covers_12 : decode cX3_covers 12 = .ok (.iaload, 1) := by decide +kernel
theorem dX3_covers_13 : decode cX3_covers 13 = .ok (.aload_n 0, 1) := by decide +kernel
theorem dX3_covers_14 : decode cX3_covers 14 = .ok (.getfield 9, 3) := by decide +kernel
theorem dX3_covers_17 : decode cX3_covers 17 = .ok (.iload_n 2, 1) := by decide +kernel
theorem dX3_covers_18 : decode cX3_covers 18 = .ok (.iaload, 1) := by decide +kernel
theorem dX3_covers_19 : decode cX3_covers 19 = .ok (.if_icmp .lt 18, 3) := by decide +kernel
theorem dX3_covers_37 : decode cX3_covers 37 = .ok (.iconst 0, 1) := by decide +kernel
theorem dX3_covers_38 : decode cX3_covers 38 = .ok (.ireturn, 1) := by decide +kernel
theorem dX3_covers_22 : decode cX3_covers 22 = .ok (.aload_n 1, 1) := by decide +kernel
theorem dX3_covers_23 : decode cX3_covers 23 = .ok (.getfield 15, 3) := by decide +kernel
theorem dX3_covers_26 : decode cX3_covers 26 = .ok (.iload_n 2, 1) := by decide +kernel
theorem dX3_covers_27 : decode cX3_covers 27 = .ok (.iaload, 1) := by decide +kernel
theorem dX3_covers_28 : decode cX3_covers 28 = .ok (.aload_n 0, 1) := by decide +kernel
theorem dX3_covers_29 : decode cX3_covers 29 = .ok (.getfield 15, 3) := by decide +kernel
theorem dX3_covers_32 : decode cX3_covers 32 = .ok (.iload_n 2, 1) := by decide +kernel
theorem dX3_covers_33 : decode cX3_covers 33 = .ok (.iaload, 1) := by decide +kernel
theorem dX3_covers_34 : decode cX3_covers 34 = .ok (.if_icmp .le 5, 3) := by decide +kernel
theorem dX3_covers_39 : decode cX3_covers 39 = .ok (.iinc 2 1, 3) := by decide +kernel
theorem dX3_covers_42 : decode cX3_covers 42 = .ok (.goto (-40), 3) := by decide +kernel
theorem dX3_amountWith_0 : decode cX3_amountWith 0 = .ok (.iconst 1, 1) := by decide +kernel
theorem dX3_amountWith_1 : decode cX3_amountWith 1 = .ok (.istore_n 2, 1) := by decide +kernel
theorem dX3_amountWith_2 : decode cX3_amountWith 2 = .ok (.iconst 0, 1) := by decide +kernel
theorem dX3_amountWith_3 : decode cX3_amountWith 3 = .ok (.istore_n 3, 1) := by decide +kernel
theorem dX3_amountWith_4 : decode cX3_amountWith 4 = .ok (.iload_n 3, 1) := by decide +kernel
theorem dX3_amountWith_5 : decode cX3_amountWith 5 = .ok (.iconst 4, 1) := by decide +kernel
theorem dX3_amountWith_6 : decode cX3_amountWith 6 = .ok (.if_icmp .ge 57, 3) := by decide +kernel
theorem dX3_amountWith_9 : decode cX3_amountWith 9 = .ok (.aload_n 0, 1) := by decide +kernel
theorem dX3_amountWith_10 : decode cX3_amountWith 10 = .ok (.getfield 9, 3) := by decide +kernel
theorem dX3_amountWith_13 : decode cX3_amountWith 13 = .ok (.iload_n 3, 1) := by decide +kernel
theorem dX3_amountWith_14 : decode cX3_amountWith 14 = .ok (.iaload, 1) := by decide +kernel
theorem dX3_amountWith_15 : decode cX3_amountWith 15 = .ok (.aload_n 1, 1) := by decide +kernel
theorem dX3_amountWith_16 : decode cX3_amountWith 16 = .ok (.getfield 9, 3) := by decide +kernel
theorem dX3_amountWith_19 : decode cX3_amountWith 19 = .ok (.iload_n 3, 1) := by decide +kernel
theorem dX3_amountWith_20 : decode cX3_amountWith 20 = .ok (.iaload, 1) := by decide +kernel
theorem dX3_amountWith_21 : decode cX3_amountWith 21 = .ok (.invokestatic 32, 3) := by decide +kernel
theorem dX3_amountWith_24 : decode cX3_amountWith 24 = .ok (.istore 4, 2) := by decide +kernel
theorem dX3_amountWith_26 : decode cX3_amountWith 26 = .ok (.aload_n 0, 1) := by decide +kernel
theorem dX3_amountWith_27 : decode cX3_amountWith 27 = .ok (.getfield 15, 3) := by decide +kernel
theorem dX3_amountWith_30 : decode cX3_amountWith 30 = .ok (.iload_n 3, 1) := by decide +kernel
theorem dX3_amountWith_31 : decode cX3_amountWith 31 = .ok (.iaload, 1) := by decide +kernel
theorem dX3_amountWith_32 : decode cX3_amountWith 32 = .ok (.aload_n 1, 1) := by decide +kernel
theorem dX3_amountWith_33 : decode cX3_amountWith 33 = .ok (.getfield 15, 3) := by decide +kernel
theorem dX3_amountWith_36 : decode cX3_amountWith 36 = .ok (.iload_n 3, 1) := by decide +kernel
theorem dX3_amountWith_37 : decode cX3_amountWith 37 = .ok (.iaload, 1) := by decide +kernel
theorem dX3_amountWith_38 : decode cX3_amountWith 38 = .ok (.invokestatic 38, 3) := by decide +kernel
theorem dX3_amountWith_41 : decode cX3_amountWith 41 = .ok (.istore 5, 2) := by decide +kernel
theorem dX3_amountWith_43 : decode cX3_amountWith 43 = .ok (.iload_n 2, 1) := by decide +kernel
theorem dX3_amountWith_44 : decode cX3_amountWith 44 = .ok (.iconst 0, 1) := by decide +kernel
theorem dX3_amountWith_45 : decode cX3_amountWith 45 = .ok (.iload 5, 2) := by decide +kernel
theorem dX3_amountWith_47 : decode cX3_amountWith 47 = .ok (.iload 4, 2) := by decide +kernel
theorem dX3_amountWith_49 : decode cX3_amountWith 49 = .ok (.isub, 1) := by decide +kernel
theorem dX3_amountWith_50 : decode cX3_amountWith 50 = .ok (.iconst 1, 1) := by decide +kernel
theorem dX3_amountWith_51 : decode cX3_amountWith 51 = .ok (.iadd, 1) := by decide +kernel
theorem dX3_amountWith_52 : decode cX3_amountWith 52 = .ok (.invokestatic 32, 3) := by decide +kernel
theorem dX3_amountWith_55 : decode cX3_amountWith 55 = .ok (.imul, 1) := by decide +kernel
theorem dX3_amountWith_56 : decode cX3_amountWith 56 = .ok (.istore_n 2, 1) := by decide +kernel
theorem dX3_amountWith_57 : decode cX3_amountWith 57 = .ok (.iinc 3 1, 3) := by decide +kernel
theorem dX3_amountWith_60 : decode cX3_amountWith 60 = .ok (.goto (-56), 3) := by decide +kernel
theorem dX3_amountWith_63 : decode cX3_amountWith 63 = .ok (.iload_n 2, 1) := by decide +kernel
theorem dX3_amountWith_64 : decode cX3_amountWith 64 = .ok (.ireturn, 1) := by decide +kernel
theorem dX3_isAgainst_0 : decode cX3_isAgainst 0 = .ok (.aload_n 0, 1) := by decide +kernel
set_option maxRecDepth 20000 in
theorem ggX3_isAgainst_X3_isNote : GoodIn wsX3_isAgainst wsX3_isNote := goodIn_r _ [6, 1, 20, 21, 22, 23] (by decide +kernel) (by decide +kernel)
set_option maxRecDepth 20000 in
theorem gX3_isAgainst_X3_isNote : GoodIn wsX3_isAgainst (wsV RX3 41 RX3 yX3_isNote wsX3_isNote) := goodIn_app (goodIn_of _ (by decide +kernel)) ggX3_isAgainst_X3_isNote
theorem dX3_isAgainst_1 : decode cX3_isAgainst 1 = .ok (.invokevirtual 41, 3) := by decide +kernel
theorem dX3_isAgainst_4 : decode cX3_isAgainst 4 = .ok (.ifCond .ne 33, 3) := by decide +kernel
theorem dX3_isAgainst_37 : decode cX3_isAgainst 37 = .ok (.iconst 0, 1) := by decide +kernel
theorem dX3_isAgainst_38 : decode cX3_isAgainst 38 = .ok (.ireturn, 1) := by decide +kernel
theorem dX3_isAgainst_7 : decode cX3_isAgainst 7 = .ok (.aload_n 1, 1) := by decide +kernel
theorem dX3_isAgainst_8 : decode cX3_isAgainst 8 = .ok (.invokevirtual 41, 3) := by decide +kernel
theorem dX3_isAgainst_11 : decode cX3_isAgainst 11 = .ok (.ifCond .ne 26, 3) := by decide +kernel
theorem dX3_isAgainst_14 : decode cX3_isAgainst 14 = .ok (.aload_n 0, 1) := by decide +kernel
theorem dX3_isAgainst_15 : decode cX3_isAgainst 15 = .ok (.getfield 18, 3) := by decide +kernel
theorem dX3_isAgainst_18 : decode cX3_isAgainst 18 = .ok (.aload_n 1, 1) := by decide +kernel
theorem dX3_isAgainst_19 : decode cX3_isAgainst 19 = .ok (.getfield 18, 3) := by decide +kernel
theorem dX3_isAgainst_22 : decode cX3_isAgainst 22 = .ok (.if_icmp .eq 15, 3) := by decide +kernel
theorem dX3_isAgainst_25 : decode cX3_isAgainst 25 = .ok (.aload_n 0, 1) := by decide +kernel
theorem dX3_isAgainst_26 : decode cX3_isAgainst 26 = .ok (.aload_n 1, 1) := by decide +kernel
set_option maxRecDepth 20000 in
theorem ggX3_isAgainst_X3_amountWith : GoodIn wsX3_isAgainst wsX3_amountWith := goodIn_r _ [10, 11, 12, 13, 14, 15, 16, 17, 18, 19, 20, 21, 22, 23] (by decide +kernel) (by decide +kernel)
set_option maxRecDepth 20000 in
theorem gX3_isAgainst_X3_amountWith : GoodIn wsX3_isAgainst (wsV RX3 45 RX3 yX3_amountWith wsX3_amountWith) := goodIn_app (goodIn_of _ (by decide +kernel)) ggX3_isAgainst_X3_amountWith
theorem dX3_isAgainst_27 : decode cX3_isAgainst 27 = .ok (.invokevirtual 45, 3) := by decide +kernel
theorem dX3_isAgainst_30 : decode cX3_isAgainst 30 = .ok (.ifCond .le 7, 3) := by decide +kernel
theorem dX3_isAgainst_33 : decode cX3_isAgainst 33 = .ok (.iconst 1, 1) := by decide +kernel
theorem dX3_isAgainst_34 : decode cX3_isAgainst 34 = .ok (.goto 4, 3) := by decide +kernel
theorem dX3_reset_0 : decode cX3_reset 0 = .ok (.aload_n 0, 1) := by decide +kernel
theorem dX3_reset_1 : decode cX3_reset 1 = .ok (.iload_n 1, 1) := by decide +kernel
theorem dX3_reset_2 : decode cX3_reset 2 = .ok (.putfield 18, 3) := by decide +kernel
theorem dX3_reset_5 : decode cX3_reset 5 = .ok (.aload_n 0, 1) := by decide +kernel
theorem dX3_reset_6 : decode cX3_reset 6 = .ok (.iconst 0, 1) := by decide +kernel
theorem dX3_reset_7 : decode cX3_reset 7 = .ok (.putfield 22, 3) := by decide +kernel
theorem dX3_reset_10 : decode cX3_reset 10 = .ok (.iconst 0, 1) := by decide +kernel
theorem dX3_reset_11 : decode cX3_reset 11 = .ok (.istore_n 2, 1) := by decide +kernel
theorem dX3_reset_12 : decode cX3_reset 12 = .ok (.iload_n 2, 1) := by decide +kernel
theorem dX3_reset_13 : decode cX3_reset 13 = .ok (.iconst 4, 1) := by decide +kernel
theorem dX3_reset_14 : decode cX3_reset 14 = .ok (.if_icmp .ge 29, 3) := by decide +kernel
theorem dX3_reset_43 : decode cX3_reset 43 = .ok (.return_, 1) := by decide +kernel
theorem dX3_reset_17 : decode cX3_reset 17 = .ok (.aload_n 0, 1) := by decide +kernel
theorem dX3_reset_18 : decode cX3_reset 18 = .ok (.getfield 9, 3) := by decide +kernel
theorem dX3_reset_21 : decode cX3_reset 21 = .ok (.iload_n 2, 1) := by decide +kernel
theorem dX3_reset_22 : decode cX3_reset 22 = .ok (.iconst 0, 1) := by decide +kernel
theorem dX3_reset_23 : decode cX3_reset 23 = .ok (.iastore, 1) := by decide +kernel
theorem dX3_reset_24 : decode cX3_reset 24 = .ok (.aload_n 0, 1) := by decide +kernel
theorem dX3_reset_25 : decode cX3_reset 25 = .ok (.getfield 15, 3) := by decide +kernel
theorem dX3_reset_28 : decode cX3_reset 28 = .ok (.iload_n 2, 1) := by decide +kernel
theorem dX3_reset_29 : decode cX3_reset 29 = .ok (.getstatic 25, 3) := by decide +kernel
theorem dX3_reset_32 : decode cX3_reset 32 = .ok (.iload_n 2, 1) := by decide +kernel
theorem dX3_reset_33 : decode cX3_reset 33 = .ok (.iaload, 1) := by decide +kernel
theorem dX3_reset_34 : decode cX3_reset 34 = .ok (.iconst 1, 1) := by decide +kernel
theorem dX3_reset_35 : decode cX3_reset 35 = .ok (.isub, 1) := by decide +kernel
theorem dX3_reset_36 : decode cX3_reset 36 = .ok (.iastore, 1) := by decide +kernel
theorem dX3_reset_37 : decode cX3_reset 37 = .ok (.iinc 2 1, 3) := by decide +kernel
theorem dX3_reset_40 : decode cX3_reset 40 = .ok (.goto (-28), 3) := by decide +kernel
theorem dX3_takeFrom_0 : decode cX3_takeFrom 0 = .ok (.aload_n 0, 1) := by decide +kernel
theorem dX3_takeFrom_1 : decode cX3_takeFrom 1 = .ok (.aload_n 1, 1) := by decide +kernel
theorem dX3_takeFrom_2 : decode cX3_takeFrom 2 = .ok (.getfield 18, 3) := by decide +kernel
theorem dX3_takeFrom_5 : decode cX3_takeFrom 5 = .ok (.putfield 18, 3) := by decide +kernel
theorem dX3_takeFrom_8 : decode cX3_takeFrom 8 = .ok (.iconst 0, 1) := by decide +kernel
theorem dX3_takeFrom_9 : decode cX3_takeFrom 9 = .ok (.istore_n 2, 1) := by decide +kernel
theorem dX3_takeFrom_10 : decode cX3_takeFrom 10 = .ok (.iload_n 2, 1) := by decide +kernel
theorem dX3_takeFrom_11 : decode cX3_takeFrom 11 = .ok (.iconst 4, 1) := by decide +kernel
theorem dX3_takeFrom_12 : decode cX3_takeFrom 12 = .ok (.if_icmp .ge 33, 3) := by decide +kernel
theorem dX3_takeFrom_45 : decode cX3_takeFrom 45 = .ok (.return_, 1) := by decide +kernel
theorem dX3_takeFrom_15 : decode cX3_takeFrom 15 = .ok (.aload_n 0, 1) := by decide +kernel
theorem dX3_takeFrom_16 : decode cX3_takeFrom 16 = .ok (.getfield 9, 3) := by decide +kernel
theorem dX3_takeFrom_19 : decode cX3_takeFrom 19 = .ok (.iload_n 2, 1) := by decide +kernel
theorem dX3_takeFrom_20 : decode cX3_takeFrom 20 = .ok (.aload_n 1, 1) := by decide +kernel
theorem dX3_takeFrom_21 : decode cX3_takeFrom 21 = .ok (.getfield 9, 3) := by decide +kernel
theorem dX3_takeFrom_24 : decode cX3_takeFrom 24 = .ok (.iload_n 2, 1) := by decide +kernel
theorem dX3_takeFrom_25 : decode cX3_takeFrom 25 = .ok (.iaload, 1) := by decide +kernel
theorem dX3_takeFrom_26 : decode cX3_takeFrom 26 = .ok (.iastore, 1) := by decide +kernel
theorem dX3_takeFrom_27 : decode cX3_takeFrom 27 = .ok (.aload_n 0, 1) := by decide +kernel
theorem dX3_takeFrom_28 : decode cX3_takeFrom 28 = .ok (.getfield 15, 3) := by decide +kernel
theorem dX3_takeFrom_31 : decode cX3_takeFrom 31 = .ok (.iload_n 2, 1) := by decide +kernel
theorem dX3_takeFrom_32 : decode cX3_takeFrom 32 = .ok (.aload_n 1, 1) := by decide +kernel
theorem dX3_takeFrom_33 : decode cX3_takeFrom 33 = .ok (.getfield 15, 3) := by decide +kernel
theorem dX3_takeFrom_36 : decode cX3_takeFrom 36 = .ok (.iload_n 2, 1) := by decide +kernel
theorem dX3_takeFrom_37 : decode cX3_takeFrom 37 = .ok (.iaload, 1) := by decide +kernel
theorem dX3_takeFrom_38 : decode cX3_takeFrom 38 = .ok (.iastore, 1) := by decide +kernel
theorem dX3_takeFrom_39 : decode cX3_takeFrom 39 = .ok (.iinc 2 1, 3) := by decide +kernel
theorem dX3_takeFrom_42 : decode cX3_takeFrom 42 = .ok (.goto (-32), 3) := by decide +kernel
set_option maxHeartbeats 4000000 in
set_option maxRecDepth 100000 in
/-- isNote -/
theorem c_X3_isNote (l : Launch) (G : zG) (ad : Nat → Nat) (X : Nat → Nat → Int) (r : Nat) (hV : zV X) (hR : zIsR r) : zR l G yX3_isNote wsX3_isNote { frames := 0, cells := 0, slots := 0, locals := 0 } (zpic G ad X) [.ref (ad r)] (zq G ad X (fun w => (w = 1 ∧ X r 0 = 2) ∨ (w = 0 ∧ X r 0 ≠ 2))) 0 0 := by
  refine zR_of (cc := cX3_isNote) (maxL := 1) (rt := (some .boolean)) (by decide) rfl (Nat.le_of_ble_eq_true rfl) ?_
  intro p e s m below meth c A ls hx hb hml hr hts hown hlocks hin0 hA hE hP hD hS hl
  have hl : lv_has ls 1 [(0, .ref (ad r))] := hl
  have hown : s.vm.findClass RX3 = some m.cls := hown
  have hr4 := hV.r4 hR
  have hw3 : ∀ w ∈ u_ws RX3 TX3 4, w ∈ wsX3_isNote := by decide +kernel
  have hf18 := hts (.fieldLink RX3 18 "Nettle$Rule" "verdict" "I") (by decide +kernel)
  refine lv_aload_n hx hb dX3_isNote_0 rfl (lv_at hl 0 rfl) ?_
  refine va_get (D := G.1) (ci := 3) (v := .int (zi (X r 0))) (C := RX3) (T := TX3) (N := 4) hx hb hts hw3 hown hE.1 hP r (p_r hR) rfl 0 (by decide) hf18 (fun _ h9 => h9) rfl dX3_isNote_1 ?_
  refine lv_iconst (v := zi 2) hx hb dX3_isNote_4 rfl ?_
  refine zc_ne (tgt := 12) hx hb dX3_isNote_5 (by decide) (by omega) (by decide) (fun h5 => ?_) (fun h5 => ?_)
  · refine lv_iconst (v := zi 0) hx hb dX3_isNote_12 rfl ?_
    exact zend_z hx hb hr hlocks (by decide +kernel) hP hD hS (Nat.le_of_ble_eq_true rfl) (Nat.le_of_ble_eq_true rfl) dX3_isNote_13 ⟨_, rfl, (by omega), rfl⟩
  · refine lv_iconst (v := zi 1) hx hb dX3_isNote_8 rfl ?_
    refine lv_goto (tgt := 13) hx hb dX3_isNote_9 (by decide) ?_
    exact zend_z hx hb hr hlocks (by decide +kernel) hP hD hS (Nat.le_of_ble_eq_true rfl) (Nat.le_of_ble_eq_true rfl) dX3_isNote_13 ⟨_, rfl, (by omega), rfl⟩

set_option maxHeartbeats 4000000 in
set_option maxRecDepth 100000 in
/-- width -/
theorem c_X3_width (l : Launch) (G : zG) (ad : Nat → Nat) (X : Nat → Nat → Int) (r : Nat) (f : Nat) (hV : zV X) (hR : zIsR r) (hf : f < 4) : zR l G yX3_width wsX3_width { frames := 0, cells := 0, slots := 0, locals := 0 } (zpic G ad X) [.ref (ad r), .int (zi (f : Int))] (zq G ad X (fun w => w = X (r + 2) f - X (r + 1) f + 1)) 0 0 := by
  refine zR_of (cc := cX3_width) (maxL := 2) (rt := (some .int)) (by decide) rfl (Nat.le_of_ble_eq_true rfl) ?_
  intro p e s m below meth c A ls hx hb hml hr hts hown hlocks hin0 hA hE hP hD hS hl
  have hl : lv_has ls 2 [(0, .ref (ad r)), (1, .int (zi (f : Int)))] := hl
  have hown : s.vm.findClass RX3 = some m.cls := hown
  have hrf := hV.rf hR hf
  have hw3 : ∀ w ∈ u_ws RX3 TX3 4, w ∈ wsX3_width := by decide +kernel
  have hf15 := hts (.fieldLink RX3 15 "Nettle$Rule" "highs" "[I") (by decide +kernel)
  have hf9 := hts (.fieldLink RX3 9 "Nettle$Rule" "lows" "[I") (by decide +kernel)
  refine lv_aload_n hx hb dX3_width_0 rfl (lv_at hl 0 rfl) ?_
  refine va_get (D := G.1) (ci := 3) (v := .ref (ad (r + 2))) (C := RX3) (T := TX3) (N := 4) hx hb hts hw3 hown hE.1 hP r (p_r hR) rfl 3 (by decide) hf15 (fun _ h9 => h9) rfl dX3_width_1 ?_
  refine lv_iload_n hx hb dX3_width_4 rfl (lv_at hl 1 rfl) ?_
  refine zild hx hb hE hP (r + 2) 4 (a_h hR) (by have := hR.lt; omega) f rfl (by omega) (by decide) dX3_width_5 ?_
  refine lv_aload_n hx hb dX3_width_6 rfl (lv_at hl 0 rfl) ?_
  refine va_get (D := G.1) (ci := 3) (v := .ref (ad (r + 1))) (C := RX3) (T := TX3) (N := 4) hx hb hts hw3 hown hE.1 hP r (p_r hR) rfl 2 (by decide) hf9 (fun _ h9 => h9) rfl dX3_width_7 ?_
  refine lv_iload_n hx hb dX3_width_10 rfl (lv_at hl 1 rfl) ?_
  refine zild hx hb hE hP (r + 1) 4 (a_l hR) (by have := hR.lt; omega) f rfl (by omega) (by decide) dX3_width_11 ?_
  refine lv_isub hx hb dX3_width_12 (zti (v := zi ((X (r + 2) f) - (X (r + 1) f))) (zi_sub _ _) ?_)
  refine lv_iconst (v := zi 1) hx hb dX3_width_13 rfl ?_
  refine lv_iadd hx hb dX3_width_14 (zti (v := zi (((X (r + 2) f) - (X (r + 1) f)) + 1)) (zi_add _ _) ?_)
  exact zend_i hx hb hr hlocks hP hD hS (Nat.le_of_ble_eq_true rfl) (Nat.le_of_ble_eq_true rfl) dX3_width_15 ⟨_, rfl, rfl, rfl⟩

set_option maxHeartbeats 4000000 in
set_option maxRecDepth 100000 in
/-- has -/
theorem c_X3_has (l : Launch) (G : zG) (ad : Nat → Nat) (X : Nat → Nat → Int) (r : Nat) (f : Nat) (v : Int) (hV : zV X) (hR : zIsR r) (hf : f < 4) (hv : -2147483648 ≤ v ∧ v ≤ 2147483647) : zR l G yX3_has wsX3_has { frames := 0, cells := 0, slots := 0, locals := 0 } (zpic G ad X) [.ref (ad r), .int (zi (f : Int)), .int (zi v)] (zq G ad X (fun w => (w = 1 ∧ X (r + 1) f ≤ v ∧ v ≤ X (r + 2) f) ∨ (w = 0 ∧ ¬ (X (r + 1) f ≤ v ∧ v ≤ X (r + 2) f)))) 0 0 := by
  refine zR_of (cc := cX3_has) (maxL := 3) (rt := (some .boolean)) (by decide) rfl (Nat.le_of_ble_eq_true rfl) ?_
  intro p e s m below meth c A ls hx hb hml hr hts hown hlocks hin0 hA hE hP hD hS hl
  have hl : lv_has ls 3 [(0, .ref (ad r)), (1, .int (zi (f : Int))), (2, .int (zi v))] := hl
  have hown : s.vm.findClass RX3 = some m.cls := hown
  have hrf := hV.rf hR hf
  have hw3 : ∀ w ∈ u_ws RX3 TX3 4, w ∈ wsX3_has := by decide +kernel
  have hf9 := hts (.fieldLink RX3 9 "Nettle$Rule" "lows" "[I") (by decide +kernel)
  have hf15 := hts (.fieldLink RX3 15 "Nettle$Rule" "highs" "[I") (by decide +kernel)
  refine lv_aload_n hx hb dX3_has_0 rfl (lv_at hl 0 rfl) ?_
  refine va_get (D := G.1) (ci := 3) (v := .ref (ad (r + 1))) (C := RX3) (T := TX3) (N := 4) hx hb hts hw3 hown hE.1 hP r (p_r hR) rfl 2 (by decide) hf9 (fun _ h9 => h9) rfl dX3_has_1 ?_
  refine lv_iload_n hx hb dX3_has_4 rfl (lv_at hl 1 rfl) ?_
  refine zild hx hb hE hP (r + 1) 4 (a_l hR) (by have := hR.lt; omega) f rfl (by omega) (by decide) dX3_has_5 ?_
  refine lv_iload_n hx hb dX3_has_6 rfl (lv_at hl 2 rfl) ?_
  refine zc_gt (tgt := 24) hx hb dX3_has_7 (by decide) (by omega) (by omega) (fun h7 => ?_) (fun h7 => ?_)
  · refine lv_iconst (v := zi 0) hx hb dX3_has_24 rfl ?_
    exact zend_z hx hb hr hlocks (by decide +kernel) hP hD hS (Nat.le_of_ble_eq_true rfl) (Nat.le_of_ble_eq_true rfl) dX3_has_25 ⟨_, rfl, (by omega), rfl⟩
  · refine lv_iload_n hx hb dX3_has_10 rfl (lv_at hl 2 rfl) ?_
    refine lv_aload_n hx hb dX3_has_11 rfl (lv_at hl 0 rfl) ?_
    refine va_get (D := G.1) (ci := 3) (v := .ref (ad (r + 2))) (C := RX3) (T := TX3) (N := 4) hx hb hts hw3 hown hE.1 hP r (p_r hR) rfl 3 (by decide) hf15 (fun _ h9 => h9) rfl dX3_has_12 ?_
    refine lv_iload_n hx hb dX3_has_15 rfl (lv_at hl 1 rfl) ?_
    refine zild hx hb hE hP (r + 2) 4 (a_h hR) (by have := hR.lt; omega) f rfl (by omega) (by decide) dX3_has_16 ?_
    refine zc_gt (tgt := 24) hx hb dX3_has_17 (by decide) (by omega) (by omega) (fun h17 => ?_) (fun h17 => ?_)
    · refine lv_iconst (v := zi 0) hx hb dX3_has_24 rfl ?_
      exact zend_z hx hb hr hlocks (by decide +kernel) hP hD hS (Nat.le_of_ble_eq_true rfl) (Nat.le_of_ble_eq_true rfl) dX3_has_25 ⟨_, rfl, (by omega), rfl⟩
    · refine lv_iconst (v := zi 1) hx hb dX3_has_20 rfl ?_
      refine lv_goto (tgt := 25) hx hb dX3_has_21 (by decide) ?_
      exact zend_z hx hb hr hlocks (by decide +kernel) hP hD hS (Nat.le_of_ble_eq_true rfl) (Nat.le_of_ble_eq_true rfl) dX3_has_25 ⟨_, rfl, (by omega), rfl⟩

set_option maxHeartbeats 4000000 in
set_option maxRecDepth 100000 in
/-- isWholeFrom -/
theorem c_X3_isWholeFrom (l : Launch) (G : zG) (ad : Nat → Nat) (X : Nat → Nat → Int) (r : Nat) (f : Nat) (hV : zV X) (hR : zIsR r) (hf : f ≤ 4) : zR l G yX3_isWholeFrom wsX3_isWholeFrom { frames := 0, cells := 0, slots := 0, locals := 0 } (zpic G ad X) [.ref (ad r), .int (zi (f : Int))] (zq G ad X (fun w => (w = 1 ∧ zWhole X r f) ∨ (w = 0 ∧ ¬ zWhole X r f))) 0 0 := by
  refine zR_of (cc := cX3_isWholeFrom) (maxL := 3) (rt := (some .boolean)) (by decide) rfl (Nat.le_of_ble_eq_true rfl) ?_
  intro p e s m below meth c A ls hx hb hml hr hts hown hlocks hin0 hA hE hP hD hS hl
  have hl : lv_has ls 3 [(0, .ref (ad r)), (1, .int (zi (f : Int)))] := hl
  have hown : s.vm.findClass RX3 = some m.cls := hown
  have hw3 : ∀ w ∈ u_ws RX3 TX3 4, w ∈ wsX3_isWholeFrom := by decide +kernel
  have hf9 := hts (.fieldLink RX3 9 "Nettle$Rule" "lows" "[I") (by decide +kernel)
  have hf15 := hts (.fieldLink RX3 15 "Nettle$Rule" "highs" "[I") (by decide +kernel)
  refine lv_iload_n hx hb dX3_isWholeFrom_0 rfl (lv_at hl 1 rfl) ?_
  refine lv_istore_n (lv' := [(2, .int (zi (f : Int))), (0, .ref (ad r)), (1, .int (zi (f : Int)))]) hx hb dX3_isWholeFrom_1 rfl hl (by decide) rfl (fun ls hl => ?_)
  refine zloop1 (fun (g : Nat) => 4 - g) (fun (g : Nat) (H : Heap) (locs : List Loc) (ls : Array Slot) => va_P G.1 vwCl (zpic G ad X) H ∧ va_D A (zpic G ad X) ∧ va_S A s.heap H locs ∧ lv_has ls 3 [(2, .int (zi (g : Int))), (0, .ref (ad r))] ∧ (f ≤ g ∧ g ≤ 4) ∧ (∀ k : Nat, f ≤ k → k < g → X (r + 1) k = 0 ∧ X (r + 2) k = zS k - 1)) ?_ f ⟨hP, hD, hS, lv_sub hl [0, 1] rfl, ⟨Nat.le_refl _, hf⟩, (fun k h1 h2 => by omega)⟩
  intro g ih H locs ls ⟨hP, hD, hS, hl, hg, hw⟩
  refine lv_iload_n hx hb dX3_isWholeFrom_2 rfl (lv_at hl 0 rfl) ?_
  refine lv_iconst (v := zi 4) hx hb dX3_isWholeFrom_3 rfl ?_
  refine zc_ge (tgt := 40) hx hb dX3_isWholeFrom_4 (by decide) (by omega) (by decide) (fun h4 => ?_) (fun h4 => ?_)
  · refine lv_iconst (v := zi 1) hx hb dX3_isWholeFrom_40 rfl ?_
    exact zend_z hx hb hr hlocks (by decide +kernel) hP hD hS (Nat.le_of_ble_eq_true rfl) (Nat.le_of_ble_eq_true rfl) dX3_isWholeFrom_41 ⟨_, rfl, (Or.inl ⟨rfl, fun k h1 h2 => hw k h1 (by omega)⟩), rfl⟩
  · have hrf := hV.rf hR (show g < 4 by omega)
    refine lv_aload_n hx hb dX3_isWholeFrom_7 rfl (lv_at hl 1 rfl) ?_
    refine va_get (D := G.1) (ci := 3) (v := .ref (ad (r + 1))) (C := RX3) (T := TX3) (N := 4) hx hb hts hw3 hown hE.1 hP r (p_r hR) rfl 2 (by decide) hf9 (fun _ h9 => h9) rfl dX3_isWholeFrom_8 ?_
    refine lv_iload_n hx hb dX3_isWholeFrom_11 rfl (lv_at hl 0 rfl) ?_
    refine zild hx hb hE hP (r + 1) 4 (a_l hR) (by have := hR.lt; omega) g rfl (by omega) (by decide) dX3_isWholeFrom_12 ?_
    refine z0_ne (tgt := 32) hx hb dX3_isWholeFrom_13 (by decide) (by omega) (fun h13 => ?_) (fun h13 => ?_)
    · refine lv_iconst (v := zi 0) hx hb dX3_isWholeFrom_32 rfl ?_
      exact zend_z hx hb hr hlocks (by decide +kernel) hP hD hS (Nat.le_of_ble_eq_true rfl) (Nat.le_of_ble_eq_true rfl) dX3_isWholeFrom_33 ⟨_, rfl, (Or.inr ⟨rfl, fun q => by have := q g hg.1 (by omega); omega⟩), rfl⟩
    · refine lv_aload_n hx hb dX3_isWholeFrom_16 rfl (lv_at hl 1 rfl) ?_
      refine va_get (D := G.1) (ci := 3) (v := .ref (ad (r + 2))) (C := RX3) (T := TX3) (N := 4) hx hb hts hw3 hown hE.1 hP r (p_r hR) rfl 3 (by decide) hf15 (fun _ h9 => h9) rfl dX3_isWholeFrom_17 ?_
      refine lv_iload_n hx hb dX3_isWholeFrom_20 rfl (lv_at hl 0 rfl) ?_
      refine zild hx hb hE hP (r + 2) 4 (a_h hR) (by have := hR.lt; omega) g rfl (by omega) (by decide) dX3_isWholeFrom_21 ?_
      refine va_getsN hx hb hE.2.1.1 hS hown (va_Nw.use rfl hE.2.2.2.1.2.2.2.2.2.2.1) (fun _ h9 => h9) dX3_isWholeFrom_22 ?_
      refine lv_iload_n hx hb dX3_isWholeFrom_25 rfl (lv_at hl 0 rfl) ?_
      refine zsz_ld hx hb hE hS g rfl (by omega) dX3_isWholeFrom_26 ?_
      refine lv_iconst (v := zi 1) hx hb dX3_isWholeFrom_27 rfl ?_
      refine lv_isub hx hb dX3_isWholeFrom_28 (zti (v := zi ((zS g) - 1)) (zi_sub _ _) ?_)
      refine zc_eq (tgt := 34) hx hb dX3_isWholeFrom_29 (by decide) (by omega) (by omega) (fun h29 => ?_) (fun h29 => ?_)
      · refine lv_iinc (v := zi ((g : Int) + 1)) (lv' := [(2, .int (zi ((g : Int) + 1))), (0, .ref (ad r))]) hx hb dX3_isWholeFrom_34 hl (k := 0) rfl (zi_add _ _) (by decide) rfl (fun ls hl => ?_)
        refine lv_goto (tgt := 2) hx hb dX3_isWholeFrom_37 (by decide) ?_
        exact ih (g + 1) (by omega) H locs ls ⟨hP, hD, hS, lv_sub hl [0, 1] rfl, (by omega), (fun k h1 h2 => by rcases Nat.lt_or_eq_of_le (Nat.le_of_lt_succ h2) with hk | rfl; exact hw k h1 hk; exact ⟨by omega, by omega⟩)⟩
      · refine lv_iconst (v := zi 0) hx hb dX3_isWholeFrom_32 rfl ?_
        exact zend_z hx hb hr hlocks (by decide +kernel) hP hD hS (Nat.le_of_ble_eq_true rfl) (Nat.le_of_ble_eq_true rfl) dX3_isWholeFrom_33 ⟨_, rfl, (Or.inr ⟨rfl, fun q => by have := q g hg.1 (by omega); omega⟩), rfl⟩

set_option maxHeartbeats 4000000 in
set_option maxRecDepth 100000 in
/-- meets -/
theorem c_X3_meets (l : Launch) (G : zG) (ad : Nat → Nat) (X : Nat → Nat → Int) (r : Nat) (hV : zV X) (hR : zIsR r) (hp : zPk X) : zR l G yX3_meets wsX3_meets { frames := 1, cells := 0, slots := 0, locals := 22 } (zpic G ad X) [.ref (ad r), .ref (ad 70)] (zq G ad X (fun w => (w = 1 ∧ zMeets X r) ∨ (w = 0 ∧ ¬ zMeets X r))) 0 0 := by
  refine zR_of (cc := cX3_meets) (maxL := 3) (rt := (some .boolean)) (by decide) rfl (Nat.le_of_ble_eq_true rfl) ?_
  intro p e s m below meth c A ls hx hb hml hr hts hown hlocks hin0 hA hE hP hD hS hl
  have hl : lv_has ls 3 [(0, .ref (ad r)), (1, .ref (ad 70))] := hl
  have hown : s.vm.findClass RX3 = some m.cls := hown
  refine lv_iconst (v := zi 0) hx hb dX3_meets_0 rfl ?_
  refine lv_istore_n (lv' := [(2, .int (zi 0)), (0, .ref (ad r)), (1, .ref (ad 70))]) hx hb dX3_meets_1 rfl hl (by decide) rfl (fun ls hl => ?_)
  refine zloop1 (fun (g : Nat) => 4 - g) (fun (g : Nat) (H : Heap) (locs : List Loc) (ls : Array Slot) => va_P G.1 vwCl (zpic G ad X) H ∧ va_D A (zpic G ad X) ∧ va_S A s.heap H locs ∧ lv_has ls 3 [(2, .int (zi (g : Int))), (1, .ref (ad 70)), (0, .ref (ad r))] ∧ (g ≤ 4) ∧ (∀ k : Nat, k < g → X (r + 1) k ≤ X 70 k ∧ X 70 k ≤ X (r + 2) k)) ?_ 0 ⟨hP, hD, hS, lv_sub hl [0, 2, 1] rfl, (by omega), (fun k h1 => by omega)⟩
  intro g ih H locs ls ⟨hP, hD, hS, hl, hg, hw⟩
  refine lv_iload_n hx hb dX3_meets_2 rfl (lv_at hl 0 rfl) ?_
  refine lv_iconst (v := zi 4) hx hb dX3_meets_3 rfl ?_
  refine zc_ge (tgt := 26) hx hb dX3_meets_4 (by decide) (by omega) (by decide) (fun h4 => ?_) (fun h4 => ?_)
  · refine lv_iconst (v := zi 1) hx hb dX3_meets_26 rfl ?_
    exact zend_z hx hb hr hlocks (by decide +kernel) hP hD hS (Nat.le_of_ble_eq_true rfl) (Nat.le_of_ble_eq_true rfl) dX3_meets_27 ⟨_, rfl, (Or.inl ⟨rfl, fun k h1 => hw k (by omega)⟩), rfl⟩
  · have hpg := hp g (by omega)
    have hsg := zS_le g
    refine lv_aload_n hx hb dX3_meets_7 rfl (lv_at hl 2 rfl) ?_
    refine lv_iload_n hx hb dX3_meets_8 rfl (lv_at hl 0 rfl) ?_
    refine lv_aload_n hx hb dX3_meets_9 rfl (lv_at hl 1 rfl) ?_
    refine lv_iload_n hx hb dX3_meets_10 rfl (lv_at hl 0 rfl) ?_
    refine zild hx hb hE hP 70 4 (fun _ => rfl) (by decide) g rfl (by omega) (by decide) dX3_meets_11 ?_
    refine zcall (wr := []) (va_runV (As := [.int (zi (g : Int)), .int (zi (X 70 g))]) (rest := []) ⟨hx, hb, hml, hown, hts⟩ (c_X3_has l G ad X r g (X 70 g) hV hR (by omega) (by omega) H.size) (cwV 2 hts gX3_meets_X3_has rfl rfl rfl (by decide +kernel) ⟨Nat.le_of_ble_eq_true rfl, Nat.le_of_ble_eq_true rfl⟩) (zPreV (wr := []) (wc := zpic G ad X) (q0 := r) (ci := 3) (q := (RX3, TX3, 4)) hP hD hE hS hA rfl (p_r hR)) rfl rfl hl.1 rfl (lv_room (Nat.le_of_ble_eq_true rfl)) dX3_meets_12 ⟨Nat.le_of_ble_eq_true rfl, Nat.le_of_ble_eq_true rfl⟩) hP hD hS hA (fun _ _ H locs hf hP hD hS => ?_)
    obtain ⟨v1, rfl, hv1, rfl⟩ := hf
    have hP : va_P G.1 vwCl (zpic G ad X) H := hP
    have hD : va_D A (zpic G ad X) := hD
    refine W.eq (g2 := F0 m 15 ls [.int (zi v1)]) rfl ?_
    refine z0_ne (tgt := 20) hx hb dX3_meets_15 (by decide) (by omega) (fun h15 => ?_) (fun h15 => ?_)
    · refine lv_iinc (v := zi ((g : Int) + 1)) (lv' := [(2, .int (zi ((g : Int) + 1))), (1, .ref (ad 70)), (0, .ref (ad r))]) hx hb dX3_meets_20 hl (k := 0) rfl (zi_add _ _) (by decide) rfl (fun ls hl => ?_)
      refine lv_goto (tgt := 2) hx hb dX3_meets_23 (by decide) ?_
      exact ih (g + 1) (by omega) H locs ls ⟨hP, hD, hS, lv_sub hl [0, 1, 2] rfl, (by omega), (fun k h1 => by rcases Nat.lt_or_eq_of_le (Nat.le_of_lt_succ h1) with hk | rfl; exact hw k hk; omega)⟩
    · refine lv_iconst (v := zi 0) hx hb dX3_meets_18 rfl ?_
      exact zend_z hx hb hr hlocks (by decide +kernel) hP hD hS (Nat.le_of_ble_eq_true rfl) (Nat.le_of_ble_eq_true rfl) dX3_meets_19 ⟨_, rfl, (Or.inr ⟨rfl, fun q => by have := q g (by omega); omega⟩), rfl⟩

set_option maxHeartbeats 4000000 in
set_option maxRecDepth 100000 in
/-- covers -/
theorem c_X3_covers (l : Launch) (G : zG) (ad : Nat → Nat) (X : Nat → Nat → Int) (r : Nat) (q : Nat) (hV : zV X) (hR : zIsR r) (hQ : zIsR q) : zR l G yX3_covers wsX3_covers { frames := 0, cells := 0, slots := 0, locals := 0 } (zpic G ad X) [.ref (ad r), .ref (ad q)] (zq G ad X (fun w => (w = 1 ∧ zCov X r q) ∨ (w = 0 ∧ ¬ zCov X r q))) 0 0 := by
  refine zR_of (cc := cX3_covers) (maxL := 3) (rt := (some .boolean)) (by decide) rfl (Nat.le_of_ble_eq_true rfl) ?_
  intro p e s m below meth c A ls hx hb hml hr hts hown hlocks hin0 hA hE hP hD hS hl
  have hl : lv_has ls 3 [(0, .ref (ad r)), (1, .ref (ad q))] := hl
  have hown : s.vm.findClass RX3 = some m.cls := hown
  have hw3 : ∀ w ∈ u_ws RX3 TX3 4, w ∈ wsX3_covers := by decide +kernel
  have hf9 := hts (.fieldLink RX3 9 "Nettle$Rule" "lows" "[I") (by decide +kernel)
  have hf15 := hts (.fieldLink RX3 15 "Nettle$Rule" "highs" "[I") (by decide +kernel)
  refine lv_iconst (v := zi 0) hx hb dX3_covers_0 rfl ?_
  refine lv_istore_n (lv' := [(2, .int (zi 0)), (0, .ref (ad r)), (1, .ref (ad q))]) hx hb dX3_covers_1 rfl hl (by decide) rfl (fun ls hl => ?_)
  refine zloop1 (fun (g : Nat) => 4 - g) (fun (g : Nat) (H : Heap) (locs : List Loc) (ls : Array Slot) => va_P G.1 vwCl (zpic G ad X) H ∧ va_D A (zpic G ad X) ∧ va_S A s.heap H locs ∧ lv_has ls 3 [(2, .int (zi (g : Int))), (1, .ref (ad q)), (0, .ref (ad r))] ∧ (g ≤ 4) ∧ (∀ k : Nat, k < g → X (r + 1) k ≤ X (q + 1) k ∧ X (q + 2) k ≤ X (r + 2) k)) ?_ 0 ⟨hP, hD, hS, lv_sub hl [0, 2, 1] rfl, (by omega), (fun k h1 => by omega)⟩
  intro g ih H locs ls ⟨hP, hD, hS, hl, hg, hw⟩
  refine lv_iload_n hx hb dX3_covers_2 rfl (lv_at hl 0 rfl) ?_
  refine lv_iconst (v := zi 4) hx hb dX3_covers_3 rfl ?_
  refine zc_ge (tgt := 45) hx hb dX3_covers_4 (by decide) (by omega) (by decide) (fun h4 => ?_) (fun h4 => ?_)
  · refine lv_iconst (v := zi 1) hx hb dX3_covers_45 rfl ?_
    exact zend_z hx hb hr hlocks (by decide +kernel) hP hD hS (Nat.le_of_ble_eq_true rfl) (Nat.le_of_ble_eq_true rfl) dX3_covers_46 ⟨_, rfl, (Or.inl ⟨rfl, fun k h1 => hw k (by omega)⟩), rfl⟩
  · have hrf := hV.rf hR (show g < 4 by omega)
    have hqf := hV.rf hQ (show g < 4 by omega)
    refine lv_aload_n hx hb dX3_covers_7 rfl (lv_at hl 1 rfl) ?_
    refine va_get (D := G.1) (ci := 3) (v := .ref (ad (q + 1))) (C := RX3) (T := TX3) (N := 4) hx hb hts hw3 hown hE.1 hP q (p_r hQ) rfl 2 (by decide) hf9 (fun _ h9 => h9) rfl dX3_covers_8 ?_
    refine lv_iload_n hx hb dX3_covers_11 rfl (lv_at hl 0 rfl) ?_
    refine zild hx hb hE hP (q + 1) 4 (a_l hQ) (by have := hQ.lt; omega) g rfl (by omega) (by decide) dX3_covers_12 ?_
    refine lv_aload_n hx hb dX3_covers_13 rfl (lv_at hl 2 rfl) ?_
    refine va_get (D := G.1) (ci := 3) (v := .ref (ad (r + 1))) (C := RX3) (T := TX3) (N := 4) hx hb hts hw3 hown hE.1 hP r (p_r hR) rfl 2 (by decide) hf9 (fun _ h9 => h9) rfl dX3_covers_14 ?_
    refine lv_iload_n hx hb dX3_covers_17 rfl (lv_at hl 0 rfl) ?_
    refine zild hx hb hE hP (r + 1) 4 (a_l hR) (by have := hR.lt; omega) g rfl (by omega) (by decide) dX3_covers_18 ?_
    refine zc_lt (tgt := 37) hx hb dX3_covers_19 (by decide) (by omega) (by omega) (fun h19 => ?_) (fun h19 => ?_)
    · refine lv_iconst (v := zi 0) hx hb dX3_covers_37 rfl ?_
      exact zend_z hx hb hr hlocks (by decide +kernel) hP hD hS (Nat.le_of_ble_eq_true rfl) (Nat.le_of_ble_eq_true rfl) dX3_covers_38 ⟨_, rfl, (Or.inr ⟨rfl, fun z => by have := z g (by omega); omega⟩), rfl⟩
    · refine lv_aload_n hx hb dX3_covers_22 rfl (lv_at hl 1 rfl) ?_
      refine va_get (D := G.1) (ci := 3) (v := .ref (ad (q + 2))) (C := RX3) (T := TX3) (N := 4) hx hb hts hw3 hown hE.1 hP q (p_r hQ) rfl 3 (by decide) hf15 (fun _ h9 => h9) rfl dX3_covers_23 ?_
      refine lv_iload_n hx hb dX3_covers_26 rfl (lv_at hl 0 rfl) ?_
      refine zild hx hb hE hP (q + 2) 4 (a_h hQ) (by have := hQ.lt; omega) g rfl (by omega) (by decide) dX3_covers_27 ?_
      refine lv_aload_n hx hb dX3_covers_28 rfl (lv_at hl 2 rfl) ?_
      refine va_get (D := G.1) (ci := 3) (v := .ref (ad (r + 2))) (C := RX3) (T := TX3) (N := 4) hx hb hts hw3 hown hE.1 hP r (p_r hR) rfl 3 (by decide) hf15 (fun _ h9 => h9) rfl dX3_covers_29 ?_
      refine lv_iload_n hx hb dX3_covers_32 rfl (lv_at hl 0 rfl) ?_
      refine zild hx hb hE hP (r + 2) 4 (a_h hR) (by have := hR.lt; omega) g rfl (by omega) (by decide) dX3_covers_33 ?_
      refine zc_le (tgt := 39) hx hb dX3_covers_34 (by decide) (by omega) (by omega) (fun h34 => ?_) (fun h34 => ?_)
      · refine lv_iinc (v := zi ((g : Int) + 1)) (lv' := [(2, .int (zi ((g : Int) + 1))), (1, .ref (ad q)), (0, .ref (ad r))]) hx hb dX3_covers_39 hl (k := 0) rfl (zi_add _ _) (by decide) rfl (fun ls hl => ?_)
        refine lv_goto (tgt := 2) hx hb dX3_covers_42 (by decide) ?_
        exact ih (g + 1) (by omega) H locs ls ⟨hP, hD, hS, lv_sub hl [0, 1, 2] rfl, (by omega), (fun k h1 => by rcases Nat.lt_or_eq_of_le (Nat.le_of_lt_succ h1) with hk | rfl; exact hw k hk; omega)⟩
      · refine lv_iconst (v := zi 0) hx hb dX3_covers_37 rfl ?_
        exact zend_z hx hb hr hlocks (by decide +kernel) hP hD hS (Nat.le_of_ble_eq_true rfl) (Nat.le_of_ble_eq_true rfl) dX3_covers_38 ⟨_, rfl, (Or.inr ⟨rfl, fun z => by have := z g (by omega); omega⟩), rfl⟩

set_option maxHeartbeats 4000000 in
set_option maxRecDepth 100000 in
/-- amountWith -/
theorem c_X3_amountWith (l : Launch) (G : zG) (ad : Nat → Nat) (X : Nat → Nat → Int) (r : Nat) (q : Nat) (hV : zV X) (hR : zIsR r) (hQ : zIsR q) : zR l G yX3_amountWith wsX3_amountWith { frames := 1, cells := 0, slots := 0, locals := 15 } (zpic G ad X) [.ref (ad r), .ref (ad q)] (zq G ad X (fun w => w = zAW X r q ∧ 0 ≤ w ∧ w ≤ 268435456)) 0 0 := by
  refine zR_of (cc := cX3_amountWith) (maxL := 6) (rt := (some .int)) (by decide) rfl (Nat.le_of_ble_eq_true rfl) ?_
  intro p e s m below meth c A ls hx hb hml hr hts hown hlocks hin0 hA hE hP hD hS hl
  have hl : lv_has ls 6 [(0, .ref (ad r)), (1, .ref (ad q))] := hl
  have hown : s.vm.findClass RX3 = some m.cls := hown
  have hr4 := hV.r4 hR
  have hq4 := hV.r4 hQ
  have hw3 : ∀ w ∈ u_ws RX3 TX3 4, w ∈ wsX3_amountWith := by decide +kernel
  have hf9 := hts (.fieldLink RX3 9 "Nettle$Rule" "lows" "[I") (by decide +kernel)
  have hmamax := hts (.code Lib.Math.max.name Lib.Math.max.code 2 (some .int)) (by decide +kernel)
  have hml32 := hts (.methodLink RX3 32 Lib.Math.max.name) (by decide +kernel)
  have hstmax := hts (.static Lib.Math.max.name) (by decide +kernel)
  have hiniMath := hts (.initialized "java/lang/Math") (by decide +kernel)
  have hf15 := hts (.fieldLink RX3 15 "Nettle$Rule" "highs" "[I") (by decide +kernel)
  have hmamin := hts (.code Lib.Math.min.name Lib.Math.min.code 2 (some .int)) (by decide +kernel)
  have hml38 := hts (.methodLink RX3 38 Lib.Math.min.name) (by decide +kernel)
  have hstmin := hts (.static Lib.Math.min.name) (by decide +kernel)
  refine lv_iconst (v := zi 1) hx hb dX3_amountWith_0 rfl ?_
  refine lv_istore_n (lv' := [(2, .int (zi 1)), (0, .ref (ad r)), (1, .ref (ad q))]) hx hb dX3_amountWith_1 rfl hl (by decide) rfl (fun ls hl => ?_)
  refine lv_iconst (v := zi 0) hx hb dX3_amountWith_2 rfl ?_
  refine lv_istore_n (lv' := [(3, .int (zi 0)), (2, .int (zi 1)), (0, .ref (ad r)), (1, .ref (ad q))]) hx hb dX3_amountWith_3 rfl hl (by decide) rfl (fun ls hl => ?_)
  refine lv_iload_n hx hb dX3_amountWith_4 rfl (lv_at hl 0 rfl) ?_
  refine lv_iconst (v := zi 4) hx hb dX3_amountWith_5 rfl ?_
  refine zc_ge (tgt := 63) hx hb dX3_amountWith_6 (by decide) (by decide) (by decide) (fun h9 => absurd h9 (by decide)) (fun h6 => ?_)
  refine lv_aload_n hx hb dX3_amountWith_9 rfl (lv_at hl 2 rfl) ?_
  refine va_get (D := G.1) (ci := 3) (v := .ref (ad (r + 1))) (C := RX3) (T := TX3) (N := 4) hx hb hts hw3 hown hE.1 hP r (p_r hR) rfl 2 (by decide) hf9 (fun _ h9 => h9) rfl dX3_amountWith_10 ?_
  refine lv_iload_n hx hb dX3_amountWith_13 rfl (lv_at hl 0 rfl) ?_
  refine zild hx hb hE hP (r + 1) 4 (a_l hR) (by have := hR.lt; omega) 0 rfl (by decide) (by decide) dX3_amountWith_14 ?_
  refine lv_aload_n hx hb dX3_amountWith_15 rfl (lv_at hl 3 rfl) ?_
  refine va_get (D := G.1) (ci := 3) (v := .ref (ad (q + 1))) (C := RX3) (T := TX3) (N := 4) hx hb hts hw3 hown hE.1 hP q (p_r hQ) rfl 2 (by decide) hf9 (fun _ h9 => h9) rfl dX3_amountWith_16 ?_
  refine lv_iload_n hx hb dX3_amountWith_19 rfl (lv_at hl 0 rfl) ?_
  refine zild hx hb hE hP (q + 1) 4 (a_l hQ) (by have := hQ.lt; omega) 0 rfl (by decide) (by decide) dX3_amountWith_20 ?_
  refine va_mmax hx hb (hml.trans hl.1.symm) hown hml32 hstmax hiniMath hmamax (Nat.le_of_ble_eq_true rfl) (Nat.le_of_ble_eq_true rfl) (Nat.le_of_ble_eq_true rfl) (Nat.le_of_ble_eq_true rfl) dX3_amountWith_21 ?_
  refine zti (v := zi (max (X (r + 1) 0) (X (q + 1) 0))) (zi_max (by omega) (by omega)) ?_
  refine lv_istore (lv' := [(4, .int (zi (max (X (r + 1) 0) (X (q + 1) 0)))), (3, .int (zi 0)), (2, .int (zi 1)), (0, .ref (ad r)), (1, .ref (ad q))]) hx hb dX3_amountWith_24 hl (by decide) rfl (fun ls hl => ?_)
  refine lv_aload_n hx hb dX3_amountWith_26 rfl (lv_at hl 3 rfl) ?_
  refine va_get (D := G.1) (ci := 3) (v := .ref (ad (r + 2))) (C := RX3) (T := TX3) (N := 4) hx hb hts hw3 hown hE.1 hP r (p_r hR) rfl 3 (by decide) hf15 (fun _ h9 => h9) rfl dX3_amountWith_27 ?_
  refine lv_iload_n hx hb dX3_amountWith_30 rfl (lv_at hl 1 rfl) ?_
  refine zild hx hb hE hP (r + 2) 4 (a_h hR) (by have := hR.lt; omega) 0 rfl (by decide) (by decide) dX3_amountWith_31 ?_
  refine lv_aload_n hx hb dX3_amountWith_32 rfl (lv_at hl 4 rfl) ?_
  refine va_get (D := G.1) (ci := 3) (v := .ref (ad (q + 2))) (C := RX3) (T := TX3) (N := 4) hx hb hts hw3 hown hE.1 hP q (p_r hQ) rfl 3 (by decide) hf15 (fun _ h9 => h9) rfl dX3_amountWith_33 ?_
  refine lv_iload_n hx hb dX3_amountWith_36 rfl (lv_at hl 1 rfl) ?_
  refine zild hx hb hE hP (q + 2) 4 (a_h hQ) (by have := hQ.lt; omega) 0 rfl (by decide) (by decide) dX3_amountWith_37 ?_
  refine va_mmin hx hb (hml.trans hl.1.symm) hown hml38 hstmin hiniMath hmamin (Nat.le_of_ble_eq_true rfl) (Nat.le_of_ble_eq_true rfl) (Nat.le_of_ble_eq_true rfl) (Nat.le_of_ble_eq_true rfl) dX3_amountWith_38 ?_
  refine zti (v := zi (min (X (r + 2) 0) (X (q + 2) 0))) (zi_min (by omega) (by omega)) ?_
  refine lv_istore (lv' := [(5, .int (zi (min (X (r + 2) 0) (X (q + 2) 0)))), (4, .int (zi (max (X (r + 1) 0) (X (q + 1) 0)))), (3, .int (zi 0)), (2, .int (zi 1)), (0, .ref (ad r)), (1, .ref (ad q))]) hx hb dX3_amountWith_41 hl (by decide) rfl (fun ls hl => ?_)
  refine lv_iload_n hx hb dX3_amountWith_43 rfl (lv_at hl 3 rfl) ?_
  refine lv_iconst (v := zi 0) hx hb dX3_amountWith_44 rfl ?_
  refine lv_iload hx hb dX3_amountWith_45 (lv_at hl 0 rfl) ?_
  refine lv_iload hx hb dX3_amountWith_47 (lv_at hl 1 rfl) ?_
  refine lv_isub hx hb dX3_amountWith_49 (zti (v := zi ((min (X (r + 2) 0) (X (q + 2) 0)) - (max (X (r + 1) 0) (X (q + 1) 0)))) (zi_sub _ _) ?_)
  refine lv_iconst (v := zi 1) hx hb dX3_amountWith_50 rfl ?_
  refine lv_iadd hx hb dX3_amountWith_51 (zti (v := zi (((min (X (r + 2) 0) (X (q + 2) 0)) - (max (X (r + 1) 0) (X (q + 1) 0))) + 1)) (zi_add _ _) ?_)
  refine va_mmax hx hb (hml.trans hl.1.symm) hown hml32 hstmax hiniMath hmamax (Nat.le_of_ble_eq_true rfl) (Nat.le_of_ble_eq_true rfl) (Nat.le_of_ble_eq_true rfl) (Nat.le_of_ble_eq_true rfl) dX3_amountWith_52 ?_
  refine zti (v := zi (max 0 (((min (X (r + 2) 0) (X (q + 2) 0)) - (max (X (r + 1) 0) (X (q + 1) 0))) + 1))) (zi_max (by decide) (by omega)) ?_
  refine lv_imul hx hb dX3_amountWith_55 (zti (v := zi (1 * (max 0 (((min (X (r + 2) 0) (X (q + 2) 0)) - (max (X (r + 1) 0) (X (q + 1) 0))) + 1)))) (zi_mul _ _) ?_)
  refine lv_istore_n (lv' := [(2, .int (zi (1 * (max 0 (((min (X (r + 2) 0) (X (q + 2) 0)) - (max (X (r + 1) 0) (X (q + 1) 0))) + 1))))), (5, .int (zi (min (X (r + 2) 0) (X (q + 2) 0)))), (4, .int (zi (max (X (r + 1) 0) (X (q + 1) 0)))), (3, .int (zi 0)), (0, .ref (ad r)), (1, .ref (ad q))]) hx hb dX3_amountWith_56 rfl hl (by decide) rfl (fun ls hl => ?_)
  refine lv_iinc (v := zi 1) (lv' := [(3, .int (zi 1)), (2, .int (zi (1 * (max 0 (((min (X (r + 2) 0) (X (q + 2) 0)) - (max (X (r + 1) 0) (X (q + 1) 0))) + 1))))), (5, .int (zi (min (X (r + 2) 0) (X (q + 2) 0)))), (4, .int (zi (max (X (r + 1) 0) (X (q + 1) 0)))), (0, .ref (ad r)), (1, .ref (ad q))]) hx hb dX3_amountWith_57 hl (k := 3) rfl (zi_add _ _) (by decide) rfl (fun ls hl => ?_)
  refine lv_goto (tgt := 4) hx hb dX3_amountWith_60 (by decide) ?_
  refine lv_iload_n hx hb dX3_amountWith_4 rfl (lv_at hl 0 rfl) ?_
  refine lv_iconst (v := zi 4) hx hb dX3_amountWith_5 rfl ?_
  refine zc_ge (tgt := 63) hx hb dX3_amountWith_6 (by decide) (by decide) (by decide) (fun h9 => absurd h9 (by decide)) (fun h6 => ?_)
  refine lv_aload_n hx hb dX3_amountWith_9 rfl (lv_at hl 4 rfl) ?_
  refine va_get (D := G.1) (ci := 3) (v := .ref (ad (r + 1))) (C := RX3) (T := TX3) (N := 4) hx hb hts hw3 hown hE.1 hP r (p_r hR) rfl 2 (by decide) hf9 (fun _ h9 => h9) rfl dX3_amountWith_10 ?_
  refine lv_iload_n hx hb dX3_amountWith_13 rfl (lv_at hl 0 rfl) ?_
  refine zild hx hb hE hP (r + 1) 4 (a_l hR) (by have := hR.lt; omega) 1 rfl (by decide) (by decide) dX3_amountWith_14 ?_
  refine lv_aload_n hx hb dX3_amountWith_15 rfl (lv_at hl 5 rfl) ?_
  refine va_get (D := G.1) (ci := 3) (v := .ref (ad (q + 1))) (C := RX3) (T := TX3) (N := 4) hx hb hts hw3 hown hE.1 hP q (p_r hQ) rfl 2 (by decide) hf9 (fun _ h9 => h9) rfl dX3_amountWith_16 ?_
  refine lv_iload_n hx hb dX3_amountWith_19 rfl (lv_at hl 0 rfl) ?_
  refine zild hx hb hE hP (q + 1) 4 (a_l hQ) (by have := hQ.lt; omega) 1 rfl (by decide) (by decide) dX3_amountWith_20 ?_
  refine va_mmax hx hb (hml.trans hl.1.symm) hown hml32 hstmax hiniMath hmamax (Nat.le_of_ble_eq_true rfl) (Nat.le_of_ble_eq_true rfl) (Nat.le_of_ble_eq_true rfl) (Nat.le_of_ble_eq_true rfl) dX3_amountWith_21 ?_
  refine zti (v := zi (max (X (r + 1) 1) (X (q + 1) 1))) (zi_max (by omega) (by omega)) ?_
  refine lv_istore (lv' := [(4, .int (zi (max (X (r + 1) 1) (X (q + 1) 1)))), (3, .int (zi 1)), (2, .int (zi (1 * (max 0 (((min (X (r + 2) 0) (X (q + 2) 0)) - (max (X (r + 1) 0) (X (q + 1) 0))) + 1))))), (5, .int (zi (min (X (r + 2) 0) (X (q + 2) 0)))), (0, .ref (ad r)), (1, .ref (ad q))]) hx hb dX3_amountWith_24 hl (by decide) rfl (fun ls hl => ?_)
  refine lv_aload_n hx hb dX3_amountWith_26 rfl (lv_at hl 4 rfl) ?_
  refine va_get (D := G.1) (ci := 3) (v := .ref (ad (r + 2))) (C := RX3) (T := TX3) (N := 4) hx hb hts hw3 hown hE.1 hP r (p_r hR) rfl 3 (by decide) hf15 (fun _ h9 => h9) rfl dX3_amountWith_27 ?_
  refine lv_iload_n hx hb dX3_amountWith_30 rfl (lv_at hl 1 rfl) ?_
  refine zild hx hb hE hP (r + 2) 4 (a_h hR) (by have := hR.lt; omega) 1 rfl (by decide) (by decide) dX3_amountWith_31 ?_
  refine lv_aload_n hx hb dX3_amountWith_32 rfl (lv_at hl 5 rfl) ?_
  refine va_get (D := G.1) (ci := 3) (v := .ref (ad (q + 2))) (C := RX3) (T := TX3) (N := 4) hx hb hts hw3 hown hE.1 hP q (p_r hQ) rfl 3 (by decide) hf15 (fun _ h9 => h9) rfl dX3_amountWith_33 ?_
  refine lv_iload_n hx hb dX3_amountWith_36 rfl (lv_at hl 1 rfl) ?_
  refine zild hx hb hE hP (q + 2) 4 (a_h hQ) (by have := hQ.lt; omega) 1 rfl (by decide) (by decide) dX3_amountWith_37 ?_
  refine va_mmin hx hb (hml.trans hl.1.symm) hown hml38 hstmin hiniMath hmamin (Nat.le_of_ble_eq_true rfl) (Nat.le_of_ble_eq_true rfl) (Nat.le_of_ble_eq_true rfl) (Nat.le_of_ble_eq_true rfl) dX3_amountWith_38 ?_
  refine zti (v := zi (min (X (r + 2) 1) (X (q + 2) 1))) (zi_min (by omega) (by omega)) ?_
  refine lv_istore (lv' := [(5, .int (zi (min (X (r + 2) 1) (X (q + 2) 1)))), (4, .int (zi (max (X (r + 1) 1) (X (q + 1) 1)))), (3, .int (zi 1)), (2, .int (zi (1 * (max 0 (((min (X (r + 2) 0) (X (q + 2) 0)) - (max (X (r + 1) 0) (X (q + 1) 0))) + 1))))), (0, .ref (ad r)), (1, .ref (ad q))]) hx hb dX3_amountWith_41 hl (by decide) rfl (fun ls hl => ?_)
  refine lv_iload_n hx hb dX3_amountWith_43 rfl (lv_at hl 3 rfl) ?_
  refine lv_iconst (v := zi 0) hx hb dX3_amountWith_44 rfl ?_
  refine lv_iload hx hb dX3_amountWith_45 (lv_at hl 0 rfl) ?_
  refine lv_iload hx hb dX3_amountWith_47 (lv_at hl 1 rfl) ?_
  refine lv_isub hx hb dX3_amountWith_49 (zti (v := zi ((min (X (r + 2) 1) (X (q + 2) 1)) - (max (X (r + 1) 1) (X (q + 1) 1)))) (zi_sub _ _) ?_)
  refine lv_iconst (v := zi 1) hx hb dX3_amountWith_50 rfl ?_
  refine lv_iadd hx hb dX3_amountWith_51 (zti (v := zi (((min (X (r + 2) 1) (X (q + 2) 1)) - (max (X (r + 1) 1) (X (q + 1) 1))) + 1)) (zi_add _ _) ?_)
  refine va_mmax hx hb (hml.trans hl.1.symm) hown hml32 hstmax hiniMath hmamax (Nat.le_of_ble_eq_true rfl) (Nat.le_of_ble_eq_true rfl) (Nat.le_of_ble_eq_true rfl) (Nat.le_of_ble_eq_true rfl) dX3_amountWith_52 ?_
  refine zti (v := zi (max 0 (((min (X (r + 2) 1) (X (q + 2) 1)) - (max (X (r + 1) 1) (X (q + 1) 1))) + 1))) (zi_max (by decide) (by omega)) ?_
  refine lv_imul hx hb dX3_amountWith_55 (zti (v := zi ((1 * (max 0 (((min (X (r + 2) 0) (X (q + 2) 0)) - (max (X (r + 1) 0) (X (q + 1) 0))) + 1))) * (max 0 (((min (X (r + 2) 1) (X (q + 2) 1)) - (max (X (r + 1) 1) (X (q + 1) 1))) + 1)))) (zi_mul _ _) ?_)
  refine lv_istore_n (lv' := [(2, .int (zi ((1 * (max 0 (((min (X (r + 2) 0) (X (q + 2) 0)) - (max (X (r + 1) 0) (X (q + 1) 0))) + 1))) * (max 0 (((min (X (r + 2) 1) (X (q + 2) 1)) - (max (X (r + 1) 1) (X (q + 1) 1))) + 1))))), (5, .int (zi (min (X (r + 2) 1) (X (q + 2) 1)))), (4, .int (zi (max (X (r + 1) 1) (X (q + 1) 1)))), (3, .int (zi 1)), (0, .ref (ad r)), (1, .ref (ad q))]) hx hb dX3_amountWith_56 rfl hl (by decide) rfl (fun ls hl => ?_)
  refine lv_iinc (v := zi 2) (lv' := [(3, .int (zi 2)), (2, .int (zi ((1 * (max 0 (((min (X (r + 2) 0) (X (q + 2) 0)) - (max (X (r + 1) 0) (X (q + 1) 0))) + 1))) * (max 0 (((min (X (r + 2) 1) (X (q + 2) 1)) - (max (X (r + 1) 1) (X (q + 1) 1))) + 1))))), (5, .int (zi (min (X (r + 2) 1) (X (q + 2) 1)))), (4, .int (zi (max (X (r + 1) 1) (X (q + 1) 1)))), (0, .ref (ad r)), (1, .ref (ad q))]) hx hb dX3_amountWith_57 hl (k := 3) rfl (zi_add _ _) (by decide) rfl (fun ls hl => ?_)
  refine lv_goto (tgt := 4) hx hb dX3_amountWith_60 (by decide) ?_
  refine lv_iload_n hx hb dX3_amountWith_4 rfl (lv_at hl 0 rfl) ?_
  refine lv_iconst (v := zi 4) hx hb dX3_amountWith_5 rfl ?_
  refine zc_ge (tgt := 63) hx hb dX3_amountWith_6 (by decide) (by decide) (by decide) (fun h9 => absurd h9 (by decide)) (fun h6 => ?_)
  refine lv_aload_n hx hb dX3_amountWith_9 rfl (lv_at hl 4 rfl) ?_
  refine va_get (D := G.1) (ci := 3) (v := .ref (ad (r + 1))) (C := RX3) (T := TX3) (N := 4) hx hb hts hw3 hown hE.1 hP r (p_r hR) rfl 2 (by decide) hf9 (fun _ h9 => h9) rfl dX3_amountWith_10 ?_
  refine lv_iload_n hx hb dX3_amountWith_13 rfl (lv_at hl 0 rfl) ?_
  refine zild hx hb hE hP (r + 1) 4 (a_l hR) (by have := hR.lt; omega) 2 rfl (by decide) (by decide) dX3_amountWith_14 ?_
  refine lv_aload_n hx hb dX3_amountWith_15 rfl (lv_at hl 5 rfl) ?_
  refine va_get (D := G.1) (ci := 3) (v := .ref (ad (q + 1))) (C := RX3) (T := TX3) (N := 4) hx hb hts hw3 hown hE.1 hP q (p_r hQ) rfl 2 (by decide) hf9 (fun _ h9 => h9) rfl dX3_amountWith_16 ?_
  refine lv_iload_n hx hb dX3_amountWith_19 rfl (lv_at hl 0 rfl) ?_
  refine zild hx hb hE hP (q + 1) 4 (a_l hQ) (by have := hQ.lt; omega) 2 rfl (by decide) (by decide) dX3_amountWith_20 ?_
  refine va_mmax hx hb (hml.trans hl.1.symm) hown hml32 hstmax hiniMath hmamax (Nat.le_of_ble_eq_true rfl) (Nat.le_of_ble_eq_true rfl) (Nat.le_of_ble_eq_true rfl) (Nat.le_of_ble_eq_true rfl) dX3_amountWith_21 ?_
  refine zti (v := zi (max (X (r + 1) 2) (X (q + 1) 2))) (zi_max (by omega) (by omega)) ?_
  refine lv_istore (lv' := [(4, .int (zi (max (X (r + 1) 2) (X (q + 1) 2)))), (3, .int (zi 2)), (2, .int (zi ((1 * (max 0 (((min (X (r + 2) 0) (X (q + 2) 0)) - (max (X (r + 1) 0) (X (q + 1) 0))) + 1))) * (max 0 (((min (X (r + 2) 1) (X (q + 2) 1)) - (max (X (r + 1) 1) (X (q + 1) 1))) + 1))))), (5, .int (zi (min (X (r + 2) 1) (X (q + 2) 1)))), (0, .ref (ad r)), (1, .ref (ad q))]) hx hb dX3_amountWith_24 hl (by decide) rfl (fun ls hl => ?_)
  refine lv_aload_n hx hb dX3_amountWith_26 rfl (lv_at hl 4 rfl) ?_
  refine va_get (D := G.1) (ci := 3) (v := .ref (ad (r + 2))) (C := RX3) (T := TX3) (N := 4) hx hb hts hw3 hown hE.1 hP r (p_r hR) rfl 3 (by decide) hf15 (fun _ h9 => h9) rfl dX3_amountWith_27 ?_
  refine lv_iload_n hx hb dX3_amountWith_30 rfl (lv_at hl 1 rfl) ?_
  refine zild hx hb hE hP (r + 2) 4 (a_h hR) (by have := hR.lt; omega) 2 rfl (by decide) (by decide) dX3_amountWith_31 ?_
  refine lv_aload_n hx hb dX3_amountWith_32 rfl (lv_at hl 5 rfl) ?_
  refine va_get (D := G.1) (ci := 3) (v := .ref (ad (q + 2))) (C := RX3) (T := TX3) (N := 4) hx hb hts hw3 hown hE.1 hP q (p_r hQ) rfl 3 (by decide) hf15 (fun _ h9 => h9) rfl dX3_amountWith_33 ?_
  refine lv_iload_n hx hb dX3_amountWith_36 rfl (lv_at hl 1 rfl) ?_
  refine zild hx hb hE hP (q + 2) 4 (a_h hQ) (by have := hQ.lt; omega) 2 rfl (by decide) (by decide) dX3_amountWith_37 ?_
  refine va_mmin hx hb (hml.trans hl.1.symm) hown hml38 hstmin hiniMath hmamin (Nat.le_of_ble_eq_true rfl) (Nat.le_of_ble_eq_true rfl) (Nat.le_of_ble_eq_true rfl) (Nat.le_of_ble_eq_true rfl) dX3_amountWith_38 ?_
  refine zti (v := zi (min (X (r + 2) 2) (X (q + 2) 2))) (zi_min (by omega) (by omega)) ?_
  refine lv_istore (lv' := [(5, .int (zi (min (X (r + 2) 2) (X (q + 2) 2)))), (4, .int (zi (max (X (r + 1) 2) (X (q + 1) 2)))), (3, .int (zi 2)), (2, .int (zi ((1 * (max 0 (((min (X (r + 2) 0) (X (q + 2) 0)) - (max (X (r + 1) 0) (X (q + 1) 0))) + 1))) * (max 0 (((min (X (r + 2) 1) (X (q + 2) 1)) - (max (X (r + 1) 1) (X (q + 1) 1))) + 1))))), (0, .ref (ad r)), (1, .ref (ad q))]) hx hb dX3_amountWith_41 hl (by decide) rfl (fun ls hl => ?_)
  refine lv_iload_n hx hb dX3_amountWith_43 rfl (lv_at hl 3 rfl) ?_
  refine lv_iconst (v := zi 0) hx hb dX3_amountWith_44 rfl ?_
  refine lv_iload hx hb dX3_amountWith_45 (lv_at hl 0 rfl) ?_
  refine lv_iload hx hb dX3_amountWith_47 (lv_at hl 1 rfl) ?_
  refine lv_isub hx hb dX3_amountWith_49 (zti (v := zi ((min (X (r + 2) 2) (X (q + 2) 2)) - (max (X (r + 1) 2) (X (q + 1) 2)))) (zi_sub _ _) ?_)
  refine lv_iconst (v := zi 1) hx hb dX3_amountWith_50 rfl ?_
  refine lv_iadd hx hb dX3_amountWith_51 (zti (v := zi (((min (X (r + 2) 2) (X (q + 2) 2)) - (max (X (r + 1) 2) (X (q + 1) 2))) + 1)) (zi_add _ _) ?_)
  refine va_mmax hx hb (hml.trans hl.1.symm) hown hml32 hstmax hiniMath hmamax (Nat.le_of_ble_eq_true rfl) (Nat.le_of_ble_eq_true rfl) (Nat.le_of_ble_eq_true rfl) (Nat.le_of_ble_eq_true rfl) dX3_amountWith_52 ?_
  refine zti (v := zi (max 0 (((min (X (r + 2) 2) (X (q + 2) 2)) - (max (X (r + 1) 2) (X (q + 1) 2))) + 1))) (zi_max (by decide) (by omega)) ?_
  refine lv_imul hx hb dX3_amountWith_55 (zti (v := zi (((1 * (max 0 (((min (X (r + 2) 0) (X (q + 2) 0)) - (max (X (r + 1) 0) (X (q + 1) 0))) + 1))) * (max 0 (((min (X (r + 2) 1) (X (q + 2) 1)) - (max (X (r + 1) 1) (X (q + 1) 1))) + 1))) * (max 0 (((min (X (r + 2) 2) (X (q + 2) 2)) - (max (X (r + 1) 2) (X (q + 1) 2))) + 1)))) (zi_mul _ _) ?_)
  refine lv_istore_n (lv' := [(2, .int (zi (((1 * (max 0 (((min (X (r + 2) 0) (X (q + 2) 0)) - (max (X (r + 1) 0) (X (q + 1) 0))) + 1))) * (max 0 (((min (X (r + 2) 1) (X (q + 2) 1)) - (max (X (r + 1) 1) (X (q + 1) 1))) + 1))) * (max 0 (((min (X (r + 2) 2) (X (q + 2) 2)) - (max (X (r + 1) 2) (X (q + 1) 2))) + 1))))), (5, .int (zi (min (X (r + 2) 2) (X (q + 2) 2)))), (4, .int (zi (max (X (r + 1) 2) (X (q + 1) 2)))), (3, .int (zi 2)), (0, .ref (ad r)), (1, .ref (ad q))]) hx hb dX3_amountWith_56 rfl hl (by decide) rfl (fun ls hl => ?_)
  refine lv_iinc (v := zi 3) (lv' := [(3, .int (zi 3)), (2, .int (zi (((1 * (max 0 (((min (X (r + 2) 0) (X (q + 2) 0)) - (max (X (r + 1) 0) (X (q + 1) 0))) + 1))) * (max 0 (((min (X (r + 2) 1) (X (q + 2) 1)) - (max (X (r + 1) 1) (X (q + 1) 1))) + 1))) * (max 0 (((min (X (r + 2) 2) (X (q + 2) 2)) - (max (X (r + 1) 2) (X (q + 1) 2))) + 1))))), (5, .int (zi (min (X (r + 2) 2) (X (q + 2) 2)))), (4, .int (zi (max (X (r + 1) 2) (X (q + 1) 2)))), (0, .ref (ad r)), (1, .ref (ad q))]) hx hb dX3_amountWith_57 hl (k := 3) rfl (zi_add _ _) (by decide) rfl (fun ls hl => ?_)
  refine lv_goto (tgt := 4) hx hb dX3_amountWith_60 (by decide) ?_
  refine lv_iload_n hx hb dX3_amountWith_4 rfl (lv_at hl 0 rfl) ?_
  refine lv_iconst (v := zi 4) hx hb dX3_amountWith_5 rfl ?_
  refine zc_ge (tgt := 63) hx hb dX3_amountWith_6 (by decide) (by decide) (by decide) (fun h9 => absurd h9 (by decide)) (fun h6 => ?_)
  refine lv_aload_n hx hb dX3_amountWith_9 rfl (lv_at hl 4 rfl) ?_
  refine va_get (D := G.1) (ci := 3) (v := .ref (ad (r + 1))) (C := RX3) (T := TX3) (N := 4) hx hb hts hw3 hown hE.1 hP r (p_r hR) rfl 2 (by decide) hf9 (fun _ h9 => h9) rfl dX3_amountWith_10 ?_
  refine lv_iload_n hx hb dX3_amountWith_13 rfl (lv_at hl 0 rfl) ?_
  refine zild hx hb hE hP (r + 1) 4 (a_l hR) (by have := hR.lt; omega) 3 rfl (by decide) (by decide) dX3_amountWith_14 ?_
  refine lv_aload_n hx hb dX3_amountWith_15 rfl (lv_at hl 5 rfl) ?_
  refine va_get (D := G.1) (ci := 3) (v := .ref (ad (q + 1))) (C := RX3) (T := TX3) (N := 4) hx hb hts hw3 hown hE.1 hP q (p_r hQ) rfl 2 (by decide) hf9 (fun _ h9 => h9) rfl dX3_amountWith_16 ?_
  refine lv_iload_n hx hb dX3_amountWith_19 rfl (lv_at hl 0 rfl) ?_
  refine zild hx hb hE hP (q + 1) 4 (a_l hQ) (by have := hQ.lt; omega) 3 rfl (by decide) (by decide) dX3_amountWith_20 ?_
  refine va_mmax hx hb (hml.trans hl.1.symm) hown hml32 hstmax hiniMath hmamax (Nat.le_of_ble_eq_true rfl) (Nat.le_of_ble_eq_true rfl) (Nat.le_of_ble_eq_true rfl) (Nat.le_of_ble_eq_true rfl) dX3_amountWith_21 ?_
  refine zti (v := zi (max (X (r + 1) 3) (X (q + 1) 3))) (zi_max (by omega) (by omega)) ?_
  refine lv_istore (lv' := [(4, .int (zi (max (X (r + 1) 3) (X (q + 1) 3)))), (3, .int (zi 3)), (2, .int (zi (((1 * (max 0 (((min (X (r + 2) 0) (X (q + 2) 0)) - (max (X (r + 1) 0) (X (q + 1) 0))) + 1))) * (max 0 (((min (X (r + 2) 1) (X (q + 2) 1)) - (max (X (r + 1) 1) (X (q + 1) 1))) + 1))) * (max 0 (((min (X (r + 2) 2) (X (q + 2) 2)) - (max (X (r + 1) 2) (X (q + 1) 2))) + 1))))), (5, .int (zi (min (X (r + 2) 2) (X (q + 2) 2)))), (0, .ref (ad r)), (1, .ref (ad q))]) hx hb dX3_amountWith_24 hl (by decide) rfl (fun ls hl => ?_)
  refine lv_aload_n hx hb dX3_amountWith_26 rfl (lv_at hl 4 rfl) ?_
  refine va_get (D := G.1) (ci := 3) (v := .ref (ad (r + 2))) (C := RX3) (T := TX3) (N := 4) hx hb hts hw3 hown hE.1 hP r (p_r hR) rfl 3 (by decide) hf15 (fun _ h9 => h9) rfl dX3_amountWith_27 ?_
  refine lv_iload_n hx hb dX3_amountWith_30 rfl (lv_at hl 1 rfl) ?_
  refine zild hx hb hE hP (r + 2) 4 (a_h hR) (by have := hR.lt; omega) 3 rfl (by decide) (by decide) dX3_amountWith_31 ?_
  refine lv_aload_n hx hb dX3_amountWith_32 rfl (lv_at hl 5 rfl) ?_
  refine va_get (D := G.1) (ci := 3) (v := .ref (ad (q + 2))) (C := RX3) (T := TX3) (N := 4) hx hb hts hw3 hown hE.1 hP q (p_r hQ) rfl 3 (by decide) hf15 (fun _ h9 => h9) rfl dX3_amountWith_33 ?_
  refine lv_iload_n hx hb dX3_amountWith_36 rfl (lv_at hl 1 rfl) ?_
  refine zild hx hb hE hP (q + 2) 4 (a_h hQ) (by have := hQ.lt; omega) 3 rfl (by decide) (by decide) dX3_amountWith_37 ?_
  refine va_mmin hx hb (hml.trans hl.1.symm) hown hml38 hstmin hiniMath hmamin (Nat.le_of_ble_eq_true rfl) (Nat.le_of_ble_eq_true rfl) (Nat.le_of_ble_eq_true rfl) (Nat.le_of_ble_eq_true rfl) dX3_amountWith_38 ?_
  refine zti (v := zi (min (X (r + 2) 3) (X (q + 2) 3))) (zi_min (by omega) (by omega)) ?_
  refine lv_istore (lv' := [(5, .int (zi (min (X (r + 2) 3) (X (q + 2) 3)))), (4, .int (zi (max (X (r + 1) 3) (X (q + 1) 3)))), (3, .int (zi 3)), (2, .int (zi (((1 * (max 0 (((min (X (r + 2) 0) (X (q + 2) 0)) - (max (X (r + 1) 0) (X (q + 1) 0))) + 1))) * (max 0 (((min (X (r + 2) 1) (X (q + 2) 1)) - (max (X (r + 1) 1) (X (q + 1) 1))) + 1))) * (max 0 (((min (X (r + 2) 2) (X (q + 2) 2)) - (max (X (r + 1) 2) (X (q + 1) 2))) + 1))))), (0, .ref (ad r)), (1, .ref (ad q))]) hx hb dX3_amountWith_41 hl (by decide) rfl (fun ls hl => ?_)
  refine lv_iload_n hx hb dX3_amountWith_43 rfl (lv_at hl 3 rfl) ?_
  refine lv_iconst (v := zi 0) hx hb dX3_amountWith_44 rfl ?_
  refine lv_iload hx hb dX3_amountWith_45 (lv_at hl 0 rfl) ?_
  refine lv_iload hx hb dX3_amountWith_47 (lv_at hl 1 rfl) ?_
  refine lv_isub hx hb dX3_amountWith_49 (zti (v := zi ((min (X (r + 2) 3) (X (q + 2) 3)) - (max (X (r + 1) 3) (X (q + 1) 3)))) (zi_sub _ _) ?_)
  refine lv_iconst (v := zi 1) hx hb dX3_amountWith_50 rfl ?_
  refine lv_iadd hx hb dX3_amountWith_51 (zti (v := zi (((min (X (r + 2) 3) (X (q + 2) 3)) - (max (X (r + 1) 3) (X (q + 1) 3))) + 1)) (zi_add _ _) ?_)
  refine va_mmax hx hb (hml.trans hl.1.symm) hown hml32 hstmax hiniMath hmamax (Nat.le_of_ble_eq_true rfl) (Nat.le_of_ble_eq_true rfl) (Nat.le_of_ble_eq_true rfl) (Nat.le_of_ble_eq_true rfl) dX3_amountWith_52 ?_
  refine zti (v := zi (max 0 (((min (X (r + 2) 3) (X (q + 2) 3)) - (max (X (r + 1) 3) (X (q + 1) 3))) + 1))) (zi_max (by decide) (by omega)) ?_
  refine lv_imul hx hb dX3_amountWith_55 (zti (v := zi ((((1 * (max 0 (((min (X (r + 2) 0) (X (q + 2) 0)) - (max (X (r + 1) 0) (X (q + 1) 0))) + 1))) * (max 0 (((min (X (r + 2) 1) (X (q + 2) 1)) - (max (X (r + 1) 1) (X (q + 1) 1))) + 1))) * (max 0 (((min (X (r + 2) 2) (X (q + 2) 2)) - (max (X (r + 1) 2) (X (q + 1) 2))) + 1))) * (max 0 (((min (X (r + 2) 3) (X (q + 2) 3)) - (max (X (r + 1) 3) (X (q + 1) 3))) + 1)))) (zi_mul _ _) ?_)
  refine lv_istore_n (lv' := [(2, .int (zi ((((1 * (max 0 (((min (X (r + 2) 0) (X (q + 2) 0)) - (max (X (r + 1) 0) (X (q + 1) 0))) + 1))) * (max 0 (((min (X (r + 2) 1) (X (q + 2) 1)) - (max (X (r + 1) 1) (X (q + 1) 1))) + 1))) * (max 0 (((min (X (r + 2) 2) (X (q + 2) 2)) - (max (X (r + 1) 2) (X (q + 1) 2))) + 1))) * (max 0 (((min (X (r + 2) 3) (X (q + 2) 3)) - (max (X (r + 1) 3) (X (q + 1) 3))) + 1))))), (5, .int (zi (min (X (r + 2) 3) (X (q + 2) 3)))), (4, .int (zi (max (X (r + 1) 3) (X (q + 1) 3)))), (3, .int (zi 3)), (0, .ref (ad r)), (1, .ref (ad q))]) hx hb dX3_amountWith_56 rfl hl (by decide) rfl (fun ls hl => ?_)
  refine lv_iinc (v := zi 4) (lv' := [(3, .int (zi 4)), (2, .int (zi ((((1 * (max 0 (((min (X (r + 2) 0) (X (q + 2) 0)) - (max (X (r + 1) 0) (X (q + 1) 0))) + 1))) * (max 0 (((min (X (r + 2) 1) (X (q + 2) 1)) - (max (X (r + 1) 1) (X (q + 1) 1))) + 1))) * (max 0 (((min (X (r + 2) 2) (X (q + 2) 2)) - (max (X (r + 1) 2) (X (q + 1) 2))) + 1))) * (max 0 (((min (X (r + 2) 3) (X (q + 2) 3)) - (max (X (r + 1) 3) (X (q + 1) 3))) + 1))))), (5, .int (zi (min (X (r + 2) 3) (X (q + 2) 3)))), (4, .int (zi (max (X (r + 1) 3) (X (q + 1) 3)))), (0, .ref (ad r)), (1, .ref (ad q))]) hx hb dX3_amountWith_57 hl (k := 3) rfl (zi_add _ _) (by decide) rfl (fun ls hl => ?_)
  refine lv_goto (tgt := 4) hx hb dX3_amountWith_60 (by decide) ?_
  refine lv_iload_n hx hb dX3_amountWith_4 rfl (lv_at hl 0 rfl) ?_
  refine lv_iconst (v := zi 4) hx hb dX3_amountWith_5 rfl ?_
  refine zc_ge (tgt := 63) hx hb dX3_amountWith_6 (by decide) (by decide) (by decide) (fun h6 => ?_) (fun h9 => absurd h9 (by decide))
  refine lv_iload_n hx hb dX3_amountWith_63 rfl (lv_at hl 1 rfl) ?_
  exact zend_i hx hb hr hlocks hP hD hS (Nat.le_of_ble_eq_true rfl) (Nat.le_of_ble_eq_true rfl) dX3_amountWith_64 ⟨_, rfl, ⟨rfl, zAW_bd hV hR hQ⟩, rfl⟩

set_option maxHeartbeats 4000000 in
set_option maxRecDepth 100000 in
/-- isAgainst -/
theorem c_X3_isAgainst (l : Launch) (G : zG) (ad : Nat → Nat) (X : Nat → Nat → Int) (r : Nat) (q : Nat) (hV : zV X) (hR : zIsR r) (hQ : zIsR q) : zR l G yX3_isAgainst wsX3_isAgainst { frames := 2, cells := 0, slots := 0, locals := 40 } (zpic G ad X) [.ref (ad r), .ref (ad q)] (zq G ad X (fun w => (w = 1 ∧ zAg X r q) ∨ (w = 0 ∧ ¬ zAg X r q))) 0 0 := by
  refine zR_of (cc := cX3_isAgainst) (maxL := 2) (rt := (some .boolean)) (by decide) rfl (Nat.le_of_ble_eq_true rfl) ?_
  intro p e s m below meth c A ls hx hb hml hr hts hown hlocks hin0 hA hE hP hD hS hl
  have hl : lv_has ls 2 [(0, .ref (ad r)), (1, .ref (ad q))] := hl
  have hown : s.vm.findClass RX3 = some m.cls := hown
  have hr4 := hV.r4 hR
  have hq4 := hV.r4 hQ
  have hw3 : ∀ w ∈ u_ws RX3 TX3 4, w ∈ wsX3_isAgainst := by decide +kernel
  have hf18 := hts (.fieldLink RX3 18 "Nettle$Rule" "verdict" "I") (by decide +kernel)
  refine lv_aload_n hx hb dX3_isAgainst_0 rfl (lv_at hl 0 rfl) ?_
  refine zcall (wr := []) (va_runV (As := []) (rest := []) ⟨hx, hb, hml, hown, hts⟩ (c_X3_isNote l G ad X r hV hR s.heap.size) (cwV 0 hts gX3_isAgainst_X3_isNote rfl rfl rfl (by decide +kernel) ⟨Nat.le_of_ble_eq_true rfl, Nat.le_of_ble_eq_true rfl⟩) (zPreV (wr := []) (wc := zpic G ad X) (q0 := r) (ci := 3) (q := (RX3, TX3, 4)) hP hD hE hS hA rfl (p_r hR)) rfl rfl hl.1 rfl (lv_room (Nat.le_of_ble_eq_true rfl)) dX3_isAgainst_1 ⟨Nat.le_of_ble_eq_true rfl, Nat.le_of_ble_eq_true rfl⟩) hP hD hS hA (fun _ _ H locs hf hP hD hS => ?_)
  obtain ⟨v1, rfl, hv1, rfl⟩ := hf
  have hP : va_P G.1 vwCl (zpic G ad X) H := hP
  have hD : va_D A (zpic G ad X) := hD
  refine W.eq (g2 := F0 m 4 ls [.int (zi v1)]) rfl ?_
  refine z0_ne (tgt := 37) hx hb dX3_isAgainst_4 (by decide) (by omega) (fun h4 => ?_) (fun h4 => ?_)
  · refine lv_iconst (v := zi 0) hx hb dX3_isAgainst_37 rfl ?_
    exact zend_z hx hb hr hlocks (by decide +kernel) hP hD hS (Nat.le_of_ble_eq_true rfl) (Nat.le_of_ble_eq_true rfl) dX3_isAgainst_38 ⟨_, rfl, (by unfold zAg; omega), rfl⟩
  · refine lv_aload_n hx hb dX3_isAgainst_7 rfl (lv_at hl 1 rfl) ?_
    refine zcall (wr := []) (va_runV (As := []) (rest := []) ⟨hx, hb, hml, hown, hts⟩ (c_X3_isNote l G ad X q hV hQ H.size) (cwV 0 hts gX3_isAgainst_X3_isNote rfl rfl rfl (by decide +kernel) ⟨Nat.le_of_ble_eq_true rfl, Nat.le_of_ble_eq_true rfl⟩) (zPreV (wr := []) (wc := zpic G ad X) (q0 := q) (ci := 3) (q := (RX3, TX3, 4)) hP hD hE hS hA rfl (p_r hQ)) rfl rfl hl.1 rfl (lv_room (Nat.le_of_ble_eq_true rfl)) dX3_isAgainst_8 ⟨Nat.le_of_ble_eq_true rfl, Nat.le_of_ble_eq_true rfl⟩) hP hD hS hA (fun _ _ H locs hf hP hD hS => ?_)
    obtain ⟨v2, rfl, hv2, rfl⟩ := hf
    have hP : va_P G.1 vwCl (zpic G ad X) H := hP
    have hD : va_D A (zpic G ad X) := hD
    refine W.eq (g2 := F0 m 11 ls [.int (zi v2)]) rfl ?_
    refine z0_ne (tgt := 37) hx hb dX3_isAgainst_11 (by decide) (by omega) (fun h11 => ?_) (fun h11 => ?_)
    · refine lv_iconst (v := zi 0) hx hb dX3_isAgainst_37 rfl ?_
      exact zend_z hx hb hr hlocks (by decide +kernel) hP hD hS (Nat.le_of_ble_eq_true rfl) (Nat.le_of_ble_eq_true rfl) dX3_isAgainst_38 ⟨_, rfl, (by unfold zAg; omega), rfl⟩
    · refine lv_aload_n hx hb dX3_isAgainst_14 rfl (lv_at hl 0 rfl) ?_
      refine va_get (D := G.1) (ci := 3) (v := .int (zi (X r 0))) (C := RX3) (T := TX3) (N := 4) hx hb hts hw3 hown hE.1 hP r (p_r hR) rfl 0 (by decide) hf18 (fun _ h9 => h9) rfl dX3_isAgainst_15 ?_
      refine lv_aload_n hx hb dX3_isAgainst_18 rfl (lv_at hl 1 rfl) ?_
      refine va_get (D := G.1) (ci := 3) (v := .int (zi (X q 0))) (C := RX3) (T := TX3) (N := 4) hx hb hts hw3 hown hE.1 hP q (p_r hQ) rfl 0 (by decide) hf18 (fun _ h9 => h9) rfl dX3_isAgainst_19 ?_
      refine zc_eq (tgt := 37) hx hb dX3_isAgainst_22 (by decide) (by omega) (by omega) (fun h22 => ?_) (fun h22 => ?_)
      · refine lv_iconst (v := zi 0) hx hb dX3_isAgainst_37 rfl ?_
        exact zend_z hx hb hr hlocks (by decide +kernel) hP hD hS (Nat.le_of_ble_eq_true rfl) (Nat.le_of_ble_eq_true rfl) dX3_isAgainst_38 ⟨_, rfl, (by unfold zAg; omega), rfl⟩
      · refine lv_aload_n hx hb dX3_isAgainst_25 rfl (lv_at hl 0 rfl) ?_
        refine lv_aload_n hx hb dX3_isAgainst_26 rfl (lv_at hl 1 rfl) ?_
        refine zcall (wr := []) (va_runV (As := [.ref (ad q)]) (rest := []) ⟨hx, hb, hml, hown, hts⟩ (c_X3_amountWith l G ad X r q hV hR hQ H.size) (cwV 1 hts gX3_isAgainst_X3_amountWith rfl rfl rfl (by decide +kernel) ⟨Nat.le_of_ble_eq_true rfl, Nat.le_of_ble_eq_true rfl⟩) (zPreV (wr := []) (wc := zpic G ad X) (q0 := r) (ci := 3) (q := (RX3, TX3, 4)) hP hD hE hS hA rfl (p_r hR)) rfl rfl hl.1 rfl (lv_room (Nat.le_of_ble_eq_true rfl)) dX3_isAgainst_27 ⟨Nat.le_of_ble_eq_true rfl, Nat.le_of_ble_eq_true rfl⟩) hP hD hS hA (fun _ _ H locs hf hP hD hS => ?_)
        obtain ⟨v3, rfl, hv3, rfl⟩ := hf
        have hP : va_P G.1 vwCl (zpic G ad X) H := hP
        have hD : va_D A (zpic G ad X) := hD
        refine W.eq (g2 := F0 m 30 ls [.int (zi v3)]) rfl ?_
        refine z0_le (tgt := 37) hx hb dX3_isAgainst_30 (by decide) (by omega) (fun h30 => ?_) (fun h30 => ?_)
        · refine lv_iconst (v := zi 0) hx hb dX3_isAgainst_37 rfl ?_
          exact zend_z hx hb hr hlocks (by decide +kernel) hP hD hS (Nat.le_of_ble_eq_true rfl) (Nat.le_of_ble_eq_true rfl) dX3_isAgainst_38 ⟨_, rfl, (by unfold zAg; omega), rfl⟩
        · refine lv_iconst (v := zi 1) hx hb dX3_isAgainst_33 rfl ?_
          refine lv_goto (tgt := 38) hx hb dX3_isAgainst_34 (by decide) ?_
          exact zend_z hx hb hr hlocks (by decide +kernel) hP hD hS (Nat.le_of_ble_eq_true rfl) (Nat.le_of_ble_eq_true rfl) dX3_isAgainst_38 ⟨_, rfl, (by unfold zAg; omega), rfl⟩

set_option maxHeartbeats 4000000 in
set_option maxRecDepth 100000 in
/-- reset -/
theorem c_X3_reset (l : Launch) (G : zG) (ad : Nat → Nat) (X : Nat → Nat → Int) (r : Nat) (v : Int) (hV : zV X) (hR : zIsR r) : zR l G yX3_reset wsX3_reset { frames := 0, cells := 0, slots := 0, locals := 0 } (zpic G ad X) [.ref (ad r), .int (zi v)] (zv G ad (fun Y => Y r 0 = v ∧ Y r 1 = 0 ∧ (∀ k : Nat, k < 4 → Y (r + 1) k = 0 ∧ Y (r + 2) k = zS k - 1) ∧ ∀ k : Nat, k ≠ r → k ≠ r + 1 → k ≠ r + 2 → Y k = X k)) 0 0 := by
  refine zR_of (cc := cX3_reset) (maxL := 3) (rt := none) (by decide) rfl (Nat.le_of_ble_eq_true rfl) ?_
  intro p e s m below meth c A ls hx hb hml hr hts hown hlocks hin0 hA hE hP hD hS hl
  have hl : lv_has ls 3 [(0, .ref (ad r)), (1, .int (zi v))] := hl
  have hown : s.vm.findClass RX3 = some m.cls := hown
  have hw3 : ∀ w ∈ u_ws RX3 TX3 4, w ∈ wsX3_reset := by decide +kernel
  have hf18 := hts (.fieldLink RX3 18 "Nettle$Rule" "verdict" "I") (by decide +kernel)
  have hf22 := hts (.fieldLink RX3 22 "Nettle$Rule" "hits" "I") (by decide +kernel)
  have hf9 := hts (.fieldLink RX3 9 "Nettle$Rule" "lows" "[I") (by decide +kernel)
  have hf15 := hts (.fieldLink RX3 15 "Nettle$Rule" "highs" "[I") (by decide +kernel)
  refine lv_aload_n hx hb dX3_reset_0 rfl (lv_at hl 0 rfl) ?_
  refine lv_iload_n hx hb dX3_reset_1 rfl (lv_at hl 1 rfl) ?_
  refine zput (C := RX3) (T := TX3) (N := 4) (ci := 3) (v := .int (zi v)) (ty := tyX3 0) hx hb hts hw3 tyX3 tyX3_ok nmX3 hown hE hP hD hS r (p_r hR) rfl 0 (by decide) hf18 (fun _ h9 => h9) rfl (by decide +kernel) rfl rfl (Nat.le_of_ble_eq_true rfl) (s_r0 hR v) dX3_reset_2 (fun H locs hP hD hS => ?_)
  refine lv_aload_n hx hb dX3_reset_5 rfl (lv_at hl 0 rfl) ?_
  refine lv_iconst (v := zi 0) hx hb dX3_reset_6 rfl ?_
  refine zput (C := RX3) (T := TX3) (N := 4) (ci := 3) (v := .int (zi 0)) (ty := tyX3 1) hx hb hts hw3 tyX3 tyX3_ok nmX3 hown hE hP hD hS r (p_r hR) rfl 1 (by decide) hf22 (fun _ h9 => h9) rfl (by decide +kernel) rfl rfl (Nat.le_of_ble_eq_true rfl) (s_r1 hR 0) dX3_reset_7 (fun H locs hP hD hS => ?_)
  refine lv_iconst (v := zi 0) hx hb dX3_reset_10 rfl ?_
  refine lv_istore_n (lv' := [(2, .int (zi 0)), (0, .ref (ad r)), (1, .int (zi v))]) hx hb dX3_reset_11 rfl hl (by decide) rfl (fun ls hl => ?_)
  refine zloop2 (fun (g : Nat) (Y : Nat → Nat → Int) => 4 - g) (fun (g : Nat) (Y : Nat → Nat → Int) (H : Heap) (locs : List Loc) (ls : Array Slot) => va_P G.1 vwCl (zpic G ad Y) H ∧ va_D A (zpic G ad Y) ∧ va_S A s.heap H locs ∧ lv_has ls 3 [(2, .int (zi (g : Int))), (0, .ref (ad r))] ∧ (g ≤ 4) ∧ (Y r 0 = v ∧ Y r 1 = 0) ∧ (∀ k : Nat, k < g → Y (r + 1) k = 0 ∧ Y (r + 2) k = zS k - 1) ∧ (∀ k : Nat, k ≠ r → k ≠ r + 1 → k ≠ r + 2 → Y k = X k)) ?_ 0 (zw (zw X r 0 v) r 1 0) ⟨hP, hD, hS, lv_sub hl [0, 1] rfl, (by omega), (by simp [zw_get]), (fun k h1 => by omega), (fun k h1 h2 h3 => by rw [zw_cell h1, zw_cell h1])⟩
  intro g Y ih H locs ls ⟨hP, hD, hS, hl, hg, hy0, hy1, hy2⟩
  refine lv_iload_n hx hb dX3_reset_12 rfl (lv_at hl 0 rfl) ?_
  refine lv_iconst (v := zi 4) hx hb dX3_reset_13 rfl ?_
  refine zc_ge (tgt := 43) hx hb dX3_reset_14 (by decide) (by omega) (by decide) (fun h14 => ?_) (fun h14 => ?_)
  · exact zend_v hx hb hr hlocks hP hD hS (Nat.le_of_ble_eq_true rfl) (Nat.le_of_ble_eq_true rfl) dX3_reset_43 ⟨_, rfl, ⟨hy0.1, hy0.2, fun k h1 => hy1 k (by omega), hy2⟩, rfl⟩
  · refine lv_aload_n hx hb dX3_reset_17 rfl (lv_at hl 1 rfl) ?_
    refine va_get (D := G.1) (ci := 3) (v := .ref (ad (r + 1))) (C := RX3) (T := TX3) (N := 4) hx hb hts hw3 hown hE.1 hP r (p_r hR) rfl 2 (by decide) hf9 (fun _ h9 => h9) rfl dX3_reset_18 ?_
    refine lv_iload_n hx hb dX3_reset_21 rfl (lv_at hl 0 rfl) ?_
    refine lv_iconst (v := zi 0) hx hb dX3_reset_22 rfl ?_
    refine zist hx hb hE hP hD hS (r + 1) 4 (a_l hR) (by have := hR.lt; omega) g rfl (by omega) (by decide) dX3_reset_23 (fun H locs hP hD hS => ?_)
    refine lv_aload_n hx hb dX3_reset_24 rfl (lv_at hl 1 rfl) ?_
    refine va_get (D := G.1) (ci := 3) (v := .ref (ad (r + 2))) (C := RX3) (T := TX3) (N := 4) hx hb hts hw3 hown hE.1 hP r (p_r hR) rfl 3 (by decide) hf15 (fun _ h9 => h9) rfl dX3_reset_25 ?_
    refine lv_iload_n hx hb dX3_reset_28 rfl (lv_at hl 0 rfl) ?_
    refine va_getsN hx hb hE.2.1.1 hS hown (va_Nw.use rfl hE.2.2.2.1.2.2.2.2.2.2.1) (fun _ h9 => h9) dX3_reset_29 ?_
    refine lv_iload_n hx hb dX3_reset_32 rfl (lv_at hl 0 rfl) ?_
    refine zsz_ld hx hb hE hS g rfl (by omega) dX3_reset_33 ?_
    refine lv_iconst (v := zi 1) hx hb dX3_reset_34 rfl ?_
    refine lv_isub hx hb dX3_reset_35 (zti (v := zi ((zS g) - 1)) (zi_sub _ _) ?_)
    refine zist hx hb hE hP hD hS (r + 2) 4 (a_h hR) (by have := hR.lt; omega) g rfl (by omega) (by decide) dX3_reset_36 (fun H locs hP hD hS => ?_)
    refine lv_iinc (v := zi ((g : Int) + 1)) (lv' := [(2, .int (zi ((g : Int) + 1))), (0, .ref (ad r))]) hx hb dX3_reset_37 hl (k := 0) rfl (zi_add _ _) (by decide) rfl (fun ls hl => ?_)
    refine lv_goto (tgt := 12) hx hb dX3_reset_40 (by decide) ?_
    exact ih (g + 1) (zw (zw Y (r + 1) g 0) (r + 2) g ((zS g) - 1)) (by omega) H locs ls ⟨hP, hD, hS, lv_sub hl [0, 1] rfl, (by omega), (by simpa [zw_get] using hy0), (fun k h1 => by rcases Nat.lt_or_eq_of_le (Nat.le_of_lt_succ h1) with hk | rfl; (have hn : k ≠ g := Nat.ne_of_lt hk); simpa [zw_get, hn] using hy1 k hk; simp [zw_get]), (fun k h1 h2 h3 => by rw [zw_cell h3, zw_cell h2]; exact hy2 k h1 h2 h3)⟩

set_option maxHeartbeats 4000000 in
set_option maxRecDepth 100000 in
/-- takeFrom -/
theorem c_X3_takeFrom (l : Launch) (G : zG) (ad : Nat → Nat) (X : Nat → Nat → Int) (r : Nat) (q : Nat) (hV : zV X) (hR : zIsR r) (hQ : zIsR q) (hrq : r + 2 < q ∨ q + 2 < r) : zR l G yX3_takeFrom wsX3_takeFrom { frames := 0, cells := 0, slots := 0, locals := 0 } (zpic G ad X) [.ref (ad r), .ref (ad q)] (zv G ad (fun Y => Y r 0 = X q 0 ∧ Y r 1 = X r 1 ∧ (∀ k : Nat, k < 4 → Y (r + 1) k = X (q + 1) k ∧ Y (r + 2) k = X (q + 2) k) ∧ ∀ k : Nat, k ≠ r → k ≠ r + 1 → k ≠ r + 2 → Y k = X k)) 0 0 := by
  refine zR_of (cc := cX3_takeFrom) (maxL := 3) (rt := none) (by decide) rfl (Nat.le_of_ble_eq_true rfl) ?_
  intro p e s m below meth c A ls hx hb hml hr hts hown hlocks hin0 hA hE hP hD hS hl
  have hl : lv_has ls 3 [(0, .ref (ad r)), (1, .ref (ad q))] := hl
  have hown : s.vm.findClass RX3 = some m.cls := hown
  have hw3 : ∀ w ∈ u_ws RX3 TX3 4, w ∈ wsX3_takeFrom := by decide +kernel
  have hf18 := hts (.fieldLink RX3 18 "Nettle$Rule" "verdict" "I") (by decide +kernel)
  have hf9 := hts (.fieldLink RX3 9 "Nettle$Rule" "lows" "[I") (by decide +kernel)
  have hf15 := hts (.fieldLink RX3 15 "Nettle$Rule" "highs" "[I") (by decide +kernel)
  refine lv_aload_n hx hb dX3_takeFrom_0 rfl (lv_at hl 0 rfl) ?_
  refine lv_aload_n hx hb dX3_takeFrom_1 rfl (lv_at hl 1 rfl) ?_
  refine va_get (D := G.1) (ci := 3) (v := .int (zi (X q 0))) (C := RX3) (T := TX3) (N := 4) hx hb hts hw3 hown hE.1 hP q (p_r hQ) rfl 0 (by decide) hf18 (fun _ h9 => h9) rfl dX3_takeFrom_2 ?_
  refine zput (C := RX3) (T := TX3) (N := 4) (ci := 3) (v := .int (zi (X q 0))) (ty := tyX3 0) hx hb hts hw3 tyX3 tyX3_ok nmX3 hown hE hP hD hS r (p_r hR) rfl 0 (by decide) hf18 (fun _ h9 => h9) rfl (by decide +kernel) rfl rfl (Nat.le_of_ble_eq_true rfl) (s_r0 hR (X q 0)) dX3_takeFrom_5 (fun H locs hP hD hS => ?_)
  refine lv_iconst (v := zi 0) hx hb dX3_takeFrom_8 rfl ?_
  refine lv_istore_n (lv' := [(2, .int (zi 0)), (0, .ref (ad r)), (1, .ref (ad q))]) hx hb dX3_takeFrom_9 rfl hl (by decide) rfl (fun ls hl => ?_)
  refine zloop2 (fun (g : Nat) (Y : Nat → Nat → Int) => 4 - g) (fun (g : Nat) (Y : Nat → Nat → Int) (H : Heap) (locs : List Loc) (ls : Array Slot) => va_P G.1 vwCl (zpic G ad Y) H ∧ va_D A (zpic G ad Y) ∧ va_S A s.heap H locs ∧ lv_has ls 3 [(2, .int (zi (g : Int))), (1, .ref (ad q)), (0, .ref (ad r))] ∧ (g ≤ 4) ∧ (Y r 0 = X q 0 ∧ Y r 1 = X r 1) ∧ (∀ k : Nat, k < g → Y (r + 1) k = X (q + 1) k ∧ Y (r + 2) k = X (q + 2) k) ∧ (∀ k : Nat, k ≠ r → k ≠ r + 1 → k ≠ r + 2 → Y k = X k)) ?_ 0 (zw X r 0 (X q 0)) ⟨hP, hD, hS, lv_sub hl [0, 2, 1] rfl, (by omega), (by simp [zw_get]), (fun k h1 => by omega), (fun k h1 h2 h3 => by rw [zw_cell h1])⟩
  intro g Y ih H locs ls ⟨hP, hD, hS, hl, hg, hy0, hy1, hy2⟩
  refine lv_iload_n hx hb dX3_takeFrom_10 rfl (lv_at hl 0 rfl) ?_
  refine lv_iconst (v := zi 4) hx hb dX3_takeFrom_11 rfl ?_
  refine zc_ge (tgt := 45) hx hb dX3_takeFrom_12 (by decide) (by omega) (by decide) (fun h12 => ?_) (fun h12 => ?_)
  · exact zend_v hx hb hr hlocks hP hD hS (Nat.le_of_ble_eq_true rfl) (Nat.le_of_ble_eq_true rfl) dX3_takeFrom_45 ⟨_, rfl, ⟨hy0.1, hy0.2, fun k h1 => hy1 k (by omega), hy2⟩, rfl⟩
  · refine lv_aload_n hx hb dX3_takeFrom_15 rfl (lv_at hl 2 rfl) ?_
    refine va_get (D := G.1) (ci := 3) (v := .ref (ad (r + 1))) (C := RX3) (T := TX3) (N := 4) hx hb hts hw3 hown hE.1 hP r (p_r hR) rfl 2 (by decide) hf9 (fun _ h9 => h9) rfl dX3_takeFrom_16 ?_
    refine lv_iload_n hx hb dX3_takeFrom_19 rfl (lv_at hl 0 rfl) ?_
    refine lv_aload_n hx hb dX3_takeFrom_20 rfl (lv_at hl 1 rfl) ?_
    refine va_get (D := G.1) (ci := 3) (v := .ref (ad (q + 1))) (C := RX3) (T := TX3) (N := 4) hx hb hts hw3 hown hE.1 hP q (p_r hQ) rfl 2 (by decide) hf9 (fun _ h9 => h9) rfl dX3_takeFrom_21 ?_
    refine lv_iload_n hx hb dX3_takeFrom_24 rfl (lv_at hl 0 rfl) ?_
    refine zild hx hb hE hP (q + 1) 4 (a_l hQ) (by have := hQ.lt; omega) g rfl (by omega) (by decide) dX3_takeFrom_25 ?_
    refine zist hx hb hE hP hD hS (r + 1) 4 (a_l hR) (by have := hR.lt; omega) g rfl (by omega) (by decide) dX3_takeFrom_26 (fun H locs hP hD hS => ?_)
    refine lv_aload_n hx hb dX3_takeFrom_27 rfl (lv_at hl 2 rfl) ?_
    refine va_get (D := G.1) (ci := 3) (v := .ref (ad (r + 2))) (C := RX3) (T := TX3) (N := 4) hx hb hts hw3 hown hE.1 hP r (p_r hR) rfl 3 (by decide) hf15 (fun _ h9 => h9) rfl dX3_takeFrom_28 ?_
    refine lv_iload_n hx hb dX3_takeFrom_31 rfl (lv_at hl 0 rfl) ?_
    refine lv_aload_n hx hb dX3_takeFrom_32 rfl (lv_at hl 1 rfl) ?_
    refine va_get (D := G.1) (ci := 3) (v := .ref (ad (q + 2))) (C := RX3) (T := TX3) (N := 4) hx hb hts hw3 hown hE.1 hP q (p_r hQ) rfl 3 (by decide) hf15 (fun _ h9 => h9) rfl dX3_takeFrom_33 ?_
    refine lv_iload_n hx hb dX3_takeFrom_36 rfl (lv_at hl 0 rfl) ?_
    refine zild hx hb hE hP (q + 2) 4 (a_h hQ) (by have := hQ.lt; omega) g rfl (by omega) (by decide) dX3_takeFrom_37 ?_
    refine zist hx hb hE hP hD hS (r + 2) 4 (a_h hR) (by have := hR.lt; omega) g rfl (by omega) (by decide) dX3_takeFrom_38 (fun H locs hP hD hS => ?_)
    refine lv_iinc (v := zi ((g : Int) + 1)) (lv' := [(2, .int (zi ((g : Int) + 1))), (1, .ref (ad q)), (0, .ref (ad r))]) hx hb dX3_takeFrom_39 hl (k := 0) rfl (zi_add _ _) (by decide) rfl (fun ls hl => ?_)
    refine lv_goto (tgt := 10) hx hb dX3_takeFrom_42 (by decide) ?_
    exact ih (g + 1) (zw (zw Y (r + 1) g (Y (q + 1) g)) (r + 2) g ((zw Y (r + 1) g (Y (q + 1) g)) (q + 2) g)) (by omega) H locs ls ⟨hP, hD, hS, lv_sub hl [0, 1, 2] rfl, (by omega), (by simpa [zw_get] using hy0), (fun k h1 => by have e1 : Y (q + 1) = X (q + 1) := hy2 _ (by omega) (by omega) (by omega); have e2 : Y (q + 2) = X (q + 2) := hy2 _ (by omega) (by omega) (by omega); rcases Nat.lt_or_eq_of_le (Nat.le_of_lt_succ h1) with hk | rfl; (have hn : k ≠ g := Nat.ne_of_lt hk); simpa [zw_get, hn] using hy1 k hk; (have hn1 : ¬ q + 2 = r + 1 := by omega); simp [zw_get, hn1, e1, e2]), (fun k h1 h2 h3 => by rw [zw_cell h3, zw_cell h2]; exact hy2 k h1 h2 h3)⟩
