/-! the law's words -/
theorem zlw_1 : ∀ w ∈ wsL_law0_r1, w ∈ lw_tbl := fun w h => (goodIn_p wsL_law0_r1 [55, 58] (by decide +kernel) (by decide +kernel) w h).1
theorem zlw_2 : ∀ w ∈ wsL_law0_r2, w ∈ lw_tbl := fun w h => (goodIn_p wsL_law0_r2 [63] (by decide +kernel) (by decide +kernel) w h).1
theorem zlw_3 : ∀ w ∈ wsL_law0_r3, w ∈ lw_tbl := fun w h => (goodIn_p wsL_law0_r3 [70, 115, 138] (by decide +kernel) (by decide +kernel) w h).1
theorem zlw_4 : ∀ w ∈ wsL_law0_r4, w ∈ lw_tbl := fun w h => (goodIn_p wsL_law0_r4 [166, 196, 227, 921] (by decide +kernel) (by decide +kernel) w h).1
theorem zlw_5 : ∀ w ∈ wsL_law0_r5, w ∈ lw_tbl := fun w h => (goodIn_p wsL_law0_r5 [927] (by decide +kernel) (by decide +kernel) w h).1
theorem zlw_6 : ∀ w ∈ wsL_law0_r6, w ∈ lw_tbl := fun w h => (goodIn_p wsL_law0_r6 [722, 725, 746, 750] (by decide +kernel) (by decide +kernel) w h).1
theorem zlw_7 : ∀ w ∈ wsL_law0_r7, w ∈ lw_tbl := fun w h => (goodIn_p wsL_law0_r7 [286, 996, 999, 1003] (by decide +kernel) (by decide +kernel) w h).1
theorem zlw_8 : ∀ w ∈ wsL_law0_r8, w ∈ lw_tbl := fun w h => (goodIn_p wsL_law0_r8 [1006, 992, 758, 535] (by decide +kernel) (by decide +kernel) w h).1
theorem zlw_9 : ∀ w ∈ wsL_law0_r9, w ∈ lw_tbl := fun w h => (goodIn_p wsL_law0_r9 [761, 767, 1010, 1014, 774] (by decide +kernel) (by decide +kernel) w h).1
theorem zlw_10 : ∀ w ∈ wsL_law0_r10, w ∈ lw_tbl := fun w h => (goodIn_p wsL_law0_r10 [1018, 781, 785, 362, 1022] (by decide +kernel) (by decide +kernel) w h).1
theorem zlw_11 : ∀ w ∈ wsL_law0_r11, w ∈ lw_tbl := fun w h => (goodIn_p wsL_law0_r11 [1025, 1029, 1035, 1041] (by decide +kernel) (by decide +kernel) w h).1
theorem zlw_12 : ∀ w ∈ wsL_law0_r12, w ∈ lw_tbl := fun w h => (goodIn_p wsL_law0_r12 [792, 358, 1048, 1052] (by decide +kernel) (by decide +kernel) w h).1
theorem zlw_13 : ∀ w ∈ wsL_law0_r13, w ∈ lw_tbl := fun w h => (goodIn_p wsL_law0_r13 [282, 1057, 290, 294, 298, 302] (by decide +kernel) (by decide +kernel) w h).1
theorem zlw_14 : ∀ w ∈ wsL_law0_r14, w ∈ lw_tbl := fun w h => (goodIn_p wsL_law0_r14 [310, 314, 321, 324, 318] (by decide +kernel) (by decide +kernel) w h).1
theorem zlw_15 : ∀ w ∈ wsL_law0_r15, w ∈ lw_tbl := fun w h => (goodIn_p wsL_law0_r15 [328, 332, 336, 340, 344, 348] (by decide +kernel) (by decide +kernel) w h).1
theorem zlw_16 : ∀ w ∈ wsL_law0_r16, w ∈ lw_tbl := fun w h => (goodIn_p wsL_law0_r16 [353, 1061, 1065, 1069, 1073] (by decide +kernel) (by decide +kernel) w h).1
theorem zlw_17 : ∀ w ∈ wsL_law0_r17, w ∈ lw_tbl := fun w h => (goodIn_p wsL_law0_r17 [1077, 1081, 1085, 1088, 1092, 1095, 1101] (by decide +kernel) (by decide +kernel) w h).1
theorem zlw_18 : ∀ w ∈ wsL_law0_r18, w ∈ lw_tbl := fun w h => (goodIn_p wsL_law0_r18 [1106, 1111, 1115, 1118, 1122] (by decide +kernel) (by decide +kernel) w h).1
theorem zlw_19 : ∀ w ∈ wsL_law0_r19, w ∈ lw_tbl := fun w h => (goodIn_p wsL_law0_r19 [1127, 1131, 366, 1141, 1145] (by decide +kernel) (by decide +kernel) w h).1
theorem zlw_20 : ∀ w ∈ wsL_law0_r20, w ∈ lw_tbl := fun w h => (goodIn_p wsL_law0_r20 [531, 606, 1149, 1153] (by decide +kernel) (by decide +kernel) w h).1
theorem zlw_21 : ∀ w ∈ wsL_law0_r21, w ∈ lw_tbl := fun w h => (goodIn_p wsL_law0_r21 [626, 1157, 370, 374, 1161, 1165] (by decide +kernel) (by decide +kernel) w h).1
theorem zlw_22 : ∀ w ∈ wsL_law0_r22, w ∈ lw_tbl := fun w h => (goodIn_p wsL_law0_r22 [631, 635, 639, 1169, 643] (by decide +kernel) (by decide +kernel) w h).1
theorem zlw_23 : ∀ w ∈ wsL_law0_r23, w ∈ lw_tbl := fun w h => (goodIn_p wsL_law0_r23 [1173, 815, 387, 1177] (by decide +kernel) (by decide +kernel) w h).1
theorem zlw_24 : ∀ w ∈ wsL_law0_r24, w ∈ lw_tbl := fun w h => (goodIn_p wsL_law0_r24 [1181, 378, 382, 1186, 1190] (by decide +kernel) (by decide +kernel) w h).1
theorem zlw_25 : ∀ w ∈ wsL_law0_r25, w ∈ lw_tbl := fun w h => (goodIn_p wsL_law0_r25 [823, 827, 833, 414, 1194, 1198] (by decide +kernel) (by decide +kernel) w h).1
theorem zlw_26 : ∀ w ∈ wsL_law0_r26, w ∈ lw_tbl := fun w h => (goodIn_p wsL_law0_r26 [1202, 1206, 393, 397, 401] (by decide +kernel) (by decide +kernel) w h).1
theorem zlw_27 : ∀ w ∈ wsL_law0_r27, w ∈ lw_tbl := fun w h => (goodIn_p wsL_law0_r27 [405, 410, 418, 425] (by decide +kernel) (by decide +kernel) w h).1
theorem zlw_28 : ∀ w ∈ wsL_law0_r28, w ∈ lw_tbl := fun w h => (goodIn_p wsL_law0_r28 [429, 433, 437, 444, 448, 1210] (by decide +kernel) (by decide +kernel) w h).1
theorem zlw_29 : ∀ w ∈ wsL_law0_r29, w ∈ lw_tbl := fun w h => (goodIn_p wsL_law0_r29 [1214, 1218, 659, 662, 667] (by decide +kernel) (by decide +kernel) w h).1
theorem zlw_30 : ∀ w ∈ wsL_law0_r30, w ∈ lw_tbl := fun w h => (goodIn_p wsL_law0_r30 [671, 675, 504, 1223, 1227] (by decide +kernel) (by decide +kernel) w h).1
theorem zlw_31 : ∀ w ∈ wsL_law0_r31, w ∈ lw_tbl := fun w h => (goodIn_p wsL_law0_r31 [682, 686, 510, 693, 1231] (by decide +kernel) (by decide +kernel) w h).1
theorem zlw_32 : ∀ w ∈ wsL_law0_r32, w ∈ lw_tbl := fun w h => (goodIn_p wsL_law0_r32 [849, 1235, 452, 456] (by decide +kernel) (by decide +kernel) w h).1
theorem zlw_33 : ∀ w ∈ wsL_law0_r33, w ∈ lw_tbl := fun w h => (goodIn_p wsL_law0_r33 [1239, 1243, 859, 863, 867] (by decide +kernel) (by decide +kernel) w h).1
theorem zlw_34 : ∀ w ∈ wsL_law0_r34, w ∈ lw_tbl := fun w h => (goodIn_p wsL_law0_r34 [871, 876, 880, 885] (by decide +kernel) (by decide +kernel) w h).1
theorem zlw_35 : ∀ w ∈ wsL_law0_r35, w ∈ lw_tbl := fun w h => (goodIn_p wsL_law0_r35 [1248, 1252, 1256, 1260, 701] (by decide +kernel) (by decide +kernel) w h).1
theorem zlw_36 : ∀ w ∈ wsL_law0_r36, w ∈ lw_tbl := fun w h => (goodIn_p wsL_law0_r36 [1264, 1268, 705, 1272] (by decide +kernel) (by decide +kernel) w h).1
theorem zlw_37 : ∀ w ∈ wsL_law0_r37, w ∈ lw_tbl := fun w h => (goodIn_p wsL_law0_r37 [461, 1276, 465, 469, 473, 1280] (by decide +kernel) (by decide +kernel) w h).1
theorem zlw_38 : ∀ w ∈ wsL_law0_r38, w ∈ lw_tbl := fun w h => (goodIn_p wsL_law0_r38 [477, 481, 485, 489, 493] (by decide +kernel) (by decide +kernel) w h).1
theorem zlw_39 : ∀ w ∈ wsL_law0_r39, w ∈ lw_tbl := fun w h => (goodIn_p wsL_law0_r39 [498, 1284, 1288] (by decide +kernel) (by decide +kernel) w h).1
theorem zlw_40 : ∀ w ∈ wsL_law0_r40, w ∈ lw_tbl := fun w h => (goodIn_p wsL_law0_r40 [712, 1292, 1296, 647, 1300] (by decide +kernel) (by decide +kernel) w h).1
theorem zlw_41 : ∀ w ∈ wsL_law0_r41, w ∈ lw_tbl := fun w h => (goodIn_p wsL_law0_r41 [908, 912, 916, 1304, 517] (by decide +kernel) (by decide +kernel) w h).1
theorem zlw_42 : ∀ w ∈ wsL_law0_r42, w ∈ lw_tbl := fun w h => (goodIn_p wsL_law0_r42 [522, 527, 655] (by decide +kernel) (by decide +kernel) w h).1
theorem zlw_43 : ∀ w ∈ wsL_law0_r43, w ∈ lw_tbl := fun w h => (goodIn_p wsL_law0_r43 [697, 1308] (by decide +kernel) (by decide +kernel) w h).1
theorem zlx_7 : ∀ w ∈ wsX70, w ∈ lw_tbl := fun w h => (goodIn_p wsX70 [] (by decide +kernel) (by decide +kernel) w h).1
theorem zlx_9 : ∀ w ∈ wsX90, w ∈ lw_tbl := fun w h => (goodIn_p wsX90 [] (by decide +kernel) (by decide +kernel) w h).1
theorem zlx_6 : ∀ w ∈ wsX60, w ∈ lw_tbl := fun w h => (goodIn_p wsX60 [] (by decide +kernel) (by decide +kernel) w h).1
theorem zlx_4 : ∀ w ∈ wsX40, w ∈ lw_tbl := fun w h => (goodIn_p wsX40 [] (by decide +kernel) (by decide +kernel) w h).1
theorem zlx_1 : ∀ w ∈ wsX10, w ∈ lw_tbl := fun w h => (goodIn_p wsX10 [] (by decide +kernel) (by decide +kernel) w h).1
theorem zlx_5 : ∀ w ∈ wsX50, w ∈ lw_tbl := fun w h => (goodIn_p wsX50 [] (by decide +kernel) (by decide +kernel) w h).1
theorem zlx_0 : ∀ w ∈ wsX00, w ∈ lw_tbl := fun w h => (goodIn_p wsX00 [] (by decide +kernel) (by decide +kernel) w h).1
theorem zlx_2 : ∀ w ∈ wsX20, w ∈ lw_tbl := fun w h => (goodIn_p wsX20 [] (by decide +kernel) (by decide +kernel) w h).1
theorem zlx_3 : ∀ w ∈ wsX30, w ∈ lw_tbl := fun w h => (goodIn_p wsX30 [] (by decide +kernel) (by decide +kernel) w h).1
theorem zlx_8 : ∀ w ∈ wsX80, w ∈ lw_tbl := fun w h => (goodIn_p wsX80 [] (by decide +kernel) (by decide +kernel) w h).1
theorem wsL_law_in0 : ∀ w ∈ wsL_law0, w ∈ lw_tbl := List.forall_mem_append.mpr ⟨List.forall_mem_append.mpr ⟨List.forall_mem_append.mpr ⟨List.forall_mem_append.mpr ⟨List.forall_mem_append.mpr ⟨List.forall_mem_append.mpr ⟨List.forall_mem_append.mpr ⟨List.forall_mem_append.mpr ⟨List.forall_mem_append.mpr ⟨List.forall_mem_append.mpr ⟨List.forall_mem_append.mpr ⟨List.forall_mem_append.mpr ⟨zlw_1, List.forall_mem_append.mpr ⟨zlw_2, List.forall_mem_append.mpr ⟨zlw_3, List.forall_mem_append.mpr ⟨zlw_4, List.forall_mem_append.mpr ⟨zlw_5, List.forall_mem_append.mpr ⟨zlw_6, List.forall_mem_append.mpr ⟨zlw_7, List.forall_mem_append.mpr ⟨zlw_8, List.forall_mem_append.mpr ⟨zlw_9, List.forall_mem_append.mpr ⟨zlw_10, List.forall_mem_append.mpr ⟨zlw_11, List.forall_mem_append.mpr ⟨zlw_12, List.forall_mem_append.mpr ⟨zlw_13, List.forall_mem_append.mpr ⟨zlw_14, List.forall_mem_append.mpr ⟨zlw_15, List.forall_mem_append.mpr ⟨zlw_16, List.forall_mem_append.mpr ⟨zlw_17, List.forall_mem_append.mpr ⟨zlw_18, List.forall_mem_append.mpr ⟨zlw_19, List.forall_mem_append.mpr ⟨zlw_20, List.forall_mem_append.mpr ⟨zlw_21, List.forall_mem_append.mpr ⟨zlw_22, List.forall_mem_append.mpr ⟨zlw_23, List.forall_mem_append.mpr ⟨zlw_24, List.forall_mem_append.mpr ⟨zlw_25, List.forall_mem_append.mpr ⟨zlw_26, List.forall_mem_append.mpr ⟨zlw_27, List.forall_mem_append.mpr ⟨zlw_28, List.forall_mem_append.mpr ⟨zlw_29, List.forall_mem_append.mpr ⟨zlw_30, List.forall_mem_append.mpr ⟨zlw_31, List.forall_mem_append.mpr ⟨zlw_32, List.forall_mem_append.mpr ⟨zlw_33, List.forall_mem_append.mpr ⟨zlw_34, List.forall_mem_append.mpr ⟨zlw_35, List.forall_mem_append.mpr ⟨zlw_36, List.forall_mem_append.mpr ⟨zlw_37, List.forall_mem_append.mpr ⟨zlw_38, List.forall_mem_append.mpr ⟨zlw_39, List.forall_mem_append.mpr ⟨zlw_40, List.forall_mem_append.mpr ⟨zlw_41, List.forall_mem_append.mpr ⟨zlw_42, zlw_43⟩⟩⟩⟩⟩⟩⟩⟩⟩⟩⟩⟩⟩⟩⟩⟩⟩⟩⟩⟩⟩⟩⟩⟩⟩⟩⟩⟩⟩⟩⟩⟩⟩⟩⟩⟩⟩⟩⟩⟩⟩⟩, zlx_7⟩, zlx_9⟩, zlx_6⟩, zlx_4⟩, zlx_1⟩, zlx_5⟩, zlx_0⟩, zlx_2⟩, zlx_3⟩, zlx_8⟩, fun _ h => absurd h List.not_mem_nil⟩
theorem wsL_law_x0 : ∀ w ∈ (vx_atS RX7 78 "java/lang/IllegalStateException" ["java/lang/RuntimeException", "java/lang/Exception"]).filter goodWord, w ∈ lw_tbl := by decide +kernel
theorem wsL_law_x1 : ∀ w ∈ (vx_atS RX7 103 "java/lang/IllegalArgumentException" ["java/lang/RuntimeException", "java/lang/Exception"]).filter goodWord, w ∈ lw_tbl := by decide +kernel
theorem wsL_law_x2 : ∀ w ∈ (vx_atS RX7 94 "java/lang/IndexOutOfBoundsException" ["java/lang/RuntimeException", "java/lang/Exception"]).filter goodWord, w ∈ lw_tbl := by decide +kernel
theorem wsL_law_in : ∀ w ∈ wsL_law, w ∈ lw_tbl := fun w h => (List.mem_append.mp h).elim (fun h => (List.mem_append.mp h).elim (fun h => (List.mem_append.mp h).elim (fun h => wsL_law_in0 w h) (fun h => wsL_law_x0 w h)) (fun h => wsL_law_x1 w h)) (fun h => wsL_law_x2 w h)
theorem inlX0 : ∀ w ∈ wsX00, w ∈ wsL_law := fun _ h => List.mem_append_left _ (List.mem_append_left _ (List.mem_append_left _ (List.mem_append_left _ (List.mem_append_left _ (List.mem_append_left _ (List.mem_append_left _ (List.mem_append_right _ h)))))))
theorem inX0 : ∀ w ∈ wsX00, w ∈ lw_tbl := fun w h => wsL_law_in w (inlX0 w h)
theorem inlX1 : ∀ w ∈ wsX10, w ∈ wsL_law := fun _ h => List.mem_append_left _ (List.mem_append_left _ (List.mem_append_left _ (List.mem_append_left _ (List.mem_append_left _ (List.mem_append_left _ (List.mem_append_left _ (List.mem_append_left _ (List.mem_append_left _ (List.mem_append_right _ h)))))))))
theorem inX1 : ∀ w ∈ wsX10, w ∈ lw_tbl := fun w h => wsL_law_in w (inlX1 w h)
theorem inlX2 : ∀ w ∈ wsX20, w ∈ wsL_law := fun _ h => List.mem_append_left _ (List.mem_append_left _ (List.mem_append_left _ (List.mem_append_left _ (List.mem_append_left _ (List.mem_append_left _ (List.mem_append_right _ h))))))
theorem inX2 : ∀ w ∈ wsX20, w ∈ lw_tbl := fun w h => wsL_law_in w (inlX2 w h)
theorem inlX3 : ∀ w ∈ wsX30, w ∈ wsL_law := fun _ h => List.mem_append_left _ (List.mem_append_left _ (List.mem_append_left _ (List.mem_append_left _ (List.mem_append_left _ (List.mem_append_right _ h)))))
theorem inX3 : ∀ w ∈ wsX30, w ∈ lw_tbl := fun w h => wsL_law_in w (inlX3 w h)
theorem inlX4 : ∀ w ∈ wsX40, w ∈ wsL_law := fun _ h => List.mem_append_left _ (List.mem_append_left _ (List.mem_append_left _ (List.mem_append_left _ (List.mem_append_left _ (List.mem_append_left _ (List.mem_append_left _ (List.mem_append_left _ (List.mem_append_left _ (List.mem_append_left _ (List.mem_append_right _ h))))))))))
theorem inX4 : ∀ w ∈ wsX40, w ∈ lw_tbl := fun w h => wsL_law_in w (inlX4 w h)
theorem inlX5 : ∀ w ∈ wsX50, w ∈ wsL_law := fun _ h => List.mem_append_left _ (List.mem_append_left _ (List.mem_append_left _ (List.mem_append_left _ (List.mem_append_left _ (List.mem_append_left _ (List.mem_append_left _ (List.mem_append_left _ (List.mem_append_right _ h))))))))
theorem inX5 : ∀ w ∈ wsX50, w ∈ lw_tbl := fun w h => wsL_law_in w (inlX5 w h)
theorem inlX6 : ∀ w ∈ wsX60, w ∈ wsL_law := fun _ h => List.mem_append_left _ (List.mem_append_left _ (List.mem_append_left _ (List.mem_append_left _ (List.mem_append_left _ (List.mem_append_left _ (List.mem_append_left _ (List.mem_append_left _ (List.mem_append_left _ (List.mem_append_left _ (List.mem_append_left _ (List.mem_append_right _ h)))))))))))
theorem inX6 : ∀ w ∈ wsX60, w ∈ lw_tbl := fun w h => wsL_law_in w (inlX6 w h)
theorem inlX7 : ∀ w ∈ wsX70, w ∈ wsL_law := fun _ h => List.mem_append_left _ (List.mem_append_left _ (List.mem_append_left _ (List.mem_append_left _ (List.mem_append_left _ (List.mem_append_left _ (List.mem_append_left _ (List.mem_append_left _ (List.mem_append_left _ (List.mem_append_left _ (List.mem_append_left _ (List.mem_append_left _ (List.mem_append_left _ (List.mem_append_right _ h)))))))))))))
theorem inX7 : ∀ w ∈ wsX70, w ∈ lw_tbl := fun w h => wsL_law_in w (inlX7 w h)
theorem inlX8 : ∀ w ∈ wsX80, w ∈ wsL_law := fun _ h => List.mem_append_left _ (List.mem_append_left _ (List.mem_append_left _ (List.mem_append_left _ (List.mem_append_right _ h))))
theorem inX8 : ∀ w ∈ wsX80, w ∈ lw_tbl := fun w h => wsL_law_in w (inlX8 w h)
theorem inlX9 : ∀ w ∈ wsX90, w ∈ wsL_law := fun _ h => List.mem_append_left _ (List.mem_append_left _ (List.mem_append_left _ (List.mem_append_left _ (List.mem_append_left _ (List.mem_append_left _ (List.mem_append_left _ (List.mem_append_left _ (List.mem_append_left _ (List.mem_append_left _ (List.mem_append_left _ (List.mem_append_left _ (List.mem_append_right _ h))))))))))))
theorem inX9 : ∀ w ∈ wsX90, w ∈ lw_tbl := fun w h => wsL_law_in w (inlX9 w h)
-- uses: inX0 inX1 inX2 inX3 inX4 inX5 inX6 inX7 inX8 inX9 wsL_law_in
