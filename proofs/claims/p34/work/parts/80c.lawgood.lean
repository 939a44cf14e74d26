/-! words of the Hedge's methods -/
set_option maxRecDepth 20000 in
theorem zggL_law_X8_change_1 : GoodIn wsL_law [.code yX8_change cX8_change 4 (some .boolean)] := goodIn_r _ [219] (by decide +kernel) (by decide +kernel)
set_option maxRecDepth 20000 in
theorem zggL_law_X8_change_2 : GoodIn wsL_law wsX8_change_r1 := goodIn_r _ [220, 21, 24, 221, 11, 25, 137, 138, 139, 140, 222, 111, 112, 113, 2, 114, 27, 28, 115, 116, 117, 118, 119, 120] (by decide +kernel) (by decide +kernel)
set_option maxRecDepth 20000 in
theorem zggL_law_X8_change_3 : GoodIn wsL_law wsX8_change_r2 := goodIn_r _ [121, 126, 127, 128, 129, 130, 131, 132, 133, 134, 135, 136, 22, 141, 142, 143, 20, 144, 36, 145, 146, 147, 148, 149] (by decide +kernel) (by decide +kernel)
set_option maxRecDepth 20000 in
theorem zggL_law_X8_change_4 : GoodIn wsL_law wsX8_change_r3 := goodIn_r _ [150, 151, 152, 153, 154, 35, 155, 156, 157, 158, 159, 160, 64, 161, 162, 163, 164, 41, 165, 45, 166, 49, 167, 53] (by decide +kernel) (by decide +kernel)
set_option maxRecDepth 20000 in
theorem zggL_law_X8_change_5 : GoodIn wsL_law wsX8_change_r4 := goodIn_r _ [168, 169, 170, 171, 172, 23, 173, 174, 175, 176, 177, 178, 179, 180, 181, 182, 183, 184, 185, 186, 187, 188, 189, 190] (by decide +kernel) (by decide +kernel)
set_option maxRecDepth 20000 in
theorem zggL_law_X8_change_6 : GoodIn wsL_law wsX8_change_r5 := goodIn_r _ [191, 192, 193, 66, 194, 195, 196, 70, 71, 197, 198, 199, 200, 201, 202, 203, 204, 205, 206, 207, 208, 209, 210, 211] (by decide +kernel) (by decide +kernel)
set_option maxRecDepth 20000 in
theorem zggL_law_X8_change_7 : GoodIn wsL_law wsX8_change_r6 := goodIn_r _ [212, 213, 214, 215, 223, 224, 225, 226, 227, 228, 9, 229, 230, 231, 232, 233, 234, 235, 236, 237, 238, 239, 240, 241] (by decide +kernel) (by decide +kernel)
set_option maxRecDepth 20000 in
theorem zggL_law_X8_change_8 : GoodIn wsL_law wsX8_change_r7 := goodIn_r _ [242, 243, 244, 245, 246, 247, 248, 249, 37, 250, 251, 252, 253, 254, 255, 256, 257, 258] (by decide +kernel) (by decide +kernel)
set_option maxRecDepth 20000 in
theorem zggL_law_X8_change_9 : GoodIn wsL_law wsX80 := goodIn_r _ [627, 628, 629, 630, 631, 632, 633, 634, 635, 636] (by decide +kernel) (by decide +kernel)
set_option maxRecDepth 20000 in
theorem zggL_law_X8_change_10 : GoodIn wsL_law wsX70 := goodIn_r _ [637, 638, 639, 640, 641, 642, 643, 644] (by decide +kernel) (by decide +kernel)
set_option maxRecDepth 20000 in
theorem zggL_law_X8_change_11 : GoodIn wsL_law wsX60 := goodIn_r _ [645, 646, 647] (by decide +kernel) (by decide +kernel)
set_option maxRecDepth 20000 in
theorem zggL_law_X8_change_12 : GoodIn wsL_law wsX40 := goodIn_r _ [648, 649, 650, 651, 652] (by decide +kernel) (by decide +kernel)
set_option maxRecDepth 20000 in
theorem zggL_law_X8_change_13 : GoodIn wsL_law wsX10 := goodIn_r _ [653, 654, 655, 656, 657, 658] (by decide +kernel) (by decide +kernel)
set_option maxRecDepth 20000 in
theorem zggL_law_X8_change_14 : GoodIn wsL_law wsX50 := goodIn_r _ [659, 660, 661, 662, 663, 664, 665] (by decide +kernel) (by decide +kernel)
set_option maxRecDepth 20000 in
theorem zggL_law_X8_change_15 : GoodIn wsL_law wsX00 := goodIn_r _ [666, 667, 668, 669, 670, 671, 672] (by decide +kernel) (by decide +kernel)
set_option maxRecDepth 20000 in
theorem zggL_law_X8_change_16 : GoodIn wsL_law wsX30 := goodIn_r _ [679, 680, 681, 682] (by decide +kernel) (by decide +kernel)
set_option maxRecDepth 20000 in
theorem ggL_law_X8_change : GoodIn wsL_law wsX8_change := goodIn_ca (goodIn_ca (goodIn_ca (goodIn_app (a := [.code yX8_change cX8_change 4 (some .boolean)]) zggL_law_X8_change_1 (goodIn_app (goodIn_app (goodIn_app (goodIn_app (goodIn_app (goodIn_app (goodIn_app (goodIn_app (goodIn_app (zggL_law_X8_change_2) (goodIn_app (zggL_law_X8_change_3) (goodIn_app (zggL_law_X8_change_4) (goodIn_app (zggL_law_X8_change_5) (goodIn_app (zggL_law_X8_change_6) (goodIn_app (zggL_law_X8_change_7) (zggL_law_X8_change_8))))))) (zggL_law_X8_change_9)) (zggL_law_X8_change_10)) (zggL_law_X8_change_11)) (zggL_law_X8_change_12)) (zggL_law_X8_change_13)) (zggL_law_X8_change_14)) (zggL_law_X8_change_15)) (zggL_law_X8_change_16))) (goodIn_sub (fun _ h => List.mem_append_left _ (List.mem_append_left _ (List.mem_append_right _ h))) (by decide +kernel))) (goodIn_sub (fun _ h => List.mem_append_left _ (List.mem_append_right _ h)) (by decide +kernel))) (goodIn_sub (fun _ h => List.mem_append_right _ h) (by decide +kernel))
set_option maxRecDepth 20000 in
theorem gL_law_X8_change : GoodIn wsL_law (wsV RL 22 RX8 yX8_change wsX8_change) := goodIn_app (goodIn_of _ (by decide +kernel)) ggL_law_X8_change
set_option maxRecDepth 20000 in
theorem zggL_law_X8_found_1 : GoodIn wsL_law [.code yX8_found cX8_found 2 (some .boolean)] := goodIn_r _ [125] (by decide +kernel) (by decide +kernel)
set_option maxRecDepth 20000 in
theorem zggL_law_X8_found_2 : GoodIn wsL_law wsX8_found_r1 := goodIn_r _ [126, 127, 128, 2, 129, 24, 11, 21, 130, 131, 132, 133, 111, 112, 113, 114, 27, 28, 115, 116, 117, 118, 119, 120] (by decide +kernel) (by decide +kernel)
set_option maxRecDepth 20000 in
theorem zggL_law_X8_found_3 : GoodIn wsL_law wsX8_found_r2 := goodIn_r _ [121, 134, 135, 136, 22, 137, 138, 139, 140, 141, 142, 143, 20, 144, 36, 145, 146, 147, 148, 149, 150, 151, 152, 153] (by decide +kernel) (by decide +kernel)
set_option maxRecDepth 20000 in
theorem zggL_law_X8_found_4 : GoodIn wsL_law wsX8_found_r3 := goodIn_r _ [154, 35, 155, 156, 157, 158, 159, 160, 64, 161, 162, 163, 164, 41, 165, 45, 166, 49, 167, 53, 168, 169, 170, 171] (by decide +kernel) (by decide +kernel)
set_option maxRecDepth 20000 in
theorem zggL_law_X8_found_5 : GoodIn wsL_law wsX8_found_r4 := goodIn_r _ [172, 23, 173, 174, 175, 176, 177, 178, 179, 180, 181, 182, 183, 184, 185, 186, 187, 188, 189, 190, 191, 192, 193, 66] (by decide +kernel) (by decide +kernel)
set_option maxRecDepth 20000 in
theorem zggL_law_X8_found_6 : GoodIn wsL_law wsX8_found_r5 := goodIn_r _ [194, 195, 196, 70, 71, 197, 198, 199, 200, 201, 202, 203, 204, 205, 206, 207, 208, 209, 210, 211, 212, 213, 214, 215] (by decide +kernel) (by decide +kernel)
set_option maxRecDepth 20000 in
theorem zggL_law_X8_found_7 : GoodIn wsL_law wsX8_found_r6 := goodIn_r _ [216, 217, 218, 219, 220, 221, 25, 222, 223, 224, 225, 226, 227, 228, 9, 229, 230, 231, 232, 233, 234, 235, 236, 237] (by decide +kernel) (by decide +kernel)
set_option maxRecDepth 20000 in
theorem zggL_law_X8_found_8 : GoodIn wsL_law wsX8_found_r7 := goodIn_r _ [238, 239, 240, 241, 242, 243, 244, 245, 246, 247, 248, 249, 37, 250, 251, 252, 253, 254, 255, 256, 257, 258] (by decide +kernel) (by decide +kernel)
set_option maxRecDepth 20000 in
theorem zggL_law_X8_found_9 : GoodIn wsL_law wsX80 := goodIn_r _ [627, 628, 629, 630, 631, 632, 633, 634, 635, 636] (by decide +kernel) (by decide +kernel)
set_option maxRecDepth 20000 in
theorem zggL_law_X8_found_10 : GoodIn wsL_law wsX70 := goodIn_r _ [637, 638, 639, 640, 641, 642, 643, 644] (by decide +kernel) (by decide +kernel)
set_option maxRecDepth 20000 in
theorem zggL_law_X8_found_11 : GoodIn wsL_law wsX60 := goodIn_r _ [645, 646, 647] (by decide +kernel) (by decide +kernel)
set_option maxRecDepth 20000 in
theorem zggL_law_X8_found_12 : GoodIn wsL_law wsX40 := goodIn_r _ [648, 649, 650, 651, 652] (by decide +kernel) (by decide +kernel)
set_option maxRecDepth 20000 in
theorem zggL_law_X8_found_13 : GoodIn wsL_law wsX10 := goodIn_r _ [653, 654, 655, 656, 657, 658] (by decide +kernel) (by decide +kernel)
set_option maxRecDepth 20000 in
theorem zggL_law_X8_found_14 : GoodIn wsL_law wsX50 := goodIn_r _ [659, 660, 661, 662, 663, 664, 665] (by decide +kernel) (by decide +kernel)
set_option maxRecDepth 20000 in
theorem zggL_law_X8_found_15 : GoodIn wsL_law wsX00 := goodIn_r _ [666, 667, 668, 669, 670, 671, 672] (by decide +kernel) (by decide +kernel)
set_option maxRecDepth 20000 in
theorem zggL_law_X8_found_16 : GoodIn wsL_law wsX30 := goodIn_r _ [679, 680, 681, 682] (by decide +kernel) (by decide +kernel)
set_option maxRecDepth 20000 in
theorem ggL_law_X8_found : GoodIn wsL_law wsX8_found := goodIn_ca (goodIn_ca (goodIn_ca (goodIn_app (a := [.code yX8_found cX8_found 2 (some .boolean)]) zggL_law_X8_found_1 (goodIn_app (goodIn_app (goodIn_app (goodIn_app (goodIn_app (goodIn_app (goodIn_app (goodIn_app (goodIn_app (zggL_law_X8_found_2) (goodIn_app (zggL_law_X8_found_3) (goodIn_app (zggL_law_X8_found_4) (goodIn_app (zggL_law_X8_found_5) (goodIn_app (zggL_law_X8_found_6) (goodIn_app (zggL_law_X8_found_7) (zggL_law_X8_found_8))))))) (zggL_law_X8_found_9)) (zggL_law_X8_found_10)) (zggL_law_X8_found_11)) (zggL_law_X8_found_12)) (zggL_law_X8_found_13)) (zggL_law_X8_found_14)) (zggL_law_X8_found_15)) (zggL_law_X8_found_16))) (goodIn_sub (fun _ h => List.mem_append_left _ (List.mem_append_left _ (List.mem_append_right _ h))) (by decide +kernel))) (goodIn_sub (fun _ h => List.mem_append_left _ (List.mem_append_right _ h)) (by decide +kernel))) (goodIn_sub (fun _ h => List.mem_append_right _ h) (by decide +kernel))
set_option maxRecDepth 20000 in
theorem gL_law_X8_found : GoodIn wsL_law (wsV RL 18 RX8 yX8_found wsX8_found) := goodIn_app (goodIn_of _ (by decide +kernel)) ggL_law_X8_found
set_option maxRecDepth 20000 in
theorem zggL_law_X8_init_1 : GoodIn wsL_law [.code yX8_init cX8_init 8 none] := goodIn_r _ [14] (by decide +kernel) (by decide +kernel)
set_option maxRecDepth 20000 in
theorem zggL_law_X8_init_2 : GoodIn wsL_law wsX8_init_r1 := goodIn_r _ [15, 16, 17, 18, 19, 20, 21, 22, 23, 24, 25, 26, 27, 28, 11, 29, 30, 31, 32, 33, 34, 35, 36, 37] (by decide +kernel) (by decide +kernel)
set_option maxRecDepth 20000 in
theorem zggL_law_X8_init_3 : GoodIn wsL_law wsX8_init_r2 := goodIn_r _ [38, 39, 40, 41, 42, 43, 44, 45, 46, 47, 48, 49, 50, 51, 52, 53, 54, 55, 56, 57, 58, 59, 60, 61] (by decide +kernel) (by decide +kernel)
set_option maxRecDepth 20000 in
theorem zggL_law_X8_init_4 : GoodIn wsL_law wsX8_init_r3 := goodIn_r _ [62, 63, 64, 65, 66, 67, 68, 69, 70, 71, 72, 73, 74, 75, 76, 77, 78, 79, 80, 81, 82, 83, 84, 85] (by decide +kernel) (by decide +kernel)
set_option maxRecDepth 20000 in
theorem zggL_law_X8_init_5 : GoodIn wsL_law wsX8_init_r4 := goodIn_r _ [86, 87, 88, 89, 90, 91, 92, 93, 94, 95, 96, 97, 98, 99, 100, 101, 102, 103, 104, 105, 106, 107, 108, 109] (by decide +kernel) (by decide +kernel)
set_option maxRecDepth 20000 in
theorem zggL_law_X8_init_6 : GoodIn wsL_law wsX8_init_r5 := goodIn_r _ [110, 111, 112, 113, 2, 114, 115, 116, 117, 118, 119, 120, 121] (by decide +kernel) (by decide +kernel)
set_option maxRecDepth 20000 in
theorem zggL_law_X8_init_7 : GoodIn wsL_law wsX70 := goodIn_r _ [637, 638, 639, 640, 641, 642, 643, 644] (by decide +kernel) (by decide +kernel)
set_option maxRecDepth 20000 in
theorem zggL_law_X8_init_8 : GoodIn wsL_law wsX80 := goodIn_r _ [627, 628, 629, 630, 631, 632, 633, 634, 635, 636] (by decide +kernel) (by decide +kernel)
set_option maxRecDepth 20000 in
theorem zggL_law_X8_init_9 : GoodIn wsL_law wsX60 := goodIn_r _ [645, 646, 647] (by decide +kernel) (by decide +kernel)
set_option maxRecDepth 20000 in
theorem zggL_law_X8_init_10 : GoodIn wsL_law wsX40 := goodIn_r _ [648, 649, 650, 651, 652] (by decide +kernel) (by decide +kernel)
set_option maxRecDepth 20000 in
theorem zggL_law_X8_init_11 : GoodIn wsL_law wsX10 := goodIn_r _ [653, 654, 655, 656, 657, 658] (by decide +kernel) (by decide +kernel)
set_option maxRecDepth 20000 in
theorem zggL_law_X8_init_12 : GoodIn wsL_law wsX50 := goodIn_r _ [659, 660, 661, 662, 663, 664, 665] (by decide +kernel) (by decide +kernel)
set_option maxRecDepth 20000 in
theorem zggL_law_X8_init_13 : GoodIn wsL_law wsX00 := goodIn_r _ [666, 667, 668, 669, 670, 671, 672] (by decide +kernel) (by decide +kernel)
set_option maxRecDepth 20000 in
theorem zggL_law_X8_init_14 : GoodIn wsL_law wsX20 := goodIn_r _ [673, 674, 675, 676, 677, 678] (by decide +kernel) (by decide +kernel)
set_option maxRecDepth 20000 in
theorem zggL_law_X8_init_15 : GoodIn wsL_law wsX30 := goodIn_r _ [679, 680, 681, 682] (by decide +kernel) (by decide +kernel)
set_option maxRecDepth 20000 in
theorem ggL_law_X8_init : GoodIn wsL_law wsX8_init := goodIn_app (a := [.code yX8_init cX8_init 8 none]) zggL_law_X8_init_1 (goodIn_app (goodIn_app (goodIn_app (goodIn_app (goodIn_app (goodIn_app (goodIn_app (goodIn_app (goodIn_app (goodIn_app (zggL_law_X8_init_2) (goodIn_app (zggL_law_X8_init_3) (goodIn_app (zggL_law_X8_init_4) (goodIn_app (zggL_law_X8_init_5) (zggL_law_X8_init_6))))) (zggL_law_X8_init_7)) (zggL_law_X8_init_8)) (zggL_law_X8_init_9)) (zggL_law_X8_init_10)) (zggL_law_X8_init_11)) (zggL_law_X8_init_12)) (zggL_law_X8_init_13)) (zggL_law_X8_init_14)) (zggL_law_X8_init_15))
set_option maxRecDepth 20000 in
theorem gL_law_X8_init : GoodIn wsL_law (wsX8_init) := ggL_law_X8_init
-- uses: gL_law_X8_change gL_law_X8_found gL_law_X8_init
