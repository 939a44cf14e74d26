/-! Nettle: the checksum -/
theorem dX7_digest_0 : decode cX7_digest 0 = .ok (.ldc2_w 292, 3) := by decide +kernel
theorem dX7_digest_3 : decode cX7_digest 3 = .ok (.aload_n 0, 1) := by decide +kernel
set_option maxRecDepth 20000 in
theorem ggX7_digest_X7_rules : GoodIn wsX7_digest wsX7_rules := goodIn_r _ [12, 2, 3, 353, 354, 355, 356, 357, 358, 359, 360, 361, 362, 363] (by decide +kernel) (by decide +kernel)
set_option maxRecDepth 20000 in
theorem gX7_digest_X7_rules : GoodIn wsX7_digest (wsV RX7 294 RX7 yX7_rules wsX7_rules) := goodIn_app (goodIn_of _ (by decide +kernel)) ggX7_digest_X7_rules
theorem dX7_digest_4 : decode cX7_digest 4 = .ok (.invokevirtual 294, 3) := by decide +kernel
set_option maxRecDepth 20000 in
theorem ggX7_digest_X7_mix : GoodIn wsX7_digest wsX7_mix := goodIn_r _ [15, 16] (by decide +kernel) (by decide +kernel)
set_option maxRecDepth 20000 in
theorem gX7_digest_X7_mix : GoodIn wsX7_digest (va_wsS RX7 297 yX7_mix wsX7_mix) := goodIn_app (goodIn_of _ (by decide +kernel)) ggX7_digest_X7_mix
theorem dX7_digest_7 : decode cX7_digest 7 = .ok (.invokestatic 297, 3) := by decide +kernel
theorem dX7_digest_10 : decode cX7_digest 10 = .ok (.lstore_n 1, 1) := by decide +kernel
theorem dX7_digest_11 : decode cX7_digest 11 = .ok (.iconst 0, 1) := by decide +kernel
theorem dX7_digest_12 : decode cX7_digest 12 = .ok (.istore_n 3, 1) := by decide +kernel
theorem dX7_digest_13 : decode cX7_digest 13 = .ok (.iload_n 3, 1) := by decide +kernel
theorem dX7_digest_14 : decode cX7_digest 14 = .ok (.aload_n 0, 1) := by decide +kernel
theorem dX7_digest_15 : decode cX7_digest 15 = .ok (.getfield 10, 3) := by decide +kernel
theorem dX7_digest_18 : decode cX7_digest 18 = .ok (.getfield 70, 3) := by decide +kernel
theorem dX7_digest_21 : decode cX7_digest 21 = .ok (.if_icmp .ge 16, 3) := by decide +kernel
theorem dX7_digest_37 : decode cX7_digest 37 = .ok (.lload_n 1, 1) := by decide +kernel
theorem dX7_digest_38 : decode cX7_digest 38 = .ok (.aload_n 0, 1) := by decide +kernel
set_option maxRecDepth 20000 in
theorem ggX7_digest_X7_allowed : GoodIn wsX7_digest wsX7_allowed := goodIn_r _ [147, 45, 46, 47, 11, 48, 49, 50, 51, 52, 53, 54, 55, 56, 57, 58, 59, 60, 61, 62, 63, 64, 65, 66, 67, 68, 69, 70, 71, 72, 6, 73, 74, 75, 5, 7, 76, 77, 78, 79, 80, 81, 82, 83, 84, 85, 140, 141, 142, 143, 90, 91, 92, 93, 94, 95, 96, 97, 98, 99, 100, 115, 116, 117, 118, 119, 120, 121, 353, 354, 355, 356, 357, 358, 359, 360, 368, 369, 370, 371, 372, 361, 362, 363, 364, 365, 366, 367] (by decide +kernel) (by decide +kernel)
set_option maxRecDepth 20000 in
theorem gX7_digest_X7_allowed : GoodIn wsX7_digest (wsV RX7 304 RX7 yX7_allowed wsX7_allowed) := goodIn_app (goodIn_of _ (by decide +kernel)) ggX7_digest_X7_allowed
theorem dX7_digest_39 : decode cX7_digest 39 = .ok (.invokevirtual 304, 3) := by decide +kernel
theorem dX7_digest_42 : decode cX7_digest 42 = .ok (.invokestatic 297, 3) := by decide +kernel
theorem dX7_digest_45 : decode cX7_digest 45 = .ok (.lstore_n 1, 1) := by decide +kernel
theorem dX7_digest_46 : decode cX7_digest 46 = .ok (.lload_n 1, 1) := by decide +kernel
theorem dX7_digest_47 : decode cX7_digest 47 = .ok (.aload_n 0, 1) := by decide +kernel
set_option maxRecDepth 20000 in
theorem ggX7_digest_X7_quarrels : GoodIn wsX7_digest wsX7_quarrels := goodIn_r _ [151, 2, 3, 25, 152, 153, 154, 98, 155, 100, 156, 96, 97, 99, 157, 158, 159, 160, 130, 161, 72, 6, 73, 131, 162, 5, 7, 353, 354, 355, 356, 357, 358, 359, 360, 361, 362, 363, 364, 365, 366, 367] (by decide +kernel) (by decide +kernel)
set_option maxRecDepth 20000 in
theorem gX7_digest_X7_quarrels : GoodIn wsX7_digest (wsV RX7 307 RX7 yX7_quarrels wsX7_quarrels) := goodIn_app (goodIn_of _ (by decide +kernel)) ggX7_digest_X7_quarrels
theorem dX7_digest_48 : decode cX7_digest 48 = .ok (.invokevirtual 307, 3) := by decide +kernel
theorem dX7_digest_51 : decode cX7_digest 51 = .ok (.invokestatic 297, 3) := by decide +kernel
theorem dX7_digest_54 : decode cX7_digest 54 = .ok (.lstore_n 1, 1) := by decide +kernel
theorem dX7_digest_55 : decode cX7_digest 55 = .ok (.lload_n 1, 1) := by decide +kernel
theorem dX7_digest_56 : decode cX7_digest 56 = .ok (.aload_n 0, 1) := by decide +kernel
set_option maxRecDepth 20000 in
theorem ggX7_digest_X7_nodes : GoodIn wsX7_digest wsX7_nodes := goodIn_r _ [166, 167, 168, 169, 170, 11, 171, 172, 173, 174, 175, 176, 177, 178, 179, 180, 181, 182, 183, 184, 185, 186, 187, 188, 5, 6, 7, 189, 190, 191, 192, 79, 193, 81, 94, 194, 195, 196, 98, 197, 130, 131, 198, 199, 200, 201, 202, 203, 204, 205, 206, 207, 208, 209, 210, 211, 212, 213, 214, 91, 92, 93, 95, 96, 97, 99, 100, 215, 216, 217, 218, 219, 220, 221, 222, 223, 224, 225, 121, 77, 78, 80, 226, 227, 228, 229, 230, 231, 232, 233, 234, 235, 236, 237, 238, 373, 374, 375, 376, 377, 378, 379, 353, 354, 355, 356, 357, 358, 359, 360, 380, 381, 382, 383, 384, 385, 361, 362, 363, 364, 365, 366, 367] (by decide +kernel) (by decide +kernel)
set_option maxRecDepth 20000 in
theorem gX7_digest_X7_nodes : GoodIn wsX7_digest (wsV RX7 310 RX7 yX7_nodes wsX7_nodes) := goodIn_app (goodIn_of _ (by decide +kernel)) ggX7_digest_X7_nodes
theorem dX7_digest_57 : decode cX7_digest 57 = .ok (.invokevirtual 310, 3) := by decide +kernel
theorem dX7_digest_60 : decode cX7_digest 60 = .ok (.invokestatic 297, 3) := by decide +kernel
theorem dX7_digest_63 : decode cX7_digest 63 = .ok (.lstore_n 1, 1) := by decide +kernel
theorem dX7_digest_64 : decode cX7_digest 64 = .ok (.bipush 20, 2) := by decide +kernel
theorem dX7_digest_66 : decode cX7_digest 66 = .ok (.aload_n 0, 1) := by decide +kernel
theorem dX7_digest_67 : decode cX7_digest 67 = .ok (.invokevirtual 310, 3) := by decide +kernel
theorem dX7_digest_70 : decode cX7_digest 70 = .ok (.invokestatic 313, 3) := by decide +kernel
theorem dX7_digest_73 : decode cX7_digest 73 = .ok (.istore_n 3, 1) := by decide +kernel
theorem dX7_digest_74 : decode cX7_digest 74 = .ok (.iconst 0, 1) := by decide +kernel
theorem dX7_digest_75 : decode cX7_digest 75 = .ok (.istore 4, 2) := by decide +kernel
theorem dX7_digest_77 : decode cX7_digest 77 = .ok (.iload 4, 2) := by decide +kernel
theorem dX7_digest_79 : decode cX7_digest 79 = .ok (.iload_n 3, 1) := by decide +kernel
theorem dX7_digest_80 : decode cX7_digest 80 = .ok (.if_icmp .ge 17, 3) := by decide +kernel
theorem dX7_digest_97 : decode cX7_digest 97 = .ok (.aload_n 0, 1) := by decide +kernel
theorem dX7_digest_98 : decode cX7_digest 98 = .ok (.lload_n 1, 1) := by decide +kernel
set_option maxRecDepth 20000 in
theorem ggX7_digest_X7_mixLog : GoodIn wsX7_digest wsX7_mixLog := goodIn_ca (goodIn_ca (goodIn_r _ [291, 292, 293, 294, 295, 296, 11, 297, 298, 299, 300, 301, 36, 37, 38, 39, 40, 13, 14, 15, 16, 302, 303, 304, 305, 34, 35, 306, 353, 354, 355, 356, 357, 358, 359, 360, 386, 387, 388, 389, 390, 391] (by decide +kernel) (by decide +kernel)) (goodIn_sub (fun _ h => List.mem_cons_of_mem _ (List.mem_append_right _ h)) (by decide +kernel))) (goodIn_sub (fun _ h => List.mem_cons_of_mem _ (List.mem_append_left _ (List.mem_append_right _ h))) (by decide +kernel))
set_option maxRecDepth 20000 in
theorem gX7_digest_X7_mixLog : GoodIn wsX7_digest (wsV RX7 319 RX7 yX7_mixLog wsX7_mixLog) := goodIn_app (goodIn_of _ (by decide +kernel)) ggX7_digest_X7_mixLog
theorem dX7_digest_99 : decode cX7_digest 99 = .ok (.invokevirtual 319, 3) := by decide +kernel
theorem dX7_digest_102 : decode cX7_digest 102 = .ok (.lstore_n 1, 1) := by decide +kernel
theorem dX7_digest_103 : decode cX7_digest 103 = .ok (.lload_n 1, 1) := by decide +kernel
theorem dX7_digest_104 : decode cX7_digest 104 = .ok (.aload_n 0, 1) := by decide +kernel
set_option maxRecDepth 20000 in
theorem ggX7_digest_X7_changed : GoodIn wsX7_digest wsX7_changed := goodIn_r _ [310, 311, 312, 313, 314, 11, 315, 172, 316, 174, 175, 176, 177, 178, 179, 180, 181, 182, 183, 184, 185, 186, 187, 188, 5, 6, 7, 189, 190, 191, 192, 79, 193, 81, 94, 194, 195, 196, 98, 197, 130, 131, 198, 199, 200, 201, 202, 203, 204, 317, 318, 319, 320, 321, 322, 323, 324, 325, 326, 327, 91, 92, 93, 95, 96, 97, 99, 100, 328, 329, 330, 331, 332, 333, 334, 335, 336, 337, 338, 223, 224, 225, 121, 77, 78, 80, 226, 227, 228, 229, 339, 340, 341, 342, 343, 116, 117, 118, 119, 120, 344, 265, 266, 267, 268, 232, 233, 234, 345, 236, 237, 238, 346, 279, 280, 281, 282, 283, 347, 392, 393, 394, 395, 396, 397, 398, 353, 354, 355, 356, 357, 358, 359, 360, 380, 381, 382, 383, 384, 385, 361, 362, 363, 364, 365, 366, 367] (by decide +kernel) (by decide +kernel)
set_option maxRecDepth 20000 in
theorem gX7_digest_X7_changed : GoodIn wsX7_digest (wsV RX7 323 RX7 yX7_changed wsX7_changed) := goodIn_app (goodIn_of _ (by decide +kernel)) ggX7_digest_X7_changed
theorem dX7_digest_105 : decode cX7_digest 105 = .ok (.invokevirtual 323, 3) := by decide +kernel
theorem dX7_digest_108 : decode cX7_digest 108 = .ok (.invokestatic 297, 3) := by decide +kernel
theorem dX7_digest_111 : decode cX7_digest 111 = .ok (.lstore_n 1, 1) := by decide +kernel
theorem dX7_digest_112 : decode cX7_digest 112 = .ok (.iconst 0, 1) := by decide +kernel
theorem dX7_digest_113 : decode cX7_digest 113 = .ok (.istore 4, 2) := by decide +kernel
theorem dX7_digest_115 : decode cX7_digest 115 = .ok (.iload 4, 2) := by decide +kernel
theorem dX7_digest_117 : decode cX7_digest 117 = .ok (.iconst 4, 1) := by decide +kernel
theorem dX7_digest_118 : decode cX7_digest 118 = .ok (.if_icmp .ge 20, 3) := by decide +kernel
theorem dX7_digest_138 : decode cX7_digest 138 = .ok (.lload_n 1, 1) := by decide +kernel
theorem dX7_digest_139 : decode cX7_digest 139 = .ok (.lreturn, 1) := by decide +kernel
theorem dX7_digest_121 : decode cX7_digest 121 = .ok (.lload_n 1, 1) := by decide +kernel
theorem dX7_digest_122 : decode cX7_digest 122 = .ok (.aload_n 0, 1) := by decide +kernel
theorem dX7_digest_123 : decode cX7_digest 123 = .ok (.iload 4, 2) := by decide +kernel
set_option maxRecDepth 20000 in
theorem ggX7_digest_X7_witness : GoodIn wsX7_digest wsX7_witness := goodIn_ca (goodIn_r _ [351, 39, 40, 352, 312, 313, 314, 11, 315, 172, 316, 174, 175, 176, 177, 178, 179, 180, 181, 182, 183, 184, 185, 186, 187, 188, 5, 6, 7, 189, 190, 191, 192, 79, 193, 81, 94, 194, 195, 196, 98, 197, 130, 131, 198, 199, 200, 201, 202, 203, 204, 317, 318, 319, 320, 321, 322, 323, 324, 325, 326, 327, 91, 92, 93, 95, 96, 97, 99, 100, 328, 329, 330, 331, 332, 333, 334, 335, 336, 337, 338, 223, 224, 225, 121, 77, 78, 80, 226, 227, 228, 229, 339, 340, 341, 342, 343, 116, 117, 118, 119, 120, 344, 265, 266, 267, 268, 232, 233, 234, 345, 236, 237, 238, 346, 279, 280, 281, 282, 283, 347, 392, 393, 394, 395, 396, 397, 398, 353, 354, 355, 356, 357, 358, 359, 360, 380, 381, 382, 383, 384, 385, 361, 362, 363, 364, 365, 366, 367] (by decide +kernel) (by decide +kernel)) (goodIn_sub (fun _ h => List.mem_cons_of_mem _ (List.mem_append_right _ h)) (by decide +kernel))
set_option maxRecDepth 20000 in
theorem gX7_digest_X7_witness : GoodIn wsX7_digest (wsV RX7 326 RX7 yX7_witness wsX7_witness) := goodIn_app (goodIn_of _ (by decide +kernel)) ggX7_digest_X7_witness
theorem dX7_digest_125 : decode cX7_digest 125 = .ok (.invokevirtual 326, 3) := by decide +kernel
theorem dX7_digest_128 : decode cX7_digest 128 = .ok (.invokestatic 297, 3) := by decide +kernel
theorem dX7_digest_131 : decode cX7_digest 131 = .ok (.lstore_n 1, 1) := by decide +kernel
theorem dX7_digest_132 : decode cX7_digest 132 = .ok (.iinc 4 1, 3) := by decide +kernel
theorem dX7_digest_135 : decode cX7_digest 135 = .ok (.goto (-20), 3) := by decide +kernel
theorem dX7_digest_83 : decode cX7_digest 83 = .ok (.aload_n 0, 1) := by decide +kernel
theorem dX7_digest_84 : decode cX7_digest 84 = .ok (.lload_n 1, 1) := by decide +kernel
theorem dX7_digest_85 : decode cX7_digest 85 = .ok (.iload 4, 2) := by decide +kernel
set_option maxRecDepth 20000 in
theorem ggX7_digest_X7_mixNode : GoodIn wsX7_digest wsX7_mixNode := goodIn_ca (goodIn_ca (goodIn_r _ [242, 243, 244, 245, 11, 246, 168, 169, 170, 171, 172, 173, 174, 175, 176, 177, 178, 179, 180, 181, 182, 183, 184, 185, 186, 187, 188, 5, 6, 7, 189, 190, 191, 192, 79, 193, 81, 94, 194, 195, 196, 98, 197, 130, 131, 198, 199, 200, 201, 202, 203, 204, 205, 206, 207, 208, 209, 210, 211, 212, 213, 214, 91, 92, 93, 95, 96, 97, 99, 100, 215, 216, 217, 218, 219, 220, 221, 222, 223, 224, 225, 121, 77, 78, 80, 226, 227, 228, 229, 230, 231, 232, 233, 234, 235, 236, 237, 238, 247, 248, 249, 34, 35, 167, 36, 37, 38, 39, 40, 250, 251, 252, 253, 254, 255, 256, 257, 258, 259, 260, 261, 262, 263, 264, 265, 266, 267, 268, 13, 14, 15, 16, 269, 270, 271, 272, 273, 274, 275, 276, 277, 278, 279, 280, 281, 282, 283, 284, 285, 286, 287, 353, 354, 355, 356, 357, 358, 359, 360, 380, 381, 382, 383, 384, 385, 361, 362, 363, 364, 365, 366, 367, 373, 374, 375, 376, 377, 378, 379] (by decide +kernel) (by decide +kernel)) (goodIn_sub (fun _ h => List.mem_cons_of_mem _ (List.mem_append_left _ (List.mem_append_right _ h))) (by decide +kernel))) (goodIn_sub (fun _ h => List.mem_cons_of_mem _ (List.mem_append_right _ h)) (by decide +kernel))
set_option maxRecDepth 20000 in
theorem gX7_digest_X7_mixNode : GoodIn wsX7_digest (wsV RX7 316 RX7 yX7_mixNode wsX7_mixNode) := goodIn_app (goodIn_of _ (by decide +kernel)) ggX7_digest_X7_mixNode
theorem dX7_digest_87 : decode cX7_digest 87 = .ok (.invokevirtual 316, 3) := by decide +kernel
theorem dX7_digest_90 : decode cX7_digest 90 = .ok (.lstore_n 1, 1) := by decide +kernel
theorem dX7_digest_91 : decode cX7_digest 91 = .ok (.iinc 4 1, 3) := by decide +kernel
theorem dX7_digest_94 : decode cX7_digest 94 = .ok (.goto (-17), 3) := by decide +kernel
theorem dX7_digest_24 : decode cX7_digest 24 = .ok (.aload_n 0, 1) := by decide +kernel
theorem dX7_digest_25 : decode cX7_digest 25 = .ok (.lload_n 1, 1) := by decide +kernel
theorem dX7_digest_26 : decode cX7_digest 26 = .ok (.iload_n 3, 1) := by decide +kernel
set_option maxRecDepth 20000 in
theorem ggX7_digest_X7_mixRule : GoodIn wsX7_digest wsX7_mixRule := goodIn_ca (goodIn_ca (goodIn_r _ [20, 21, 22, 23, 11, 24, 2, 25, 26, 27, 28, 29, 30, 31, 32, 33, 34, 35, 3, 36, 37, 38, 39, 40, 13, 14, 15, 16, 41, 42, 43, 44, 45, 46, 47, 48, 49, 50, 51, 52, 53, 54, 55, 56, 57, 58, 59, 60, 61, 62, 63, 64, 65, 66, 67, 68, 69, 70, 71, 72, 6, 73, 74, 75, 5, 7, 76, 77, 78, 79, 80, 81, 82, 83, 84, 85, 86, 87, 88, 89, 90, 91, 92, 93, 94, 95, 96, 97, 98, 99, 100, 101, 102, 103, 104, 105, 106, 107, 108, 109, 110, 111, 112, 113, 114, 115, 116, 117, 118, 119, 120, 121, 122, 123, 124, 125, 126, 127, 128, 129, 130, 131, 132, 133, 134, 135, 136, 137, 138, 139, 140, 141, 142, 143, 353, 354, 355, 356, 357, 358, 359, 360, 361, 362, 363, 364, 365, 366, 367, 368, 369, 370, 371, 372] (by decide +kernel) (by decide +kernel)) (goodIn_sub (fun _ h => List.mem_cons_of_mem _ (List.mem_append_left _ (List.mem_append_right _ h))) (by decide +kernel))) (goodIn_sub (fun _ h => List.mem_cons_of_mem _ (List.mem_append_right _ h)) (by decide +kernel))
set_option maxRecDepth 20000 in
theorem gX7_digest_X7_mixRule : GoodIn wsX7_digest (wsV RX7 301 RX7 yX7_mixRule wsX7_mixRule) := goodIn_app (goodIn_of _ (by decide +kernel)) ggX7_digest_X7_mixRule
theorem dX7_digest_27 : decode cX7_digest 27 = .ok (.invokevirtual 301, 3) := by decide +kernel
theorem dX7_digest_30 : decode cX7_digest 30 = .ok (.lstore_n 1, 1) := by decide +kernel
theorem dX7_digest_31 : decode cX7_digest 31 = .ok (.iinc 3 1, 3) := by decide +kernel
theorem dX7_digest_34 : decode cX7_digest 34 = .ok (.goto (-21), 3) := by decide +kernel
set_option maxHeartbeats 4000000 in
set_option maxRecDepth 100000 in
/-- digest -/
theorem c_X7_digest (l : Launch) (G : zG) (ad : Nat → Nat) (X : Nat → Nat → Int) (hV : zV X) (hKs : zKS X) (hKc : zKC X) (hKt : zKT X) (hKm : zKM X) (hLg : zLg X) : zR l G yX7_digest wsX7_digest { frames := 11, cells := 0, slots := 0, locals := 265 } (zpic G ad X) [.ref (ad 52)] (zL G ad (fun v Y => v = zDg Y ∧ zDch X Y)) 0 0 := by
  refine zR_of (cc := cX7_digest) (maxL := 5) (rt := (some .long)) (by decide) rfl (Nat.le_of_ble_eq_true rfl) ?_
  intro p e s m below meth c A ls hx hb hml hr hts hown hlocks hin0 hA hE hP hD hS hl
  have hl : lv_has ls 5 [(0, .ref (ad 52))] := hl
  have hown : s.vm.findClass RX7 = some m.cls := hown
  have hn := hV.n (Or.inl rfl : zIsW 0)
  have hc292 := hts (.constantLong RX7 292 (58082)) (by decide +kernel)
  have hw7 : ∀ w ∈ u_ws RX7 TX7 8, w ∈ wsX7_digest := by decide +kernel
  have hf10 := hts (.fieldLink RX7 10 "Nettle" "wall" "LNettle$Wall;") (by decide +kernel)
  have hw6 : ∀ w ∈ u_ws RX6 TX6 3, w ∈ wsX7_digest := by decide +kernel
  have hf70 := hts (.fieldLink RX7 70 "Nettle$Wall" "count" "I") (by decide +kernel)
  have hmamin := hts (.code Lib.Math.min.name Lib.Math.min.code 2 (some .int)) (by decide +kernel)
  have hml313 := hts (.methodLink RX7 313 Lib.Math.min.name) (by decide +kernel)
  have hstmin := hts (.static Lib.Math.min.name) (by decide +kernel)
  have hiniMath := hts (.initialized "java/lang/Math") (by decide +kernel)
  refine lv_ldc2 hx hb hown hc292 dX7_digest_0 ?_
  refine lv_aload_n hx hb dX7_digest_3 rfl (lv_at hl 0 rfl) ?_
  refine zcall (wr := []) (va_runV (As := []) (rest := [.long 58082]) ⟨hx, hb, hml, hown, hts⟩ (c_X7_rules l G ad X hV s.heap.size) (cwV 0 hts gX7_digest_X7_rules rfl rfl rfl (by decide +kernel) ⟨Nat.le_of_ble_eq_true rfl, Nat.le_of_ble_eq_true rfl⟩) (zPreV (wr := []) (wc := zpic G ad X) (q0 := 52) (ci := 7) (q := (RX7, TX7, 8)) hP hD hE hS hA rfl p_52) rfl rfl hl.1 rfl (lv_room (Nat.le_of_ble_eq_true rfl)) dX7_digest_4 ⟨Nat.le_of_ble_eq_true rfl, Nat.le_of_ble_eq_true rfl⟩) hP hD hS hA (fun _ _ H locs hf hP hD hS => ?_)
  obtain ⟨v1, rfl, hv1, rfl⟩ := hf
  have hP : va_P G.1 vwCl (zpic G ad X) H := hP
  have hD : va_D A (zpic G ad X) := hD
  refine W.eq (g2 := F0 m 7 ls [.int (zi v1), .long 58082]) rfl ?_
  rw [hv1]
  refine zcall (wr := []) (va_runS (As := [.long 58082, .int (zi (zN X 0 : Int))]) (rest := []) ⟨hx, hb, hml, hown, hts⟩ (c_X7_mix l G ad X 58082 (zN X 0 : Int) H.size) (va_cwS 2 hts gX7_digest_X7_mix rfl rfl rfl (by decide +kernel) ⟨Nat.le_of_ble_eq_true rfl, Nat.le_of_ble_eq_true rfl⟩) (zPre (wr := []) (wc := zpic G ad X) (As := [.long 58082, .int (zi (zN X 0 : Int))]) hP hD hE hS hA).1 rfl rfl hl.1 rfl (lv_room (Nat.le_of_ble_eq_true rfl)) dX7_digest_7 ⟨Nat.le_of_ble_eq_true rfl, Nat.le_of_ble_eq_true rfl⟩) hP hD hS hA (fun _ _ H locs hf hP hD hS => ?_)
  obtain ⟨v2, rfl, hv2, rfl⟩ := hf
  subst hv2
  have hP : va_P G.1 vwCl (zpic G ad X) H := hP
  have hD : va_D A (zpic G ad X) := hD
  refine W.eq (g2 := F0 m 10 ls [.long (zMix 58082 (zN X 0 : Int))]) rfl ?_
  refine lv_lstore_n (lv' := [(1, .long (zMix 58082 (zN X 0 : Int))), (0, .ref (ad 52))]) hx hb dX7_digest_10 rfl hl (by decide) rfl (fun ls hl => ?_)
  refine lv_iconst (v := zi 0) hx hb dX7_digest_11 rfl ?_
  refine lv_istore_n (lv' := [(3, .int (zi 0)), (1, .long (zMix 58082 (zN X 0 : Int))), (0, .ref (ad 52))]) hx hb dX7_digest_12 rfl hl (by decide) rfl (fun ls hl => ?_)
  refine zloop3 (fun (q : Nat) (D : Int64) (Y : Nat → Nat → Int) => 8 - q) (fun (q : Nat) (D : Int64) (Y : Nat → Nat → Int) (H : Heap) (locs : List Loc) (ls : Array Slot) => va_P G.1 vwCl (zpic G ad Y) H ∧ va_D A (zpic G ad Y) ∧ va_S A s.heap H locs ∧ lv_has ls 5 [(3, .int (zi (q : Int))), (1, .long D), (0, .ref (ad 52))] ∧ (q ≤ zN X 0) ∧ (zSr X Y) ∧ (D = zIt (zDR X) (zMix 58082 (zN X 0 : Int)) q)) ?_ 0 (zMix 58082 (zN X 0 : Int)) X ⟨hP, hD, hS, lv_sub hl [0, 1, 2] rfl, (Nat.zero_le _), (Or.inl rfl), rfl⟩
  intro q D Y ih H locs ls ⟨hP, hD, hS, hl, hq, hsr, hdd⟩
  have hwY : zWe X Y := hsr.we
  have hVY : zV Y := hwY.v hV
  have hKY : zKS Y := hsr.ks hV hKs
  have hnY : zN Y 0 = zN X 0 := hwY.n (Or.inl rfl : zIsW 0)
  have hnY2 := hVY.n (Or.inl rfl : zIsW 0)
  refine lv_iload_n hx hb dX7_digest_13 rfl (lv_at hl 0 rfl) ?_
  refine lv_aload_n hx hb dX7_digest_14 rfl (lv_at hl 2 rfl) ?_
  refine va_get (D := G.1) (ci := 7) (v := .ref (ad 0)) (C := RX7) (T := TX7) (N := 8) hx hb hts hw7 hown hE.1 hP 52 p_52 rfl 0 (by decide) hf10 (fun _ h9 => h9) rfl dX7_digest_15 ?_
  refine va_get (D := G.1) (ci := 6) (v := .int (zi (Y 0 1))) (C := RX6) (T := TX6) (N := 3) hx hb hts hw6 hown hE.1 hP 0 (p_w (Or.inl rfl)) rfl 1 (by decide) hf70 (fun _ h9 => h9) rfl dX7_digest_18 ?_
  refine zc_ge (tgt := 37) hx hb dX7_digest_21 (by decide) (by omega) (by omega) (fun h21 => ?_) (fun h21 => ?_)
  · refine lv_lload_n hx hb dX7_digest_37 rfl (lv_at hl 1 rfl) ?_
    refine lv_aload_n hx hb dX7_digest_38 rfl (lv_at hl 2 rfl) ?_
    refine zcall (wr := []) (va_runV (As := []) (rest := [.long D]) ⟨hx, hb, hml, hown, hts⟩ (c_X7_allowed l G ad Y hVY hKY H.size) (cwV 0 hts gX7_digest_X7_allowed rfl rfl rfl (by decide +kernel) ⟨Nat.le_of_ble_eq_true rfl, Nat.le_of_ble_eq_true rfl⟩) (zPreV (wr := []) (wc := zpic G ad Y) (q0 := 52) (ci := 7) (q := (RX7, TX7, 8)) hP hD hE hS hA rfl p_52) rfl rfl hl.1 rfl (lv_room (Nat.le_of_ble_eq_true rfl)) dX7_digest_39 ⟨Nat.le_of_ble_eq_true rfl, Nat.le_of_ble_eq_true rfl⟩) hP hD hS hA (fun _ _ H locs hf hP hD hS => ?_)
    obtain ⟨v3, X1, rfl, hv3, rfl⟩ := hf
    have hP : va_P G.1 vwCl (zpic G ad X1) H := hP
    have hD : va_D A (zpic G ad X1) := hD
    refine W.eq (g2 := F0 m 42 ls [.int (zi v3), .long D]) rfl ?_
    have hS1 : zSd X X1 := hsr.sd hv3.2
    have hi1 : zI X1 := hS1.i ⟨hV, hKs, hKc, hKt, hKm, hLg⟩
    have hV1 : zV X1 := hi1.1
    have hw1 : zWe X X1 := hS1.we
    refine zcall (wr := []) (va_runS (As := [.long D, .int (zi v3)]) (rest := []) ⟨hx, hb, hml, hown, hts⟩ (c_X7_mix l G ad X1 D v3 H.size) (va_cwS 2 hts gX7_digest_X7_mix rfl rfl rfl (by decide +kernel) ⟨Nat.le_of_ble_eq_true rfl, Nat.le_of_ble_eq_true rfl⟩) (zPre (wr := []) (wc := zpic G ad X1) (As := [.long D, .int (zi v3)]) hP hD hE hS hA).1 rfl rfl hl.1 rfl (lv_room (Nat.le_of_ble_eq_true rfl)) dX7_digest_42 ⟨Nat.le_of_ble_eq_true rfl, Nat.le_of_ble_eq_true rfl⟩) hP hD hS hA (fun _ _ H locs hf hP hD hS => ?_)
    obtain ⟨v4, rfl, hv4, rfl⟩ := hf
    subst hv4
    have hP : va_P G.1 vwCl (zpic G ad X1) H := hP
    have hD : va_D A (zpic G ad X1) := hD
    refine W.eq (g2 := F0 m 45 ls [.long (zMix D v3)]) rfl ?_
    refine lv_lstore_n (lv' := [(1, .long (zMix D v3)), (3, .int (zi (q : Int))), (0, .ref (ad 52))]) hx hb dX7_digest_45 rfl hl (by decide) rfl (fun ls hl => ?_)
    refine lv_lload_n hx hb dX7_digest_46 rfl (lv_at hl 0 rfl) ?_
    refine lv_aload_n hx hb dX7_digest_47 rfl (lv_at hl 2 rfl) ?_
    refine zcall (wr := []) (va_runV (As := []) (rest := [.long (zMix D v3)]) ⟨hx, hb, hml, hown, hts⟩ (c_X7_quarrels l G ad X1 hV1 H.size) (cwV 0 hts gX7_digest_X7_quarrels rfl rfl rfl (by decide +kernel) ⟨Nat.le_of_ble_eq_true rfl, Nat.le_of_ble_eq_true rfl⟩) (zPreV (wr := []) (wc := zpic G ad X1) (q0 := 52) (ci := 7) (q := (RX7, TX7, 8)) hP hD hE hS hA rfl p_52) rfl rfl hl.1 rfl (lv_room (Nat.le_of_ble_eq_true rfl)) dX7_digest_48 ⟨Nat.le_of_ble_eq_true rfl, Nat.le_of_ble_eq_true rfl⟩) hP hD hS hA (fun _ _ H locs hf hP hD hS => ?_)
    obtain ⟨v5, rfl, hv5, rfl⟩ := hf
    have hP : va_P G.1 vwCl (zpic G ad X1) H := hP
    have hD : va_D A (zpic G ad X1) := hD
    refine W.eq (g2 := F0 m 51 ls [.int (zi v5), .long (zMix D v3)]) rfl ?_
    refine zcall (wr := []) (va_runS (As := [.long (zMix D v3), .int (zi v5)]) (rest := []) ⟨hx, hb, hml, hown, hts⟩ (c_X7_mix l G ad X1 (zMix D v3) v5 H.size) (va_cwS 2 hts gX7_digest_X7_mix rfl rfl rfl (by decide +kernel) ⟨Nat.le_of_ble_eq_true rfl, Nat.le_of_ble_eq_true rfl⟩) (zPre (wr := []) (wc := zpic G ad X1) (As := [.long (zMix D v3), .int (zi v5)]) hP hD hE hS hA).1 rfl rfl hl.1 rfl (lv_room (Nat.le_of_ble_eq_true rfl)) dX7_digest_51 ⟨Nat.le_of_ble_eq_true rfl, Nat.le_of_ble_eq_true rfl⟩) hP hD hS hA (fun _ _ H locs hf hP hD hS => ?_)
    obtain ⟨v6, rfl, hv6, rfl⟩ := hf
    subst hv6
    have hP : va_P G.1 vwCl (zpic G ad X1) H := hP
    have hD : va_D A (zpic G ad X1) := hD
    refine W.eq (g2 := F0 m 54 ls [.long (zMix (zMix D v3) v5)]) rfl ?_
    refine lv_lstore_n (lv' := [(1, .long (zMix (zMix D v3) v5)), (3, .int (zi (q : Int))), (0, .ref (ad 52))]) hx hb dX7_digest_54 rfl hl (by decide) rfl (fun ls hl => ?_)
    refine lv_lload_n hx hb dX7_digest_55 rfl (lv_at hl 0 rfl) ?_
    refine lv_aload_n hx hb dX7_digest_56 rfl (lv_at hl 2 rfl) ?_
    refine zcall (wr := []) (va_runV (As := []) (rest := [.long (zMix (zMix D v3) v5)]) ⟨hx, hb, hml, hown, hts⟩ (c_X7_nodes l G ad X1 hV1 hi1.2.2.1 hi1.2.2.2.1 H.size) (cwV 0 hts gX7_digest_X7_nodes rfl rfl rfl (by decide +kernel) ⟨Nat.le_of_ble_eq_true rfl, Nat.le_of_ble_eq_true rfl⟩) (zPreV (wr := []) (wc := zpic G ad X1) (q0 := 52) (ci := 7) (q := (RX7, TX7, 8)) hP hD hE hS hA rfl p_52) rfl rfl hl.1 rfl (lv_room (Nat.le_of_ble_eq_true rfl)) dX7_digest_57 ⟨Nat.le_of_ble_eq_true rfl, Nat.le_of_ble_eq_true rfl⟩) hP hD hS hA (fun _ _ H locs hf hP hD hS => ?_)
    obtain ⟨v7, X2, rfl, hv7, rfl⟩ := hf
    have hP : va_P G.1 vwCl (zpic G ad X2) H := hP
    have hD : va_D A (zpic G ad X2) := hD
    refine W.eq (g2 := F0 m 60 ls [.int (zi v7), .long (zMix (zMix D v3) v5)]) rfl ?_
    have hi2 : zI X2 := hv7.2.i hi1
    have hV2 : zV X2 := hi2.1
    have hT2 : zTf X2 := hv7.2.2.2.2
    have hcnt2 := hT2.2.2.2.1.cnt
    refine zcall (wr := []) (va_runS (As := [.long (zMix (zMix D v3) v5), .int (zi v7)]) (rest := []) ⟨hx, hb, hml, hown, hts⟩ (c_X7_mix l G ad X2 (zMix (zMix D v3) v5) v7 H.size) (va_cwS 2 hts gX7_digest_X7_mix rfl rfl rfl (by decide +kernel) ⟨Nat.le_of_ble_eq_true rfl, Nat.le_of_ble_eq_true rfl⟩) (zPre (wr := []) (wc := zpic G ad X2) (As := [.long (zMix (zMix D v3) v5), .int (zi v7)]) hP hD hE hS hA).1 rfl rfl hl.1 rfl (lv_room (Nat.le_of_ble_eq_true rfl)) dX7_digest_60 ⟨Nat.le_of_ble_eq_true rfl, Nat.le_of_ble_eq_true rfl⟩) hP hD hS hA (fun _ _ H locs hf hP hD hS => ?_)
    obtain ⟨v8, rfl, hv8, rfl⟩ := hf
    subst hv8
    have hP : va_P G.1 vwCl (zpic G ad X2) H := hP
    have hD : va_D A (zpic G ad X2) := hD
    refine W.eq (g2 := F0 m 63 ls [.long (zMix (zMix (zMix D v3) v5) v7)]) rfl ?_
    refine lv_lstore_n (lv' := [(1, .long (zMix (zMix (zMix D v3) v5) v7)), (3, .int (zi (q : Int))), (0, .ref (ad 52))]) hx hb dX7_digest_63 rfl hl (by decide) rfl (fun ls hl => ?_)
    obtain ⟨D0, hD0⟩ : ∃ D0 : Int64, D0 = zMix (zMix (zMix D v3) v5) v7 := ⟨_, rfl⟩
    rw [← hD0] at hl
    refine lv_bipush (v := zi 20) hx hb dX7_digest_64 (by decide +kernel) ?_
    refine lv_aload_n hx hb dX7_digest_66 rfl (lv_at hl 2 rfl) ?_
    refine zcall (wr := []) (va_runV (As := []) (rest := [.int (zi 20)]) ⟨hx, hb, hml, hown, hts⟩ (c_X7_nodes l G ad X2 hV2 hi2.2.2.1 hi2.2.2.2.1 H.size) (cwV 0 hts gX7_digest_X7_nodes rfl rfl rfl (by decide +kernel) ⟨Nat.le_of_ble_eq_true rfl, Nat.le_of_ble_eq_true rfl⟩) (zPreV (wr := []) (wc := zpic G ad X2) (q0 := 52) (ci := 7) (q := (RX7, TX7, 8)) hP hD hE hS hA rfl p_52) rfl rfl hl.1 rfl (lv_room (Nat.le_of_ble_eq_true rfl)) dX7_digest_67 ⟨Nat.le_of_ble_eq_true rfl, Nat.le_of_ble_eq_true rfl⟩) hP hD hS hA (fun _ _ H locs hf hP hD hS => ?_)
    obtain ⟨v9, X3, rfl, hv9, rfl⟩ := hf
    have hP : va_P G.1 vwCl (zpic G ad X3) H := hP
    have hD : va_D A (zpic G ad X3) := hD
    refine W.eq (g2 := F0 m 70 ls [.int (zi v9), .int (zi 20)]) rfl ?_
    have eX3 : X3 = X2 := zTd.again hT2 hv9.2
    have hn3 : v9 = X2 61 5 := by rw [hv9.1, eX3]
    rw [eX3] at hP hD
    rw [hn3]
    refine va_mmin hx hb (hml.trans hl.1.symm) hown hml313 hstmin hiniMath hmamin (Nat.le_of_ble_eq_true rfl) (Nat.le_of_ble_eq_true rfl) (Nat.le_of_ble_eq_true rfl) (Nat.le_of_ble_eq_true rfl) dX7_digest_70 ?_
    refine zti (v := zi (min 20 (X2 61 5))) (zi_min (by decide) (by omega)) ?_
    refine lv_istore_n (lv' := [(3, .int (zi (min 20 (X2 61 5)))), (1, .long D0), (0, .ref (ad 52))]) hx hb dX7_digest_73 rfl hl (by decide) rfl (fun ls hl => ?_)
    refine lv_iconst (v := zi 0) hx hb dX7_digest_74 rfl ?_
    refine lv_istore (lv' := [(4, .int (zi 0)), (3, .int (zi (min 20 (X2 61 5)))), (1, .long D0), (0, .ref (ad 52))]) hx hb dX7_digest_75 hl (by decide) rfl (fun ls hl => ?_)
    refine zloop2 (fun (k : Nat) (E : Int64) => 20 - k) (fun (k : Nat) (E : Int64) (H : Heap) (locs : List Loc) (ls : Array Slot) => va_P G.1 vwCl (zpic G ad X2) H ∧ va_D A (zpic G ad X2) ∧ va_S A s.heap H locs ∧ lv_has ls 5 [(4, .int (zi (k : Int))), (3, .int (zi (min 20 (X2 61 5)))), (1, .long E), (0, .ref (ad 52))] ∧ ((k : Int) ≤ min 20 (X2 61 5)) ∧ (E = zIt (zDN X2) D0 k)) ?_ 0 D0 ⟨hP, hD, hS, lv_sub hl [0, 1, 2, 3] rfl, (by omega), rfl⟩
    intro k E ih77 H locs ls ⟨hP, hD, hS, hl, hk, hdk⟩
    refine lv_iload hx hb dX7_digest_77 (lv_at hl 0 rfl) ?_
    refine lv_iload_n hx hb dX7_digest_79 rfl (lv_at hl 1 rfl) ?_
    refine zc_ge (tgt := 97) hx hb dX7_digest_80 (by decide) (by omega) (by omega) (fun h80 => ?_) (fun h80 => ?_)
    · refine lv_aload_n hx hb dX7_digest_97 rfl (lv_at hl 3 rfl) ?_
      refine lv_lload_n hx hb dX7_digest_98 rfl (lv_at hl 2 rfl) ?_
      refine zcall (wr := []) (va_runV (As := [.long E]) (rest := []) ⟨hx, hb, hml, hown, hts⟩ (c_X7_mixLog l G ad X2 E hi2.2.2.2.2.2 H.size) (cwV 1 hts gX7_digest_X7_mixLog rfl rfl rfl (by decide +kernel) ⟨Nat.le_of_ble_eq_true rfl, Nat.le_of_ble_eq_true rfl⟩) (zPreV (wr := []) (wc := zpic G ad X2) (q0 := 52) (ci := 7) (q := (RX7, TX7, 8)) hP hD hE hS hA rfl p_52) rfl rfl hl.1 rfl (lv_room (Nat.le_of_ble_eq_true rfl)) dX7_digest_99 ⟨Nat.le_of_ble_eq_true rfl, Nat.le_of_ble_eq_true rfl⟩) hP hD hS hA (fun _ _ H locs hf hP hD hS => ?_)
      obtain ⟨v10, rfl, hv10, rfl⟩ := hf
      have hP : va_P G.1 vwCl (zpic G ad X2) H := hP
      have hD : va_D A (zpic G ad X2) := hD
      refine W.eq (g2 := F0 m 102 ls [.long v10]) rfl ?_
      subst hv10
      refine lv_lstore_n (lv' := [(1, .long (zFld (fun _ => 0) E 5)), (4, .int (zi (k : Int))), (3, .int (zi (min 20 (X2 61 5)))), (0, .ref (ad 52))]) hx hb dX7_digest_102 rfl hl (by decide) rfl (fun ls hl => ?_)
      refine lv_lload_n hx hb dX7_digest_103 rfl (lv_at hl 0 rfl) ?_
      refine lv_aload_n hx hb dX7_digest_104 rfl (lv_at hl 3 rfl) ?_
      refine zcall (wr := []) (va_runV (As := []) (rest := [.long (zFld (fun _ => 0) E 5)]) ⟨hx, hb, hml, hown, hts⟩ (c_X7_changed l G ad X2 hV2 hi2.2.2.1 hi2.2.2.2.2.1 H.size) (cwV 0 hts gX7_digest_X7_changed rfl rfl rfl (by decide +kernel) ⟨Nat.le_of_ble_eq_true rfl, Nat.le_of_ble_eq_true rfl⟩) (zPreV (wr := []) (wc := zpic G ad X2) (q0 := 52) (ci := 7) (q := (RX7, TX7, 8)) hP hD hE hS hA rfl p_52) rfl rfl hl.1 rfl (lv_room (Nat.le_of_ble_eq_true rfl)) dX7_digest_105 ⟨Nat.le_of_ble_eq_true rfl, Nat.le_of_ble_eq_true rfl⟩) hP hD hS hA (fun _ _ H locs hf hP hD hS => ?_)
      obtain ⟨v11, X4, rfl, hv11, rfl⟩ := hf
      have hP : va_P G.1 vwCl (zpic G ad X4) H := hP
      have hD : va_D A (zpic G ad X4) := hD
      refine W.eq (g2 := F0 m 108 ls [.int (zi v11), .long (zFld (fun _ => 0) E 5)]) rfl ?_
      have hi4 : zI X4 := hv11.2.i hi2
      have hV4 : zV X4 := hi4.1
      have hM4 : zMf X4 := hv11.2.2.2.2
      refine zcall (wr := []) (va_runS (As := [.long (zFld (fun _ => 0) E 5), .int (zi v11)]) (rest := []) ⟨hx, hb, hml, hown, hts⟩ (c_X7_mix l G ad X4 (zFld (fun _ => 0) E 5) v11 H.size) (va_cwS 2 hts gX7_digest_X7_mix rfl rfl rfl (by decide +kernel) ⟨Nat.le_of_ble_eq_true rfl, Nat.le_of_ble_eq_true rfl⟩) (zPre (wr := []) (wc := zpic G ad X4) (As := [.long (zFld (fun _ => 0) E 5), .int (zi v11)]) hP hD hE hS hA).1 rfl rfl hl.1 rfl (lv_room (Nat.le_of_ble_eq_true rfl)) dX7_digest_108 ⟨Nat.le_of_ble_eq_true rfl, Nat.le_of_ble_eq_true rfl⟩) hP hD hS hA (fun _ _ H locs hf hP hD hS => ?_)
      obtain ⟨v12, rfl, hv12, rfl⟩ := hf
      subst hv12
      have hP : va_P G.1 vwCl (zpic G ad X4) H := hP
      have hD : va_D A (zpic G ad X4) := hD
      refine W.eq (g2 := F0 m 111 ls [.long (zMix (zFld (fun _ => 0) E 5) v11)]) rfl ?_
      refine lv_lstore_n (lv' := [(1, .long (zMix (zFld (fun _ => 0) E 5) v11)), (4, .int (zi (k : Int))), (3, .int (zi (min 20 (X2 61 5)))), (0, .ref (ad 52))]) hx hb dX7_digest_111 rfl hl (by decide) rfl (fun ls hl => ?_)
      obtain ⟨D1, hD1⟩ : ∃ D1 : Int64, D1 = zMix (zFld (fun _ => 0) E 5) v11 := ⟨_, rfl⟩
      rw [← hD1] at hl
      refine lv_iconst (v := zi 0) hx hb dX7_digest_112 rfl ?_
      refine lv_istore (lv' := [(4, .int (zi 0)), (1, .long D1), (3, .int (zi (min 20 (X2 61 5)))), (0, .ref (ad 52))]) hx hb dX7_digest_113 hl (by decide) rfl (fun ls hl => ?_)
      refine zloop2 (fun (f : Nat) (F : Int64) => 4 - f) (fun (f : Nat) (F : Int64) (H : Heap) (locs : List Loc) (ls : Array Slot) => va_P G.1 vwCl (zpic G ad X4) H ∧ va_D A (zpic G ad X4) ∧ va_S A s.heap H locs ∧ lv_has ls 5 [(4, .int (zi (f : Int))), (1, .long F), (0, .ref (ad 52))] ∧ (f ≤ 4) ∧ (F = zFld (fun g => X4 66 g) D1 f)) ?_ 0 D1 ⟨hP, hD, hS, lv_sub hl [0, 1, 3] rfl, (by omega), rfl⟩
      intro f F ih115 H locs ls ⟨hP, hD, hS, hl, hf, hde⟩
      refine lv_iload hx hb dX7_digest_115 (lv_at hl 0 rfl) ?_
      refine lv_iconst (v := zi 4) hx hb dX7_digest_117 rfl ?_
      refine zc_ge (tgt := 138) hx hb dX7_digest_118 (by decide) (by omega) (by decide) (fun h118 => ?_) (fun h118 => ?_)
      · refine lv_lload_n hx hb dX7_digest_138 rfl (lv_at hl 1 rfl) ?_
        exact zend_l hx hb hr hlocks hP hD hS (Nat.le_of_ble_eq_true rfl) (Nat.le_of_ble_eq_true rfl) dX7_digest_139 ⟨_, _, rfl, (by have hq : q = zN X 0 := (by omega); have hf4 : f = 4 := (by omega); have hkk : k = (min 20 (X2 61 5)).toNat := (by omega); have ht24 : zTc X2 X4 := ⟨hv11.2.we, fun c q1 q2 => by by_cases e9 : c < 61; (exact hv11.2.2.2.1 hT2.2.1 c q1 (by omega)); (exact hv11.2.2.1 c (by omega) (by omega) (by omega) (by omega))⟩; have hw4 : zWe X X4 := hw1.trans (hv7.2.we.trans ht24.1); have e1 : ∀ d : Int64, zIt (zDR X) d (zN X 0) = zIt (zDR X4) d (zN X 0) := (fun d => (zIt_congr (fun j hj e => hw4.dr hV (show j < 8 by omega) e)).symm); have e2 : zDN X2 = zDN X4 := (funext fun k => funext fun d => (ht24.dn hV2 k d).symm); have e3 : zAll Y 255 = zAll X4 255 := ((hwY.all hV 255).trans (hw4.all hV 255).symm); have e4 : zQu X1 (zN X1 0) = zQu X4 (zN X4 0) := ((hw1.qu hV).trans (hw4.qu hV).symm); have e5 : X4 61 5 = X2 61 5 := (by rw [ht24.2 61 (by omega) (by omega)]); refine ⟨?_, X1, X2, hS1, hv7.2, hv11.2⟩; unfold zDg; rw [hde, hf4, hD1, hdk, hkk, hD0, hdd, hq, hv5, hv7.1, hv3.1, hv11.1, e1, e2, e3, e4, e5, hw4.n (Or.inl rfl : zIsW 0)]), rfl⟩
      · refine lv_lload_n hx hb dX7_digest_121 rfl (lv_at hl 1 rfl) ?_
        refine lv_aload_n hx hb dX7_digest_122 rfl (lv_at hl 2 rfl) ?_
        refine lv_iload hx hb dX7_digest_123 (lv_at hl 0 rfl) ?_
        refine zcall (wr := []) (va_runV (As := [.int (zi (f : Int))]) (rest := [.long F]) ⟨hx, hb, hml, hown, hts⟩ (c_X7_witness l G ad X4 f hV4 hi4.2.2.1 hi4.2.2.2.2.1 (by omega) H.size) (cwV 1 hts gX7_digest_X7_witness rfl rfl rfl (by decide +kernel) ⟨Nat.le_of_ble_eq_true rfl, Nat.le_of_ble_eq_true rfl⟩) (zPreV (wr := []) (wc := zpic G ad X4) (q0 := 52) (ci := 7) (q := (RX7, TX7, 8)) hP hD hE hS hA rfl p_52) rfl rfl hl.1 rfl (lv_room (Nat.le_of_ble_eq_true rfl)) dX7_digest_125 ⟨Nat.le_of_ble_eq_true rfl, Nat.le_of_ble_eq_true rfl⟩) hP hD hS hA (fun _ _ H locs hf hP hD hS => ?_)
        obtain ⟨v13, X5, rfl, hv13, rfl⟩ := hf
        have hP : va_P G.1 vwCl (zpic G ad X5) H := hP
        have hD : va_D A (zpic G ad X5) := hD
        refine W.eq (g2 := F0 m 128 ls [.int (zi v13), .long F]) rfl ?_
        have eX5 : X5 = X4 := zPd2.again hM4 hv13.2
        have hw5 : v13 = X4 66 f := by rw [hv13.1, eX5]
        rw [eX5] at hP hD
        refine zcall (wr := []) (va_runS (As := [.long F, .int (zi v13)]) (rest := []) ⟨hx, hb, hml, hown, hts⟩ (c_X7_mix l G ad X4 F v13 H.size) (va_cwS 2 hts gX7_digest_X7_mix rfl rfl rfl (by decide +kernel) ⟨Nat.le_of_ble_eq_true rfl, Nat.le_of_ble_eq_true rfl⟩) (zPre (wr := []) (wc := zpic G ad X4) (As := [.long F, .int (zi v13)]) hP hD hE hS hA).1 rfl rfl hl.1 rfl (lv_room (Nat.le_of_ble_eq_true rfl)) dX7_digest_128 ⟨Nat.le_of_ble_eq_true rfl, Nat.le_of_ble_eq_true rfl⟩) hP hD hS hA (fun _ _ H locs hf hP hD hS => ?_)
        obtain ⟨v14, rfl, hv14, rfl⟩ := hf
        subst hv14
        have hP : va_P G.1 vwCl (zpic G ad X4) H := hP
        have hD : va_D A (zpic G ad X4) := hD
        refine W.eq (g2 := F0 m 131 ls [.long (zMix F v13)]) rfl ?_
        refine lv_lstore_n (lv' := [(1, .long (zMix F v13)), (4, .int (zi (f : Int))), (0, .ref (ad 52))]) hx hb dX7_digest_131 rfl hl (by decide) rfl (fun ls hl => ?_)
        refine lv_iinc (v := zi ((f : Int) + 1)) (lv' := [(4, .int (zi ((f : Int) + 1))), (1, .long (zMix F v13)), (0, .ref (ad 52))]) hx hb dX7_digest_132 hl (k := 1) rfl (zi_add _ _) (by decide) rfl (fun ls hl => ?_)
        refine lv_goto (tgt := 115) hx hb dX7_digest_135 (by decide) ?_
        exact ih115 (f + 1) (zMix F v13) (by omega) H locs ls ⟨hP, hD, hS, lv_sub hl [0, 1, 2] rfl, (by omega), (by rw [hw5, hde]; rfl)⟩
    · refine lv_aload_n hx hb dX7_digest_83 rfl (lv_at hl 3 rfl) ?_
      refine lv_lload_n hx hb dX7_digest_84 rfl (lv_at hl 2 rfl) ?_
      refine lv_iload hx hb dX7_digest_85 (lv_at hl 0 rfl) ?_
      refine zcall (wr := []) (va_runV (As := [.long E, .int (zi (k : Int))]) (rest := []) ⟨hx, hb, hml, hown, hts⟩ (c_X7_mixNode l G ad X2 E k hV2 hT2 (by omega) H.size) (cwV 2 hts gX7_digest_X7_mixNode rfl rfl rfl (by decide +kernel) ⟨Nat.le_of_ble_eq_true rfl, Nat.le_of_ble_eq_true rfl⟩) (zPreV (wr := []) (wc := zpic G ad X2) (q0 := 52) (ci := 7) (q := (RX7, TX7, 8)) hP hD hE hS hA rfl p_52) rfl rfl hl.1 rfl (lv_room (Nat.le_of_ble_eq_true rfl)) dX7_digest_87 ⟨Nat.le_of_ble_eq_true rfl, Nat.le_of_ble_eq_true rfl⟩) hP hD hS hA (fun _ _ H locs hf hP hD hS => ?_)
      obtain ⟨v10, rfl, hv10, rfl⟩ := hf
      have hP : va_P G.1 vwCl (zpic G ad X2) H := hP
      have hD : va_D A (zpic G ad X2) := hD
      refine W.eq (g2 := F0 m 90 ls [.long v10]) rfl ?_
      refine lv_lstore_n (lv' := [(1, .long v10), (4, .int (zi (k : Int))), (3, .int (zi (min 20 (X2 61 5)))), (0, .ref (ad 52))]) hx hb dX7_digest_90 rfl hl (by decide) rfl (fun ls hl => ?_)
      refine lv_iinc (v := zi ((k : Int) + 1)) (lv' := [(4, .int (zi ((k : Int) + 1))), (1, .long v10), (3, .int (zi (min 20 (X2 61 5)))), (0, .ref (ad 52))]) hx hb dX7_digest_91 hl (k := 1) rfl (zi_add _ _) (by decide) rfl (fun ls hl => ?_)
      refine lv_goto (tgt := 77) hx hb dX7_digest_94 (by decide) ?_
      exact ih77 (k + 1) v10 (by omega) H locs ls ⟨hP, hD, hS, lv_sub hl [0, 2, 1, 3] rfl, (by omega), (by rw [hv10, hdk]; rfl)⟩
  · refine lv_aload_n hx hb dX7_digest_24 rfl (lv_at hl 2 rfl) ?_
    refine lv_lload_n hx hb dX7_digest_25 rfl (lv_at hl 1 rfl) ?_
    refine lv_iload_n hx hb dX7_digest_26 rfl (lv_at hl 0 rfl) ?_
    refine zcall (wr := []) (va_runV (As := [.long D, .int (zi (q : Int))]) (rest := []) ⟨hx, hb, hml, hown, hts⟩ (c_X7_mixRule l G ad Y D q hVY hKY (by omega) H.size) (cwV 2 hts gX7_digest_X7_mixRule rfl rfl rfl (by decide +kernel) ⟨Nat.le_of_ble_eq_true rfl, Nat.le_of_ble_eq_true rfl⟩) (zPreV (wr := []) (wc := zpic G ad Y) (q0 := 52) (ci := 7) (q := (RX7, TX7, 8)) hP hD hE hS hA rfl p_52) rfl rfl hl.1 rfl (lv_room (Nat.le_of_ble_eq_true rfl)) dX7_digest_27 ⟨Nat.le_of_ble_eq_true rfl, Nat.le_of_ble_eq_true rfl⟩) hP hD hS hA (fun _ _ H locs hf hP hD hS => ?_)
    obtain ⟨v3, X1, rfl, hv3, rfl⟩ := hf
    have hP : va_P G.1 vwCl (zpic G ad X1) H := hP
    have hD : va_D A (zpic G ad X1) := hD
    refine W.eq (g2 := F0 m 30 ls [.long v3]) rfl ?_
    refine lv_lstore_n (lv' := [(1, .long v3), (3, .int (zi (q : Int))), (0, .ref (ad 52))]) hx hb dX7_digest_30 rfl hl (by decide) rfl (fun ls hl => ?_)
    refine lv_iinc (v := zi ((q : Int) + 1)) (lv' := [(3, .int (zi ((q : Int) + 1))), (1, .long v3), (0, .ref (ad 52))]) hx hb dX7_digest_31 hl (k := 1) rfl (zi_add _ _) (by decide) rfl (fun ls hl => ?_)
    refine lv_goto (tgt := 13) hx hb dX7_digest_34 (by decide) ?_
    exact ih (q + 1) v3 X1 (by omega) H locs ls ⟨hP, hD, hS, lv_sub hl [0, 1, 2] rfl, (by omega), (Or.inr (hsr.sd hv3.2)), (by rw [hv3.1, hwY.dr hV (by omega), hdd]; rfl)⟩
