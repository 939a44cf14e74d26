/-! the law: one RULE -/
theorem dL_law_86 : decode cL_law 86 = .ok (.aload_n 3, 1) := by decide +kernel
theorem dL_law_87 : decode cL_law 87 = .ok (.iload 13, 2) := by decide +kernel
theorem dL_law_89 : decode cL_law 89 = .ok (.iconst 0, 1) := by decide +kernel
set_option maxRecDepth 20000 in
theorem ggL_law_X7_ofRule : GoodIn wsL_law wsX7_ofRule := goodIn_ca (goodIn_ca (goodIn_r _ [281, 36, 205, 245, 282, 206, 207, 146, 147, 148, 20, 149, 150, 151, 145, 283, 284, 285, 185, 186, 637, 638, 639, 640, 641, 642, 643, 644, 645, 646, 647, 679, 680, 681, 682] (by decide +kernel) (by decide +kernel)) (goodIn_sub (fun _ h => List.mem_append_left _ (List.mem_append_left _ (List.mem_append_right _ h))) (by decide +kernel))) (goodIn_sub (fun _ h => List.mem_append_right _ h) (by decide +kernel))
set_option maxRecDepth 20000 in
theorem gL_law_X7_ofRule : GoodIn wsL_law (wsV RL 35 RX7 yX7_ofRule wsX7_ofRule) := goodIn_app (goodIn_of _ (by decide +kernel)) ggL_law_X7_ofRule
theorem dL_law_90 : decode cL_law 90 = .ok (.invokevirtual 35, 3) := by decide +kernel
theorem dL_law_93 : decode cL_law 93 = .ok (.istore 14, 2) := by decide +kernel
theorem dL_law_95 : decode cL_law 95 = .ok (.aload_n 3, 1) := by decide +kernel
theorem dL_law_96 : decode cL_law 96 = .ok (.iload 13, 2) := by decide +kernel
set_option maxRecDepth 20000 in
theorem ggL_law_X7_decides : GoodIn wsL_law wsX7_decides := goodIn_ca (goodIn_r _ [289, 146, 147, 148, 20, 149, 150, 151, 36, 145, 290, 291, 292, 293, 41, 294, 295, 296, 40, 297, 298, 76, 77, 78, 299, 300, 301, 302, 79, 303, 304, 305, 306, 307, 308, 309, 310, 311, 9, 312, 313, 314, 8, 10, 315, 316, 317, 35, 318, 156, 319, 320, 321, 322, 323, 324, 325, 326, 327, 328, 329, 330, 64, 331, 332, 333, 66, 334, 195, 637, 638, 639, 640, 641, 642, 643, 644, 645, 646, 647, 648, 649, 650, 651, 652, 679, 680, 681, 682] (by decide +kernel) (by decide +kernel)) (goodIn_sub (fun _ h => List.mem_append_left _ (List.mem_append_left _ (List.mem_append_right _ h))) (by decide +kernel))
set_option maxRecDepth 20000 in
theorem gL_law_X7_decides : GoodIn wsL_law (wsV RL 39 RX7 yX7_decides wsX7_decides) := goodIn_app (goodIn_of _ (by decide +kernel)) ggL_law_X7_decides
theorem dL_law_98 : decode cL_law 98 = .ok (.invokevirtual 39, 3) := by decide +kernel
theorem dL_law_101 : decode cL_law 101 = .ok (.istore 15, 2) := by decide +kernel
theorem dL_law_103 : decode cL_law 103 = .ok (.lload 7, 2) := by decide +kernel
theorem dL_law_105 : decode cL_law 105 = .ok (.iload 14, 2) := by decide +kernel
theorem dL_law_107 : decode cL_law 107 = .ok (.iconst 2, 1) := by decide +kernel
theorem dL_law_108 : decode cL_law 108 = .ok (.if_icmp .ne 7, 3) := by decide +kernel
theorem dL_law_115 : decode cL_law 115 = .ok (.iload 15, 2) := by decide +kernel
theorem dL_law_117 : decode cL_law 117 = .ok (.i2l, 1) := by decide +kernel
theorem dL_law_118 : decode cL_law 118 = .ok (.ladd, 1) := by decide +kernel
theorem dL_law_119 : decode cL_law 119 = .ok (.lstore 7, 2) := by decide +kernel
theorem dL_law_121 : decode cL_law 121 = .ok (.lload 11, 2) := by decide +kernel
theorem dL_law_123 : decode cL_law 123 = .ok (.iload 14, 2) := by decide +kernel
theorem dL_law_125 : decode cL_law 125 = .ok (.iconst 1, 1) := by decide +kernel
theorem dL_law_126 : decode cL_law 126 = .ok (.if_icmp .ne 9, 3) := by decide +kernel
theorem dL_law_135 : decode cL_law 135 = .ok (.lconst 0, 1) := by decide +kernel
theorem dL_law_136 : decode cL_law 136 = .ok (.ladd, 1) := by decide +kernel
theorem dL_law_137 : decode cL_law 137 = .ok (.lstore 11, 2) := by decide +kernel
theorem dL_law_139 : decode cL_law 139 = .ok (.aload_n 3, 1) := by decide +kernel
theorem dL_law_140 : decode cL_law 140 = .ok (.iload 13, 2) := by decide +kernel
set_option maxRecDepth 20000 in
theorem ggL_law_X7_state : GoodIn wsL_law wsX7_state := goodIn_ca (goodIn_r _ [338, 36, 205, 245, 146, 147, 148, 20, 149, 150, 151, 145, 290, 291, 292, 293, 41, 294, 295, 296, 40, 297, 298, 76, 77, 78, 299, 300, 301, 302, 79, 303, 304, 305, 306, 307, 308, 309, 310, 311, 9, 312, 313, 314, 8, 10, 315, 316, 317, 35, 318, 156, 319, 320, 321, 322, 339, 340, 341, 342, 343, 324, 325, 326, 327, 328, 329, 330, 64, 331, 332, 333, 66, 334, 195, 344, 345, 346, 347, 348, 349, 350, 351, 352, 254, 353, 354, 355, 356, 357, 358, 359, 360, 361, 362, 70, 71, 637, 638, 639, 640, 641, 642, 643, 644, 645, 646, 647, 679, 680, 681, 682, 648, 649, 650, 651, 652] (by decide +kernel) (by decide +kernel)) (goodIn_sub (fun _ h => List.mem_append_left _ (List.mem_append_left _ (List.mem_append_right _ h))) (by decide +kernel))
set_option maxRecDepth 20000 in
theorem gL_law_X7_state : GoodIn wsL_law (wsV RL 43 RX7 yX7_state wsX7_state) := goodIn_app (goodIn_of _ (by decide +kernel)) ggL_law_X7_state
theorem dL_law_142 : decode cL_law 142 = .ok (.invokevirtual 43, 3) := by decide +kernel
theorem dL_law_145 : decode cL_law 145 = .ok (.istore 16, 2) := by decide +kernel
theorem dL_law_147 : decode cL_law 147 = .ok (.iload 15, 2) := by decide +kernel
theorem dL_law_149 : decode cL_law 149 = .ok (.aload_n 3, 1) := by decide +kernel
theorem dL_law_150 : decode cL_law 150 = .ok (.iload 13, 2) := by decide +kernel
theorem dL_law_152 : decode cL_law 152 = .ok (.iload 13, 2) := by decide +kernel
set_option maxRecDepth 20000 in
theorem ggL_law_X7_shared : GoodIn wsL_law wsX7_shared := goodIn_ca (goodIn_r _ [569, 36, 205, 146, 147, 148, 20, 149, 150, 151, 145, 570, 389, 390, 66, 391, 70, 392, 311, 9, 312, 71, 393, 8, 10, 637, 638, 639, 640, 641, 642, 643, 644, 645, 646, 647, 679, 680, 681, 682] (by decide +kernel) (by decide +kernel)) (goodIn_sub (fun _ h => List.mem_append_left _ (List.mem_append_left _ (List.mem_append_right _ h))) (by decide +kernel))
set_option maxRecDepth 20000 in
theorem gL_law_X7_shared : GoodIn wsL_law (wsV RL 46 RX7 yX7_shared wsX7_shared) := goodIn_app (goodIn_of _ (by decide +kernel)) ggL_law_X7_shared
theorem dL_law_154 : decode cL_law 154 = .ok (.invokevirtual 46, 3) := by decide +kernel
theorem dL_law_157 : decode cL_law 157 = .ok (.if_icmp .gt 87, 3) := by decide +kernel
theorem dL_law_160 : decode cL_law 160 = .ok (.iload 15, 2) := by decide +kernel
theorem dL_law_162 : decode cL_law 162 = .ok (.ifCond .ne 7, 3) := by decide +kernel
theorem dL_law_165 : decode cL_law 165 = .ok (.iconst 1, 1) := by decide +kernel
theorem dL_law_166 : decode cL_law 166 = .ok (.goto 4, 3) := by decide +kernel
theorem dL_law_170 : decode cL_law 170 = .ok (.iload 16, 2) := by decide +kernel
theorem dL_law_172 : decode cL_law 172 = .ok (.ifCond .le 13, 3) := by decide +kernel
theorem dL_law_175 : decode cL_law 175 = .ok (.iload 16, 2) := by decide +kernel
theorem dL_law_177 : decode cL_law 177 = .ok (.iconst 4, 1) := by decide +kernel
theorem dL_law_178 : decode cL_law 178 = .ok (.if_icmp .ge 7, 3) := by decide +kernel
theorem dL_law_181 : decode cL_law 181 = .ok (.iconst 1, 1) := by decide +kernel
theorem dL_law_182 : decode cL_law 182 = .ok (.goto 4, 3) := by decide +kernel
theorem dL_law_186 : decode cL_law 186 = .ok (.if_icmp .ne 58, 3) := by decide +kernel
theorem dL_law_189 : decode cL_law 189 = .ok (.aload_n 3, 1) := by decide +kernel
theorem dL_law_190 : decode cL_law 190 = .ok (.iload 13, 2) := by decide +kernel
set_option maxRecDepth 20000 in
theorem ggL_law_X7_coveredBy : GoodIn wsL_law wsX7_coveredBy := goodIn_ca (goodIn_r _ [366, 36, 146, 147, 148, 20, 149, 150, 151, 145, 355, 356, 357, 35, 358, 64, 331, 332, 333, 66, 334, 195, 359, 360, 361, 362, 70, 71, 637, 638, 639, 640, 641, 642, 643, 644, 645, 646, 647, 679, 680, 681, 682] (by decide +kernel) (by decide +kernel)) (goodIn_sub (fun _ h => List.mem_append_left _ (List.mem_append_left _ (List.mem_append_right _ h))) (by decide +kernel))
set_option maxRecDepth 20000 in
theorem gL_law_X7_coveredBy : GoodIn wsL_law (wsV RL 49 RX7 yX7_coveredBy wsX7_coveredBy) := goodIn_app (goodIn_of _ (by decide +kernel)) ggL_law_X7_coveredBy
theorem dL_law_192 : decode cL_law 192 = .ok (.invokevirtual 49, 3) := by decide +kernel
theorem dL_law_195 : decode cL_law 195 = .ok (.iload 13, 2) := by decide +kernel
theorem dL_law_197 : decode cL_law 197 = .ok (.if_icmp .ge 47, 3) := by decide +kernel
theorem dL_law_200 : decode cL_law 200 = .ok (.aload_n 3, 1) := by decide +kernel
theorem dL_law_201 : decode cL_law 201 = .ok (.iload 13, 2) := by decide +kernel
theorem dL_law_203 : decode cL_law 203 = .ok (.invokevirtual 49, 3) := by decide +kernel
theorem dL_law_206 : decode cL_law 206 = .ok (.ifCond .lt 15, 3) := by decide +kernel
theorem dL_law_221 : decode cL_law 221 = .ok (.iload 16, 2) := by decide +kernel
theorem dL_law_223 : decode cL_law 223 = .ok (.iconst 4, 1) := by decide +kernel
theorem dL_law_224 : decode cL_law 224 = .ok (.if_icmp .ne 9, 3) := by decide +kernel
theorem dL_law_233 : decode cL_law 233 = .ok (.aload_n 3, 1) := by decide +kernel
theorem dL_law_234 : decode cL_law 234 = .ok (.iload 13, 2) := by decide +kernel
theorem dL_law_236 : decode cL_law 236 = .ok (.iload 13, 2) := by decide +kernel
set_option maxRecDepth 20000 in
theorem ggL_law_X7_changedByMove : GoodIn wsL_law wsX7_changedByMove := goodIn_ca (goodIn_r _ [575, 146, 147, 148, 20, 149, 150, 151, 36, 145, 290, 291, 292, 293, 41, 294, 295, 296, 40, 297, 298, 76, 77, 78, 299, 300, 301, 302, 79, 303, 304, 305, 306, 307, 308, 309, 310, 311, 9, 312, 313, 314, 8, 10, 315, 316, 317, 35, 318, 156, 319, 320, 321, 322, 576, 577, 578, 579, 327, 328, 329, 330, 64, 331, 332, 333, 66, 334, 195, 349, 350, 351, 352, 254, 353, 354, 580, 581, 582, 583, 637, 638, 639, 640, 641, 642, 643, 644, 645, 646, 647, 648, 649, 650, 651, 652, 679, 680, 681, 682] (by decide +kernel) (by decide +kernel)) (goodIn_sub (fun _ h => List.mem_append_left _ (List.mem_append_left _ (List.mem_append_right _ h))) (by decide +kernel))
set_option maxRecDepth 20000 in
theorem gL_law_X7_changedByMove : GoodIn wsL_law (wsV RL 52 RX7 yX7_changedByMove wsX7_changedByMove) := goodIn_app (goodIn_of _ (by decide +kernel)) ggL_law_X7_changedByMove
theorem dL_law_238 : decode cL_law 238 = .ok (.invokevirtual 52, 3) := by decide +kernel
theorem dL_law_241 : decode cL_law 241 = .ok (.ifCond .eq 5, 3) := by decide +kernel
theorem dL_law_246 : decode cL_law 246 = .ok (.iload 16, 2) := by decide +kernel
theorem dL_law_248 : decode cL_law 248 = .ok (.ifCond .le 16, 3) := by decide +kernel
theorem dL_law_251 : decode cL_law 251 = .ok (.aload_n 3, 1) := by decide +kernel
theorem dL_law_252 : decode cL_law 252 = .ok (.iload 13, 2) := by decide +kernel
set_option maxRecDepth 20000 in
theorem ggL_law_X7_allowedWithout : GoodIn wsL_law wsX7_allowedWithout := goodIn_ca (goodIn_r _ [370, 146, 147, 148, 20, 149, 150, 151, 36, 145, 290, 291, 292, 293, 41, 294, 295, 296, 40, 297, 298, 76, 77, 78, 299, 300, 301, 302, 79, 303, 304, 305, 306, 307, 308, 309, 310, 311, 9, 312, 313, 314, 8, 10, 315, 316, 317, 35, 318, 156, 319, 320, 321, 322, 371, 372, 373, 374, 327, 328, 329, 330, 64, 331, 332, 333, 66, 334, 195, 349, 350, 351, 352, 254, 353, 354, 637, 638, 639, 640, 641, 642, 643, 644, 645, 646, 647, 648, 649, 650, 651, 652, 679, 680, 681, 682] (by decide +kernel) (by decide +kernel)) (goodIn_sub (fun _ h => List.mem_append_left _ (List.mem_append_left _ (List.mem_append_right _ h))) (by decide +kernel))
set_option maxRecDepth 20000 in
theorem gL_law_X7_allowedWithout : GoodIn wsL_law (wsV RL 55 RX7 yX7_allowedWithout wsX7_allowedWithout) := goodIn_app (goodIn_of _ (by decide +kernel)) ggL_law_X7_allowedWithout
theorem dL_law_254 : decode cL_law 254 = .ok (.invokevirtual 55, 3) := by decide +kernel
theorem dL_law_257 : decode cL_law 257 = .ok (.aload_n 3, 1) := by decide +kernel
set_option maxRecDepth 20000 in
theorem ggL_law_X7_allowed : GoodIn wsL_law wsX7_allowed := goodIn_r _ [378, 290, 291, 292, 20, 293, 41, 294, 295, 296, 40, 297, 298, 76, 77, 78, 299, 300, 301, 302, 79, 303, 304, 305, 306, 307, 308, 309, 310, 311, 9, 312, 313, 314, 8, 10, 315, 316, 317, 35, 318, 156, 319, 320, 321, 322, 371, 372, 373, 374, 327, 328, 329, 330, 64, 331, 332, 333, 66, 334, 195, 349, 350, 351, 352, 254, 353, 354, 637, 638, 639, 640, 641, 642, 643, 644, 648, 649, 650, 651, 652, 645, 646, 647, 679, 680, 681, 682] (by decide +kernel) (by decide +kernel)
set_option maxRecDepth 20000 in
theorem gL_law_X7_allowed : GoodIn wsL_law (wsV RL 58 RX7 yX7_allowed wsX7_allowed) := goodIn_app (goodIn_of _ (by decide +kernel)) ggL_law_X7_allowed
theorem dL_law_258 : decode cL_law 258 = .ok (.invokevirtual 58, 3) := by decide +kernel
theorem dL_law_261 : decode cL_law 261 = .ok (.if_icmp .ne 22, 3) := by decide +kernel
theorem dL_law_264 : decode cL_law 264 = .ok (.iload 14, 2) := by decide +kernel
theorem dL_law_266 : decode cL_law 266 = .ok (.iconst 2, 1) := by decide +kernel
theorem dL_law_267 : decode cL_law 267 = .ok (.if_icmp .ne 18, 3) := by decide +kernel
theorem dL_law_209 : decode cL_law 209 = .ok (.iload 16, 2) := by decide +kernel
theorem dL_law_211 : decode cL_law 211 = .ok (.iconst 1, 1) := by decide +kernel
theorem dL_law_212 : decode cL_law 212 = .ok (.if_icmp .eq 9, 3) := by decide +kernel
theorem dL_law_215 : decode cL_law 215 = .ok (.iload 16, 2) := by decide +kernel
theorem dL_law_217 : decode cL_law 217 = .ok (.iconst 2, 1) := by decide +kernel
theorem dL_law_218 : decode cL_law 218 = .ok (.if_icmp .ne 26, 3) := by decide +kernel
theorem dL_law_169 : decode cL_law 169 = .ok (.iconst 0, 1) := by decide +kernel
theorem dL_law_185 : decode cL_law 185 = .ok (.iconst 0, 1) := by decide +kernel
theorem dL_law_227 : decode cL_law 227 = .ok (.iload 14, 2) := by decide +kernel
theorem dL_law_229 : decode cL_law 229 = .ok (.iconst 2, 1) := by decide +kernel
theorem dL_law_230 : decode cL_law 230 = .ok (.if_icmp .eq 14, 3) := by decide +kernel
theorem dL_law_129 : decode cL_law 129 = .ok (.iload 15, 2) := by decide +kernel
theorem dL_law_131 : decode cL_law 131 = .ok (.i2l, 1) := by decide +kernel
theorem dL_law_132 : decode cL_law 132 = .ok (.goto 4, 3) := by decide +kernel
theorem dL_law_111 : decode cL_law 111 = .ok (.lconst 0, 1) := by decide +kernel
theorem dL_law_112 : decode cL_law 112 = .ok (.goto 6, 3) := by decide +kernel
theorem dL_law_270 : decode cL_law 270 = .ok (.aload_n 3, 1) := by decide +kernel
theorem dL_law_271 : decode cL_law 271 = .ok (.iload 13, 2) := by decide +kernel
theorem dL_law_273 : decode cL_law 273 = .ok (.invokevirtual 55, 3) := by decide +kernel
theorem dL_law_276 : decode cL_law 276 = .ok (.aload_n 3, 1) := by decide +kernel
theorem dL_law_277 : decode cL_law 277 = .ok (.invokevirtual 58, 3) := by decide +kernel
theorem dL_law_280 : decode cL_law 280 = .ok (.if_icmp .eq 5, 3) := by decide +kernel
set_option maxHeartbeats 4000000 in
set_option maxRecDepth 100000 in
/-- one RULE of the law -/
theorem law_rule {p : Program} {l : Launch} {e : Env} {s : State} {m : MethodId} {below : List Frame} {meth : Method} {c : Code} {A : Nat → Prop} {G : zG} {b : Nat} {Q : State → Prop} {cells slots : Nat} {H : Heap} {locs : List Loc} {ls : Array Slot} {wr : va_W} {ad : Nat → Nat} {X : Nat → Nat → Int} {tm st : Int} {g0 : Nat} {dg : Int64} {qu : Int} {a : Nat} (hx : p.tables.exec = Jvm.exec) (hb : c.code = cL_law) (hml : c.maxLocals = 19) (hown : s.vm.findClass RL = some m.cls) (hts : ∀ w ∈ wsL_law, w.before #[Value.ref b] s = true) (hA : ∀ q : Nat, s.heap.size ≤ q → A q) (hE : zZ G A s s.heap) (hc : cells ≤ 500000) (hn : slots ≤ 6000000) (hI : zI X) (hFr : zFr X) (ha : a < zN X 0) (hP : va_P G.1 vwCl (wr ++ zpic G ad X) H) (hD : va_D A (wr ++ zpic G ad X)) (hS : va_S A s.heap H locs) (hl : lv_has ls 19 [(0, .ref b), (1, .int (zi tm)), (2, .ref g0), (3, .ref (ad 52)), (4, .int (zi st)), (5, .long dg), (7, .long (zln (zSA X a))), (9, .int (zi (zN X 0 : Int))), (10, .int (zi qu)), (11, .long (zln (zSW X a))), (13, .int (zi (a : Int)))])
    (kk : ∀ (vd : Int) (H : Heap) (locs : List Loc) (ls : Array Slot), va_P G.1 vwCl (wr ++ zpic G ad X) H → va_D A (wr ++ zpic G ad X) → va_S A s.heap H locs → lv_has ls 19 [(0, .ref b), (1, .int (zi tm)), (2, .ref g0), (3, .ref (ad 52)), (4, .int (zi st)), (5, .long dg), (7, .long (zln (zSA X (a + 1)))), (9, .int (zi (zN X 0 : Int))), (10, .int (zi qu)), (11, .long (zln (zSW X (a + 1)))), (13, .int (zi (a : Int))), (14, .int (zi vd))] → vd = X (zr X 0 a) 0 → W p l e room_1 s m #[Value.ref b] below meth c H locs cells slots Q (F0 m 285 ls [])) : W p l e room_1 s m #[Value.ref b] below meth c H locs cells slots Q (F0 m 86 ls []) := by
  have hn8 := hI.1.n (Or.inl rfl : zIsW 0)
  have hdb := zDc_bd (X := X) a
  have hle := zDc_le hI.1 ha
  have hwa := hn8.1
  have hal : 0 < zSt X a → zAll X (255 - 2 ^ a) = zAll X 255 := fun h9 => zAll_st hI.1 ha h9
  have hnt : X (zr X 0 a) 0 = 2 → zAll X (255 - 2 ^ a) = zAll X 255 := fun h9 => zAll_note hI.1 (by omega) h9
  have hab1 : 0 ≤ zAll X 255 ∧ zAll X 255 ≤ 268435456 := ⟨zm_nn, zm_top⟩
  have hab2 : 0 ≤ zAll X (255 - 2 ^ a) ∧ zAll X (255 - 2 ^ a) ≤ 268435456 := ⟨zm_nn, zm_top⟩
  refine lv_aload_n hx hb dL_law_86 rfl (lv_at hl 3 rfl) ?_
  refine lv_iload hx hb dL_law_87 (lv_at hl 10 rfl) ?_
  refine lv_iconst (v := zi 0) hx hb dL_law_89 rfl ?_
  refine zcall (wr := wr) (wc := zpic G ad X) (va_runV (As := [.int (zi (a : Int)), .int (zi 0)]) (rest := []) ⟨hx, hb, hml, hown, hts⟩ (c_X7_ofRule l G ad X a 0 hI.1 (by omega) (by omega) H.size) (cwV 2 hts gL_law_X7_ofRule rfl rfl rfl (by decide +kernel) ⟨Nat.le_of_ble_eq_true rfl, Nat.le_of_ble_eq_true rfl⟩) (zPreV (As := [.int (zi (a : Int)), .int (zi 0)]) (wr := wr) (wc := zpic G ad X) (q0 := 52) (ci := 7) (q := (RX7, TX7, 8)) hP hD hE hS hA rfl p_52) rfl rfl hl.1 rfl (lv_room (Nat.le_of_ble_eq_true rfl)) dL_law_90 ⟨(by show _ ≤ 600104; omega), (by show _ ≤ 7301314; omega)⟩) hP hD hS hA (fun _ _ H locs hf9 hP hD hS => ?_)
  obtain ⟨v1, rfl, hv1, rfl⟩ := hf9
  have hP : va_P G.1 vwCl (wr ++ zpic G ad X) H := hP
  have hD : va_D A (wr ++ zpic G ad X) := hD
  refine W.eq (g2 := F0 m 93 ls [.int (zi v1)]) rfl ?_
  have hvd : v1 = X (zr X 0 a) 0 := hv1
  have hok := (hI.1.rok (hI.1.isR (Or.inl rfl : zIsW 0) (show a < 8 by omega))).1
  rcases (show v1 = 0 ∨ v1 = 1 ∨ v1 = 2 by omega) with rfl | rfl | rfl
  · refine lv_istore (lv' := [(14, .int (zi 0)), (0, .ref b), (1, .int (zi tm)), (2, .ref g0), (3, .ref (ad 52)), (4, .int (zi st)), (5, .long dg), (7, .long (zln (zSA X a))), (9, .int (zi (zN X 0 : Int))), (10, .int (zi qu)), (11, .long (zln (zSW X a))), (13, .int (zi (a : Int)))]) hx hb dL_law_93 hl (by decide) rfl (fun ls hl => ?_)
    refine lv_aload_n hx hb dL_law_95 rfl (lv_at hl 4 rfl) ?_
    refine lv_iload hx hb dL_law_96 (lv_at hl 11 rfl) ?_
    refine zcall (wr := wr) (wc := zpic G ad X) (va_runV (As := [.int (zi (a : Int))]) (rest := []) ⟨hx, hb, hml, hown, hts⟩ (c_X7_decides l G ad X a hI.1 hI.2.1 (by omega) H.size) (cwV 1 hts gL_law_X7_decides rfl rfl rfl (by decide +kernel) ⟨Nat.le_of_ble_eq_true rfl, Nat.le_of_ble_eq_true rfl⟩) (zPreV (As := [.int (zi (a : Int))]) (wr := wr) (wc := zpic G ad X) (q0 := 52) (ci := 7) (q := (RX7, TX7, 8)) hP hD hE hS hA rfl p_52) rfl rfl hl.1 rfl (lv_room (Nat.le_of_ble_eq_true rfl)) dL_law_98 ⟨(by show _ ≤ 600104; omega), (by show _ ≤ 7301314; omega)⟩) hP hD hS hA (fun _ _ H locs hf9 hP hD hS => ?_)
    obtain ⟨v2, Y1, rfl, hv2, rfl⟩ := hf9
    have eY1 : X = Y1 := (hv2.2.1 hFr.1).symm
    subst eY1
    have hP : va_P G.1 vwCl (wr ++ zpic G ad X) H := hP
    have hD : va_D A (wr ++ zpic G ad X) := hD
    refine W.eq (g2 := F0 m 101 ls [.int (zi v2)]) rfl ?_
    refine lv_istore (lv' := [(15, .int (zi v2)), (14, .int (zi 0)), (0, .ref b), (1, .int (zi tm)), (2, .ref g0), (3, .ref (ad 52)), (4, .int (zi st)), (5, .long dg), (7, .long (zln (zSA X a))), (9, .int (zi (zN X 0 : Int))), (10, .int (zi qu)), (11, .long (zln (zSW X a))), (13, .int (zi (a : Int)))]) hx hb dL_law_101 hl (by decide) rfl (fun ls hl => ?_)
    refine lv_lload hx hb dL_law_103 (lv_at hl 8 rfl) ?_
    refine lv_iload hx hb dL_law_105 (lv_at hl 1 rfl) ?_
    refine lv_iconst (v := zi 2) hx hb dL_law_107 rfl ?_
    refine zc_ne (tgt := 115) hx hb dL_law_108 (by decide) (by decide) (by decide) (fun h108 => ?_) (fun h9 => absurd h9 (by decide))
    refine lv_iload hx hb dL_law_115 (lv_at hl 0 rfl) ?_
    refine lv_i2l (v := (zln v2)) hx hb dL_law_117 (zi_l (by omega)) ?_
    refine lv_ladd hx hb dL_law_118 (ztl (v := (zln ((zSA X a) + v2))) (zln_add _ _) ?_)
    refine lv_lstore (lv' := [(7, .long (zln ((zSA X a) + v2))), (15, .int (zi v2)), (14, .int (zi 0)), (0, .ref b), (1, .int (zi tm)), (2, .ref g0), (3, .ref (ad 52)), (4, .int (zi st)), (5, .long dg), (9, .int (zi (zN X 0 : Int))), (10, .int (zi qu)), (11, .long (zln (zSW X a))), (13, .int (zi (a : Int)))]) hx hb dL_law_119 hl (by decide) rfl (fun ls hl => ?_)
    refine lv_lload hx hb dL_law_121 (lv_at hl 11 rfl) ?_
    refine lv_iload hx hb dL_law_123 (lv_at hl 2 rfl) ?_
    refine lv_iconst (v := zi 1) hx hb dL_law_125 rfl ?_
    refine zc_ne (tgt := 135) hx hb dL_law_126 (by decide) (by decide) (by decide) (fun h126 => ?_) (fun h9 => absurd h9 (by decide))
    refine lv_lconst (v := 0) hx hb dL_law_135 (by decide) ?_
    refine ztl (v := zln 0) rfl ?_
    refine lv_ladd hx hb dL_law_136 (ztl (v := (zln ((zSW X a) + 0))) (zln_add _ _) ?_)
    refine lv_lstore (lv' := [(11, .long (zln ((zSW X a) + 0))), (7, .long (zln ((zSA X a) + v2))), (15, .int (zi v2)), (14, .int (zi 0)), (0, .ref b), (1, .int (zi tm)), (2, .ref g0), (3, .ref (ad 52)), (4, .int (zi st)), (5, .long dg), (9, .int (zi (zN X 0 : Int))), (10, .int (zi qu)), (13, .int (zi (a : Int)))]) hx hb dL_law_137 hl (by decide) rfl (fun ls hl => ?_)
    refine lv_aload_n hx hb dL_law_139 rfl (lv_at hl 7 rfl) ?_
    refine lv_iload hx hb dL_law_140 (lv_at hl 12 rfl) ?_
    refine zcall (wr := wr) (wc := zpic G ad X) (va_runV (As := [.int (zi (a : Int))]) (rest := []) ⟨hx, hb, hml, hown, hts⟩ (c_X7_state l G ad X a hI.1 hI.2.1 (by omega) H.size) (cwV 1 hts gL_law_X7_state rfl rfl rfl (by decide +kernel) ⟨Nat.le_of_ble_eq_true rfl, Nat.le_of_ble_eq_true rfl⟩) (zPreV (As := [.int (zi (a : Int))]) (wr := wr) (wc := zpic G ad X) (q0 := 52) (ci := 7) (q := (RX7, TX7, 8)) hP hD hE hS hA rfl p_52) rfl rfl hl.1 rfl (lv_room (Nat.le_of_ble_eq_true rfl)) dL_law_142 ⟨(by show _ ≤ 600104; omega), (by show _ ≤ 7301314; omega)⟩) hP hD hS hA (fun _ _ H locs hf9 hP hD hS => ?_)
    obtain ⟨v3, Y2, rfl, hv3, rfl⟩ := hf9
    have eY2 : X = Y2 := (hv3.2.1 hFr.1).symm
    subst eY2
    have hP : va_P G.1 vwCl (wr ++ zpic G ad X) H := hP
    have hD : va_D A (wr ++ zpic G ad X) := hD
    refine W.eq (g2 := F0 m 145 ls [.int (zi v3)]) rfl ?_
    have hdv := hv2.1
    have hs3 := hv3.1
    have hst := zSt_cases (X := X) a
    rcases (show (v2 = 0 ∧ v3 = 1) ∨ (v2 = 0 ∧ v3 = 2) ∨ (v2 = 0 ∧ v3 = 3) ∨ (v2 ≠ 0 ∧ v3 = 4) ∨ (v2 ≠ 0 ∧ v3 = 0) by rw [hdv, hs3]; rcases hst with ⟨a1, a2, -⟩ | ⟨a1, ⟨a2, -⟩ | a2⟩; (rcases a2 with a2 | a2 | a2 <;> omega); omega; omega) with ⟨rfl, rfl⟩ | ⟨rfl, rfl⟩ | ⟨rfl, rfl⟩ | ⟨hz, rfl⟩ | ⟨hz, rfl⟩
    · refine lv_istore (lv' := [(16, .int (zi 1)), (11, .long (zln ((zSW X a) + 0))), (7, .long (zln ((zSA X a) + 0))), (15, .int (zi 0)), (14, .int (zi 0)), (0, .ref b), (1, .int (zi tm)), (2, .ref g0), (3, .ref (ad 52)), (4, .int (zi st)), (5, .long dg), (9, .int (zi (zN X 0 : Int))), (10, .int (zi qu)), (13, .int (zi (a : Int)))]) hx hb dL_law_145 hl (by decide) rfl (fun ls hl => ?_)
      refine lv_iload hx hb dL_law_147 (lv_at hl 3 rfl) ?_
      refine lv_aload_n hx hb dL_law_149 rfl (lv_at hl 8 rfl) ?_
      refine lv_iload hx hb dL_law_150 (lv_at hl 13 rfl) ?_
      refine lv_iload hx hb dL_law_152 (lv_at hl 13 rfl) ?_
      refine zcall (wr := wr) (wc := zpic G ad X) (va_runV (As := [.int (zi (a : Int)), .int (zi (a : Int))]) (rest := [.int (zi 0)]) ⟨hx, hb, hml, hown, hts⟩ (c_X7_shared l G ad X a a hI.1 (by omega) (by omega) H.size) (cwV 2 hts gL_law_X7_shared rfl rfl rfl (by decide +kernel) ⟨Nat.le_of_ble_eq_true rfl, Nat.le_of_ble_eq_true rfl⟩) (zPreV (As := [.int (zi (a : Int)), .int (zi (a : Int))]) (wr := wr) (wc := zpic G ad X) (q0 := 52) (ci := 7) (q := (RX7, TX7, 8)) hP hD hE hS hA rfl p_52) rfl rfl hl.1 rfl (lv_room (Nat.le_of_ble_eq_true rfl)) dL_law_154 ⟨(by show _ ≤ 600104; omega), (by show _ ≤ 7301314; omega)⟩) hP hD hS hA (fun _ _ H locs hf9 hP hD hS => ?_)
      obtain ⟨v4, rfl, hv4, rfl⟩ := hf9
      have hP : va_P G.1 vwCl (wr ++ zpic G ad X) H := hP
      have hD : va_D A (wr ++ zpic G ad X) := hD
      refine W.eq (g2 := F0 m 157 ls [.int (zi v4), .int (zi 0)]) rfl ?_
      refine zc_gt (tgt := 244) hx hb dL_law_157 (by decide) (by decide) (by omega) (fun h9 => by exfalso; omega) (fun h157 => ?_)
      refine lv_iload hx hb dL_law_160 (lv_at hl 3 rfl) ?_
      refine z0_ne (tgt := 169) hx hb dL_law_162 (by decide) (by decide) (fun h9 => absurd h9 (by decide)) (fun h162 => ?_)
      refine lv_iconst (v := zi 1) hx hb dL_law_165 rfl ?_
      refine lv_goto (tgt := 170) hx hb dL_law_166 (by decide) ?_
      refine lv_iload hx hb dL_law_170 (lv_at hl 0 rfl) ?_
      refine z0_le (tgt := 185) hx hb dL_law_172 (by decide) (by decide) (fun h9 => absurd h9 (by decide)) (fun h172 => ?_)
      refine lv_iload hx hb dL_law_175 (lv_at hl 0 rfl) ?_
      refine lv_iconst (v := zi 4) hx hb dL_law_177 rfl ?_
      refine zc_ge (tgt := 185) hx hb dL_law_178 (by decide) (by decide) (by decide) (fun h9 => absurd h9 (by decide)) (fun h178 => ?_)
      refine lv_iconst (v := zi 1) hx hb dL_law_181 rfl ?_
      refine lv_goto (tgt := 186) hx hb dL_law_182 (by decide) ?_
      refine zc_ne (tgt := 244) hx hb dL_law_186 (by decide) (by decide) (by decide) (fun h9 => absurd h9 (by decide)) (fun h186 => ?_)
      refine lv_aload_n hx hb dL_law_189 rfl (lv_at hl 8 rfl) ?_
      refine lv_iload hx hb dL_law_190 (lv_at hl 13 rfl) ?_
      refine zcall (wr := wr) (wc := zpic G ad X) (va_runV (As := [.int (zi (a : Int))]) (rest := []) ⟨hx, hb, hml, hown, hts⟩ (c_X7_coveredBy l G ad X a hI.1 (by omega) H.size) (cwV 1 hts gL_law_X7_coveredBy rfl rfl rfl (by decide +kernel) ⟨Nat.le_of_ble_eq_true rfl, Nat.le_of_ble_eq_true rfl⟩) (zPreV (As := [.int (zi (a : Int))]) (wr := wr) (wc := zpic G ad X) (q0 := 52) (ci := 7) (q := (RX7, TX7, 8)) hP hD hE hS hA rfl p_52) rfl rfl hl.1 rfl (lv_room (Nat.le_of_ble_eq_true rfl)) dL_law_192 ⟨(by show _ ≤ 600104; omega), (by show _ ≤ 7301314; omega)⟩) hP hD hS hA (fun _ _ H locs hf9 hP hD hS => ?_)
      obtain ⟨v5, rfl, hv5, rfl⟩ := hf9
      have hP : va_P G.1 vwCl (wr ++ zpic G ad X) H := hP
      have hD : va_D A (wr ++ zpic G ad X) := hD
      refine W.eq (g2 := F0 m 195 ls [.int (zi v5)]) rfl ?_
      refine lv_iload hx hb dL_law_195 (lv_at hl 13 rfl) ?_
      refine zc_ge (tgt := 244) hx hb dL_law_197 (by decide) (by omega) (by omega) (fun h9 => by exfalso; omega) (fun h197 => ?_)
      refine lv_aload_n hx hb dL_law_200 rfl (lv_at hl 8 rfl) ?_
      refine lv_iload hx hb dL_law_201 (lv_at hl 13 rfl) ?_
      refine zcall (wr := wr) (wc := zpic G ad X) (va_runV (As := [.int (zi (a : Int))]) (rest := []) ⟨hx, hb, hml, hown, hts⟩ (c_X7_coveredBy l G ad X a hI.1 (by omega) H.size) (cwV 1 hts gL_law_X7_coveredBy rfl rfl rfl (by decide +kernel) ⟨Nat.le_of_ble_eq_true rfl, Nat.le_of_ble_eq_true rfl⟩) (zPreV (As := [.int (zi (a : Int))]) (wr := wr) (wc := zpic G ad X) (q0 := 52) (ci := 7) (q := (RX7, TX7, 8)) hP hD hE hS hA rfl p_52) rfl rfl hl.1 rfl (lv_room (Nat.le_of_ble_eq_true rfl)) dL_law_203 ⟨(by show _ ≤ 600104; omega), (by show _ ≤ 7301314; omega)⟩) hP hD hS hA (fun _ _ H locs hf9 hP hD hS => ?_)
      obtain ⟨v6, rfl, hv6, rfl⟩ := hf9
      have hP : va_P G.1 vwCl (wr ++ zpic G ad X) H := hP
      have hD : va_D A (wr ++ zpic G ad X) := hD
      refine W.eq (g2 := F0 m 206 ls [.int (zi v6)]) rfl ?_
      have hcf := hv6.2.2.f hv6.2.1
      have hcd : 0 ≤ v6 → zDc X a = 0 := fun h0 => zCvF_dead hI.1 ha hv6.2.1 hv6.2.2 h0
      have hs2 : 0 ≤ zCvF X a → zSt X a = 1 ∨ zSt X a = 2 := by rcases hst with ⟨-, -, a3⟩ | ⟨a1, -⟩; exact a3; omega
      refine z0_lt (tgt := 221) hx hb dL_law_206 (by decide) (by omega) (fun h206 => ?_) (fun h206 => ?_)
      · refine lv_iload hx hb dL_law_221 (lv_at hl 0 rfl) ?_
        refine lv_iconst (v := zi 4) hx hb dL_law_223 rfl ?_
        refine zc_ne (tgt := 233) hx hb dL_law_224 (by decide) (by decide) (by decide) (fun h224 => ?_) (fun h9 => absurd h9 (by decide))
        refine lv_aload_n hx hb dL_law_233 rfl (lv_at hl 8 rfl) ?_
        refine lv_iload hx hb dL_law_234 (lv_at hl 13 rfl) ?_
        refine lv_iload hx hb dL_law_236 (lv_at hl 13 rfl) ?_
        refine zcall (wr := wr) (wc := zpic G ad X) (va_runV (As := [.int (zi (a : Int)), .int (zi (a : Int))]) (rest := []) ⟨hx, hb, hml, hown, hts⟩ (c_X7_changedByMove l G ad X a hI.1 hI.2.1 (by omega) H.size) (cwV 2 hts gL_law_X7_changedByMove rfl rfl rfl (by decide +kernel) ⟨Nat.le_of_ble_eq_true rfl, Nat.le_of_ble_eq_true rfl⟩) (zPreV (As := [.int (zi (a : Int)), .int (zi (a : Int))]) (wr := wr) (wc := zpic G ad X) (q0 := 52) (ci := 7) (q := (RX7, TX7, 8)) hP hD hE hS hA rfl p_52) rfl rfl hl.1 rfl (lv_room (Nat.le_of_ble_eq_true rfl)) dL_law_238 ⟨(by show _ ≤ 600104; omega), (by show _ ≤ 7301314; omega)⟩) hP hD hS hA (fun _ _ H locs hf9 hP hD hS => ?_)
        obtain ⟨v7, Y3, rfl, hv7, rfl⟩ := hf9
        have eY3 : X = Y3 := (hv7.2.1 hFr.1).symm
        subst eY3
        have hP : va_P G.1 vwCl (wr ++ zpic G ad X) H := hP
        have hD : va_D A (wr ++ zpic G ad X) := hD
        refine W.eq (g2 := F0 m 241 ls [.int (zi v7)]) rfl ?_
        refine z0_eq (tgt := 246) hx hb dL_law_241 (by decide) (by omega) (fun h241 => ?_) (fun h9 => by exfalso; omega)
        refine lv_iload hx hb dL_law_246 (lv_at hl 0 rfl) ?_
        refine z0_le (tgt := 264) hx hb dL_law_248 (by decide) (by decide) (fun h9 => absurd h9 (by decide)) (fun h248 => ?_)
        refine lv_aload_n hx hb dL_law_251 rfl (lv_at hl 8 rfl) ?_
        refine lv_iload hx hb dL_law_252 (lv_at hl 13 rfl) ?_
        refine zcall (wr := wr) (wc := zpic G ad X) (va_runV (As := [.int (zi (a : Int))]) (rest := []) ⟨hx, hb, hml, hown, hts⟩ (c_X7_allowedWithout l G ad X a hI.1 hI.2.1 (by omega) H.size) (cwV 1 hts gL_law_X7_allowedWithout rfl rfl rfl (by decide +kernel) ⟨Nat.le_of_ble_eq_true rfl, Nat.le_of_ble_eq_true rfl⟩) (zPreV (As := [.int (zi (a : Int))]) (wr := wr) (wc := zpic G ad X) (q0 := 52) (ci := 7) (q := (RX7, TX7, 8)) hP hD hE hS hA rfl p_52) rfl rfl hl.1 rfl (lv_room (Nat.le_of_ble_eq_true rfl)) dL_law_254 ⟨(by show _ ≤ 600104; omega), (by show _ ≤ 7301314; omega)⟩) hP hD hS hA (fun _ _ H locs hf9 hP hD hS => ?_)
        obtain ⟨v8, Y4, rfl, hv8, rfl⟩ := hf9
        have eY4 : X = Y4 := (hv8.2.1 hFr.1).symm
        subst eY4
        have hP : va_P G.1 vwCl (wr ++ zpic G ad X) H := hP
        have hD : va_D A (wr ++ zpic G ad X) := hD
        refine W.eq (g2 := F0 m 257 ls [.int (zi v8)]) rfl ?_
        refine lv_aload_n hx hb dL_law_257 rfl (lv_at hl 8 rfl) ?_
        refine zcall (wr := wr) (wc := zpic G ad X) (va_runV (As := []) (rest := [.int (zi v8)]) ⟨hx, hb, hml, hown, hts⟩ (c_X7_allowed l G ad X hI.1 hI.2.1 H.size) (cwV 0 hts gL_law_X7_allowed rfl rfl rfl (by decide +kernel) ⟨Nat.le_of_ble_eq_true rfl, Nat.le_of_ble_eq_true rfl⟩) (zPreV (As := []) (wr := wr) (wc := zpic G ad X) (q0 := 52) (ci := 7) (q := (RX7, TX7, 8)) hP hD hE hS hA rfl p_52) rfl rfl hl.1 rfl (lv_room (Nat.le_of_ble_eq_true rfl)) dL_law_258 ⟨(by show _ ≤ 600104; omega), (by show _ ≤ 7301314; omega)⟩) hP hD hS hA (fun _ _ H locs hf9 hP hD hS => ?_)
        obtain ⟨v9, Y5, rfl, hv9, rfl⟩ := hf9
        have eY5 : X = Y5 := (hv9.2.1 hFr.1).symm
        subst eY5
        have hP : va_P G.1 vwCl (wr ++ zpic G ad X) H := hP
        have hD : va_D A (wr ++ zpic G ad X) := hD
        refine W.eq (g2 := F0 m 261 ls [.int (zi v9), .int (zi v8)]) rfl ?_
        refine zc_ne (tgt := 283) hx hb dL_law_261 (by decide) (by omega) (by omega) (fun h9 => by exfalso; omega) (fun h261 => ?_)
        refine lv_iload hx hb dL_law_264 (lv_at hl 4 rfl) ?_
        refine lv_iconst (v := zi 2) hx hb dL_law_266 rfl ?_
        refine zc_ne (tgt := 285) hx hb dL_law_267 (by decide) (by decide) (by decide) (fun h267 => ?_) (fun h9 => absurd h9 (by decide))
        have ezSA : (zSA X a) + 0 = zSA X (a + 1) := by show _ = zSA X a + (if X (zr X 0 a) 0 = 2 then 0 else zDc X a); rw [if_neg (by omega)]; omega
        have ezSW : (zSW X a) + 0 = zSW X (a + 1) := by show _ = zSW X a + (if X (zr X 0 a) 0 = 1 then zDc X a else 0); rw [if_neg (by omega)]
        rw [ezSA, ezSW] at hl
        exact kk 0 H locs ls hP hD hS (lv_sub hl [5, 6, 7, 8, 9, 10, 2, 11, 12, 1, 13, 4] rfl) hvd
      · refine lv_iload hx hb dL_law_209 (lv_at hl 0 rfl) ?_
        refine lv_iconst (v := zi 1) hx hb dL_law_211 rfl ?_
        refine zc_eq (tgt := 221) hx hb dL_law_212 (by decide) (by decide) (by decide) (fun h212 => ?_) (fun h9 => absurd h9 (by decide))
        refine lv_iload hx hb dL_law_221 (lv_at hl 0 rfl) ?_
        refine lv_iconst (v := zi 4) hx hb dL_law_223 rfl ?_
        refine zc_ne (tgt := 233) hx hb dL_law_224 (by decide) (by decide) (by decide) (fun h224 => ?_) (fun h9 => absurd h9 (by decide))
        refine lv_aload_n hx hb dL_law_233 rfl (lv_at hl 8 rfl) ?_
        refine lv_iload hx hb dL_law_234 (lv_at hl 13 rfl) ?_
        refine lv_iload hx hb dL_law_236 (lv_at hl 13 rfl) ?_
        refine zcall (wr := wr) (wc := zpic G ad X) (va_runV (As := [.int (zi (a : Int)), .int (zi (a : Int))]) (rest := []) ⟨hx, hb, hml, hown, hts⟩ (c_X7_changedByMove l G ad X a hI.1 hI.2.1 (by omega) H.size) (cwV 2 hts gL_law_X7_changedByMove rfl rfl rfl (by decide +kernel) ⟨Nat.le_of_ble_eq_true rfl, Nat.le_of_ble_eq_true rfl⟩) (zPreV (As := [.int (zi (a : Int)), .int (zi (a : Int))]) (wr := wr) (wc := zpic G ad X) (q0 := 52) (ci := 7) (q := (RX7, TX7, 8)) hP hD hE hS hA rfl p_52) rfl rfl hl.1 rfl (lv_room (Nat.le_of_ble_eq_true rfl)) dL_law_238 ⟨(by show _ ≤ 600104; omega), (by show _ ≤ 7301314; omega)⟩) hP hD hS hA (fun _ _ H locs hf9 hP hD hS => ?_)
        obtain ⟨v7, Y3, rfl, hv7, rfl⟩ := hf9
        have eY3 : X = Y3 := (hv7.2.1 hFr.1).symm
        subst eY3
        have hP : va_P G.1 vwCl (wr ++ zpic G ad X) H := hP
        have hD : va_D A (wr ++ zpic G ad X) := hD
        refine W.eq (g2 := F0 m 241 ls [.int (zi v7)]) rfl ?_
        refine z0_eq (tgt := 246) hx hb dL_law_241 (by decide) (by omega) (fun h241 => ?_) (fun h9 => by exfalso; omega)
        refine lv_iload hx hb dL_law_246 (lv_at hl 0 rfl) ?_
        refine z0_le (tgt := 264) hx hb dL_law_248 (by decide) (by decide) (fun h9 => absurd h9 (by decide)) (fun h248 => ?_)
        refine lv_aload_n hx hb dL_law_251 rfl (lv_at hl 8 rfl) ?_
        refine lv_iload hx hb dL_law_252 (lv_at hl 13 rfl) ?_
        refine zcall (wr := wr) (wc := zpic G ad X) (va_runV (As := [.int (zi (a : Int))]) (rest := []) ⟨hx, hb, hml, hown, hts⟩ (c_X7_allowedWithout l G ad X a hI.1 hI.2.1 (by omega) H.size) (cwV 1 hts gL_law_X7_allowedWithout rfl rfl rfl (by decide +kernel) ⟨Nat.le_of_ble_eq_true rfl, Nat.le_of_ble_eq_true rfl⟩) (zPreV (As := [.int (zi (a : Int))]) (wr := wr) (wc := zpic G ad X) (q0 := 52) (ci := 7) (q := (RX7, TX7, 8)) hP hD hE hS hA rfl p_52) rfl rfl hl.1 rfl (lv_room (Nat.le_of_ble_eq_true rfl)) dL_law_254 ⟨(by show _ ≤ 600104; omega), (by show _ ≤ 7301314; omega)⟩) hP hD hS hA (fun _ _ H locs hf9 hP hD hS => ?_)
        obtain ⟨v8, Y4, rfl, hv8, rfl⟩ := hf9
        have eY4 : X = Y4 := (hv8.2.1 hFr.1).symm
        subst eY4
        have hP : va_P G.1 vwCl (wr ++ zpic G ad X) H := hP
        have hD : va_D A (wr ++ zpic G ad X) := hD
        refine W.eq (g2 := F0 m 257 ls [.int (zi v8)]) rfl ?_
        refine lv_aload_n hx hb dL_law_257 rfl (lv_at hl 8 rfl) ?_
        refine zcall (wr := wr) (wc := zpic G ad X) (va_runV (As := []) (rest := [.int (zi v8)]) ⟨hx, hb, hml, hown, hts⟩ (c_X7_allowed l G ad X hI.1 hI.2.1 H.size) (cwV 0 hts gL_law_X7_allowed rfl rfl rfl (by decide +kernel) ⟨Nat.le_of_ble_eq_true rfl, Nat.le_of_ble_eq_true rfl⟩) (zPreV (As := []) (wr := wr) (wc := zpic G ad X) (q0 := 52) (ci := 7) (q := (RX7, TX7, 8)) hP hD hE hS hA rfl p_52) rfl rfl hl.1 rfl (lv_room (Nat.le_of_ble_eq_true rfl)) dL_law_258 ⟨(by show _ ≤ 600104; omega), (by show _ ≤ 7301314; omega)⟩) hP hD hS hA (fun _ _ H locs hf9 hP hD hS => ?_)
        obtain ⟨v9, Y5, rfl, hv9, rfl⟩ := hf9
        have eY5 : X = Y5 := (hv9.2.1 hFr.1).symm
        subst eY5
        have hP : va_P G.1 vwCl (wr ++ zpic G ad X) H := hP
        have hD : va_D A (wr ++ zpic G ad X) := hD
        refine W.eq (g2 := F0 m 261 ls [.int (zi v9), .int (zi v8)]) rfl ?_
        refine zc_ne (tgt := 283) hx hb dL_law_261 (by decide) (by omega) (by omega) (fun h9 => by exfalso; omega) (fun h261 => ?_)
        refine lv_iload hx hb dL_law_264 (lv_at hl 4 rfl) ?_
        refine lv_iconst (v := zi 2) hx hb dL_law_266 rfl ?_
        refine zc_ne (tgt := 285) hx hb dL_law_267 (by decide) (by decide) (by decide) (fun h267 => ?_) (fun h9 => absurd h9 (by decide))
        have ezSA : (zSA X a) + 0 = zSA X (a + 1) := by show _ = zSA X a + (if X (zr X 0 a) 0 = 2 then 0 else zDc X a); rw [if_neg (by omega)]; omega
        have ezSW : (zSW X a) + 0 = zSW X (a + 1) := by show _ = zSW X a + (if X (zr X 0 a) 0 = 1 then zDc X a else 0); rw [if_neg (by omega)]
        rw [ezSA, ezSW] at hl
        exact kk 0 H locs ls hP hD hS (lv_sub hl [5, 6, 7, 8, 9, 10, 2, 11, 12, 1, 13, 4] rfl) hvd
    · refine lv_istore (lv' := [(16, .int (zi 2)), (11, .long (zln ((zSW X a) + 0))), (7, .long (zln ((zSA X a) + 0))), (15, .int (zi 0)), (14, .int (zi 0)), (0, .ref b), (1, .int (zi tm)), (2, .ref g0), (3, .ref (ad 52)), (4, .int (zi st)), (5, .long dg), (9, .int (zi (zN X 0 : Int))), (10, .int (zi qu)), (13, .int (zi (a : Int)))]) hx hb dL_law_145 hl (by decide) rfl (fun ls hl => ?_)
      refine lv_iload hx hb dL_law_147 (lv_at hl 3 rfl) ?_
      refine lv_aload_n hx hb dL_law_149 rfl (lv_at hl 8 rfl) ?_
      refine lv_iload hx hb dL_law_150 (lv_at hl 13 rfl) ?_
      refine lv_iload hx hb dL_law_152 (lv_at hl 13 rfl) ?_
      refine zcall (wr := wr) (wc := zpic G ad X) (va_runV (As := [.int (zi (a : Int)), .int (zi (a : Int))]) (rest := [.int (zi 0)]) ⟨hx, hb, hml, hown, hts⟩ (c_X7_shared l G ad X a a hI.1 (by omega) (by omega) H.size) (cwV 2 hts gL_law_X7_shared rfl rfl rfl (by decide +kernel) ⟨Nat.le_of_ble_eq_true rfl, Nat.le_of_ble_eq_true rfl⟩) (zPreV (As := [.int (zi (a : Int)), .int (zi (a : Int))]) (wr := wr) (wc := zpic G ad X) (q0 := 52) (ci := 7) (q := (RX7, TX7, 8)) hP hD hE hS hA rfl p_52) rfl rfl hl.1 rfl (lv_room (Nat.le_of_ble_eq_true rfl)) dL_law_154 ⟨(by show _ ≤ 600104; omega), (by show _ ≤ 7301314; omega)⟩) hP hD hS hA (fun _ _ H locs hf9 hP hD hS => ?_)
      obtain ⟨v4, rfl, hv4, rfl⟩ := hf9
      have hP : va_P G.1 vwCl (wr ++ zpic G ad X) H := hP
      have hD : va_D A (wr ++ zpic G ad X) := hD
      refine W.eq (g2 := F0 m 157 ls [.int (zi v4), .int (zi 0)]) rfl ?_
      refine zc_gt (tgt := 244) hx hb dL_law_157 (by decide) (by decide) (by omega) (fun h9 => by exfalso; omega) (fun h157 => ?_)
      refine lv_iload hx hb dL_law_160 (lv_at hl 3 rfl) ?_
      refine z0_ne (tgt := 169) hx hb dL_law_162 (by decide) (by decide) (fun h9 => absurd h9 (by decide)) (fun h162 => ?_)
      refine lv_iconst (v := zi 1) hx hb dL_law_165 rfl ?_
      refine lv_goto (tgt := 170) hx hb dL_law_166 (by decide) ?_
      refine lv_iload hx hb dL_law_170 (lv_at hl 0 rfl) ?_
      refine z0_le (tgt := 185) hx hb dL_law_172 (by decide) (by decide) (fun h9 => absurd h9 (by decide)) (fun h172 => ?_)
      refine lv_iload hx hb dL_law_175 (lv_at hl 0 rfl) ?_
      refine lv_iconst (v := zi 4) hx hb dL_law_177 rfl ?_
      refine zc_ge (tgt := 185) hx hb dL_law_178 (by decide) (by decide) (by decide) (fun h9 => absurd h9 (by decide)) (fun h178 => ?_)
      refine lv_iconst (v := zi 1) hx hb dL_law_181 rfl ?_
      refine lv_goto (tgt := 186) hx hb dL_law_182 (by decide) ?_
      refine zc_ne (tgt := 244) hx hb dL_law_186 (by decide) (by decide) (by decide) (fun h9 => absurd h9 (by decide)) (fun h186 => ?_)
      refine lv_aload_n hx hb dL_law_189 rfl (lv_at hl 8 rfl) ?_
      refine lv_iload hx hb dL_law_190 (lv_at hl 13 rfl) ?_
      refine zcall (wr := wr) (wc := zpic G ad X) (va_runV (As := [.int (zi (a : Int))]) (rest := []) ⟨hx, hb, hml, hown, hts⟩ (c_X7_coveredBy l G ad X a hI.1 (by omega) H.size) (cwV 1 hts gL_law_X7_coveredBy rfl rfl rfl (by decide +kernel) ⟨Nat.le_of_ble_eq_true rfl, Nat.le_of_ble_eq_true rfl⟩) (zPreV (As := [.int (zi (a : Int))]) (wr := wr) (wc := zpic G ad X) (q0 := 52) (ci := 7) (q := (RX7, TX7, 8)) hP hD hE hS hA rfl p_52) rfl rfl hl.1 rfl (lv_room (Nat.le_of_ble_eq_true rfl)) dL_law_192 ⟨(by show _ ≤ 600104; omega), (by show _ ≤ 7301314; omega)⟩) hP hD hS hA (fun _ _ H locs hf9 hP hD hS => ?_)
      obtain ⟨v5, rfl, hv5, rfl⟩ := hf9
      have hP : va_P G.1 vwCl (wr ++ zpic G ad X) H := hP
      have hD : va_D A (wr ++ zpic G ad X) := hD
      refine W.eq (g2 := F0 m 195 ls [.int (zi v5)]) rfl ?_
      refine lv_iload hx hb dL_law_195 (lv_at hl 13 rfl) ?_
      refine zc_ge (tgt := 244) hx hb dL_law_197 (by decide) (by omega) (by omega) (fun h9 => by exfalso; omega) (fun h197 => ?_)
      refine lv_aload_n hx hb dL_law_200 rfl (lv_at hl 8 rfl) ?_
      refine lv_iload hx hb dL_law_201 (lv_at hl 13 rfl) ?_
      refine zcall (wr := wr) (wc := zpic G ad X) (va_runV (As := [.int (zi (a : Int))]) (rest := []) ⟨hx, hb, hml, hown, hts⟩ (c_X7_coveredBy l G ad X a hI.1 (by omega) H.size) (cwV 1 hts gL_law_X7_coveredBy rfl rfl rfl (by decide +kernel) ⟨Nat.le_of_ble_eq_true rfl, Nat.le_of_ble_eq_true rfl⟩) (zPreV (As := [.int (zi (a : Int))]) (wr := wr) (wc := zpic G ad X) (q0 := 52) (ci := 7) (q := (RX7, TX7, 8)) hP hD hE hS hA rfl p_52) rfl rfl hl.1 rfl (lv_room (Nat.le_of_ble_eq_true rfl)) dL_law_203 ⟨(by show _ ≤ 600104; omega), (by show _ ≤ 7301314; omega)⟩) hP hD hS hA (fun _ _ H locs hf9 hP hD hS => ?_)
      obtain ⟨v6, rfl, hv6, rfl⟩ := hf9
      have hP : va_P G.1 vwCl (wr ++ zpic G ad X) H := hP
      have hD : va_D A (wr ++ zpic G ad X) := hD
      refine W.eq (g2 := F0 m 206 ls [.int (zi v6)]) rfl ?_
      have hcf := hv6.2.2.f hv6.2.1
      have hcd : 0 ≤ v6 → zDc X a = 0 := fun h0 => zCvF_dead hI.1 ha hv6.2.1 hv6.2.2 h0
      have hs2 : 0 ≤ zCvF X a → zSt X a = 1 ∨ zSt X a = 2 := by rcases hst with ⟨-, -, a3⟩ | ⟨a1, -⟩; exact a3; omega
      refine z0_lt (tgt := 221) hx hb dL_law_206 (by decide) (by omega) (fun h206 => ?_) (fun h206 => ?_)
      · refine lv_iload hx hb dL_law_221 (lv_at hl 0 rfl) ?_
        refine lv_iconst (v := zi 4) hx hb dL_law_223 rfl ?_
        refine zc_ne (tgt := 233) hx hb dL_law_224 (by decide) (by decide) (by decide) (fun h224 => ?_) (fun h9 => absurd h9 (by decide))
        refine lv_aload_n hx hb dL_law_233 rfl (lv_at hl 8 rfl) ?_
        refine lv_iload hx hb dL_law_234 (lv_at hl 13 rfl) ?_
        refine lv_iload hx hb dL_law_236 (lv_at hl 13 rfl) ?_
        refine zcall (wr := wr) (wc := zpic G ad X) (va_runV (As := [.int (zi (a : Int)), .int (zi (a : Int))]) (rest := []) ⟨hx, hb, hml, hown, hts⟩ (c_X7_changedByMove l G ad X a hI.1 hI.2.1 (by omega) H.size) (cwV 2 hts gL_law_X7_changedByMove rfl rfl rfl (by decide +kernel) ⟨Nat.le_of_ble_eq_true rfl, Nat.le_of_ble_eq_true rfl⟩) (zPreV (As := [.int (zi (a : Int)), .int (zi (a : Int))]) (wr := wr) (wc := zpic G ad X) (q0 := 52) (ci := 7) (q := (RX7, TX7, 8)) hP hD hE hS hA rfl p_52) rfl rfl hl.1 rfl (lv_room (Nat.le_of_ble_eq_true rfl)) dL_law_238 ⟨(by show _ ≤ 600104; omega), (by show _ ≤ 7301314; omega)⟩) hP hD hS hA (fun _ _ H locs hf9 hP hD hS => ?_)
        obtain ⟨v7, Y3, rfl, hv7, rfl⟩ := hf9
        have eY3 : X = Y3 := (hv7.2.1 hFr.1).symm
        subst eY3
        have hP : va_P G.1 vwCl (wr ++ zpic G ad X) H := hP
        have hD : va_D A (wr ++ zpic G ad X) := hD
        refine W.eq (g2 := F0 m 241 ls [.int (zi v7)]) rfl ?_
        refine z0_eq (tgt := 246) hx hb dL_law_241 (by decide) (by omega) (fun h241 => ?_) (fun h9 => by exfalso; omega)
        refine lv_iload hx hb dL_law_246 (lv_at hl 0 rfl) ?_
        refine z0_le (tgt := 264) hx hb dL_law_248 (by decide) (by decide) (fun h9 => absurd h9 (by decide)) (fun h248 => ?_)
        refine lv_aload_n hx hb dL_law_251 rfl (lv_at hl 8 rfl) ?_
        refine lv_iload hx hb dL_law_252 (lv_at hl 13 rfl) ?_
        refine zcall (wr := wr) (wc := zpic G ad X) (va_runV (As := [.int (zi (a : Int))]) (rest := []) ⟨hx, hb, hml, hown, hts⟩ (c_X7_allowedWithout l G ad X a hI.1 hI.2.1 (by omega) H.size) (cwV 1 hts gL_law_X7_allowedWithout rfl rfl rfl (by decide +kernel) ⟨Nat.le_of_ble_eq_true rfl, Nat.le_of_ble_eq_true rfl⟩) (zPreV (As := [.int (zi (a : Int))]) (wr := wr) (wc := zpic G ad X) (q0 := 52) (ci := 7) (q := (RX7, TX7, 8)) hP hD hE hS hA rfl p_52) rfl rfl hl.1 rfl (lv_room (Nat.le_of_ble_eq_true rfl)) dL_law_254 ⟨(by show _ ≤ 600104; omega), (by show _ ≤ 7301314; omega)⟩) hP hD hS hA (fun _ _ H locs hf9 hP hD hS => ?_)
        obtain ⟨v8, Y4, rfl, hv8, rfl⟩ := hf9
        have eY4 : X = Y4 := (hv8.2.1 hFr.1).symm
        subst eY4
        have hP : va_P G.1 vwCl (wr ++ zpic G ad X) H := hP
        have hD : va_D A (wr ++ zpic G ad X) := hD
        refine W.eq (g2 := F0 m 257 ls [.int (zi v8)]) rfl ?_
        refine lv_aload_n hx hb dL_law_257 rfl (lv_at hl 8 rfl) ?_
        refine zcall (wr := wr) (wc := zpic G ad X) (va_runV (As := []) (rest := [.int (zi v8)]) ⟨hx, hb, hml, hown, hts⟩ (c_X7_allowed l G ad X hI.1 hI.2.1 H.size) (cwV 0 hts gL_law_X7_allowed rfl rfl rfl (by decide +kernel) ⟨Nat.le_of_ble_eq_true rfl, Nat.le_of_ble_eq_true rfl⟩) (zPreV (As := []) (wr := wr) (wc := zpic G ad X) (q0 := 52) (ci := 7) (q := (RX7, TX7, 8)) hP hD hE hS hA rfl p_52) rfl rfl hl.1 rfl (lv_room (Nat.le_of_ble_eq_true rfl)) dL_law_258 ⟨(by show _ ≤ 600104; omega), (by show _ ≤ 7301314; omega)⟩) hP hD hS hA (fun _ _ H locs hf9 hP hD hS => ?_)
        obtain ⟨v9, Y5, rfl, hv9, rfl⟩ := hf9
        have eY5 : X = Y5 := (hv9.2.1 hFr.1).symm
        subst eY5
        have hP : va_P G.1 vwCl (wr ++ zpic G ad X) H := hP
        have hD : va_D A (wr ++ zpic G ad X) := hD
        refine W.eq (g2 := F0 m 261 ls [.int (zi v9), .int (zi v8)]) rfl ?_
        refine zc_ne (tgt := 283) hx hb dL_law_261 (by decide) (by omega) (by omega) (fun h9 => by exfalso; omega) (fun h261 => ?_)
        refine lv_iload hx hb dL_law_264 (lv_at hl 4 rfl) ?_
        refine lv_iconst (v := zi 2) hx hb dL_law_266 rfl ?_
        refine zc_ne (tgt := 285) hx hb dL_law_267 (by decide) (by decide) (by decide) (fun h267 => ?_) (fun h9 => absurd h9 (by decide))
        have ezSA : (zSA X a) + 0 = zSA X (a + 1) := by show _ = zSA X a + (if X (zr X 0 a) 0 = 2 then 0 else zDc X a); rw [if_neg (by omega)]; omega
        have ezSW : (zSW X a) + 0 = zSW X (a + 1) := by show _ = zSW X a + (if X (zr X 0 a) 0 = 1 then zDc X a else 0); rw [if_neg (by omega)]
        rw [ezSA, ezSW] at hl
        exact kk 0 H locs ls hP hD hS (lv_sub hl [5, 6, 7, 8, 9, 10, 2, 11, 12, 1, 13, 4] rfl) hvd
      · refine lv_iload hx hb dL_law_209 (lv_at hl 0 rfl) ?_
        refine lv_iconst (v := zi 1) hx hb dL_law_211 rfl ?_
        refine zc_eq (tgt := 221) hx hb dL_law_212 (by decide) (by decide) (by decide) (fun h9 => absurd h9 (by decide)) (fun h212 => ?_)
        refine lv_iload hx hb dL_law_215 (lv_at hl 0 rfl) ?_
        refine lv_iconst (v := zi 2) hx hb dL_law_217 rfl ?_
        refine zc_ne (tgt := 244) hx hb dL_law_218 (by decide) (by decide) (by decide) (fun h9 => absurd h9 (by decide)) (fun h218 => ?_)
        refine lv_iload hx hb dL_law_221 (lv_at hl 0 rfl) ?_
        refine lv_iconst (v := zi 4) hx hb dL_law_223 rfl ?_
        refine zc_ne (tgt := 233) hx hb dL_law_224 (by decide) (by decide) (by decide) (fun h224 => ?_) (fun h9 => absurd h9 (by decide))
        refine lv_aload_n hx hb dL_law_233 rfl (lv_at hl 8 rfl) ?_
        refine lv_iload hx hb dL_law_234 (lv_at hl 13 rfl) ?_
        refine lv_iload hx hb dL_law_236 (lv_at hl 13 rfl) ?_
        refine zcall (wr := wr) (wc := zpic G ad X) (va_runV (As := [.int (zi (a : Int)), .int (zi (a : Int))]) (rest := []) ⟨hx, hb, hml, hown, hts⟩ (c_X7_changedByMove l G ad X a hI.1 hI.2.1 (by omega) H.size) (cwV 2 hts gL_law_X7_changedByMove rfl rfl rfl (by decide +kernel) ⟨Nat.le_of_ble_eq_true rfl, Nat.le_of_ble_eq_true rfl⟩) (zPreV (As := [.int (zi (a : Int)), .int (zi (a : Int))]) (wr := wr) (wc := zpic G ad X) (q0 := 52) (ci := 7) (q := (RX7, TX7, 8)) hP hD hE hS hA rfl p_52) rfl rfl hl.1 rfl (lv_room (Nat.le_of_ble_eq_true rfl)) dL_law_238 ⟨(by show _ ≤ 600104; omega), (by show _ ≤ 7301314; omega)⟩) hP hD hS hA (fun _ _ H locs hf9 hP hD hS => ?_)
        obtain ⟨v7, Y3, rfl, hv7, rfl⟩ := hf9
        have eY3 : X = Y3 := (hv7.2.1 hFr.1).symm
        subst eY3
        have hP : va_P G.1 vwCl (wr ++ zpic G ad X) H := hP
        have hD : va_D A (wr ++ zpic G ad X) := hD
        refine W.eq (g2 := F0 m 241 ls [.int (zi v7)]) rfl ?_
        refine z0_eq (tgt := 246) hx hb dL_law_241 (by decide) (by omega) (fun h241 => ?_) (fun h9 => by exfalso; omega)
        refine lv_iload hx hb dL_law_246 (lv_at hl 0 rfl) ?_
        refine z0_le (tgt := 264) hx hb dL_law_248 (by decide) (by decide) (fun h9 => absurd h9 (by decide)) (fun h248 => ?_)
        refine lv_aload_n hx hb dL_law_251 rfl (lv_at hl 8 rfl) ?_
        refine lv_iload hx hb dL_law_252 (lv_at hl 13 rfl) ?_
        refine zcall (wr := wr) (wc := zpic G ad X) (va_runV (As := [.int (zi (a : Int))]) (rest := []) ⟨hx, hb, hml, hown, hts⟩ (c_X7_allowedWithout l G ad X a hI.1 hI.2.1 (by omega) H.size) (cwV 1 hts gL_law_X7_allowedWithout rfl rfl rfl (by decide +kernel) ⟨Nat.le_of_ble_eq_true rfl, Nat.le_of_ble_eq_true rfl⟩) (zPreV (As := [.int (zi (a : Int))]) (wr := wr) (wc := zpic G ad X) (q0 := 52) (ci := 7) (q := (RX7, TX7, 8)) hP hD hE hS hA rfl p_52) rfl rfl hl.1 rfl (lv_room (Nat.le_of_ble_eq_true rfl)) dL_law_254 ⟨(by show _ ≤ 600104; omega), (by show _ ≤ 7301314; omega)⟩) hP hD hS hA (fun _ _ H locs hf9 hP hD hS => ?_)
        obtain ⟨v8, Y4, rfl, hv8, rfl⟩ := hf9
        have eY4 : X = Y4 := (hv8.2.1 hFr.1).symm
        subst eY4
        have hP : va_P G.1 vwCl (wr ++ zpic G ad X) H := hP
        have hD : va_D A (wr ++ zpic G ad X) := hD
        refine W.eq (g2 := F0 m 257 ls [.int (zi v8)]) rfl ?_
        refine lv_aload_n hx hb dL_law_257 rfl (lv_at hl 8 rfl) ?_
        refine zcall (wr := wr) (wc := zpic G ad X) (va_runV (As := []) (rest := [.int (zi v8)]) ⟨hx, hb, hml, hown, hts⟩ (c_X7_allowed l G ad X hI.1 hI.2.1 H.size) (cwV 0 hts gL_law_X7_allowed rfl rfl rfl (by decide +kernel) ⟨Nat.le_of_ble_eq_true rfl, Nat.le_of_ble_eq_true rfl⟩) (zPreV (As := []) (wr := wr) (wc := zpic G ad X) (q0 := 52) (ci := 7) (q := (RX7, TX7, 8)) hP hD hE hS hA rfl p_52) rfl rfl hl.1 rfl (lv_room (Nat.le_of_ble_eq_true rfl)) dL_law_258 ⟨(by show _ ≤ 600104; omega), (by show _ ≤ 7301314; omega)⟩) hP hD hS hA (fun _ _ H locs hf9 hP hD hS => ?_)
        obtain ⟨v9, Y5, rfl, hv9, rfl⟩ := hf9
        have eY5 : X = Y5 := (hv9.2.1 hFr.1).symm
        subst eY5
        have hP : va_P G.1 vwCl (wr ++ zpic G ad X) H := hP
        have hD : va_D A (wr ++ zpic G ad X) := hD
        refine W.eq (g2 := F0 m 261 ls [.int (zi v9), .int (zi v8)]) rfl ?_
        refine zc_ne (tgt := 283) hx hb dL_law_261 (by decide) (by omega) (by omega) (fun h9 => by exfalso; omega) (fun h261 => ?_)
        refine lv_iload hx hb dL_law_264 (lv_at hl 4 rfl) ?_
        refine lv_iconst (v := zi 2) hx hb dL_law_266 rfl ?_
        refine zc_ne (tgt := 285) hx hb dL_law_267 (by decide) (by decide) (by decide) (fun h267 => ?_) (fun h9 => absurd h9 (by decide))
        have ezSA : (zSA X a) + 0 = zSA X (a + 1) := by show _ = zSA X a + (if X (zr X 0 a) 0 = 2 then 0 else zDc X a); rw [if_neg (by omega)]; omega
        have ezSW : (zSW X a) + 0 = zSW X (a + 1) := by show _ = zSW X a + (if X (zr X 0 a) 0 = 1 then zDc X a else 0); rw [if_neg (by omega)]
        rw [ezSA, ezSW] at hl
        exact kk 0 H locs ls hP hD hS (lv_sub hl [5, 6, 7, 8, 9, 10, 2, 11, 12, 1, 13, 4] rfl) hvd
    · refine lv_istore (lv' := [(16, .int (zi 3)), (11, .long (zln ((zSW X a) + 0))), (7, .long (zln ((zSA X a) + 0))), (15, .int (zi 0)), (14, .int (zi 0)), (0, .ref b), (1, .int (zi tm)), (2, .ref g0), (3, .ref (ad 52)), (4, .int (zi st)), (5, .long dg), (9, .int (zi (zN X 0 : Int))), (10, .int (zi qu)), (13, .int (zi (a : Int)))]) hx hb dL_law_145 hl (by decide) rfl (fun ls hl => ?_)
      refine lv_iload hx hb dL_law_147 (lv_at hl 3 rfl) ?_
      refine lv_aload_n hx hb dL_law_149 rfl (lv_at hl 8 rfl) ?_
      refine lv_iload hx hb dL_law_150 (lv_at hl 13 rfl) ?_
      refine lv_iload hx hb dL_law_152 (lv_at hl 13 rfl) ?_
      refine zcall (wr := wr) (wc := zpic G ad X) (va_runV (As := [.int (zi (a : Int)), .int (zi (a : Int))]) (rest := [.int (zi 0)]) ⟨hx, hb, hml, hown, hts⟩ (c_X7_shared l G ad X a a hI.1 (by omega) (by omega) H.size) (cwV 2 hts gL_law_X7_shared rfl rfl rfl (by decide +kernel) ⟨Nat.le_of_ble_eq_true rfl, Nat.le_of_ble_eq_true rfl⟩) (zPreV (As := [.int (zi (a : Int)), .int (zi (a : Int))]) (wr := wr) (wc := zpic G ad X) (q0 := 52) (ci := 7) (q := (RX7, TX7, 8)) hP hD hE hS hA rfl p_52) rfl rfl hl.1 rfl (lv_room (Nat.le_of_ble_eq_true rfl)) dL_law_154 ⟨(by show _ ≤ 600104; omega), (by show _ ≤ 7301314; omega)⟩) hP hD hS hA (fun _ _ H locs hf9 hP hD hS => ?_)
      obtain ⟨v4, rfl, hv4, rfl⟩ := hf9
      have hP : va_P G.1 vwCl (wr ++ zpic G ad X) H := hP
      have hD : va_D A (wr ++ zpic G ad X) := hD
      refine W.eq (g2 := F0 m 157 ls [.int (zi v4), .int (zi 0)]) rfl ?_
      refine zc_gt (tgt := 244) hx hb dL_law_157 (by decide) (by decide) (by omega) (fun h9 => by exfalso; omega) (fun h157 => ?_)
      refine lv_iload hx hb dL_law_160 (lv_at hl 3 rfl) ?_
      refine z0_ne (tgt := 169) hx hb dL_law_162 (by decide) (by decide) (fun h9 => absurd h9 (by decide)) (fun h162 => ?_)
      refine lv_iconst (v := zi 1) hx hb dL_law_165 rfl ?_
      refine lv_goto (tgt := 170) hx hb dL_law_166 (by decide) ?_
      refine lv_iload hx hb dL_law_170 (lv_at hl 0 rfl) ?_
      refine z0_le (tgt := 185) hx hb dL_law_172 (by decide) (by decide) (fun h9 => absurd h9 (by decide)) (fun h172 => ?_)
      refine lv_iload hx hb dL_law_175 (lv_at hl 0 rfl) ?_
      refine lv_iconst (v := zi 4) hx hb dL_law_177 rfl ?_
      refine zc_ge (tgt := 185) hx hb dL_law_178 (by decide) (by decide) (by decide) (fun h9 => absurd h9 (by decide)) (fun h178 => ?_)
      refine lv_iconst (v := zi 1) hx hb dL_law_181 rfl ?_
      refine lv_goto (tgt := 186) hx hb dL_law_182 (by decide) ?_
      refine zc_ne (tgt := 244) hx hb dL_law_186 (by decide) (by decide) (by decide) (fun h9 => absurd h9 (by decide)) (fun h186 => ?_)
      refine lv_aload_n hx hb dL_law_189 rfl (lv_at hl 8 rfl) ?_
      refine lv_iload hx hb dL_law_190 (lv_at hl 13 rfl) ?_
      refine zcall (wr := wr) (wc := zpic G ad X) (va_runV (As := [.int (zi (a : Int))]) (rest := []) ⟨hx, hb, hml, hown, hts⟩ (c_X7_coveredBy l G ad X a hI.1 (by omega) H.size) (cwV 1 hts gL_law_X7_coveredBy rfl rfl rfl (by decide +kernel) ⟨Nat.le_of_ble_eq_true rfl, Nat.le_of_ble_eq_true rfl⟩) (zPreV (As := [.int (zi (a : Int))]) (wr := wr) (wc := zpic G ad X) (q0 := 52) (ci := 7) (q := (RX7, TX7, 8)) hP hD hE hS hA rfl p_52) rfl rfl hl.1 rfl (lv_room (Nat.le_of_ble_eq_true rfl)) dL_law_192 ⟨(by show _ ≤ 600104; omega), (by show _ ≤ 7301314; omega)⟩) hP hD hS hA (fun _ _ H locs hf9 hP hD hS => ?_)
      obtain ⟨v5, rfl, hv5, rfl⟩ := hf9
      have hP : va_P G.1 vwCl (wr ++ zpic G ad X) H := hP
      have hD : va_D A (wr ++ zpic G ad X) := hD
      refine W.eq (g2 := F0 m 195 ls [.int (zi v5)]) rfl ?_
      refine lv_iload hx hb dL_law_195 (lv_at hl 13 rfl) ?_
      refine zc_ge (tgt := 244) hx hb dL_law_197 (by decide) (by omega) (by omega) (fun h9 => by exfalso; omega) (fun h197 => ?_)
      refine lv_aload_n hx hb dL_law_200 rfl (lv_at hl 8 rfl) ?_
      refine lv_iload hx hb dL_law_201 (lv_at hl 13 rfl) ?_
      refine zcall (wr := wr) (wc := zpic G ad X) (va_runV (As := [.int (zi (a : Int))]) (rest := []) ⟨hx, hb, hml, hown, hts⟩ (c_X7_coveredBy l G ad X a hI.1 (by omega) H.size) (cwV 1 hts gL_law_X7_coveredBy rfl rfl rfl (by decide +kernel) ⟨Nat.le_of_ble_eq_true rfl, Nat.le_of_ble_eq_true rfl⟩) (zPreV (As := [.int (zi (a : Int))]) (wr := wr) (wc := zpic G ad X) (q0 := 52) (ci := 7) (q := (RX7, TX7, 8)) hP hD hE hS hA rfl p_52) rfl rfl hl.1 rfl (lv_room (Nat.le_of_ble_eq_true rfl)) dL_law_203 ⟨(by show _ ≤ 600104; omega), (by show _ ≤ 7301314; omega)⟩) hP hD hS hA (fun _ _ H locs hf9 hP hD hS => ?_)
      obtain ⟨v6, rfl, hv6, rfl⟩ := hf9
      have hP : va_P G.1 vwCl (wr ++ zpic G ad X) H := hP
      have hD : va_D A (wr ++ zpic G ad X) := hD
      refine W.eq (g2 := F0 m 206 ls [.int (zi v6)]) rfl ?_
      have hcf := hv6.2.2.f hv6.2.1
      have hcd : 0 ≤ v6 → zDc X a = 0 := fun h0 => zCvF_dead hI.1 ha hv6.2.1 hv6.2.2 h0
      have hs2 : 0 ≤ zCvF X a → zSt X a = 1 ∨ zSt X a = 2 := by rcases hst with ⟨-, -, a3⟩ | ⟨a1, -⟩; exact a3; omega
      refine z0_lt (tgt := 221) hx hb dL_law_206 (by decide) (by omega) (fun h206 => ?_) (fun h9 => by exfalso; omega)
      refine lv_iload hx hb dL_law_221 (lv_at hl 0 rfl) ?_
      refine lv_iconst (v := zi 4) hx hb dL_law_223 rfl ?_
      refine zc_ne (tgt := 233) hx hb dL_law_224 (by decide) (by decide) (by decide) (fun h224 => ?_) (fun h9 => absurd h9 (by decide))
      refine lv_aload_n hx hb dL_law_233 rfl (lv_at hl 8 rfl) ?_
      refine lv_iload hx hb dL_law_234 (lv_at hl 13 rfl) ?_
      refine lv_iload hx hb dL_law_236 (lv_at hl 13 rfl) ?_
      refine zcall (wr := wr) (wc := zpic G ad X) (va_runV (As := [.int (zi (a : Int)), .int (zi (a : Int))]) (rest := []) ⟨hx, hb, hml, hown, hts⟩ (c_X7_changedByMove l G ad X a hI.1 hI.2.1 (by omega) H.size) (cwV 2 hts gL_law_X7_changedByMove rfl rfl rfl (by decide +kernel) ⟨Nat.le_of_ble_eq_true rfl, Nat.le_of_ble_eq_true rfl⟩) (zPreV (As := [.int (zi (a : Int)), .int (zi (a : Int))]) (wr := wr) (wc := zpic G ad X) (q0 := 52) (ci := 7) (q := (RX7, TX7, 8)) hP hD hE hS hA rfl p_52) rfl rfl hl.1 rfl (lv_room (Nat.le_of_ble_eq_true rfl)) dL_law_238 ⟨(by show _ ≤ 600104; omega), (by show _ ≤ 7301314; omega)⟩) hP hD hS hA (fun _ _ H locs hf9 hP hD hS => ?_)
      obtain ⟨v7, Y3, rfl, hv7, rfl⟩ := hf9
      have eY3 : X = Y3 := (hv7.2.1 hFr.1).symm
      subst eY3
      have hP : va_P G.1 vwCl (wr ++ zpic G ad X) H := hP
      have hD : va_D A (wr ++ zpic G ad X) := hD
      refine W.eq (g2 := F0 m 241 ls [.int (zi v7)]) rfl ?_
      refine z0_eq (tgt := 246) hx hb dL_law_241 (by decide) (by omega) (fun h241 => ?_) (fun h9 => by exfalso; omega)
      refine lv_iload hx hb dL_law_246 (lv_at hl 0 rfl) ?_
      refine z0_le (tgt := 264) hx hb dL_law_248 (by decide) (by decide) (fun h9 => absurd h9 (by decide)) (fun h248 => ?_)
      refine lv_aload_n hx hb dL_law_251 rfl (lv_at hl 8 rfl) ?_
      refine lv_iload hx hb dL_law_252 (lv_at hl 13 rfl) ?_
      refine zcall (wr := wr) (wc := zpic G ad X) (va_runV (As := [.int (zi (a : Int))]) (rest := []) ⟨hx, hb, hml, hown, hts⟩ (c_X7_allowedWithout l G ad X a hI.1 hI.2.1 (by omega) H.size) (cwV 1 hts gL_law_X7_allowedWithout rfl rfl rfl (by decide +kernel) ⟨Nat.le_of_ble_eq_true rfl, Nat.le_of_ble_eq_true rfl⟩) (zPreV (As := [.int (zi (a : Int))]) (wr := wr) (wc := zpic G ad X) (q0 := 52) (ci := 7) (q := (RX7, TX7, 8)) hP hD hE hS hA rfl p_52) rfl rfl hl.1 rfl (lv_room (Nat.le_of_ble_eq_true rfl)) dL_law_254 ⟨(by show _ ≤ 600104; omega), (by show _ ≤ 7301314; omega)⟩) hP hD hS hA (fun _ _ H locs hf9 hP hD hS => ?_)
      obtain ⟨v8, Y4, rfl, hv8, rfl⟩ := hf9
      have eY4 : X = Y4 := (hv8.2.1 hFr.1).symm
      subst eY4
      have hP : va_P G.1 vwCl (wr ++ zpic G ad X) H := hP
      have hD : va_D A (wr ++ zpic G ad X) := hD
      refine W.eq (g2 := F0 m 257 ls [.int (zi v8)]) rfl ?_
      refine lv_aload_n hx hb dL_law_257 rfl (lv_at hl 8 rfl) ?_
      refine zcall (wr := wr) (wc := zpic G ad X) (va_runV (As := []) (rest := [.int (zi v8)]) ⟨hx, hb, hml, hown, hts⟩ (c_X7_allowed l G ad X hI.1 hI.2.1 H.size) (cwV 0 hts gL_law_X7_allowed rfl rfl rfl (by decide +kernel) ⟨Nat.le_of_ble_eq_true rfl, Nat.le_of_ble_eq_true rfl⟩) (zPreV (As := []) (wr := wr) (wc := zpic G ad X) (q0 := 52) (ci := 7) (q := (RX7, TX7, 8)) hP hD hE hS hA rfl p_52) rfl rfl hl.1 rfl (lv_room (Nat.le_of_ble_eq_true rfl)) dL_law_258 ⟨(by show _ ≤ 600104; omega), (by show _ ≤ 7301314; omega)⟩) hP hD hS hA (fun _ _ H locs hf9 hP hD hS => ?_)
      obtain ⟨v9, Y5, rfl, hv9, rfl⟩ := hf9
      have eY5 : X = Y5 := (hv9.2.1 hFr.1).symm
      subst eY5
      have hP : va_P G.1 vwCl (wr ++ zpic G ad X) H := hP
      have hD : va_D A (wr ++ zpic G ad X) := hD
      refine W.eq (g2 := F0 m 261 ls [.int (zi v9), .int (zi v8)]) rfl ?_
      refine zc_ne (tgt := 283) hx hb dL_law_261 (by decide) (by omega) (by omega) (fun h9 => by exfalso; omega) (fun h261 => ?_)
      refine lv_iload hx hb dL_law_264 (lv_at hl 4 rfl) ?_
      refine lv_iconst (v := zi 2) hx hb dL_law_266 rfl ?_
      refine zc_ne (tgt := 285) hx hb dL_law_267 (by decide) (by decide) (by decide) (fun h267 => ?_) (fun h9 => absurd h9 (by decide))
      have ezSA : (zSA X a) + 0 = zSA X (a + 1) := by show _ = zSA X a + (if X (zr X 0 a) 0 = 2 then 0 else zDc X a); rw [if_neg (by omega)]; omega
      have ezSW : (zSW X a) + 0 = zSW X (a + 1) := by show _ = zSW X a + (if X (zr X 0 a) 0 = 1 then zDc X a else 0); rw [if_neg (by omega)]
      rw [ezSA, ezSW] at hl
      exact kk 0 H locs ls hP hD hS (lv_sub hl [5, 6, 7, 8, 9, 10, 2, 11, 12, 1, 13, 4] rfl) hvd
    · refine lv_istore (lv' := [(16, .int (zi 4)), (11, .long (zln ((zSW X a) + 0))), (7, .long (zln ((zSA X a) + v2))), (15, .int (zi v2)), (14, .int (zi 0)), (0, .ref b), (1, .int (zi tm)), (2, .ref g0), (3, .ref (ad 52)), (4, .int (zi st)), (5, .long dg), (9, .int (zi (zN X 0 : Int))), (10, .int (zi qu)), (13, .int (zi (a : Int)))]) hx hb dL_law_145 hl (by decide) rfl (fun ls hl => ?_)
      refine lv_iload hx hb dL_law_147 (lv_at hl 3 rfl) ?_
      refine lv_aload_n hx hb dL_law_149 rfl (lv_at hl 8 rfl) ?_
      refine lv_iload hx hb dL_law_150 (lv_at hl 13 rfl) ?_
      refine lv_iload hx hb dL_law_152 (lv_at hl 13 rfl) ?_
      refine zcall (wr := wr) (wc := zpic G ad X) (va_runV (As := [.int (zi (a : Int)), .int (zi (a : Int))]) (rest := [.int (zi v2)]) ⟨hx, hb, hml, hown, hts⟩ (c_X7_shared l G ad X a a hI.1 (by omega) (by omega) H.size) (cwV 2 hts gL_law_X7_shared rfl rfl rfl (by decide +kernel) ⟨Nat.le_of_ble_eq_true rfl, Nat.le_of_ble_eq_true rfl⟩) (zPreV (As := [.int (zi (a : Int)), .int (zi (a : Int))]) (wr := wr) (wc := zpic G ad X) (q0 := 52) (ci := 7) (q := (RX7, TX7, 8)) hP hD hE hS hA rfl p_52) rfl rfl hl.1 rfl (lv_room (Nat.le_of_ble_eq_true rfl)) dL_law_154 ⟨(by show _ ≤ 600104; omega), (by show _ ≤ 7301314; omega)⟩) hP hD hS hA (fun _ _ H locs hf9 hP hD hS => ?_)
      obtain ⟨v4, rfl, hv4, rfl⟩ := hf9
      have hP : va_P G.1 vwCl (wr ++ zpic G ad X) H := hP
      have hD : va_D A (wr ++ zpic G ad X) := hD
      refine W.eq (g2 := F0 m 157 ls [.int (zi v4), .int (zi v2)]) rfl ?_
      refine zc_gt (tgt := 244) hx hb dL_law_157 (by decide) (by omega) (by omega) (fun h9 => by exfalso; omega) (fun h157 => ?_)
      refine lv_iload hx hb dL_law_160 (lv_at hl 3 rfl) ?_
      refine z0_ne (tgt := 169) hx hb dL_law_162 (by decide) (by omega) (fun h162 => ?_) (fun h9 => by exfalso; omega)
      refine lv_iconst (v := zi 0) hx hb dL_law_169 rfl ?_
      refine lv_iload hx hb dL_law_170 (lv_at hl 0 rfl) ?_
      refine z0_le (tgt := 185) hx hb dL_law_172 (by decide) (by decide) (fun h9 => absurd h9 (by decide)) (fun h172 => ?_)
      refine lv_iload hx hb dL_law_175 (lv_at hl 0 rfl) ?_
      refine lv_iconst (v := zi 4) hx hb dL_law_177 rfl ?_
      refine zc_ge (tgt := 185) hx hb dL_law_178 (by decide) (by decide) (by decide) (fun h178 => ?_) (fun h9 => absurd h9 (by decide))
      refine lv_iconst (v := zi 0) hx hb dL_law_185 rfl ?_
      refine zc_ne (tgt := 244) hx hb dL_law_186 (by decide) (by decide) (by decide) (fun h9 => absurd h9 (by decide)) (fun h186 => ?_)
      refine lv_aload_n hx hb dL_law_189 rfl (lv_at hl 8 rfl) ?_
      refine lv_iload hx hb dL_law_190 (lv_at hl 13 rfl) ?_
      refine zcall (wr := wr) (wc := zpic G ad X) (va_runV (As := [.int (zi (a : Int))]) (rest := []) ⟨hx, hb, hml, hown, hts⟩ (c_X7_coveredBy l G ad X a hI.1 (by omega) H.size) (cwV 1 hts gL_law_X7_coveredBy rfl rfl rfl (by decide +kernel) ⟨Nat.le_of_ble_eq_true rfl, Nat.le_of_ble_eq_true rfl⟩) (zPreV (As := [.int (zi (a : Int))]) (wr := wr) (wc := zpic G ad X) (q0 := 52) (ci := 7) (q := (RX7, TX7, 8)) hP hD hE hS hA rfl p_52) rfl rfl hl.1 rfl (lv_room (Nat.le_of_ble_eq_true rfl)) dL_law_192 ⟨(by show _ ≤ 600104; omega), (by show _ ≤ 7301314; omega)⟩) hP hD hS hA (fun _ _ H locs hf9 hP hD hS => ?_)
      obtain ⟨v5, rfl, hv5, rfl⟩ := hf9
      have hP : va_P G.1 vwCl (wr ++ zpic G ad X) H := hP
      have hD : va_D A (wr ++ zpic G ad X) := hD
      refine W.eq (g2 := F0 m 195 ls [.int (zi v5)]) rfl ?_
      refine lv_iload hx hb dL_law_195 (lv_at hl 13 rfl) ?_
      refine zc_ge (tgt := 244) hx hb dL_law_197 (by decide) (by omega) (by omega) (fun h9 => by exfalso; omega) (fun h197 => ?_)
      refine lv_aload_n hx hb dL_law_200 rfl (lv_at hl 8 rfl) ?_
      refine lv_iload hx hb dL_law_201 (lv_at hl 13 rfl) ?_
      refine zcall (wr := wr) (wc := zpic G ad X) (va_runV (As := [.int (zi (a : Int))]) (rest := []) ⟨hx, hb, hml, hown, hts⟩ (c_X7_coveredBy l G ad X a hI.1 (by omega) H.size) (cwV 1 hts gL_law_X7_coveredBy rfl rfl rfl (by decide +kernel) ⟨Nat.le_of_ble_eq_true rfl, Nat.le_of_ble_eq_true rfl⟩) (zPreV (As := [.int (zi (a : Int))]) (wr := wr) (wc := zpic G ad X) (q0 := 52) (ci := 7) (q := (RX7, TX7, 8)) hP hD hE hS hA rfl p_52) rfl rfl hl.1 rfl (lv_room (Nat.le_of_ble_eq_true rfl)) dL_law_203 ⟨(by show _ ≤ 600104; omega), (by show _ ≤ 7301314; omega)⟩) hP hD hS hA (fun _ _ H locs hf9 hP hD hS => ?_)
      obtain ⟨v6, rfl, hv6, rfl⟩ := hf9
      have hP : va_P G.1 vwCl (wr ++ zpic G ad X) H := hP
      have hD : va_D A (wr ++ zpic G ad X) := hD
      refine W.eq (g2 := F0 m 206 ls [.int (zi v6)]) rfl ?_
      have hcf := hv6.2.2.f hv6.2.1
      have hcd : 0 ≤ v6 → zDc X a = 0 := fun h0 => zCvF_dead hI.1 ha hv6.2.1 hv6.2.2 h0
      refine z0_lt (tgt := 221) hx hb dL_law_206 (by decide) (by omega) (fun h206 => ?_) (fun h9 => by exfalso; omega)
      refine lv_iload hx hb dL_law_221 (lv_at hl 0 rfl) ?_
      refine lv_iconst (v := zi 4) hx hb dL_law_223 rfl ?_
      refine zc_ne (tgt := 233) hx hb dL_law_224 (by decide) (by decide) (by decide) (fun h9 => absurd h9 (by decide)) (fun h224 => ?_)
      refine lv_iload hx hb dL_law_227 (lv_at hl 4 rfl) ?_
      refine lv_iconst (v := zi 2) hx hb dL_law_229 rfl ?_
      refine zc_eq (tgt := 244) hx hb dL_law_230 (by decide) (by decide) (by decide) (fun h9 => absurd h9 (by decide)) (fun h230 => ?_)
      refine lv_aload_n hx hb dL_law_233 rfl (lv_at hl 8 rfl) ?_
      refine lv_iload hx hb dL_law_234 (lv_at hl 13 rfl) ?_
      refine lv_iload hx hb dL_law_236 (lv_at hl 13 rfl) ?_
      refine zcall (wr := wr) (wc := zpic G ad X) (va_runV (As := [.int (zi (a : Int)), .int (zi (a : Int))]) (rest := []) ⟨hx, hb, hml, hown, hts⟩ (c_X7_changedByMove l G ad X a hI.1 hI.2.1 (by omega) H.size) (cwV 2 hts gL_law_X7_changedByMove rfl rfl rfl (by decide +kernel) ⟨Nat.le_of_ble_eq_true rfl, Nat.le_of_ble_eq_true rfl⟩) (zPreV (As := [.int (zi (a : Int)), .int (zi (a : Int))]) (wr := wr) (wc := zpic G ad X) (q0 := 52) (ci := 7) (q := (RX7, TX7, 8)) hP hD hE hS hA rfl p_52) rfl rfl hl.1 rfl (lv_room (Nat.le_of_ble_eq_true rfl)) dL_law_238 ⟨(by show _ ≤ 600104; omega), (by show _ ≤ 7301314; omega)⟩) hP hD hS hA (fun _ _ H locs hf9 hP hD hS => ?_)
      obtain ⟨v7, Y3, rfl, hv7, rfl⟩ := hf9
      have eY3 : X = Y3 := (hv7.2.1 hFr.1).symm
      subst eY3
      have hP : va_P G.1 vwCl (wr ++ zpic G ad X) H := hP
      have hD : va_D A (wr ++ zpic G ad X) := hD
      refine W.eq (g2 := F0 m 241 ls [.int (zi v7)]) rfl ?_
      refine z0_eq (tgt := 246) hx hb dL_law_241 (by decide) (by omega) (fun h241 => ?_) (fun h9 => by exfalso; omega)
      refine lv_iload hx hb dL_law_246 (lv_at hl 0 rfl) ?_
      refine z0_le (tgt := 264) hx hb dL_law_248 (by decide) (by decide) (fun h9 => absurd h9 (by decide)) (fun h248 => ?_)
      refine lv_aload_n hx hb dL_law_251 rfl (lv_at hl 8 rfl) ?_
      refine lv_iload hx hb dL_law_252 (lv_at hl 13 rfl) ?_
      refine zcall (wr := wr) (wc := zpic G ad X) (va_runV (As := [.int (zi (a : Int))]) (rest := []) ⟨hx, hb, hml, hown, hts⟩ (c_X7_allowedWithout l G ad X a hI.1 hI.2.1 (by omega) H.size) (cwV 1 hts gL_law_X7_allowedWithout rfl rfl rfl (by decide +kernel) ⟨Nat.le_of_ble_eq_true rfl, Nat.le_of_ble_eq_true rfl⟩) (zPreV (As := [.int (zi (a : Int))]) (wr := wr) (wc := zpic G ad X) (q0 := 52) (ci := 7) (q := (RX7, TX7, 8)) hP hD hE hS hA rfl p_52) rfl rfl hl.1 rfl (lv_room (Nat.le_of_ble_eq_true rfl)) dL_law_254 ⟨(by show _ ≤ 600104; omega), (by show _ ≤ 7301314; omega)⟩) hP hD hS hA (fun _ _ H locs hf9 hP hD hS => ?_)
      obtain ⟨v8, Y4, rfl, hv8, rfl⟩ := hf9
      have eY4 : X = Y4 := (hv8.2.1 hFr.1).symm
      subst eY4
      have hP : va_P G.1 vwCl (wr ++ zpic G ad X) H := hP
      have hD : va_D A (wr ++ zpic G ad X) := hD
      refine W.eq (g2 := F0 m 257 ls [.int (zi v8)]) rfl ?_
      refine lv_aload_n hx hb dL_law_257 rfl (lv_at hl 8 rfl) ?_
      refine zcall (wr := wr) (wc := zpic G ad X) (va_runV (As := []) (rest := [.int (zi v8)]) ⟨hx, hb, hml, hown, hts⟩ (c_X7_allowed l G ad X hI.1 hI.2.1 H.size) (cwV 0 hts gL_law_X7_allowed rfl rfl rfl (by decide +kernel) ⟨Nat.le_of_ble_eq_true rfl, Nat.le_of_ble_eq_true rfl⟩) (zPreV (As := []) (wr := wr) (wc := zpic G ad X) (q0 := 52) (ci := 7) (q := (RX7, TX7, 8)) hP hD hE hS hA rfl p_52) rfl rfl hl.1 rfl (lv_room (Nat.le_of_ble_eq_true rfl)) dL_law_258 ⟨(by show _ ≤ 600104; omega), (by show _ ≤ 7301314; omega)⟩) hP hD hS hA (fun _ _ H locs hf9 hP hD hS => ?_)
      obtain ⟨v9, Y5, rfl, hv9, rfl⟩ := hf9
      have eY5 : X = Y5 := (hv9.2.1 hFr.1).symm
      subst eY5
      have hP : va_P G.1 vwCl (wr ++ zpic G ad X) H := hP
      have hD : va_D A (wr ++ zpic G ad X) := hD
      refine W.eq (g2 := F0 m 261 ls [.int (zi v9), .int (zi v8)]) rfl ?_
      refine zc_ne (tgt := 283) hx hb dL_law_261 (by decide) (by omega) (by omega) (fun h9 => by exfalso; omega) (fun h261 => ?_)
      refine lv_iload hx hb dL_law_264 (lv_at hl 4 rfl) ?_
      refine lv_iconst (v := zi 2) hx hb dL_law_266 rfl ?_
      refine zc_ne (tgt := 285) hx hb dL_law_267 (by decide) (by decide) (by decide) (fun h267 => ?_) (fun h9 => absurd h9 (by decide))
      have ezSA : (zSA X a) + v2 = zSA X (a + 1) := by show _ = zSA X a + (if X (zr X 0 a) 0 = 2 then 0 else zDc X a); rw [if_neg (by omega)]; omega
      have ezSW : (zSW X a) + 0 = zSW X (a + 1) := by show _ = zSW X a + (if X (zr X 0 a) 0 = 1 then zDc X a else 0); rw [if_neg (by omega)]
      rw [ezSA, ezSW] at hl
      exact kk 0 H locs ls hP hD hS (lv_sub hl [5, 6, 7, 8, 9, 10, 2, 11, 12, 1, 13, 4] rfl) hvd
    · refine lv_istore (lv' := [(16, .int (zi 0)), (11, .long (zln ((zSW X a) + 0))), (7, .long (zln ((zSA X a) + v2))), (15, .int (zi v2)), (14, .int (zi 0)), (0, .ref b), (1, .int (zi tm)), (2, .ref g0), (3, .ref (ad 52)), (4, .int (zi st)), (5, .long dg), (9, .int (zi (zN X 0 : Int))), (10, .int (zi qu)), (13, .int (zi (a : Int)))]) hx hb dL_law_145 hl (by decide) rfl (fun ls hl => ?_)
      refine lv_iload hx hb dL_law_147 (lv_at hl 3 rfl) ?_
      refine lv_aload_n hx hb dL_law_149 rfl (lv_at hl 8 rfl) ?_
      refine lv_iload hx hb dL_law_150 (lv_at hl 13 rfl) ?_
      refine lv_iload hx hb dL_law_152 (lv_at hl 13 rfl) ?_
      refine zcall (wr := wr) (wc := zpic G ad X) (va_runV (As := [.int (zi (a : Int)), .int (zi (a : Int))]) (rest := [.int (zi v2)]) ⟨hx, hb, hml, hown, hts⟩ (c_X7_shared l G ad X a a hI.1 (by omega) (by omega) H.size) (cwV 2 hts gL_law_X7_shared rfl rfl rfl (by decide +kernel) ⟨Nat.le_of_ble_eq_true rfl, Nat.le_of_ble_eq_true rfl⟩) (zPreV (As := [.int (zi (a : Int)), .int (zi (a : Int))]) (wr := wr) (wc := zpic G ad X) (q0 := 52) (ci := 7) (q := (RX7, TX7, 8)) hP hD hE hS hA rfl p_52) rfl rfl hl.1 rfl (lv_room (Nat.le_of_ble_eq_true rfl)) dL_law_154 ⟨(by show _ ≤ 600104; omega), (by show _ ≤ 7301314; omega)⟩) hP hD hS hA (fun _ _ H locs hf9 hP hD hS => ?_)
      obtain ⟨v4, rfl, hv4, rfl⟩ := hf9
      have hP : va_P G.1 vwCl (wr ++ zpic G ad X) H := hP
      have hD : va_D A (wr ++ zpic G ad X) := hD
      refine W.eq (g2 := F0 m 157 ls [.int (zi v4), .int (zi v2)]) rfl ?_
      refine zc_gt (tgt := 244) hx hb dL_law_157 (by decide) (by omega) (by omega) (fun h9 => by exfalso; omega) (fun h157 => ?_)
      refine lv_iload hx hb dL_law_160 (lv_at hl 3 rfl) ?_
      refine z0_ne (tgt := 169) hx hb dL_law_162 (by decide) (by omega) (fun h162 => ?_) (fun h9 => by exfalso; omega)
      refine lv_iconst (v := zi 0) hx hb dL_law_169 rfl ?_
      refine lv_iload hx hb dL_law_170 (lv_at hl 0 rfl) ?_
      refine z0_le (tgt := 185) hx hb dL_law_172 (by decide) (by decide) (fun h172 => ?_) (fun h9 => absurd h9 (by decide))
      refine lv_iconst (v := zi 0) hx hb dL_law_185 rfl ?_
      refine zc_ne (tgt := 244) hx hb dL_law_186 (by decide) (by decide) (by decide) (fun h9 => absurd h9 (by decide)) (fun h186 => ?_)
      refine lv_aload_n hx hb dL_law_189 rfl (lv_at hl 8 rfl) ?_
      refine lv_iload hx hb dL_law_190 (lv_at hl 13 rfl) ?_
      refine zcall (wr := wr) (wc := zpic G ad X) (va_runV (As := [.int (zi (a : Int))]) (rest := []) ⟨hx, hb, hml, hown, hts⟩ (c_X7_coveredBy l G ad X a hI.1 (by omega) H.size) (cwV 1 hts gL_law_X7_coveredBy rfl rfl rfl (by decide +kernel) ⟨Nat.le_of_ble_eq_true rfl, Nat.le_of_ble_eq_true rfl⟩) (zPreV (As := [.int (zi (a : Int))]) (wr := wr) (wc := zpic G ad X) (q0 := 52) (ci := 7) (q := (RX7, TX7, 8)) hP hD hE hS hA rfl p_52) rfl rfl hl.1 rfl (lv_room (Nat.le_of_ble_eq_true rfl)) dL_law_192 ⟨(by show _ ≤ 600104; omega), (by show _ ≤ 7301314; omega)⟩) hP hD hS hA (fun _ _ H locs hf9 hP hD hS => ?_)
      obtain ⟨v5, rfl, hv5, rfl⟩ := hf9
      have hP : va_P G.1 vwCl (wr ++ zpic G ad X) H := hP
      have hD : va_D A (wr ++ zpic G ad X) := hD
      refine W.eq (g2 := F0 m 195 ls [.int (zi v5)]) rfl ?_
      refine lv_iload hx hb dL_law_195 (lv_at hl 13 rfl) ?_
      refine zc_ge (tgt := 244) hx hb dL_law_197 (by decide) (by omega) (by omega) (fun h9 => by exfalso; omega) (fun h197 => ?_)
      refine lv_aload_n hx hb dL_law_200 rfl (lv_at hl 8 rfl) ?_
      refine lv_iload hx hb dL_law_201 (lv_at hl 13 rfl) ?_
      refine zcall (wr := wr) (wc := zpic G ad X) (va_runV (As := [.int (zi (a : Int))]) (rest := []) ⟨hx, hb, hml, hown, hts⟩ (c_X7_coveredBy l G ad X a hI.1 (by omega) H.size) (cwV 1 hts gL_law_X7_coveredBy rfl rfl rfl (by decide +kernel) ⟨Nat.le_of_ble_eq_true rfl, Nat.le_of_ble_eq_true rfl⟩) (zPreV (As := [.int (zi (a : Int))]) (wr := wr) (wc := zpic G ad X) (q0 := 52) (ci := 7) (q := (RX7, TX7, 8)) hP hD hE hS hA rfl p_52) rfl rfl hl.1 rfl (lv_room (Nat.le_of_ble_eq_true rfl)) dL_law_203 ⟨(by show _ ≤ 600104; omega), (by show _ ≤ 7301314; omega)⟩) hP hD hS hA (fun _ _ H locs hf9 hP hD hS => ?_)
      obtain ⟨v6, rfl, hv6, rfl⟩ := hf9
      have hP : va_P G.1 vwCl (wr ++ zpic G ad X) H := hP
      have hD : va_D A (wr ++ zpic G ad X) := hD
      refine W.eq (g2 := F0 m 206 ls [.int (zi v6)]) rfl ?_
      have hcf := hv6.2.2.f hv6.2.1
      have hcd : 0 ≤ v6 → zDc X a = 0 := fun h0 => zCvF_dead hI.1 ha hv6.2.1 hv6.2.2 h0
      refine z0_lt (tgt := 221) hx hb dL_law_206 (by decide) (by omega) (fun h206 => ?_) (fun h9 => by exfalso; omega)
      refine lv_iload hx hb dL_law_221 (lv_at hl 0 rfl) ?_
      refine lv_iconst (v := zi 4) hx hb dL_law_223 rfl ?_
      refine zc_ne (tgt := 233) hx hb dL_law_224 (by decide) (by decide) (by decide) (fun h224 => ?_) (fun h9 => absurd h9 (by decide))
      refine lv_aload_n hx hb dL_law_233 rfl (lv_at hl 8 rfl) ?_
      refine lv_iload hx hb dL_law_234 (lv_at hl 13 rfl) ?_
      refine lv_iload hx hb dL_law_236 (lv_at hl 13 rfl) ?_
      refine zcall (wr := wr) (wc := zpic G ad X) (va_runV (As := [.int (zi (a : Int)), .int (zi (a : Int))]) (rest := []) ⟨hx, hb, hml, hown, hts⟩ (c_X7_changedByMove l G ad X a hI.1 hI.2.1 (by omega) H.size) (cwV 2 hts gL_law_X7_changedByMove rfl rfl rfl (by decide +kernel) ⟨Nat.le_of_ble_eq_true rfl, Nat.le_of_ble_eq_true rfl⟩) (zPreV (As := [.int (zi (a : Int)), .int (zi (a : Int))]) (wr := wr) (wc := zpic G ad X) (q0 := 52) (ci := 7) (q := (RX7, TX7, 8)) hP hD hE hS hA rfl p_52) rfl rfl hl.1 rfl (lv_room (Nat.le_of_ble_eq_true rfl)) dL_law_238 ⟨(by show _ ≤ 600104; omega), (by show _ ≤ 7301314; omega)⟩) hP hD hS hA (fun _ _ H locs hf9 hP hD hS => ?_)
      obtain ⟨v7, Y3, rfl, hv7, rfl⟩ := hf9
      have eY3 : X = Y3 := (hv7.2.1 hFr.1).symm
      subst eY3
      have hP : va_P G.1 vwCl (wr ++ zpic G ad X) H := hP
      have hD : va_D A (wr ++ zpic G ad X) := hD
      refine W.eq (g2 := F0 m 241 ls [.int (zi v7)]) rfl ?_
      refine z0_eq (tgt := 246) hx hb dL_law_241 (by decide) (by omega) (fun h241 => ?_) (fun h9 => by exfalso; omega)
      refine lv_iload hx hb dL_law_246 (lv_at hl 0 rfl) ?_
      refine z0_le (tgt := 264) hx hb dL_law_248 (by decide) (by decide) (fun h248 => ?_) (fun h9 => absurd h9 (by decide))
      refine lv_iload hx hb dL_law_264 (lv_at hl 4 rfl) ?_
      refine lv_iconst (v := zi 2) hx hb dL_law_266 rfl ?_
      refine zc_ne (tgt := 285) hx hb dL_law_267 (by decide) (by decide) (by decide) (fun h267 => ?_) (fun h9 => absurd h9 (by decide))
      have ezSA : (zSA X a) + v2 = zSA X (a + 1) := by show _ = zSA X a + (if X (zr X 0 a) 0 = 2 then 0 else zDc X a); rw [if_neg (by omega)]; omega
      have ezSW : (zSW X a) + 0 = zSW X (a + 1) := by show _ = zSW X a + (if X (zr X 0 a) 0 = 1 then zDc X a else 0); rw [if_neg (by omega)]
      rw [ezSA, ezSW] at hl
      exact kk 0 H locs ls hP hD hS (lv_sub hl [5, 6, 7, 8, 9, 10, 2, 11, 12, 1, 13, 4] rfl) hvd
  · refine lv_istore (lv' := [(14, .int (zi 1)), (0, .ref b), (1, .int (zi tm)), (2, .ref g0), (3, .ref (ad 52)), (4, .int (zi st)), (5, .long dg), (7, .long (zln (zSA X a))), (9, .int (zi (zN X 0 : Int))), (10, .int (zi qu)), (11, .long (zln (zSW X a))), (13, .int (zi (a : Int)))]) hx hb dL_law_93 hl (by decide) rfl (fun ls hl => ?_)
    refine lv_aload_n hx hb dL_law_95 rfl (lv_at hl 4 rfl) ?_
    refine lv_iload hx hb dL_law_96 (lv_at hl 11 rfl) ?_
    refine zcall (wr := wr) (wc := zpic G ad X) (va_runV (As := [.int (zi (a : Int))]) (rest := []) ⟨hx, hb, hml, hown, hts⟩ (c_X7_decides l G ad X a hI.1 hI.2.1 (by omega) H.size) (cwV 1 hts gL_law_X7_decides rfl rfl rfl (by decide +kernel) ⟨Nat.le_of_ble_eq_true rfl, Nat.le_of_ble_eq_true rfl⟩) (zPreV (As := [.int (zi (a : Int))]) (wr := wr) (wc := zpic G ad X) (q0 := 52) (ci := 7) (q := (RX7, TX7, 8)) hP hD hE hS hA rfl p_52) rfl rfl hl.1 rfl (lv_room (Nat.le_of_ble_eq_true rfl)) dL_law_98 ⟨(by show _ ≤ 600104; omega), (by show _ ≤ 7301314; omega)⟩) hP hD hS hA (fun _ _ H locs hf9 hP hD hS => ?_)
    obtain ⟨v2, Y1, rfl, hv2, rfl⟩ := hf9
    have eY1 : X = Y1 := (hv2.2.1 hFr.1).symm
    subst eY1
    have hP : va_P G.1 vwCl (wr ++ zpic G ad X) H := hP
    have hD : va_D A (wr ++ zpic G ad X) := hD
    refine W.eq (g2 := F0 m 101 ls [.int (zi v2)]) rfl ?_
    refine lv_istore (lv' := [(15, .int (zi v2)), (14, .int (zi 1)), (0, .ref b), (1, .int (zi tm)), (2, .ref g0), (3, .ref (ad 52)), (4, .int (zi st)), (5, .long dg), (7, .long (zln (zSA X a))), (9, .int (zi (zN X 0 : Int))), (10, .int (zi qu)), (11, .long (zln (zSW X a))), (13, .int (zi (a : Int)))]) hx hb dL_law_101 hl (by decide) rfl (fun ls hl => ?_)
    refine lv_lload hx hb dL_law_103 (lv_at hl 8 rfl) ?_
    refine lv_iload hx hb dL_law_105 (lv_at hl 1 rfl) ?_
    refine lv_iconst (v := zi 2) hx hb dL_law_107 rfl ?_
    refine zc_ne (tgt := 115) hx hb dL_law_108 (by decide) (by decide) (by decide) (fun h108 => ?_) (fun h9 => absurd h9 (by decide))
    refine lv_iload hx hb dL_law_115 (lv_at hl 0 rfl) ?_
    refine lv_i2l (v := (zln v2)) hx hb dL_law_117 (zi_l (by omega)) ?_
    refine lv_ladd hx hb dL_law_118 (ztl (v := (zln ((zSA X a) + v2))) (zln_add _ _) ?_)
    refine lv_lstore (lv' := [(7, .long (zln ((zSA X a) + v2))), (15, .int (zi v2)), (14, .int (zi 1)), (0, .ref b), (1, .int (zi tm)), (2, .ref g0), (3, .ref (ad 52)), (4, .int (zi st)), (5, .long dg), (9, .int (zi (zN X 0 : Int))), (10, .int (zi qu)), (11, .long (zln (zSW X a))), (13, .int (zi (a : Int)))]) hx hb dL_law_119 hl (by decide) rfl (fun ls hl => ?_)
    refine lv_lload hx hb dL_law_121 (lv_at hl 11 rfl) ?_
    refine lv_iload hx hb dL_law_123 (lv_at hl 2 rfl) ?_
    refine lv_iconst (v := zi 1) hx hb dL_law_125 rfl ?_
    refine zc_ne (tgt := 135) hx hb dL_law_126 (by decide) (by decide) (by decide) (fun h9 => absurd h9 (by decide)) (fun h126 => ?_)
    refine lv_iload hx hb dL_law_129 (lv_at hl 1 rfl) ?_
    refine lv_i2l (v := (zln v2)) hx hb dL_law_131 (zi_l (by omega)) ?_
    refine lv_goto (tgt := 136) hx hb dL_law_132 (by decide) ?_
    refine lv_ladd hx hb dL_law_136 (ztl (v := (zln ((zSW X a) + v2))) (zln_add _ _) ?_)
    refine lv_lstore (lv' := [(11, .long (zln ((zSW X a) + v2))), (7, .long (zln ((zSA X a) + v2))), (15, .int (zi v2)), (14, .int (zi 1)), (0, .ref b), (1, .int (zi tm)), (2, .ref g0), (3, .ref (ad 52)), (4, .int (zi st)), (5, .long dg), (9, .int (zi (zN X 0 : Int))), (10, .int (zi qu)), (13, .int (zi (a : Int)))]) hx hb dL_law_137 hl (by decide) rfl (fun ls hl => ?_)
    refine lv_aload_n hx hb dL_law_139 rfl (lv_at hl 7 rfl) ?_
    refine lv_iload hx hb dL_law_140 (lv_at hl 12 rfl) ?_
    refine zcall (wr := wr) (wc := zpic G ad X) (va_runV (As := [.int (zi (a : Int))]) (rest := []) ⟨hx, hb, hml, hown, hts⟩ (c_X7_state l G ad X a hI.1 hI.2.1 (by omega) H.size) (cwV 1 hts gL_law_X7_state rfl rfl rfl (by decide +kernel) ⟨Nat.le_of_ble_eq_true rfl, Nat.le_of_ble_eq_true rfl⟩) (zPreV (As := [.int (zi (a : Int))]) (wr := wr) (wc := zpic G ad X) (q0 := 52) (ci := 7) (q := (RX7, TX7, 8)) hP hD hE hS hA rfl p_52) rfl rfl hl.1 rfl (lv_room (Nat.le_of_ble_eq_true rfl)) dL_law_142 ⟨(by show _ ≤ 600104; omega), (by show _ ≤ 7301314; omega)⟩) hP hD hS hA (fun _ _ H locs hf9 hP hD hS => ?_)
    obtain ⟨v3, Y2, rfl, hv3, rfl⟩ := hf9
    have eY2 : X = Y2 := (hv3.2.1 hFr.1).symm
    subst eY2
    have hP : va_P G.1 vwCl (wr ++ zpic G ad X) H := hP
    have hD : va_D A (wr ++ zpic G ad X) := hD
    refine W.eq (g2 := F0 m 145 ls [.int (zi v3)]) rfl ?_
    have hdv := hv2.1
    have hs3 := hv3.1
    have hst := zSt_cases (X := X) a
    rcases (show (v2 = 0 ∧ v3 = 1) ∨ (v2 = 0 ∧ v3 = 2) ∨ (v2 = 0 ∧ v3 = 3) ∨ (v2 ≠ 0 ∧ v3 = 4) ∨ (v2 ≠ 0 ∧ v3 = 0) by rw [hdv, hs3]; rcases hst with ⟨a1, a2, -⟩ | ⟨a1, ⟨a2, -⟩ | a2⟩; (rcases a2 with a2 | a2 | a2 <;> omega); omega; omega) with ⟨rfl, rfl⟩ | ⟨rfl, rfl⟩ | ⟨rfl, rfl⟩ | ⟨hz, rfl⟩ | ⟨hz, rfl⟩
    · refine lv_istore (lv' := [(16, .int (zi 1)), (11, .long (zln ((zSW X a) + 0))), (7, .long (zln ((zSA X a) + 0))), (15, .int (zi 0)), (14, .int (zi 1)), (0, .ref b), (1, .int (zi tm)), (2, .ref g0), (3, .ref (ad 52)), (4, .int (zi st)), (5, .long dg), (9, .int (zi (zN X 0 : Int))), (10, .int (zi qu)), (13, .int (zi (a : Int)))]) hx hb dL_law_145 hl (by decide) rfl (fun ls hl => ?_)
      refine lv_iload hx hb dL_law_147 (lv_at hl 3 rfl) ?_
      refine lv_aload_n hx hb dL_law_149 rfl (lv_at hl 8 rfl) ?_
      refine lv_iload hx hb dL_law_150 (lv_at hl 13 rfl) ?_
      refine lv_iload hx hb dL_law_152 (lv_at hl 13 rfl) ?_
      refine zcall (wr := wr) (wc := zpic G ad X) (va_runV (As := [.int (zi (a : Int)), .int (zi (a : Int))]) (rest := [.int (zi 0)]) ⟨hx, hb, hml, hown, hts⟩ (c_X7_shared l G ad X a a hI.1 (by omega) (by omega) H.size) (cwV 2 hts gL_law_X7_shared rfl rfl rfl (by decide +kernel) ⟨Nat.le_of_ble_eq_true rfl, Nat.le_of_ble_eq_true rfl⟩) (zPreV (As := [.int (zi (a : Int)), .int (zi (a : Int))]) (wr := wr) (wc := zpic G ad X) (q0 := 52) (ci := 7) (q := (RX7, TX7, 8)) hP hD hE hS hA rfl p_52) rfl rfl hl.1 rfl (lv_room (Nat.le_of_ble_eq_true rfl)) dL_law_154 ⟨(by show _ ≤ 600104; omega), (by show _ ≤ 7301314; omega)⟩) hP hD hS hA (fun _ _ H locs hf9 hP hD hS => ?_)
      obtain ⟨v4, rfl, hv4, rfl⟩ := hf9
      have hP : va_P G.1 vwCl (wr ++ zpic G ad X) H := hP
      have hD : va_D A (wr ++ zpic G ad X) := hD
      refine W.eq (g2 := F0 m 157 ls [.int (zi v4), .int (zi 0)]) rfl ?_
      refine zc_gt (tgt := 244) hx hb dL_law_157 (by decide) (by decide) (by omega) (fun h9 => by exfalso; omega) (fun h157 => ?_)
      refine lv_iload hx hb dL_law_160 (lv_at hl 3 rfl) ?_
      refine z0_ne (tgt := 169) hx hb dL_law_162 (by decide) (by decide) (fun h9 => absurd h9 (by decide)) (fun h162 => ?_)
      refine lv_iconst (v := zi 1) hx hb dL_law_165 rfl ?_
      refine lv_goto (tgt := 170) hx hb dL_law_166 (by decide) ?_
      refine lv_iload hx hb dL_law_170 (lv_at hl 0 rfl) ?_
      refine z0_le (tgt := 185) hx hb dL_law_172 (by decide) (by decide) (fun h9 => absurd h9 (by decide)) (fun h172 => ?_)
      refine lv_iload hx hb dL_law_175 (lv_at hl 0 rfl) ?_
      refine lv_iconst (v := zi 4) hx hb dL_law_177 rfl ?_
      refine zc_ge (tgt := 185) hx hb dL_law_178 (by decide) (by decide) (by decide) (fun h9 => absurd h9 (by decide)) (fun h178 => ?_)
      refine lv_iconst (v := zi 1) hx hb dL_law_181 rfl ?_
      refine lv_goto (tgt := 186) hx hb dL_law_182 (by decide) ?_
      refine zc_ne (tgt := 244) hx hb dL_law_186 (by decide) (by decide) (by decide) (fun h9 => absurd h9 (by decide)) (fun h186 => ?_)
      refine lv_aload_n hx hb dL_law_189 rfl (lv_at hl 8 rfl) ?_
      refine lv_iload hx hb dL_law_190 (lv_at hl 13 rfl) ?_
      refine zcall (wr := wr) (wc := zpic G ad X) (va_runV (As := [.int (zi (a : Int))]) (rest := []) ⟨hx, hb, hml, hown, hts⟩ (c_X7_coveredBy l G ad X a hI.1 (by omega) H.size) (cwV 1 hts gL_law_X7_coveredBy rfl rfl rfl (by decide +kernel) ⟨Nat.le_of_ble_eq_true rfl, Nat.le_of_ble_eq_true rfl⟩) (zPreV (As := [.int (zi (a : Int))]) (wr := wr) (wc := zpic G ad X) (q0 := 52) (ci := 7) (q := (RX7, TX7, 8)) hP hD hE hS hA rfl p_52) rfl rfl hl.1 rfl (lv_room (Nat.le_of_ble_eq_true rfl)) dL_law_192 ⟨(by show _ ≤ 600104; omega), (by show _ ≤ 7301314; omega)⟩) hP hD hS hA (fun _ _ H locs hf9 hP hD hS => ?_)
      obtain ⟨v5, rfl, hv5, rfl⟩ := hf9
      have hP : va_P G.1 vwCl (wr ++ zpic G ad X) H := hP
      have hD : va_D A (wr ++ zpic G ad X) := hD
      refine W.eq (g2 := F0 m 195 ls [.int (zi v5)]) rfl ?_
      refine lv_iload hx hb dL_law_195 (lv_at hl 13 rfl) ?_
      refine zc_ge (tgt := 244) hx hb dL_law_197 (by decide) (by omega) (by omega) (fun h9 => by exfalso; omega) (fun h197 => ?_)
      refine lv_aload_n hx hb dL_law_200 rfl (lv_at hl 8 rfl) ?_
      refine lv_iload hx hb dL_law_201 (lv_at hl 13 rfl) ?_
      refine zcall (wr := wr) (wc := zpic G ad X) (va_runV (As := [.int (zi (a : Int))]) (rest := []) ⟨hx, hb, hml, hown, hts⟩ (c_X7_coveredBy l G ad X a hI.1 (by omega) H.size) (cwV 1 hts gL_law_X7_coveredBy rfl rfl rfl (by decide +kernel) ⟨Nat.le_of_ble_eq_true rfl, Nat.le_of_ble_eq_true rfl⟩) (zPreV (As := [.int (zi (a : Int))]) (wr := wr) (wc := zpic G ad X) (q0 := 52) (ci := 7) (q := (RX7, TX7, 8)) hP hD hE hS hA rfl p_52) rfl rfl hl.1 rfl (lv_room (Nat.le_of_ble_eq_true rfl)) dL_law_203 ⟨(by show _ ≤ 600104; omega), (by show _ ≤ 7301314; omega)⟩) hP hD hS hA (fun _ _ H locs hf9 hP hD hS => ?_)
      obtain ⟨v6, rfl, hv6, rfl⟩ := hf9
      have hP : va_P G.1 vwCl (wr ++ zpic G ad X) H := hP
      have hD : va_D A (wr ++ zpic G ad X) := hD
      refine W.eq (g2 := F0 m 206 ls [.int (zi v6)]) rfl ?_
      have hcf := hv6.2.2.f hv6.2.1
      have hcd : 0 ≤ v6 → zDc X a = 0 := fun h0 => zCvF_dead hI.1 ha hv6.2.1 hv6.2.2 h0
      have hs2 : 0 ≤ zCvF X a → zSt X a = 1 ∨ zSt X a = 2 := by rcases hst with ⟨-, -, a3⟩ | ⟨a1, -⟩; exact a3; omega
      refine z0_lt (tgt := 221) hx hb dL_law_206 (by decide) (by omega) (fun h206 => ?_) (fun h206 => ?_)
      · refine lv_iload hx hb dL_law_221 (lv_at hl 0 rfl) ?_
        refine lv_iconst (v := zi 4) hx hb dL_law_223 rfl ?_
        refine zc_ne (tgt := 233) hx hb dL_law_224 (by decide) (by decide) (by decide) (fun h224 => ?_) (fun h9 => absurd h9 (by decide))
        refine lv_aload_n hx hb dL_law_233 rfl (lv_at hl 8 rfl) ?_
        refine lv_iload hx hb dL_law_234 (lv_at hl 13 rfl) ?_
        refine lv_iload hx hb dL_law_236 (lv_at hl 13 rfl) ?_
        refine zcall (wr := wr) (wc := zpic G ad X) (va_runV (As := [.int (zi (a : Int)), .int (zi (a : Int))]) (rest := []) ⟨hx, hb, hml, hown, hts⟩ (c_X7_changedByMove l G ad X a hI.1 hI.2.1 (by omega) H.size) (cwV 2 hts gL_law_X7_changedByMove rfl rfl rfl (by decide +kernel) ⟨Nat.le_of_ble_eq_true rfl, Nat.le_of_ble_eq_true rfl⟩) (zPreV (As := [.int (zi (a : Int)), .int (zi (a : Int))]) (wr := wr) (wc := zpic G ad X) (q0 := 52) (ci := 7) (q := (RX7, TX7, 8)) hP hD hE hS hA rfl p_52) rfl rfl hl.1 rfl (lv_room (Nat.le_of_ble_eq_true rfl)) dL_law_238 ⟨(by show _ ≤ 600104; omega), (by show _ ≤ 7301314; omega)⟩) hP hD hS hA (fun _ _ H locs hf9 hP hD hS => ?_)
        obtain ⟨v7, Y3, rfl, hv7, rfl⟩ := hf9
        have eY3 : X = Y3 := (hv7.2.1 hFr.1).symm
        subst eY3
        have hP : va_P G.1 vwCl (wr ++ zpic G ad X) H := hP
        have hD : va_D A (wr ++ zpic G ad X) := hD
        refine W.eq (g2 := F0 m 241 ls [.int (zi v7)]) rfl ?_
        refine z0_eq (tgt := 246) hx hb dL_law_241 (by decide) (by omega) (fun h241 => ?_) (fun h9 => by exfalso; omega)
        refine lv_iload hx hb dL_law_246 (lv_at hl 0 rfl) ?_
        refine z0_le (tgt := 264) hx hb dL_law_248 (by decide) (by decide) (fun h9 => absurd h9 (by decide)) (fun h248 => ?_)
        refine lv_aload_n hx hb dL_law_251 rfl (lv_at hl 8 rfl) ?_
        refine lv_iload hx hb dL_law_252 (lv_at hl 13 rfl) ?_
        refine zcall (wr := wr) (wc := zpic G ad X) (va_runV (As := [.int (zi (a : Int))]) (rest := []) ⟨hx, hb, hml, hown, hts⟩ (c_X7_allowedWithout l G ad X a hI.1 hI.2.1 (by omega) H.size) (cwV 1 hts gL_law_X7_allowedWithout rfl rfl rfl (by decide +kernel) ⟨Nat.le_of_ble_eq_true rfl, Nat.le_of_ble_eq_true rfl⟩) (zPreV (As := [.int (zi (a : Int))]) (wr := wr) (wc := zpic G ad X) (q0 := 52) (ci := 7) (q := (RX7, TX7, 8)) hP hD hE hS hA rfl p_52) rfl rfl hl.1 rfl (lv_room (Nat.le_of_ble_eq_true rfl)) dL_law_254 ⟨(by show _ ≤ 600104; omega), (by show _ ≤ 7301314; omega)⟩) hP hD hS hA (fun _ _ H locs hf9 hP hD hS => ?_)
        obtain ⟨v8, Y4, rfl, hv8, rfl⟩ := hf9
        have eY4 : X = Y4 := (hv8.2.1 hFr.1).symm
        subst eY4
        have hP : va_P G.1 vwCl (wr ++ zpic G ad X) H := hP
        have hD : va_D A (wr ++ zpic G ad X) := hD
        refine W.eq (g2 := F0 m 257 ls [.int (zi v8)]) rfl ?_
        refine lv_aload_n hx hb dL_law_257 rfl (lv_at hl 8 rfl) ?_
        refine zcall (wr := wr) (wc := zpic G ad X) (va_runV (As := []) (rest := [.int (zi v8)]) ⟨hx, hb, hml, hown, hts⟩ (c_X7_allowed l G ad X hI.1 hI.2.1 H.size) (cwV 0 hts gL_law_X7_allowed rfl rfl rfl (by decide +kernel) ⟨Nat.le_of_ble_eq_true rfl, Nat.le_of_ble_eq_true rfl⟩) (zPreV (As := []) (wr := wr) (wc := zpic G ad X) (q0 := 52) (ci := 7) (q := (RX7, TX7, 8)) hP hD hE hS hA rfl p_52) rfl rfl hl.1 rfl (lv_room (Nat.le_of_ble_eq_true rfl)) dL_law_258 ⟨(by show _ ≤ 600104; omega), (by show _ ≤ 7301314; omega)⟩) hP hD hS hA (fun _ _ H locs hf9 hP hD hS => ?_)
        obtain ⟨v9, Y5, rfl, hv9, rfl⟩ := hf9
        have eY5 : X = Y5 := (hv9.2.1 hFr.1).symm
        subst eY5
        have hP : va_P G.1 vwCl (wr ++ zpic G ad X) H := hP
        have hD : va_D A (wr ++ zpic G ad X) := hD
        refine W.eq (g2 := F0 m 261 ls [.int (zi v9), .int (zi v8)]) rfl ?_
        refine zc_ne (tgt := 283) hx hb dL_law_261 (by decide) (by omega) (by omega) (fun h9 => by exfalso; omega) (fun h261 => ?_)
        refine lv_iload hx hb dL_law_264 (lv_at hl 4 rfl) ?_
        refine lv_iconst (v := zi 2) hx hb dL_law_266 rfl ?_
        refine zc_ne (tgt := 285) hx hb dL_law_267 (by decide) (by decide) (by decide) (fun h267 => ?_) (fun h9 => absurd h9 (by decide))
        have ezSA : (zSA X a) + 0 = zSA X (a + 1) := by show _ = zSA X a + (if X (zr X 0 a) 0 = 2 then 0 else zDc X a); rw [if_neg (by omega)]; omega
        have ezSW : (zSW X a) + 0 = zSW X (a + 1) := by show _ = zSW X a + (if X (zr X 0 a) 0 = 1 then zDc X a else 0); rw [if_pos hvd.symm]; omega
        rw [ezSA, ezSW] at hl
        exact kk 1 H locs ls hP hD hS (lv_sub hl [5, 6, 7, 8, 9, 10, 2, 11, 12, 1, 13, 4] rfl) hvd
      · refine lv_iload hx hb dL_law_209 (lv_at hl 0 rfl) ?_
        refine lv_iconst (v := zi 1) hx hb dL_law_211 rfl ?_
        refine zc_eq (tgt := 221) hx hb dL_law_212 (by decide) (by decide) (by decide) (fun h212 => ?_) (fun h9 => absurd h9 (by decide))
        refine lv_iload hx hb dL_law_221 (lv_at hl 0 rfl) ?_
        refine lv_iconst (v := zi 4) hx hb dL_law_223 rfl ?_
        refine zc_ne (tgt := 233) hx hb dL_law_224 (by decide) (by decide) (by decide) (fun h224 => ?_) (fun h9 => absurd h9 (by decide))
        refine lv_aload_n hx hb dL_law_233 rfl (lv_at hl 8 rfl) ?_
        refine lv_iload hx hb dL_law_234 (lv_at hl 13 rfl) ?_
        refine lv_iload hx hb dL_law_236 (lv_at hl 13 rfl) ?_
        refine zcall (wr := wr) (wc := zpic G ad X) (va_runV (As := [.int (zi (a : Int)), .int (zi (a : Int))]) (rest := []) ⟨hx, hb, hml, hown, hts⟩ (c_X7_changedByMove l G ad X a hI.1 hI.2.1 (by omega) H.size) (cwV 2 hts gL_law_X7_changedByMove rfl rfl rfl (by decide +kernel) ⟨Nat.le_of_ble_eq_true rfl, Nat.le_of_ble_eq_true rfl⟩) (zPreV (As := [.int (zi (a : Int)), .int (zi (a : Int))]) (wr := wr) (wc := zpic G ad X) (q0 := 52) (ci := 7) (q := (RX7, TX7, 8)) hP hD hE hS hA rfl p_52) rfl rfl hl.1 rfl (lv_room (Nat.le_of_ble_eq_true rfl)) dL_law_238 ⟨(by show _ ≤ 600104; omega), (by show _ ≤ 7301314; omega)⟩) hP hD hS hA (fun _ _ H locs hf9 hP hD hS => ?_)
        obtain ⟨v7, Y3, rfl, hv7, rfl⟩ := hf9
        have eY3 : X = Y3 := (hv7.2.1 hFr.1).symm
        subst eY3
        have hP : va_P G.1 vwCl (wr ++ zpic G ad X) H := hP
        have hD : va_D A (wr ++ zpic G ad X) := hD
        refine W.eq (g2 := F0 m 241 ls [.int (zi v7)]) rfl ?_
        refine z0_eq (tgt := 246) hx hb dL_law_241 (by decide) (by omega) (fun h241 => ?_) (fun h9 => by exfalso; omega)
        refine lv_iload hx hb dL_law_246 (lv_at hl 0 rfl) ?_
        refine z0_le (tgt := 264) hx hb dL_law_248 (by decide) (by decide) (fun h9 => absurd h9 (by decide)) (fun h248 => ?_)
        refine lv_aload_n hx hb dL_law_251 rfl (lv_at hl 8 rfl) ?_
        refine lv_iload hx hb dL_law_252 (lv_at hl 13 rfl) ?_
        refine zcall (wr := wr) (wc := zpic G ad X) (va_runV (As := [.int (zi (a : Int))]) (rest := []) ⟨hx, hb, hml, hown, hts⟩ (c_X7_allowedWithout l G ad X a hI.1 hI.2.1 (by omega) H.size) (cwV 1 hts gL_law_X7_allowedWithout rfl rfl rfl (by decide +kernel) ⟨Nat.le_of_ble_eq_true rfl, Nat.le_of_ble_eq_true rfl⟩) (zPreV (As := [.int (zi (a : Int))]) (wr := wr) (wc := zpic G ad X) (q0 := 52) (ci := 7) (q := (RX7, TX7, 8)) hP hD hE hS hA rfl p_52) rfl rfl hl.1 rfl (lv_room (Nat.le_of_ble_eq_true rfl)) dL_law_254 ⟨(by show _ ≤ 600104; omega), (by show _ ≤ 7301314; omega)⟩) hP hD hS hA (fun _ _ H locs hf9 hP hD hS => ?_)
        obtain ⟨v8, Y4, rfl, hv8, rfl⟩ := hf9
        have eY4 : X = Y4 := (hv8.2.1 hFr.1).symm
        subst eY4
        have hP : va_P G.1 vwCl (wr ++ zpic G ad X) H := hP
        have hD : va_D A (wr ++ zpic G ad X) := hD
        refine W.eq (g2 := F0 m 257 ls [.int (zi v8)]) rfl ?_
        refine lv_aload_n hx hb dL_law_257 rfl (lv_at hl 8 rfl) ?_
        refine zcall (wr := wr) (wc := zpic G ad X) (va_runV (As := []) (rest := [.int (zi v8)]) ⟨hx, hb, hml, hown, hts⟩ (c_X7_allowed l G ad X hI.1 hI.2.1 H.size) (cwV 0 hts gL_law_X7_allowed rfl rfl rfl (by decide +kernel) ⟨Nat.le_of_ble_eq_true rfl, Nat.le_of_ble_eq_true rfl⟩) (zPreV (As := []) (wr := wr) (wc := zpic G ad X) (q0 := 52) (ci := 7) (q := (RX7, TX7, 8)) hP hD hE hS hA rfl p_52) rfl rfl hl.1 rfl (lv_room (Nat.le_of_ble_eq_true rfl)) dL_law_258 ⟨(by show _ ≤ 600104; omega), (by show _ ≤ 7301314; omega)⟩) hP hD hS hA (fun _ _ H locs hf9 hP hD hS => ?_)
        obtain ⟨v9, Y5, rfl, hv9, rfl⟩ := hf9
        have eY5 : X = Y5 := (hv9.2.1 hFr.1).symm
        subst eY5
        have hP : va_P G.1 vwCl (wr ++ zpic G ad X) H := hP
        have hD : va_D A (wr ++ zpic G ad X) := hD
        refine W.eq (g2 := F0 m 261 ls [.int (zi v9), .int (zi v8)]) rfl ?_
        refine zc_ne (tgt := 283) hx hb dL_law_261 (by decide) (by omega) (by omega) (fun h9 => by exfalso; omega) (fun h261 => ?_)
        refine lv_iload hx hb dL_law_264 (lv_at hl 4 rfl) ?_
        refine lv_iconst (v := zi 2) hx hb dL_law_266 rfl ?_
        refine zc_ne (tgt := 285) hx hb dL_law_267 (by decide) (by decide) (by decide) (fun h267 => ?_) (fun h9 => absurd h9 (by decide))
        have ezSA : (zSA X a) + 0 = zSA X (a + 1) := by show _ = zSA X a + (if X (zr X 0 a) 0 = 2 then 0 else zDc X a); rw [if_neg (by omega)]; omega
        have ezSW : (zSW X a) + 0 = zSW X (a + 1) := by show _ = zSW X a + (if X (zr X 0 a) 0 = 1 then zDc X a else 0); rw [if_pos hvd.symm]; omega
        rw [ezSA, ezSW] at hl
        exact kk 1 H locs ls hP hD hS (lv_sub hl [5, 6, 7, 8, 9, 10, 2, 11, 12, 1, 13, 4] rfl) hvd
    · refine lv_istore (lv' := [(16, .int (zi 2)), (11, .long (zln ((zSW X a) + 0))), (7, .long (zln ((zSA X a) + 0))), (15, .int (zi 0)), (14, .int (zi 1)), (0, .ref b), (1, .int (zi tm)), (2, .ref g0), (3, .ref (ad 52)), (4, .int (zi st)), (5, .long dg), (9, .int (zi (zN X 0 : Int))), (10, .int (zi qu)), (13, .int (zi (a : Int)))]) hx hb dL_law_145 hl (by decide) rfl (fun ls hl => ?_)
      refine lv_iload hx hb dL_law_147 (lv_at hl 3 rfl) ?_
      refine lv_aload_n hx hb dL_law_149 rfl (lv_at hl 8 rfl) ?_
      refine lv_iload hx hb dL_law_150 (lv_at hl 13 rfl) ?_
      refine lv_iload hx hb dL_law_152 (lv_at hl 13 rfl) ?_
      refine zcall (wr := wr) (wc := zpic G ad X) (va_runV (As := [.int (zi (a : Int)), .int (zi (a : Int))]) (rest := [.int (zi 0)]) ⟨hx, hb, hml, hown, hts⟩ (c_X7_shared l G ad X a a hI.1 (by omega) (by omega) H.size) (cwV 2 hts gL_law_X7_shared rfl rfl rfl (by decide +kernel) ⟨Nat.le_of_ble_eq_true rfl, Nat.le_of_ble_eq_true rfl⟩) (zPreV (As := [.int (zi (a : Int)), .int (zi (a : Int))]) (wr := wr) (wc := zpic G ad X) (q0 := 52) (ci := 7) (q := (RX7, TX7, 8)) hP hD hE hS hA rfl p_52) rfl rfl hl.1 rfl (lv_room (Nat.le_of_ble_eq_true rfl)) dL_law_154 ⟨(by show _ ≤ 600104; omega), (by show _ ≤ 7301314; omega)⟩) hP hD hS hA (fun _ _ H locs hf9 hP hD hS => ?_)
      obtain ⟨v4, rfl, hv4, rfl⟩ := hf9
      have hP : va_P G.1 vwCl (wr ++ zpic G ad X) H := hP
      have hD : va_D A (wr ++ zpic G ad X) := hD
      refine W.eq (g2 := F0 m 157 ls [.int (zi v4), .int (zi 0)]) rfl ?_
      refine zc_gt (tgt := 244) hx hb dL_law_157 (by decide) (by decide) (by omega) (fun h9 => by exfalso; omega) (fun h157 => ?_)
      refine lv_iload hx hb dL_law_160 (lv_at hl 3 rfl) ?_
      refine z0_ne (tgt := 169) hx hb dL_law_162 (by decide) (by decide) (fun h9 => absurd h9 (by decide)) (fun h162 => ?_)
      refine lv_iconst (v := zi 1) hx hb dL_law_165 rfl ?_
      refine lv_goto (tgt := 170) hx hb dL_law_166 (by decide) ?_
      refine lv_iload hx hb dL_law_170 (lv_at hl 0 rfl) ?_
      refine z0_le (tgt := 185) hx hb dL_law_172 (by decide) (by decide) (fun h9 => absurd h9 (by decide)) (fun h172 => ?_)
      refine lv_iload hx hb dL_law_175 (lv_at hl 0 rfl) ?_
      refine lv_iconst (v := zi 4) hx hb dL_law_177 rfl ?_
      refine zc_ge (tgt := 185) hx hb dL_law_178 (by decide) (by decide) (by decide) (fun h9 => absurd h9 (by decide)) (fun h178 => ?_)
      refine lv_iconst (v := zi 1) hx hb dL_law_181 rfl ?_
      refine lv_goto (tgt := 186) hx hb dL_law_182 (by decide) ?_
      refine zc_ne (tgt := 244) hx hb dL_law_186 (by decide) (by decide) (by decide) (fun h9 => absurd h9 (by decide)) (fun h186 => ?_)
      refine lv_aload_n hx hb dL_law_189 rfl (lv_at hl 8 rfl) ?_
      refine lv_iload hx hb dL_law_190 (lv_at hl 13 rfl) ?_
      refine zcall (wr := wr) (wc := zpic G ad X) (va_runV (As := [.int (zi (a : Int))]) (rest := []) ⟨hx, hb, hml, hown, hts⟩ (c_X7_coveredBy l G ad X a hI.1 (by omega) H.size) (cwV 1 hts gL_law_X7_coveredBy rfl rfl rfl (by decide +kernel) ⟨Nat.le_of_ble_eq_true rfl, Nat.le_of_ble_eq_true rfl⟩) (zPreV (As := [.int (zi (a : Int))]) (wr := wr) (wc := zpic G ad X) (q0 := 52) (ci := 7) (q := (RX7, TX7, 8)) hP hD hE hS hA rfl p_52) rfl rfl hl.1 rfl (lv_room (Nat.le_of_ble_eq_true rfl)) dL_law_192 ⟨(by show _ ≤ 600104; omega), (by show _ ≤ 7301314; omega)⟩) hP hD hS hA (fun _ _ H locs hf9 hP hD hS => ?_)
      obtain ⟨v5, rfl, hv5, rfl⟩ := hf9
      have hP : va_P G.1 vwCl (wr ++ zpic G ad X) H := hP
      have hD : va_D A (wr ++ zpic G ad X) := hD
      refine W.eq (g2 := F0 m 195 ls [.int (zi v5)]) rfl ?_
      refine lv_iload hx hb dL_law_195 (lv_at hl 13 rfl) ?_
      refine zc_ge (tgt := 244) hx hb dL_law_197 (by decide) (by omega) (by omega) (fun h9 => by exfalso; omega) (fun h197 => ?_)
      refine lv_aload_n hx hb dL_law_200 rfl (lv_at hl 8 rfl) ?_
      refine lv_iload hx hb dL_law_201 (lv_at hl 13 rfl) ?_
      refine zcall (wr := wr) (wc := zpic G ad X) (va_runV (As := [.int (zi (a : Int))]) (rest := []) ⟨hx, hb, hml, hown, hts⟩ (c_X7_coveredBy l G ad X a hI.1 (by omega) H.size) (cwV 1 hts gL_law_X7_coveredBy rfl rfl rfl (by decide +kernel) ⟨Nat.le_of_ble_eq_true rfl, Nat.le_of_ble_eq_true rfl⟩) (zPreV (As := [.int (zi (a : Int))]) (wr := wr) (wc := zpic G ad X) (q0 := 52) (ci := 7) (q := (RX7, TX7, 8)) hP hD hE hS hA rfl p_52) rfl rfl hl.1 rfl (lv_room (Nat.le_of_ble_eq_true rfl)) dL_law_203 ⟨(by show _ ≤ 600104; omega), (by show _ ≤ 7301314; omega)⟩) hP hD hS hA (fun _ _ H locs hf9 hP hD hS => ?_)
      obtain ⟨v6, rfl, hv6, rfl⟩ := hf9
      have hP : va_P G.1 vwCl (wr ++ zpic G ad X) H := hP
      have hD : va_D A (wr ++ zpic G ad X) := hD
      refine W.eq (g2 := F0 m 206 ls [.int (zi v6)]) rfl ?_
      have hcf := hv6.2.2.f hv6.2.1
      have hcd : 0 ≤ v6 → zDc X a = 0 := fun h0 => zCvF_dead hI.1 ha hv6.2.1 hv6.2.2 h0
      have hs2 : 0 ≤ zCvF X a → zSt X a = 1 ∨ zSt X a = 2 := by rcases hst with ⟨-, -, a3⟩ | ⟨a1, -⟩; exact a3; omega
      refine z0_lt (tgt := 221) hx hb dL_law_206 (by decide) (by omega) (fun h206 => ?_) (fun h206 => ?_)
      · refine lv_iload hx hb dL_law_221 (lv_at hl 0 rfl) ?_
        refine lv_iconst (v := zi 4) hx hb dL_law_223 rfl ?_
        refine zc_ne (tgt := 233) hx hb dL_law_224 (by decide) (by decide) (by decide) (fun h224 => ?_) (fun h9 => absurd h9 (by decide))
        refine lv_aload_n hx hb dL_law_233 rfl (lv_at hl 8 rfl) ?_
        refine lv_iload hx hb dL_law_234 (lv_at hl 13 rfl) ?_
        refine lv_iload hx hb dL_law_236 (lv_at hl 13 rfl) ?_
        refine zcall (wr := wr) (wc := zpic G ad X) (va_runV (As := [.int (zi (a : Int)), .int (zi (a : Int))]) (rest := []) ⟨hx, hb, hml, hown, hts⟩ (c_X7_changedByMove l G ad X a hI.1 hI.2.1 (by omega) H.size) (cwV 2 hts gL_law_X7_changedByMove rfl rfl rfl (by decide +kernel) ⟨Nat.le_of_ble_eq_true rfl, Nat.le_of_ble_eq_true rfl⟩) (zPreV (As := [.int (zi (a : Int)), .int (zi (a : Int))]) (wr := wr) (wc := zpic G ad X) (q0 := 52) (ci := 7) (q := (RX7, TX7, 8)) hP hD hE hS hA rfl p_52) rfl rfl hl.1 rfl (lv_room (Nat.le_of_ble_eq_true rfl)) dL_law_238 ⟨(by show _ ≤ 600104; omega), (by show _ ≤ 7301314; omega)⟩) hP hD hS hA (fun _ _ H locs hf9 hP hD hS => ?_)
        obtain ⟨v7, Y3, rfl, hv7, rfl⟩ := hf9
        have eY3 : X = Y3 := (hv7.2.1 hFr.1).symm
        subst eY3
        have hP : va_P G.1 vwCl (wr ++ zpic G ad X) H := hP
        have hD : va_D A (wr ++ zpic G ad X) := hD
        refine W.eq (g2 := F0 m 241 ls [.int (zi v7)]) rfl ?_
        refine z0_eq (tgt := 246) hx hb dL_law_241 (by decide) (by omega) (fun h241 => ?_) (fun h9 => by exfalso; omega)
        refine lv_iload hx hb dL_law_246 (lv_at hl 0 rfl) ?_
        refine z0_le (tgt := 264) hx hb dL_law_248 (by decide) (by decide) (fun h9 => absurd h9 (by decide)) (fun h248 => ?_)
        refine lv_aload_n hx hb dL_law_251 rfl (lv_at hl 8 rfl) ?_
        refine lv_iload hx hb dL_law_252 (lv_at hl 13 rfl) ?_
        refine zcall (wr := wr) (wc := zpic G ad X) (va_runV (As := [.int (zi (a : Int))]) (rest := []) ⟨hx, hb, hml, hown, hts⟩ (c_X7_allowedWithout l G ad X a hI.1 hI.2.1 (by omega) H.size) (cwV 1 hts gL_law_X7_allowedWithout rfl rfl rfl (by decide +kernel) ⟨Nat.le_of_ble_eq_true rfl, Nat.le_of_ble_eq_true rfl⟩) (zPreV (As := [.int (zi (a : Int))]) (wr := wr) (wc := zpic G ad X) (q0 := 52) (ci := 7) (q := (RX7, TX7, 8)) hP hD hE hS hA rfl p_52) rfl rfl hl.1 rfl (lv_room (Nat.le_of_ble_eq_true rfl)) dL_law_254 ⟨(by show _ ≤ 600104; omega), (by show _ ≤ 7301314; omega)⟩) hP hD hS hA (fun _ _ H locs hf9 hP hD hS => ?_)
        obtain ⟨v8, Y4, rfl, hv8, rfl⟩ := hf9
        have eY4 : X = Y4 := (hv8.2.1 hFr.1).symm
        subst eY4
        have hP : va_P G.1 vwCl (wr ++ zpic G ad X) H := hP
        have hD : va_D A (wr ++ zpic G ad X) := hD
        refine W.eq (g2 := F0 m 257 ls [.int (zi v8)]) rfl ?_
        refine lv_aload_n hx hb dL_law_257 rfl (lv_at hl 8 rfl) ?_
        refine zcall (wr := wr) (wc := zpic G ad X) (va_runV (As := []) (rest := [.int (zi v8)]) ⟨hx, hb, hml, hown, hts⟩ (c_X7_allowed l G ad X hI.1 hI.2.1 H.size) (cwV 0 hts gL_law_X7_allowed rfl rfl rfl (by decide +kernel) ⟨Nat.le_of_ble_eq_true rfl, Nat.le_of_ble_eq_true rfl⟩) (zPreV (As := []) (wr := wr) (wc := zpic G ad X) (q0 := 52) (ci := 7) (q := (RX7, TX7, 8)) hP hD hE hS hA rfl p_52) rfl rfl hl.1 rfl (lv_room (Nat.le_of_ble_eq_true rfl)) dL_law_258 ⟨(by show _ ≤ 600104; omega), (by show _ ≤ 7301314; omega)⟩) hP hD hS hA (fun _ _ H locs hf9 hP hD hS => ?_)
        obtain ⟨v9, Y5, rfl, hv9, rfl⟩ := hf9
        have eY5 : X = Y5 := (hv9.2.1 hFr.1).symm
        subst eY5
        have hP : va_P G.1 vwCl (wr ++ zpic G ad X) H := hP
        have hD : va_D A (wr ++ zpic G ad X) := hD
        refine W.eq (g2 := F0 m 261 ls [.int (zi v9), .int (zi v8)]) rfl ?_
        refine zc_ne (tgt := 283) hx hb dL_law_261 (by decide) (by omega) (by omega) (fun h9 => by exfalso; omega) (fun h261 => ?_)
        refine lv_iload hx hb dL_law_264 (lv_at hl 4 rfl) ?_
        refine lv_iconst (v := zi 2) hx hb dL_law_266 rfl ?_
        refine zc_ne (tgt := 285) hx hb dL_law_267 (by decide) (by decide) (by decide) (fun h267 => ?_) (fun h9 => absurd h9 (by decide))
        have ezSA : (zSA X a) + 0 = zSA X (a + 1) := by show _ = zSA X a + (if X (zr X 0 a) 0 = 2 then 0 else zDc X a); rw [if_neg (by omega)]; omega
        have ezSW : (zSW X a) + 0 = zSW X (a + 1) := by show _ = zSW X a + (if X (zr X 0 a) 0 = 1 then zDc X a else 0); rw [if_pos hvd.symm]; omega
        rw [ezSA, ezSW] at hl
        exact kk 1 H locs ls hP hD hS (lv_sub hl [5, 6, 7, 8, 9, 10, 2, 11, 12, 1, 13, 4] rfl) hvd
      · refine lv_iload hx hb dL_law_209 (lv_at hl 0 rfl) ?_
        refine lv_iconst (v := zi 1) hx hb dL_law_211 rfl ?_
        refine zc_eq (tgt := 221) hx hb dL_law_212 (by decide) (by decide) (by decide) (fun h9 => absurd h9 (by decide)) (fun h212 => ?_)
        refine lv_iload hx hb dL_law_215 (lv_at hl 0 rfl) ?_
        refine lv_iconst (v := zi 2) hx hb dL_law_217 rfl ?_
        refine zc_ne (tgt := 244) hx hb dL_law_218 (by decide) (by decide) (by decide) (fun h9 => absurd h9 (by decide)) (fun h218 => ?_)
        refine lv_iload hx hb dL_law_221 (lv_at hl 0 rfl) ?_
        refine lv_iconst (v := zi 4) hx hb dL_law_223 rfl ?_
        refine zc_ne (tgt := 233) hx hb dL_law_224 (by decide) (by decide) (by decide) (fun h224 => ?_) (fun h9 => absurd h9 (by decide))
        refine lv_aload_n hx hb dL_law_233 rfl (lv_at hl 8 rfl) ?_
        refine lv_iload hx hb dL_law_234 (lv_at hl 13 rfl) ?_
        refine lv_iload hx hb dL_law_236 (lv_at hl 13 rfl) ?_
        refine zcall (wr := wr) (wc := zpic G ad X) (va_runV (As := [.int (zi (a : Int)), .int (zi (a : Int))]) (rest := []) ⟨hx, hb, hml, hown, hts⟩ (c_X7_changedByMove l G ad X a hI.1 hI.2.1 (by omega) H.size) (cwV 2 hts gL_law_X7_changedByMove rfl rfl rfl (by decide +kernel) ⟨Nat.le_of_ble_eq_true rfl, Nat.le_of_ble_eq_true rfl⟩) (zPreV (As := [.int (zi (a : Int)), .int (zi (a : Int))]) (wr := wr) (wc := zpic G ad X) (q0 := 52) (ci := 7) (q := (RX7, TX7, 8)) hP hD hE hS hA rfl p_52) rfl rfl hl.1 rfl (lv_room (Nat.le_of_ble_eq_true rfl)) dL_law_238 ⟨(by show _ ≤ 600104; omega), (by show _ ≤ 7301314; omega)⟩) hP hD hS hA (fun _ _ H locs hf9 hP hD hS => ?_)
        obtain ⟨v7, Y3, rfl, hv7, rfl⟩ := hf9
        have eY3 : X = Y3 := (hv7.2.1 hFr.1).symm
        subst eY3
        have hP : va_P G.1 vwCl (wr ++ zpic G ad X) H := hP
        have hD : va_D A (wr ++ zpic G ad X) := hD
        refine W.eq (g2 := F0 m 241 ls [.int (zi v7)]) rfl ?_
        refine z0_eq (tgt := 246) hx hb dL_law_241 (by decide) (by omega) (fun h241 => ?_) (fun h9 => by exfalso; omega)
        refine lv_iload hx hb dL_law_246 (lv_at hl 0 rfl) ?_
        refine z0_le (tgt := 264) hx hb dL_law_248 (by decide) (by decide) (fun h9 => absurd h9 (by decide)) (fun h248 => ?_)
        refine lv_aload_n hx hb dL_law_251 rfl (lv_at hl 8 rfl) ?_
        refine lv_iload hx hb dL_law_252 (lv_at hl 13 rfl) ?_
        refine zcall (wr := wr) (wc := zpic G ad X) (va_runV (As := [.int (zi (a : Int))]) (rest := []) ⟨hx, hb, hml, hown, hts⟩ (c_X7_allowedWithout l G ad X a hI.1 hI.2.1 (by omega) H.size) (cwV 1 hts gL_law_X7_allowedWithout rfl rfl rfl (by decide +kernel) ⟨Nat.le_of_ble_eq_true rfl, Nat.le_of_ble_eq_true rfl⟩) (zPreV (As := [.int (zi (a : Int))]) (wr := wr) (wc := zpic G ad X) (q0 := 52) (ci := 7) (q := (RX7, TX7, 8)) hP hD hE hS hA rfl p_52) rfl rfl hl.1 rfl (lv_room (Nat.le_of_ble_eq_true rfl)) dL_law_254 ⟨(by show _ ≤ 600104; omega), (by show _ ≤ 7301314; omega)⟩) hP hD hS hA (fun _ _ H locs hf9 hP hD hS => ?_)
        obtain ⟨v8, Y4, rfl, hv8, rfl⟩ := hf9
        have eY4 : X = Y4 := (hv8.2.1 hFr.1).symm
        subst eY4
        have hP : va_P G.1 vwCl (wr ++ zpic G ad X) H := hP
        have hD : va_D A (wr ++ zpic G ad X) := hD
        refine W.eq (g2 := F0 m 257 ls [.int (zi v8)]) rfl ?_
        refine lv_aload_n hx hb dL_law_257 rfl (lv_at hl 8 rfl) ?_
        refine zcall (wr := wr) (wc := zpic G ad X) (va_runV (As := []) (rest := [.int (zi v8)]) ⟨hx, hb, hml, hown, hts⟩ (c_X7_allowed l G ad X hI.1 hI.2.1 H.size) (cwV 0 hts gL_law_X7_allowed rfl rfl rfl (by decide +kernel) ⟨Nat.le_of_ble_eq_true rfl, Nat.le_of_ble_eq_true rfl⟩) (zPreV (As := []) (wr := wr) (wc := zpic G ad X) (q0 := 52) (ci := 7) (q := (RX7, TX7, 8)) hP hD hE hS hA rfl p_52) rfl rfl hl.1 rfl (lv_room (Nat.le_of_ble_eq_true rfl)) dL_law_258 ⟨(by show _ ≤ 600104; omega), (by show _ ≤ 7301314; omega)⟩) hP hD hS hA (fun _ _ H locs hf9 hP hD hS => ?_)
        obtain ⟨v9, Y5, rfl, hv9, rfl⟩ := hf9
        have eY5 : X = Y5 := (hv9.2.1 hFr.1).symm
        subst eY5
        have hP : va_P G.1 vwCl (wr ++ zpic G ad X) H := hP
        have hD : va_D A (wr ++ zpic G ad X) := hD
        refine W.eq (g2 := F0 m 261 ls [.int (zi v9), .int (zi v8)]) rfl ?_
        refine zc_ne (tgt := 283) hx hb dL_law_261 (by decide) (by omega) (by omega) (fun h9 => by exfalso; omega) (fun h261 => ?_)
        refine lv_iload hx hb dL_law_264 (lv_at hl 4 rfl) ?_
        refine lv_iconst (v := zi 2) hx hb dL_law_266 rfl ?_
        refine zc_ne (tgt := 285) hx hb dL_law_267 (by decide) (by decide) (by decide) (fun h267 => ?_) (fun h9 => absurd h9 (by decide))
        have ezSA : (zSA X a) + 0 = zSA X (a + 1) := by show _ = zSA X a + (if X (zr X 0 a) 0 = 2 then 0 else zDc X a); rw [if_neg (by omega)]; omega
        have ezSW : (zSW X a) + 0 = zSW X (a + 1) := by show _ = zSW X a + (if X (zr X 0 a) 0 = 1 then zDc X a else 0); rw [if_pos hvd.symm]; omega
        rw [ezSA, ezSW] at hl
        exact kk 1 H locs ls hP hD hS (lv_sub hl [5, 6, 7, 8, 9, 10, 2, 11, 12, 1, 13, 4] rfl) hvd
    · refine lv_istore (lv' := [(16, .int (zi 3)), (11, .long (zln ((zSW X a) + 0))), (7, .long (zln ((zSA X a) + 0))), (15, .int (zi 0)), (14, .int (zi 1)), (0, .ref b), (1, .int (zi tm)), (2, .ref g0), (3, .ref (ad 52)), (4, .int (zi st)), (5, .long dg), (9, .int (zi (zN X 0 : Int))), (10, .int (zi qu)), (13, .int (zi (a : Int)))]) hx hb dL_law_145 hl (by decide) rfl (fun ls hl => ?_)
      refine lv_iload hx hb dL_law_147 (lv_at hl 3 rfl) ?_
      refine lv_aload_n hx hb dL_law_149 rfl (lv_at hl 8 rfl) ?_
      refine lv_iload hx hb dL_law_150 (lv_at hl 13 rfl) ?_
      refine lv_iload hx hb dL_law_152 (lv_at hl 13 rfl) ?_
      refine zcall (wr := wr) (wc := zpic G ad X) (va_runV (As := [.int (zi (a : Int)), .int (zi (a : Int))]) (rest := [.int (zi 0)]) ⟨hx, hb, hml, hown, hts⟩ (c_X7_shared l G ad X a a hI.1 (by omega) (by omega) H.size) (cwV 2 hts gL_law_X7_shared rfl rfl rfl (by decide +kernel) ⟨Nat.le_of_ble_eq_true rfl, Nat.le_of_ble_eq_true rfl⟩) (zPreV (As := [.int (zi (a : Int)), .int (zi (a : Int))]) (wr := wr) (wc := zpic G ad X) (q0 := 52) (ci := 7) (q := (RX7, TX7, 8)) hP hD hE hS hA rfl p_52) rfl rfl hl.1 rfl (lv_room (Nat.le_of_ble_eq_true rfl)) dL_law_154 ⟨(by show _ ≤ 600104; omega), (by show _ ≤ 7301314; omega)⟩) hP hD hS hA (fun _ _ H locs hf9 hP hD hS => ?_)
      obtain ⟨v4, rfl, hv4, rfl⟩ := hf9
      have hP : va_P G.1 vwCl (wr ++ zpic G ad X) H := hP
      have hD : va_D A (wr ++ zpic G ad X) := hD
      refine W.eq (g2 := F0 m 157 ls [.int (zi v4), .int (zi 0)]) rfl ?_
      refine zc_gt (tgt := 244) hx hb dL_law_157 (by decide) (by decide) (by omega) (fun h9 => by exfalso; omega) (fun h157 => ?_)
      refine lv_iload hx hb dL_law_160 (lv_at hl 3 rfl) ?_
      refine z0_ne (tgt := 169) hx hb dL_law_162 (by decide) (by decide) (fun h9 => absurd h9 (by decide)) (fun h162 => ?_)
      refine lv_iconst (v := zi 1) hx hb dL_law_165 rfl ?_
      refine lv_goto (tgt := 170) hx hb dL_law_166 (by decide) ?_
      refine lv_iload hx hb dL_law_170 (lv_at hl 0 rfl) ?_
      refine z0_le (tgt := 185) hx hb dL_law_172 (by decide) (by decide) (fun h9 => absurd h9 (by decide)) (fun h172 => ?_)
      refine lv_iload hx hb dL_law_175 (lv_at hl 0 rfl) ?_
      refine lv_iconst (v := zi 4) hx hb dL_law_177 rfl ?_
      refine zc_ge (tgt := 185) hx hb dL_law_178 (by decide) (by decide) (by decide) (fun h9 => absurd h9 (by decide)) (fun h178 => ?_)
      refine lv_iconst (v := zi 1) hx hb dL_law_181 rfl ?_
      refine lv_goto (tgt := 186) hx hb dL_law_182 (by decide) ?_
      refine zc_ne (tgt := 244) hx hb dL_law_186 (by decide) (by decide) (by decide) (fun h9 => absurd h9 (by decide)) (fun h186 => ?_)
      refine lv_aload_n hx hb dL_law_189 rfl (lv_at hl 8 rfl) ?_
      refine lv_iload hx hb dL_law_190 (lv_at hl 13 rfl) ?_
      refine zcall (wr := wr) (wc := zpic G ad X) (va_runV (As := [.int (zi (a : Int))]) (rest := []) ⟨hx, hb, hml, hown, hts⟩ (c_X7_coveredBy l G ad X a hI.1 (by omega) H.size) (cwV 1 hts gL_law_X7_coveredBy rfl rfl rfl (by decide +kernel) ⟨Nat.le_of_ble_eq_true rfl, Nat.le_of_ble_eq_true rfl⟩) (zPreV (As := [.int (zi (a : Int))]) (wr := wr) (wc := zpic G ad X) (q0 := 52) (ci := 7) (q := (RX7, TX7, 8)) hP hD hE hS hA rfl p_52) rfl rfl hl.1 rfl (lv_room (Nat.le_of_ble_eq_true rfl)) dL_law_192 ⟨(by show _ ≤ 600104; omega), (by show _ ≤ 7301314; omega)⟩) hP hD hS hA (fun _ _ H locs hf9 hP hD hS => ?_)
      obtain ⟨v5, rfl, hv5, rfl⟩ := hf9
      have hP : va_P G.1 vwCl (wr ++ zpic G ad X) H := hP
      have hD : va_D A (wr ++ zpic G ad X) := hD
      refine W.eq (g2 := F0 m 195 ls [.int (zi v5)]) rfl ?_
      refine lv_iload hx hb dL_law_195 (lv_at hl 13 rfl) ?_
      refine zc_ge (tgt := 244) hx hb dL_law_197 (by decide) (by omega) (by omega) (fun h9 => by exfalso; omega) (fun h197 => ?_)
      refine lv_aload_n hx hb dL_law_200 rfl (lv_at hl 8 rfl) ?_
      refine lv_iload hx hb dL_law_201 (lv_at hl 13 rfl) ?_
      refine zcall (wr := wr) (wc := zpic G ad X) (va_runV (As := [.int (zi (a : Int))]) (rest := []) ⟨hx, hb, hml, hown, hts⟩ (c_X7_coveredBy l G ad X a hI.1 (by omega) H.size) (cwV 1 hts gL_law_X7_coveredBy rfl rfl rfl (by decide +kernel) ⟨Nat.le_of_ble_eq_true rfl, Nat.le_of_ble_eq_true rfl⟩) (zPreV (As := [.int (zi (a : Int))]) (wr := wr) (wc := zpic G ad X) (q0 := 52) (ci := 7) (q := (RX7, TX7, 8)) hP hD hE hS hA rfl p_52) rfl rfl hl.1 rfl (lv_room (Nat.le_of_ble_eq_true rfl)) dL_law_203 ⟨(by show _ ≤ 600104; omega), (by show _ ≤ 7301314; omega)⟩) hP hD hS hA (fun _ _ H locs hf9 hP hD hS => ?_)
      obtain ⟨v6, rfl, hv6, rfl⟩ := hf9
      have hP : va_P G.1 vwCl (wr ++ zpic G ad X) H := hP
      have hD : va_D A (wr ++ zpic G ad X) := hD
      refine W.eq (g2 := F0 m 206 ls [.int (zi v6)]) rfl ?_
      have hcf := hv6.2.2.f hv6.2.1
      have hcd : 0 ≤ v6 → zDc X a = 0 := fun h0 => zCvF_dead hI.1 ha hv6.2.1 hv6.2.2 h0
      have hs2 : 0 ≤ zCvF X a → zSt X a = 1 ∨ zSt X a = 2 := by rcases hst with ⟨-, -, a3⟩ | ⟨a1, -⟩; exact a3; omega
      refine z0_lt (tgt := 221) hx hb dL_law_206 (by decide) (by omega) (fun h206 => ?_) (fun h9 => by exfalso; omega)
      refine lv_iload hx hb dL_law_221 (lv_at hl 0 rfl) ?_
      refine lv_iconst (v := zi 4) hx hb dL_law_223 rfl ?_
      refine zc_ne (tgt := 233) hx hb dL_law_224 (by decide) (by decide) (by decide) (fun h224 => ?_) (fun h9 => absurd h9 (by decide))
      refine lv_aload_n hx hb dL_law_233 rfl (lv_at hl 8 rfl) ?_
      refine lv_iload hx hb dL_law_234 (lv_at hl 13 rfl) ?_
      refine lv_iload hx hb dL_law_236 (lv_at hl 13 rfl) ?_
      refine zcall (wr := wr) (wc := zpic G ad X) (va_runV (As := [.int (zi (a : Int)), .int (zi (a : Int))]) (rest := []) ⟨hx, hb, hml, hown, hts⟩ (c_X7_changedByMove l G ad X a hI.1 hI.2.1 (by omega) H.size) (cwV 2 hts gL_law_X7_changedByMove rfl rfl rfl (by decide +kernel) ⟨Nat.le_of_ble_eq_true rfl, Nat.le_of_ble_eq_true rfl⟩) (zPreV (As := [.int (zi (a : Int)), .int (zi (a : Int))]) (wr := wr) (wc := zpic G ad X) (q0 := 52) (ci := 7) (q := (RX7, TX7, 8)) hP hD hE hS hA rfl p_52) rfl rfl hl.1 rfl (lv_room (Nat.le_of_ble_eq_true rfl)) dL_law_238 ⟨(by show _ ≤ 600104; omega), (by show _ ≤ 7301314; omega)⟩) hP hD hS hA (fun _ _ H locs hf9 hP hD hS => ?_)
      obtain ⟨v7, Y3, rfl, hv7, rfl⟩ := hf9
      have eY3 : X = Y3 := (hv7.2.1 hFr.1).symm
      subst eY3
      have hP : va_P G.1 vwCl (wr ++ zpic G ad X) H := hP
      have hD : va_D A (wr ++ zpic G ad X) := hD
      refine W.eq (g2 := F0 m 241 ls [.int (zi v7)]) rfl ?_
      refine z0_eq (tgt := 246) hx hb dL_law_241 (by decide) (by omega) (fun h241 => ?_) (fun h9 => by exfalso; omega)
      refine lv_iload hx hb dL_law_246 (lv_at hl 0 rfl) ?_
      refine z0_le (tgt := 264) hx hb dL_law_248 (by decide) (by decide) (fun h9 => absurd h9 (by decide)) (fun h248 => ?_)
      refine lv_aload_n hx hb dL_law_251 rfl (lv_at hl 8 rfl) ?_
      refine lv_iload hx hb dL_law_252 (lv_at hl 13 rfl) ?_
      refine zcall (wr := wr) (wc := zpic G ad X) (va_runV (As := [.int (zi (a : Int))]) (rest := []) ⟨hx, hb, hml, hown, hts⟩ (c_X7_allowedWithout l G ad X a hI.1 hI.2.1 (by omega) H.size) (cwV 1 hts gL_law_X7_allowedWithout rfl rfl rfl (by decide +kernel) ⟨Nat.le_of_ble_eq_true rfl, Nat.le_of_ble_eq_true rfl⟩) (zPreV (As := [.int (zi (a : Int))]) (wr := wr) (wc := zpic G ad X) (q0 := 52) (ci := 7) (q := (RX7, TX7, 8)) hP hD hE hS hA rfl p_52) rfl rfl hl.1 rfl (lv_room (Nat.le_of_ble_eq_true rfl)) dL_law_254 ⟨(by show _ ≤ 600104; omega), (by show _ ≤ 7301314; omega)⟩) hP hD hS hA (fun _ _ H locs hf9 hP hD hS => ?_)
      obtain ⟨v8, Y4, rfl, hv8, rfl⟩ := hf9
      have eY4 : X = Y4 := (hv8.2.1 hFr.1).symm
      subst eY4
      have hP : va_P G.1 vwCl (wr ++ zpic G ad X) H := hP
      have hD : va_D A (wr ++ zpic G ad X) := hD
      refine W.eq (g2 := F0 m 257 ls [.int (zi v8)]) rfl ?_
      refine lv_aload_n hx hb dL_law_257 rfl (lv_at hl 8 rfl) ?_
      refine zcall (wr := wr) (wc := zpic G ad X) (va_runV (As := []) (rest := [.int (zi v8)]) ⟨hx, hb, hml, hown, hts⟩ (c_X7_allowed l G ad X hI.1 hI.2.1 H.size) (cwV 0 hts gL_law_X7_allowed rfl rfl rfl (by decide +kernel) ⟨Nat.le_of_ble_eq_true rfl, Nat.le_of_ble_eq_true rfl⟩) (zPreV (As := []) (wr := wr) (wc := zpic G ad X) (q0 := 52) (ci := 7) (q := (RX7, TX7, 8)) hP hD hE hS hA rfl p_52) rfl rfl hl.1 rfl (lv_room (Nat.le_of_ble_eq_true rfl)) dL_law_258 ⟨(by show _ ≤ 600104; omega), (by show _ ≤ 7301314; omega)⟩) hP hD hS hA (fun _ _ H locs hf9 hP hD hS => ?_)
      obtain ⟨v9, Y5, rfl, hv9, rfl⟩ := hf9
      have eY5 : X = Y5 := (hv9.2.1 hFr.1).symm
      subst eY5
      have hP : va_P G.1 vwCl (wr ++ zpic G ad X) H := hP
      have hD : va_D A (wr ++ zpic G ad X) := hD
      refine W.eq (g2 := F0 m 261 ls [.int (zi v9), .int (zi v8)]) rfl ?_
      refine zc_ne (tgt := 283) hx hb dL_law_261 (by decide) (by omega) (by omega) (fun h9 => by exfalso; omega) (fun h261 => ?_)
      refine lv_iload hx hb dL_law_264 (lv_at hl 4 rfl) ?_
      refine lv_iconst (v := zi 2) hx hb dL_law_266 rfl ?_
      refine zc_ne (tgt := 285) hx hb dL_law_267 (by decide) (by decide) (by decide) (fun h267 => ?_) (fun h9 => absurd h9 (by decide))
      have ezSA : (zSA X a) + 0 = zSA X (a + 1) := by show _ = zSA X a + (if X (zr X 0 a) 0 = 2 then 0 else zDc X a); rw [if_neg (by omega)]; omega
      have ezSW : (zSW X a) + 0 = zSW X (a + 1) := by show _ = zSW X a + (if X (zr X 0 a) 0 = 1 then zDc X a else 0); rw [if_pos hvd.symm]; omega
      rw [ezSA, ezSW] at hl
      exact kk 1 H locs ls hP hD hS (lv_sub hl [5, 6, 7, 8, 9, 10, 2, 11, 12, 1, 13, 4] rfl) hvd
    · refine lv_istore (lv' := [(16, .int (zi 4)), (11, .long (zln ((zSW X a) + v2))), (7, .long (zln ((zSA X a) + v2))), (15, .int (zi v2)), (14, .int (zi 1)), (0, .ref b), (1, .int (zi tm)), (2, .ref g0), (3, .ref (ad 52)), (4, .int (zi st)), (5, .long dg), (9, .int (zi (zN X 0 : Int))), (10, .int (zi qu)), (13, .int (zi (a : Int)))]) hx hb dL_law_145 hl (by decide) rfl (fun ls hl => ?_)
      refine lv_iload hx hb dL_law_147 (lv_at hl 3 rfl) ?_
      refine lv_aload_n hx hb dL_law_149 rfl (lv_at hl 8 rfl) ?_
      refine lv_iload hx hb dL_law_150 (lv_at hl 13 rfl) ?_
      refine lv_iload hx hb dL_law_152 (lv_at hl 13 rfl) ?_
      refine zcall (wr := wr) (wc := zpic G ad X) (va_runV (As := [.int (zi (a : Int)), .int (zi (a : Int))]) (rest := [.int (zi v2)]) ⟨hx, hb, hml, hown, hts⟩ (c_X7_shared l G ad X a a hI.1 (by omega) (by omega) H.size) (cwV 2 hts gL_law_X7_shared rfl rfl rfl (by decide +kernel) ⟨Nat.le_of_ble_eq_true rfl, Nat.le_of_ble_eq_true rfl⟩) (zPreV (As := [.int (zi (a : Int)), .int (zi (a : Int))]) (wr := wr) (wc := zpic G ad X) (q0 := 52) (ci := 7) (q := (RX7, TX7, 8)) hP hD hE hS hA rfl p_52) rfl rfl hl.1 rfl (lv_room (Nat.le_of_ble_eq_true rfl)) dL_law_154 ⟨(by show _ ≤ 600104; omega), (by show _ ≤ 7301314; omega)⟩) hP hD hS hA (fun _ _ H locs hf9 hP hD hS => ?_)
      obtain ⟨v4, rfl, hv4, rfl⟩ := hf9
      have hP : va_P G.1 vwCl (wr ++ zpic G ad X) H := hP
      have hD : va_D A (wr ++ zpic G ad X) := hD
      refine W.eq (g2 := F0 m 157 ls [.int (zi v4), .int (zi v2)]) rfl ?_
      refine zc_gt (tgt := 244) hx hb dL_law_157 (by decide) (by omega) (by omega) (fun h9 => by exfalso; omega) (fun h157 => ?_)
      refine lv_iload hx hb dL_law_160 (lv_at hl 3 rfl) ?_
      refine z0_ne (tgt := 169) hx hb dL_law_162 (by decide) (by omega) (fun h162 => ?_) (fun h9 => by exfalso; omega)
      refine lv_iconst (v := zi 0) hx hb dL_law_169 rfl ?_
      refine lv_iload hx hb dL_law_170 (lv_at hl 0 rfl) ?_
      refine z0_le (tgt := 185) hx hb dL_law_172 (by decide) (by decide) (fun h9 => absurd h9 (by decide)) (fun h172 => ?_)
      refine lv_iload hx hb dL_law_175 (lv_at hl 0 rfl) ?_
      refine lv_iconst (v := zi 4) hx hb dL_law_177 rfl ?_
      refine zc_ge (tgt := 185) hx hb dL_law_178 (by decide) (by decide) (by decide) (fun h178 => ?_) (fun h9 => absurd h9 (by decide))
      refine lv_iconst (v := zi 0) hx hb dL_law_185 rfl ?_
      refine zc_ne (tgt := 244) hx hb dL_law_186 (by decide) (by decide) (by decide) (fun h9 => absurd h9 (by decide)) (fun h186 => ?_)
      refine lv_aload_n hx hb dL_law_189 rfl (lv_at hl 8 rfl) ?_
      refine lv_iload hx hb dL_law_190 (lv_at hl 13 rfl) ?_
      refine zcall (wr := wr) (wc := zpic G ad X) (va_runV (As := [.int (zi (a : Int))]) (rest := []) ⟨hx, hb, hml, hown, hts⟩ (c_X7_coveredBy l G ad X a hI.1 (by omega) H.size) (cwV 1 hts gL_law_X7_coveredBy rfl rfl rfl (by decide +kernel) ⟨Nat.le_of_ble_eq_true rfl, Nat.le_of_ble_eq_true rfl⟩) (zPreV (As := [.int (zi (a : Int))]) (wr := wr) (wc := zpic G ad X) (q0 := 52) (ci := 7) (q := (RX7, TX7, 8)) hP hD hE hS hA rfl p_52) rfl rfl hl.1 rfl (lv_room (Nat.le_of_ble_eq_true rfl)) dL_law_192 ⟨(by show _ ≤ 600104; omega), (by show _ ≤ 7301314; omega)⟩) hP hD hS hA (fun _ _ H locs hf9 hP hD hS => ?_)
      obtain ⟨v5, rfl, hv5, rfl⟩ := hf9
      have hP : va_P G.1 vwCl (wr ++ zpic G ad X) H := hP
      have hD : va_D A (wr ++ zpic G ad X) := hD
      refine W.eq (g2 := F0 m 195 ls [.int (zi v5)]) rfl ?_
      refine lv_iload hx hb dL_law_195 (lv_at hl 13 rfl) ?_
      refine zc_ge (tgt := 244) hx hb dL_law_197 (by decide) (by omega) (by omega) (fun h9 => by exfalso; omega) (fun h197 => ?_)
      refine lv_aload_n hx hb dL_law_200 rfl (lv_at hl 8 rfl) ?_
      refine lv_iload hx hb dL_law_201 (lv_at hl 13 rfl) ?_
      refine zcall (wr := wr) (wc := zpic G ad X) (va_runV (As := [.int (zi (a : Int))]) (rest := []) ⟨hx, hb, hml, hown, hts⟩ (c_X7_coveredBy l G ad X a hI.1 (by omega) H.size) (cwV 1 hts gL_law_X7_coveredBy rfl rfl rfl (by decide +kernel) ⟨Nat.le_of_ble_eq_true rfl, Nat.le_of_ble_eq_true rfl⟩) (zPreV (As := [.int (zi (a : Int))]) (wr := wr) (wc := zpic G ad X) (q0 := 52) (ci := 7) (q := (RX7, TX7, 8)) hP hD hE hS hA rfl p_52) rfl rfl hl.1 rfl (lv_room (Nat.le_of_ble_eq_true rfl)) dL_law_203 ⟨(by show _ ≤ 600104; omega), (by show _ ≤ 7301314; omega)⟩) hP hD hS hA (fun _ _ H locs hf9 hP hD hS => ?_)
      obtain ⟨v6, rfl, hv6, rfl⟩ := hf9
      have hP : va_P G.1 vwCl (wr ++ zpic G ad X) H := hP
      have hD : va_D A (wr ++ zpic G ad X) := hD
      refine W.eq (g2 := F0 m 206 ls [.int (zi v6)]) rfl ?_
      have hcf := hv6.2.2.f hv6.2.1
      have hcd : 0 ≤ v6 → zDc X a = 0 := fun h0 => zCvF_dead hI.1 ha hv6.2.1 hv6.2.2 h0
      refine z0_lt (tgt := 221) hx hb dL_law_206 (by decide) (by omega) (fun h206 => ?_) (fun h9 => by exfalso; omega)
      refine lv_iload hx hb dL_law_221 (lv_at hl 0 rfl) ?_
      refine lv_iconst (v := zi 4) hx hb dL_law_223 rfl ?_
      refine zc_ne (tgt := 233) hx hb dL_law_224 (by decide) (by decide) (by decide) (fun h9 => absurd h9 (by decide)) (fun h224 => ?_)
      refine lv_iload hx hb dL_law_227 (lv_at hl 4 rfl) ?_
      refine lv_iconst (v := zi 2) hx hb dL_law_229 rfl ?_
      refine zc_eq (tgt := 244) hx hb dL_law_230 (by decide) (by decide) (by decide) (fun h9 => absurd h9 (by decide)) (fun h230 => ?_)
      refine lv_aload_n hx hb dL_law_233 rfl (lv_at hl 8 rfl) ?_
      refine lv_iload hx hb dL_law_234 (lv_at hl 13 rfl) ?_
      refine lv_iload hx hb dL_law_236 (lv_at hl 13 rfl) ?_
      refine zcall (wr := wr) (wc := zpic G ad X) (va_runV (As := [.int (zi (a : Int)), .int (zi (a : Int))]) (rest := []) ⟨hx, hb, hml, hown, hts⟩ (c_X7_changedByMove l G ad X a hI.1 hI.2.1 (by omega) H.size) (cwV 2 hts gL_law_X7_changedByMove rfl rfl rfl (by decide +kernel) ⟨Nat.le_of_ble_eq_true rfl, Nat.le_of_ble_eq_true rfl⟩) (zPreV (As := [.int (zi (a : Int)), .int (zi (a : Int))]) (wr := wr) (wc := zpic G ad X) (q0 := 52) (ci := 7) (q := (RX7, TX7, 8)) hP hD hE hS hA rfl p_52) rfl rfl hl.1 rfl (lv_room (Nat.le_of_ble_eq_true rfl)) dL_law_238 ⟨(by show _ ≤ 600104; omega), (by show _ ≤ 7301314; omega)⟩) hP hD hS hA (fun _ _ H locs hf9 hP hD hS => ?_)
      obtain ⟨v7, Y3, rfl, hv7, rfl⟩ := hf9
      have eY3 : X = Y3 := (hv7.2.1 hFr.1).symm
      subst eY3
      have hP : va_P G.1 vwCl (wr ++ zpic G ad X) H := hP
      have hD : va_D A (wr ++ zpic G ad X) := hD
      refine W.eq (g2 := F0 m 241 ls [.int (zi v7)]) rfl ?_
      refine z0_eq (tgt := 246) hx hb dL_law_241 (by decide) (by omega) (fun h241 => ?_) (fun h9 => by exfalso; omega)
      refine lv_iload hx hb dL_law_246 (lv_at hl 0 rfl) ?_
      refine z0_le (tgt := 264) hx hb dL_law_248 (by decide) (by decide) (fun h9 => absurd h9 (by decide)) (fun h248 => ?_)
      refine lv_aload_n hx hb dL_law_251 rfl (lv_at hl 8 rfl) ?_
      refine lv_iload hx hb dL_law_252 (lv_at hl 13 rfl) ?_
      refine zcall (wr := wr) (wc := zpic G ad X) (va_runV (As := [.int (zi (a : Int))]) (rest := []) ⟨hx, hb, hml, hown, hts⟩ (c_X7_allowedWithout l G ad X a hI.1 hI.2.1 (by omega) H.size) (cwV 1 hts gL_law_X7_allowedWithout rfl rfl rfl (by decide +kernel) ⟨Nat.le_of_ble_eq_true rfl, Nat.le_of_ble_eq_true rfl⟩) (zPreV (As := [.int (zi (a : Int))]) (wr := wr) (wc := zpic G ad X) (q0 := 52) (ci := 7) (q := (RX7, TX7, 8)) hP hD hE hS hA rfl p_52) rfl rfl hl.1 rfl (lv_room (Nat.le_of_ble_eq_true rfl)) dL_law_254 ⟨(by show _ ≤ 600104; omega), (by show _ ≤ 7301314; omega)⟩) hP hD hS hA (fun _ _ H locs hf9 hP hD hS => ?_)
      obtain ⟨v8, Y4, rfl, hv8, rfl⟩ := hf9
      have eY4 : X = Y4 := (hv8.2.1 hFr.1).symm
      subst eY4
      have hP : va_P G.1 vwCl (wr ++ zpic G ad X) H := hP
      have hD : va_D A (wr ++ zpic G ad X) := hD
      refine W.eq (g2 := F0 m 257 ls [.int (zi v8)]) rfl ?_
      refine lv_aload_n hx hb dL_law_257 rfl (lv_at hl 8 rfl) ?_
      refine zcall (wr := wr) (wc := zpic G ad X) (va_runV (As := []) (rest := [.int (zi v8)]) ⟨hx, hb, hml, hown, hts⟩ (c_X7_allowed l G ad X hI.1 hI.2.1 H.size) (cwV 0 hts gL_law_X7_allowed rfl rfl rfl (by decide +kernel) ⟨Nat.le_of_ble_eq_true rfl, Nat.le_of_ble_eq_true rfl⟩) (zPreV (As := []) (wr := wr) (wc := zpic G ad X) (q0 := 52) (ci := 7) (q := (RX7, TX7, 8)) hP hD hE hS hA rfl p_52) rfl rfl hl.1 rfl (lv_room (Nat.le_of_ble_eq_true rfl)) dL_law_258 ⟨(by show _ ≤ 600104; omega), (by show _ ≤ 7301314; omega)⟩) hP hD hS hA (fun _ _ H locs hf9 hP hD hS => ?_)
      obtain ⟨v9, Y5, rfl, hv9, rfl⟩ := hf9
      have eY5 : X = Y5 := (hv9.2.1 hFr.1).symm
      subst eY5
      have hP : va_P G.1 vwCl (wr ++ zpic G ad X) H := hP
      have hD : va_D A (wr ++ zpic G ad X) := hD
      refine W.eq (g2 := F0 m 261 ls [.int (zi v9), .int (zi v8)]) rfl ?_
      refine zc_ne (tgt := 283) hx hb dL_law_261 (by decide) (by omega) (by omega) (fun h9 => by exfalso; omega) (fun h261 => ?_)
      refine lv_iload hx hb dL_law_264 (lv_at hl 4 rfl) ?_
      refine lv_iconst (v := zi 2) hx hb dL_law_266 rfl ?_
      refine zc_ne (tgt := 285) hx hb dL_law_267 (by decide) (by decide) (by decide) (fun h267 => ?_) (fun h9 => absurd h9 (by decide))
      have ezSA : (zSA X a) + v2 = zSA X (a + 1) := by show _ = zSA X a + (if X (zr X 0 a) 0 = 2 then 0 else zDc X a); rw [if_neg (by omega)]; omega
      have ezSW : (zSW X a) + v2 = zSW X (a + 1) := by show _ = zSW X a + (if X (zr X 0 a) 0 = 1 then zDc X a else 0); rw [if_pos hvd.symm]; omega
      rw [ezSA, ezSW] at hl
      exact kk 1 H locs ls hP hD hS (lv_sub hl [5, 6, 7, 8, 9, 10, 2, 11, 12, 1, 13, 4] rfl) hvd
    · refine lv_istore (lv' := [(16, .int (zi 0)), (11, .long (zln ((zSW X a) + v2))), (7, .long (zln ((zSA X a) + v2))), (15, .int (zi v2)), (14, .int (zi 1)), (0, .ref b), (1, .int (zi tm)), (2, .ref g0), (3, .ref (ad 52)), (4, .int (zi st)), (5, .long dg), (9, .int (zi (zN X 0 : Int))), (10, .int (zi qu)), (13, .int (zi (a : Int)))]) hx hb dL_law_145 hl (by decide) rfl (fun ls hl => ?_)
      refine lv_iload hx hb dL_law_147 (lv_at hl 3 rfl) ?_
      refine lv_aload_n hx hb dL_law_149 rfl (lv_at hl 8 rfl) ?_
      refine lv_iload hx hb dL_law_150 (lv_at hl 13 rfl) ?_
      refine lv_iload hx hb dL_law_152 (lv_at hl 13 rfl) ?_
      refine zcall (wr := wr) (wc := zpic G ad X) (va_runV (As := [.int (zi (a : Int)), .int (zi (a : Int))]) (rest := [.int (zi v2)]) ⟨hx, hb, hml, hown, hts⟩ (c_X7_shared l G ad X a a hI.1 (by omega) (by omega) H.size) (cwV 2 hts gL_law_X7_shared rfl rfl rfl (by decide +kernel) ⟨Nat.le_of_ble_eq_true rfl, Nat.le_of_ble_eq_true rfl⟩) (zPreV (As := [.int (zi (a : Int)), .int (zi (a : Int))]) (wr := wr) (wc := zpic G ad X) (q0 := 52) (ci := 7) (q := (RX7, TX7, 8)) hP hD hE hS hA rfl p_52) rfl rfl hl.1 rfl (lv_room (Nat.le_of_ble_eq_true rfl)) dL_law_154 ⟨(by show _ ≤ 600104; omega), (by show _ ≤ 7301314; omega)⟩) hP hD hS hA (fun _ _ H locs hf9 hP hD hS => ?_)
      obtain ⟨v4, rfl, hv4, rfl⟩ := hf9
      have hP : va_P G.1 vwCl (wr ++ zpic G ad X) H := hP
      have hD : va_D A (wr ++ zpic G ad X) := hD
      refine W.eq (g2 := F0 m 157 ls [.int (zi v4), .int (zi v2)]) rfl ?_
      refine zc_gt (tgt := 244) hx hb dL_law_157 (by decide) (by omega) (by omega) (fun h9 => by exfalso; omega) (fun h157 => ?_)
      refine lv_iload hx hb dL_law_160 (lv_at hl 3 rfl) ?_
      refine z0_ne (tgt := 169) hx hb dL_law_162 (by decide) (by omega) (fun h162 => ?_) (fun h9 => by exfalso; omega)
      refine lv_iconst (v := zi 0) hx hb dL_law_169 rfl ?_
      refine lv_iload hx hb dL_law_170 (lv_at hl 0 rfl) ?_
      refine z0_le (tgt := 185) hx hb dL_law_172 (by decide) (by decide) (fun h172 => ?_) (fun h9 => absurd h9 (by decide))
      refine lv_iconst (v := zi 0) hx hb dL_law_185 rfl ?_
      refine zc_ne (tgt := 244) hx hb dL_law_186 (by decide) (by decide) (by decide) (fun h9 => absurd h9 (by decide)) (fun h186 => ?_)
      refine lv_aload_n hx hb dL_law_189 rfl (lv_at hl 8 rfl) ?_
      refine lv_iload hx hb dL_law_190 (lv_at hl 13 rfl) ?_
      refine zcall (wr := wr) (wc := zpic G ad X) (va_runV (As := [.int (zi (a : Int))]) (rest := []) ⟨hx, hb, hml, hown, hts⟩ (c_X7_coveredBy l G ad X a hI.1 (by omega) H.size) (cwV 1 hts gL_law_X7_coveredBy rfl rfl rfl (by decide +kernel) ⟨Nat.le_of_ble_eq_true rfl, Nat.le_of_ble_eq_true rfl⟩) (zPreV (As := [.int (zi (a : Int))]) (wr := wr) (wc := zpic G ad X) (q0 := 52) (ci := 7) (q := (RX7, TX7, 8)) hP hD hE hS hA rfl p_52) rfl rfl hl.1 rfl (lv_room (Nat.le_of_ble_eq_true rfl)) dL_law_192 ⟨(by show _ ≤ 600104; omega), (by show _ ≤ 7301314; omega)⟩) hP hD hS hA (fun _ _ H locs hf9 hP hD hS => ?_)
      obtain ⟨v5, rfl, hv5, rfl⟩ := hf9
      have hP : va_P G.1 vwCl (wr ++ zpic G ad X) H := hP
      have hD : va_D A (wr ++ zpic G ad X) := hD
      refine W.eq (g2 := F0 m 195 ls [.int (zi v5)]) rfl ?_
      refine lv_iload hx hb dL_law_195 (lv_at hl 13 rfl) ?_
      refine zc_ge (tgt := 244) hx hb dL_law_197 (by decide) (by omega) (by omega) (fun h9 => by exfalso; omega) (fun h197 => ?_)
      refine lv_aload_n hx hb dL_law_200 rfl (lv_at hl 8 rfl) ?_
      refine lv_iload hx hb dL_law_201 (lv_at hl 13 rfl) ?_
      refine zcall (wr := wr) (wc := zpic G ad X) (va_runV (As := [.int (zi (a : Int))]) (rest := []) ⟨hx, hb, hml, hown, hts⟩ (c_X7_coveredBy l G ad X a hI.1 (by omega) H.size) (cwV 1 hts gL_law_X7_coveredBy rfl rfl rfl (by decide +kernel) ⟨Nat.le_of_ble_eq_true rfl, Nat.le_of_ble_eq_true rfl⟩) (zPreV (As := [.int (zi (a : Int))]) (wr := wr) (wc := zpic G ad X) (q0 := 52) (ci := 7) (q := (RX7, TX7, 8)) hP hD hE hS hA rfl p_52) rfl rfl hl.1 rfl (lv_room (Nat.le_of_ble_eq_true rfl)) dL_law_203 ⟨(by show _ ≤ 600104; omega), (by show _ ≤ 7301314; omega)⟩) hP hD hS hA (fun _ _ H locs hf9 hP hD hS => ?_)
      obtain ⟨v6, rfl, hv6, rfl⟩ := hf9
      have hP : va_P G.1 vwCl (wr ++ zpic G ad X) H := hP
      have hD : va_D A (wr ++ zpic G ad X) := hD
      refine W.eq (g2 := F0 m 206 ls [.int (zi v6)]) rfl ?_
      have hcf := hv6.2.2.f hv6.2.1
      have hcd : 0 ≤ v6 → zDc X a = 0 := fun h0 => zCvF_dead hI.1 ha hv6.2.1 hv6.2.2 h0
      refine z0_lt (tgt := 221) hx hb dL_law_206 (by decide) (by omega) (fun h206 => ?_) (fun h9 => by exfalso; omega)
      refine lv_iload hx hb dL_law_221 (lv_at hl 0 rfl) ?_
      refine lv_iconst (v := zi 4) hx hb dL_law_223 rfl ?_
      refine zc_ne (tgt := 233) hx hb dL_law_224 (by decide) (by decide) (by decide) (fun h224 => ?_) (fun h9 => absurd h9 (by decide))
      refine lv_aload_n hx hb dL_law_233 rfl (lv_at hl 8 rfl) ?_
      refine lv_iload hx hb dL_law_234 (lv_at hl 13 rfl) ?_
      refine lv_iload hx hb dL_law_236 (lv_at hl 13 rfl) ?_
      refine zcall (wr := wr) (wc := zpic G ad X) (va_runV (As := [.int (zi (a : Int)), .int (zi (a : Int))]) (rest := []) ⟨hx, hb, hml, hown, hts⟩ (c_X7_changedByMove l G ad X a hI.1 hI.2.1 (by omega) H.size) (cwV 2 hts gL_law_X7_changedByMove rfl rfl rfl (by decide +kernel) ⟨Nat.le_of_ble_eq_true rfl, Nat.le_of_ble_eq_true rfl⟩) (zPreV (As := [.int (zi (a : Int)), .int (zi (a : Int))]) (wr := wr) (wc := zpic G ad X) (q0 := 52) (ci := 7) (q := (RX7, TX7, 8)) hP hD hE hS hA rfl p_52) rfl rfl hl.1 rfl (lv_room (Nat.le_of_ble_eq_true rfl)) dL_law_238 ⟨(by show _ ≤ 600104; omega), (by show _ ≤ 7301314; omega)⟩) hP hD hS hA (fun _ _ H locs hf9 hP hD hS => ?_)
      obtain ⟨v7, Y3, rfl, hv7, rfl⟩ := hf9
      have eY3 : X = Y3 := (hv7.2.1 hFr.1).symm
      subst eY3
      have hP : va_P G.1 vwCl (wr ++ zpic G ad X) H := hP
      have hD : va_D A (wr ++ zpic G ad X) := hD
      refine W.eq (g2 := F0 m 241 ls [.int (zi v7)]) rfl ?_
      refine z0_eq (tgt := 246) hx hb dL_law_241 (by decide) (by omega) (fun h241 => ?_) (fun h9 => by exfalso; omega)
      refine lv_iload hx hb dL_law_246 (lv_at hl 0 rfl) ?_
      refine z0_le (tgt := 264) hx hb dL_law_248 (by decide) (by decide) (fun h248 => ?_) (fun h9 => absurd h9 (by decide))
      refine lv_iload hx hb dL_law_264 (lv_at hl 4 rfl) ?_
      refine lv_iconst (v := zi 2) hx hb dL_law_266 rfl ?_
      refine zc_ne (tgt := 285) hx hb dL_law_267 (by decide) (by decide) (by decide) (fun h267 => ?_) (fun h9 => absurd h9 (by decide))
      have ezSA : (zSA X a) + v2 = zSA X (a + 1) := by show _ = zSA X a + (if X (zr X 0 a) 0 = 2 then 0 else zDc X a); rw [if_neg (by omega)]; omega
      have ezSW : (zSW X a) + v2 = zSW X (a + 1) := by show _ = zSW X a + (if X (zr X 0 a) 0 = 1 then zDc X a else 0); rw [if_pos hvd.symm]; omega
      rw [ezSA, ezSW] at hl
      exact kk 1 H locs ls hP hD hS (lv_sub hl [5, 6, 7, 8, 9, 10, 2, 11, 12, 1, 13, 4] rfl) hvd
  · refine lv_istore (lv' := [(14, .int (zi 2)), (0, .ref b), (1, .int (zi tm)), (2, .ref g0), (3, .ref (ad 52)), (4, .int (zi st)), (5, .long dg), (7, .long (zln (zSA X a))), (9, .int (zi (zN X 0 : Int))), (10, .int (zi qu)), (11, .long (zln (zSW X a))), (13, .int (zi (a : Int)))]) hx hb dL_law_93 hl (by decide) rfl (fun ls hl => ?_)
    refine lv_aload_n hx hb dL_law_95 rfl (lv_at hl 4 rfl) ?_
    refine lv_iload hx hb dL_law_96 (lv_at hl 11 rfl) ?_
    refine zcall (wr := wr) (wc := zpic G ad X) (va_runV (As := [.int (zi (a : Int))]) (rest := []) ⟨hx, hb, hml, hown, hts⟩ (c_X7_decides l G ad X a hI.1 hI.2.1 (by omega) H.size) (cwV 1 hts gL_law_X7_decides rfl rfl rfl (by decide +kernel) ⟨Nat.le_of_ble_eq_true rfl, Nat.le_of_ble_eq_true rfl⟩) (zPreV (As := [.int (zi (a : Int))]) (wr := wr) (wc := zpic G ad X) (q0 := 52) (ci := 7) (q := (RX7, TX7, 8)) hP hD hE hS hA rfl p_52) rfl rfl hl.1 rfl (lv_room (Nat.le_of_ble_eq_true rfl)) dL_law_98 ⟨(by show _ ≤ 600104; omega), (by show _ ≤ 7301314; omega)⟩) hP hD hS hA (fun _ _ H locs hf9 hP hD hS => ?_)
    obtain ⟨v2, Y1, rfl, hv2, rfl⟩ := hf9
    have eY1 : X = Y1 := (hv2.2.1 hFr.1).symm
    subst eY1
    have hP : va_P G.1 vwCl (wr ++ zpic G ad X) H := hP
    have hD : va_D A (wr ++ zpic G ad X) := hD
    refine W.eq (g2 := F0 m 101 ls [.int (zi v2)]) rfl ?_
    refine lv_istore (lv' := [(15, .int (zi v2)), (14, .int (zi 2)), (0, .ref b), (1, .int (zi tm)), (2, .ref g0), (3, .ref (ad 52)), (4, .int (zi st)), (5, .long dg), (7, .long (zln (zSA X a))), (9, .int (zi (zN X 0 : Int))), (10, .int (zi qu)), (11, .long (zln (zSW X a))), (13, .int (zi (a : Int)))]) hx hb dL_law_101 hl (by decide) rfl (fun ls hl => ?_)
    refine lv_lload hx hb dL_law_103 (lv_at hl 8 rfl) ?_
    refine lv_iload hx hb dL_law_105 (lv_at hl 1 rfl) ?_
    refine lv_iconst (v := zi 2) hx hb dL_law_107 rfl ?_
    refine zc_ne (tgt := 115) hx hb dL_law_108 (by decide) (by decide) (by decide) (fun h9 => absurd h9 (by decide)) (fun h108 => ?_)
    refine lv_lconst (v := 0) hx hb dL_law_111 (by decide) ?_
    refine ztl (v := zln 0) rfl ?_
    refine lv_goto (tgt := 118) hx hb dL_law_112 (by decide) ?_
    refine lv_ladd hx hb dL_law_118 (ztl (v := (zln ((zSA X a) + 0))) (zln_add _ _) ?_)
    refine lv_lstore (lv' := [(7, .long (zln ((zSA X a) + 0))), (15, .int (zi v2)), (14, .int (zi 2)), (0, .ref b), (1, .int (zi tm)), (2, .ref g0), (3, .ref (ad 52)), (4, .int (zi st)), (5, .long dg), (9, .int (zi (zN X 0 : Int))), (10, .int (zi qu)), (11, .long (zln (zSW X a))), (13, .int (zi (a : Int)))]) hx hb dL_law_119 hl (by decide) rfl (fun ls hl => ?_)
    refine lv_lload hx hb dL_law_121 (lv_at hl 11 rfl) ?_
    refine lv_iload hx hb dL_law_123 (lv_at hl 2 rfl) ?_
    refine lv_iconst (v := zi 1) hx hb dL_law_125 rfl ?_
    refine zc_ne (tgt := 135) hx hb dL_law_126 (by decide) (by decide) (by decide) (fun h126 => ?_) (fun h9 => absurd h9 (by decide))
    refine lv_lconst (v := 0) hx hb dL_law_135 (by decide) ?_
    refine ztl (v := zln 0) rfl ?_
    refine lv_ladd hx hb dL_law_136 (ztl (v := (zln ((zSW X a) + 0))) (zln_add _ _) ?_)
    refine lv_lstore (lv' := [(11, .long (zln ((zSW X a) + 0))), (7, .long (zln ((zSA X a) + 0))), (15, .int (zi v2)), (14, .int (zi 2)), (0, .ref b), (1, .int (zi tm)), (2, .ref g0), (3, .ref (ad 52)), (4, .int (zi st)), (5, .long dg), (9, .int (zi (zN X 0 : Int))), (10, .int (zi qu)), (13, .int (zi (a : Int)))]) hx hb dL_law_137 hl (by decide) rfl (fun ls hl => ?_)
    refine lv_aload_n hx hb dL_law_139 rfl (lv_at hl 7 rfl) ?_
    refine lv_iload hx hb dL_law_140 (lv_at hl 12 rfl) ?_
    refine zcall (wr := wr) (wc := zpic G ad X) (va_runV (As := [.int (zi (a : Int))]) (rest := []) ⟨hx, hb, hml, hown, hts⟩ (c_X7_state l G ad X a hI.1 hI.2.1 (by omega) H.size) (cwV 1 hts gL_law_X7_state rfl rfl rfl (by decide +kernel) ⟨Nat.le_of_ble_eq_true rfl, Nat.le_of_ble_eq_true rfl⟩) (zPreV (As := [.int (zi (a : Int))]) (wr := wr) (wc := zpic G ad X) (q0 := 52) (ci := 7) (q := (RX7, TX7, 8)) hP hD hE hS hA rfl p_52) rfl rfl hl.1 rfl (lv_room (Nat.le_of_ble_eq_true rfl)) dL_law_142 ⟨(by show _ ≤ 600104; omega), (by show _ ≤ 7301314; omega)⟩) hP hD hS hA (fun _ _ H locs hf9 hP hD hS => ?_)
    obtain ⟨v3, Y2, rfl, hv3, rfl⟩ := hf9
    have eY2 : X = Y2 := (hv3.2.1 hFr.1).symm
    subst eY2
    have hP : va_P G.1 vwCl (wr ++ zpic G ad X) H := hP
    have hD : va_D A (wr ++ zpic G ad X) := hD
    refine W.eq (g2 := F0 m 145 ls [.int (zi v3)]) rfl ?_
    have hdv := hv2.1
    have hs3 := hv3.1
    have hst := zSt_cases (X := X) a
    have hno : ¬ zNm X a := fun h9 => h9.1 hvd.symm
    rcases (show (v2 = 0 ∧ v3 = 1) ∨ (v2 = 0 ∧ v3 = 2) ∨ (v2 = 0 ∧ v3 = 3) ∨ (v2 ≠ 0 ∧ v3 = 4) ∨ (v2 ≠ 0 ∧ v3 = 0) by rw [hdv, hs3]; rcases hst with ⟨a1, a2, -⟩ | ⟨a1, ⟨a2, -⟩ | a2⟩; (rcases a2 with a2 | a2 | a2 <;> omega); omega; omega) with ⟨rfl, rfl⟩ | ⟨rfl, rfl⟩ | ⟨rfl, rfl⟩ | ⟨hz, rfl⟩ | ⟨hz, rfl⟩
    · refine lv_istore (lv' := [(16, .int (zi 1)), (11, .long (zln ((zSW X a) + 0))), (7, .long (zln ((zSA X a) + 0))), (15, .int (zi 0)), (14, .int (zi 2)), (0, .ref b), (1, .int (zi tm)), (2, .ref g0), (3, .ref (ad 52)), (4, .int (zi st)), (5, .long dg), (9, .int (zi (zN X 0 : Int))), (10, .int (zi qu)), (13, .int (zi (a : Int)))]) hx hb dL_law_145 hl (by decide) rfl (fun ls hl => ?_)
      refine lv_iload hx hb dL_law_147 (lv_at hl 3 rfl) ?_
      refine lv_aload_n hx hb dL_law_149 rfl (lv_at hl 8 rfl) ?_
      refine lv_iload hx hb dL_law_150 (lv_at hl 13 rfl) ?_
      refine lv_iload hx hb dL_law_152 (lv_at hl 13 rfl) ?_
      refine zcall (wr := wr) (wc := zpic G ad X) (va_runV (As := [.int (zi (a : Int)), .int (zi (a : Int))]) (rest := [.int (zi 0)]) ⟨hx, hb, hml, hown, hts⟩ (c_X7_shared l G ad X a a hI.1 (by omega) (by omega) H.size) (cwV 2 hts gL_law_X7_shared rfl rfl rfl (by decide +kernel) ⟨Nat.le_of_ble_eq_true rfl, Nat.le_of_ble_eq_true rfl⟩) (zPreV (As := [.int (zi (a : Int)), .int (zi (a : Int))]) (wr := wr) (wc := zpic G ad X) (q0 := 52) (ci := 7) (q := (RX7, TX7, 8)) hP hD hE hS hA rfl p_52) rfl rfl hl.1 rfl (lv_room (Nat.le_of_ble_eq_true rfl)) dL_law_154 ⟨(by show _ ≤ 600104; omega), (by show _ ≤ 7301314; omega)⟩) hP hD hS hA (fun _ _ H locs hf9 hP hD hS => ?_)
      obtain ⟨v4, rfl, hv4, rfl⟩ := hf9
      have hP : va_P G.1 vwCl (wr ++ zpic G ad X) H := hP
      have hD : va_D A (wr ++ zpic G ad X) := hD
      refine W.eq (g2 := F0 m 157 ls [.int (zi v4), .int (zi 0)]) rfl ?_
      refine zc_gt (tgt := 244) hx hb dL_law_157 (by decide) (by decide) (by omega) (fun h9 => by exfalso; omega) (fun h157 => ?_)
      refine lv_iload hx hb dL_law_160 (lv_at hl 3 rfl) ?_
      refine z0_ne (tgt := 169) hx hb dL_law_162 (by decide) (by decide) (fun h9 => absurd h9 (by decide)) (fun h162 => ?_)
      refine lv_iconst (v := zi 1) hx hb dL_law_165 rfl ?_
      refine lv_goto (tgt := 170) hx hb dL_law_166 (by decide) ?_
      refine lv_iload hx hb dL_law_170 (lv_at hl 0 rfl) ?_
      refine z0_le (tgt := 185) hx hb dL_law_172 (by decide) (by decide) (fun h9 => absurd h9 (by decide)) (fun h172 => ?_)
      refine lv_iload hx hb dL_law_175 (lv_at hl 0 rfl) ?_
      refine lv_iconst (v := zi 4) hx hb dL_law_177 rfl ?_
      refine zc_ge (tgt := 185) hx hb dL_law_178 (by decide) (by decide) (by decide) (fun h9 => absurd h9 (by decide)) (fun h178 => ?_)
      refine lv_iconst (v := zi 1) hx hb dL_law_181 rfl ?_
      refine lv_goto (tgt := 186) hx hb dL_law_182 (by decide) ?_
      refine zc_ne (tgt := 244) hx hb dL_law_186 (by decide) (by decide) (by decide) (fun h9 => absurd h9 (by decide)) (fun h186 => ?_)
      refine lv_aload_n hx hb dL_law_189 rfl (lv_at hl 8 rfl) ?_
      refine lv_iload hx hb dL_law_190 (lv_at hl 13 rfl) ?_
      refine zcall (wr := wr) (wc := zpic G ad X) (va_runV (As := [.int (zi (a : Int))]) (rest := []) ⟨hx, hb, hml, hown, hts⟩ (c_X7_coveredBy l G ad X a hI.1 (by omega) H.size) (cwV 1 hts gL_law_X7_coveredBy rfl rfl rfl (by decide +kernel) ⟨Nat.le_of_ble_eq_true rfl, Nat.le_of_ble_eq_true rfl⟩) (zPreV (As := [.int (zi (a : Int))]) (wr := wr) (wc := zpic G ad X) (q0 := 52) (ci := 7) (q := (RX7, TX7, 8)) hP hD hE hS hA rfl p_52) rfl rfl hl.1 rfl (lv_room (Nat.le_of_ble_eq_true rfl)) dL_law_192 ⟨(by show _ ≤ 600104; omega), (by show _ ≤ 7301314; omega)⟩) hP hD hS hA (fun _ _ H locs hf9 hP hD hS => ?_)
      obtain ⟨v5, rfl, hv5, rfl⟩ := hf9
      have hP : va_P G.1 vwCl (wr ++ zpic G ad X) H := hP
      have hD : va_D A (wr ++ zpic G ad X) := hD
      refine W.eq (g2 := F0 m 195 ls [.int (zi v5)]) rfl ?_
      refine lv_iload hx hb dL_law_195 (lv_at hl 13 rfl) ?_
      refine zc_ge (tgt := 244) hx hb dL_law_197 (by decide) (by omega) (by omega) (fun h9 => by exfalso; omega) (fun h197 => ?_)
      refine lv_aload_n hx hb dL_law_200 rfl (lv_at hl 8 rfl) ?_
      refine lv_iload hx hb dL_law_201 (lv_at hl 13 rfl) ?_
      refine zcall (wr := wr) (wc := zpic G ad X) (va_runV (As := [.int (zi (a : Int))]) (rest := []) ⟨hx, hb, hml, hown, hts⟩ (c_X7_coveredBy l G ad X a hI.1 (by omega) H.size) (cwV 1 hts gL_law_X7_coveredBy rfl rfl rfl (by decide +kernel) ⟨Nat.le_of_ble_eq_true rfl, Nat.le_of_ble_eq_true rfl⟩) (zPreV (As := [.int (zi (a : Int))]) (wr := wr) (wc := zpic G ad X) (q0 := 52) (ci := 7) (q := (RX7, TX7, 8)) hP hD hE hS hA rfl p_52) rfl rfl hl.1 rfl (lv_room (Nat.le_of_ble_eq_true rfl)) dL_law_203 ⟨(by show _ ≤ 600104; omega), (by show _ ≤ 7301314; omega)⟩) hP hD hS hA (fun _ _ H locs hf9 hP hD hS => ?_)
      obtain ⟨v6, rfl, hv6, rfl⟩ := hf9
      have hP : va_P G.1 vwCl (wr ++ zpic G ad X) H := hP
      have hD : va_D A (wr ++ zpic G ad X) := hD
      refine W.eq (g2 := F0 m 206 ls [.int (zi v6)]) rfl ?_
      have hcf := hv6.2.2.f hv6.2.1
      have hcd : 0 ≤ v6 → zDc X a = 0 := fun h0 => zCvF_dead hI.1 ha hv6.2.1 hv6.2.2 h0
      have hs2 : 0 ≤ zCvF X a → zSt X a = 1 ∨ zSt X a = 2 := by rcases hst with ⟨-, -, a3⟩ | ⟨a1, -⟩; exact a3; omega
      refine z0_lt (tgt := 221) hx hb dL_law_206 (by decide) (by omega) (fun h206 => ?_) (fun h206 => ?_)
      · refine lv_iload hx hb dL_law_221 (lv_at hl 0 rfl) ?_
        refine lv_iconst (v := zi 4) hx hb dL_law_223 rfl ?_
        refine zc_ne (tgt := 233) hx hb dL_law_224 (by decide) (by decide) (by decide) (fun h224 => ?_) (fun h9 => absurd h9 (by decide))
        refine lv_aload_n hx hb dL_law_233 rfl (lv_at hl 8 rfl) ?_
        refine lv_iload hx hb dL_law_234 (lv_at hl 13 rfl) ?_
        refine lv_iload hx hb dL_law_236 (lv_at hl 13 rfl) ?_
        refine zcall (wr := wr) (wc := zpic G ad X) (va_runV (As := [.int (zi (a : Int)), .int (zi (a : Int))]) (rest := []) ⟨hx, hb, hml, hown, hts⟩ (c_X7_changedByMove l G ad X a hI.1 hI.2.1 (by omega) H.size) (cwV 2 hts gL_law_X7_changedByMove rfl rfl rfl (by decide +kernel) ⟨Nat.le_of_ble_eq_true rfl, Nat.le_of_ble_eq_true rfl⟩) (zPreV (As := [.int (zi (a : Int)), .int (zi (a : Int))]) (wr := wr) (wc := zpic G ad X) (q0 := 52) (ci := 7) (q := (RX7, TX7, 8)) hP hD hE hS hA rfl p_52) rfl rfl hl.1 rfl (lv_room (Nat.le_of_ble_eq_true rfl)) dL_law_238 ⟨(by show _ ≤ 600104; omega), (by show _ ≤ 7301314; omega)⟩) hP hD hS hA (fun _ _ H locs hf9 hP hD hS => ?_)
        obtain ⟨v7, Y3, rfl, hv7, rfl⟩ := hf9
        have eY3 : X = Y3 := (hv7.2.1 hFr.1).symm
        subst eY3
        have hP : va_P G.1 vwCl (wr ++ zpic G ad X) H := hP
        have hD : va_D A (wr ++ zpic G ad X) := hD
        refine W.eq (g2 := F0 m 241 ls [.int (zi v7)]) rfl ?_
        refine z0_eq (tgt := 246) hx hb dL_law_241 (by decide) (by omega) (fun h241 => ?_) (fun h9 => by exfalso; omega)
        refine lv_iload hx hb dL_law_246 (lv_at hl 0 rfl) ?_
        refine z0_le (tgt := 264) hx hb dL_law_248 (by decide) (by decide) (fun h9 => absurd h9 (by decide)) (fun h248 => ?_)
        refine lv_aload_n hx hb dL_law_251 rfl (lv_at hl 8 rfl) ?_
        refine lv_iload hx hb dL_law_252 (lv_at hl 13 rfl) ?_
        refine zcall (wr := wr) (wc := zpic G ad X) (va_runV (As := [.int (zi (a : Int))]) (rest := []) ⟨hx, hb, hml, hown, hts⟩ (c_X7_allowedWithout l G ad X a hI.1 hI.2.1 (by omega) H.size) (cwV 1 hts gL_law_X7_allowedWithout rfl rfl rfl (by decide +kernel) ⟨Nat.le_of_ble_eq_true rfl, Nat.le_of_ble_eq_true rfl⟩) (zPreV (As := [.int (zi (a : Int))]) (wr := wr) (wc := zpic G ad X) (q0 := 52) (ci := 7) (q := (RX7, TX7, 8)) hP hD hE hS hA rfl p_52) rfl rfl hl.1 rfl (lv_room (Nat.le_of_ble_eq_true rfl)) dL_law_254 ⟨(by show _ ≤ 600104; omega), (by show _ ≤ 7301314; omega)⟩) hP hD hS hA (fun _ _ H locs hf9 hP hD hS => ?_)
        obtain ⟨v8, Y4, rfl, hv8, rfl⟩ := hf9
        have eY4 : X = Y4 := (hv8.2.1 hFr.1).symm
        subst eY4
        have hP : va_P G.1 vwCl (wr ++ zpic G ad X) H := hP
        have hD : va_D A (wr ++ zpic G ad X) := hD
        refine W.eq (g2 := F0 m 257 ls [.int (zi v8)]) rfl ?_
        refine lv_aload_n hx hb dL_law_257 rfl (lv_at hl 8 rfl) ?_
        refine zcall (wr := wr) (wc := zpic G ad X) (va_runV (As := []) (rest := [.int (zi v8)]) ⟨hx, hb, hml, hown, hts⟩ (c_X7_allowed l G ad X hI.1 hI.2.1 H.size) (cwV 0 hts gL_law_X7_allowed rfl rfl rfl (by decide +kernel) ⟨Nat.le_of_ble_eq_true rfl, Nat.le_of_ble_eq_true rfl⟩) (zPreV (As := []) (wr := wr) (wc := zpic G ad X) (q0 := 52) (ci := 7) (q := (RX7, TX7, 8)) hP hD hE hS hA rfl p_52) rfl rfl hl.1 rfl (lv_room (Nat.le_of_ble_eq_true rfl)) dL_law_258 ⟨(by show _ ≤ 600104; omega), (by show _ ≤ 7301314; omega)⟩) hP hD hS hA (fun _ _ H locs hf9 hP hD hS => ?_)
        obtain ⟨v9, Y5, rfl, hv9, rfl⟩ := hf9
        have eY5 : X = Y5 := (hv9.2.1 hFr.1).symm
        subst eY5
        have hP : va_P G.1 vwCl (wr ++ zpic G ad X) H := hP
        have hD : va_D A (wr ++ zpic G ad X) := hD
        refine W.eq (g2 := F0 m 261 ls [.int (zi v9), .int (zi v8)]) rfl ?_
        refine zc_ne (tgt := 283) hx hb dL_law_261 (by decide) (by omega) (by omega) (fun h9 => by exfalso; omega) (fun h261 => ?_)
        refine lv_iload hx hb dL_law_264 (lv_at hl 4 rfl) ?_
        refine lv_iconst (v := zi 2) hx hb dL_law_266 rfl ?_
        refine zc_ne (tgt := 285) hx hb dL_law_267 (by decide) (by decide) (by decide) (fun h9 => absurd h9 (by decide)) (fun h267 => ?_)
        refine lv_aload_n hx hb dL_law_270 rfl (lv_at hl 8 rfl) ?_
        refine lv_iload hx hb dL_law_271 (lv_at hl 13 rfl) ?_
        refine zcall (wr := wr) (wc := zpic G ad X) (va_runV (As := [.int (zi (a : Int))]) (rest := []) ⟨hx, hb, hml, hown, hts⟩ (c_X7_allowedWithout l G ad X a hI.1 hI.2.1 (by omega) H.size) (cwV 1 hts gL_law_X7_allowedWithout rfl rfl rfl (by decide +kernel) ⟨Nat.le_of_ble_eq_true rfl, Nat.le_of_ble_eq_true rfl⟩) (zPreV (As := [.int (zi (a : Int))]) (wr := wr) (wc := zpic G ad X) (q0 := 52) (ci := 7) (q := (RX7, TX7, 8)) hP hD hE hS hA rfl p_52) rfl rfl hl.1 rfl (lv_room (Nat.le_of_ble_eq_true rfl)) dL_law_273 ⟨(by show _ ≤ 600104; omega), (by show _ ≤ 7301314; omega)⟩) hP hD hS hA (fun _ _ H locs hf9 hP hD hS => ?_)
        obtain ⟨v10, Y6, rfl, hv10, rfl⟩ := hf9
        have eY6 : X = Y6 := (hv10.2.1 hFr.1).symm
        subst eY6
        have hP : va_P G.1 vwCl (wr ++ zpic G ad X) H := hP
        have hD : va_D A (wr ++ zpic G ad X) := hD
        refine W.eq (g2 := F0 m 276 ls [.int (zi v10)]) rfl ?_
        refine lv_aload_n hx hb dL_law_276 rfl (lv_at hl 8 rfl) ?_
        refine zcall (wr := wr) (wc := zpic G ad X) (va_runV (As := []) (rest := [.int (zi v10)]) ⟨hx, hb, hml, hown, hts⟩ (c_X7_allowed l G ad X hI.1 hI.2.1 H.size) (cwV 0 hts gL_law_X7_allowed rfl rfl rfl (by decide +kernel) ⟨Nat.le_of_ble_eq_true rfl, Nat.le_of_ble_eq_true rfl⟩) (zPreV (As := []) (wr := wr) (wc := zpic G ad X) (q0 := 52) (ci := 7) (q := (RX7, TX7, 8)) hP hD hE hS hA rfl p_52) rfl rfl hl.1 rfl (lv_room (Nat.le_of_ble_eq_true rfl)) dL_law_277 ⟨(by show _ ≤ 600104; omega), (by show _ ≤ 7301314; omega)⟩) hP hD hS hA (fun _ _ H locs hf9 hP hD hS => ?_)
        obtain ⟨v11, Y7, rfl, hv11, rfl⟩ := hf9
        have eY7 : X = Y7 := (hv11.2.1 hFr.1).symm
        subst eY7
        have hP : va_P G.1 vwCl (wr ++ zpic G ad X) H := hP
        have hD : va_D A (wr ++ zpic G ad X) := hD
        refine W.eq (g2 := F0 m 280 ls [.int (zi v11), .int (zi v10)]) rfl ?_
        refine zc_eq (tgt := 285) hx hb dL_law_280 (by decide) (by omega) (by omega) (fun h280 => ?_) (fun h9 => by exfalso; omega)
        have ezSA : (zSA X a) + 0 = zSA X (a + 1) := by show _ = zSA X a + (if X (zr X 0 a) 0 = 2 then 0 else zDc X a); rw [if_pos hvd.symm]
        have ezSW : (zSW X a) + 0 = zSW X (a + 1) := by show _ = zSW X a + (if X (zr X 0 a) 0 = 1 then zDc X a else 0); rw [if_neg (by omega)]
        rw [ezSA, ezSW] at hl
        exact kk 2 H locs ls hP hD hS (lv_sub hl [5, 6, 7, 8, 9, 10, 2, 11, 12, 1, 13, 4] rfl) hvd
      · refine lv_iload hx hb dL_law_209 (lv_at hl 0 rfl) ?_
        refine lv_iconst (v := zi 1) hx hb dL_law_211 rfl ?_
        refine zc_eq (tgt := 221) hx hb dL_law_212 (by decide) (by decide) (by decide) (fun h212 => ?_) (fun h9 => absurd h9 (by decide))
        refine lv_iload hx hb dL_law_221 (lv_at hl 0 rfl) ?_
        refine lv_iconst (v := zi 4) hx hb dL_law_223 rfl ?_
        refine zc_ne (tgt := 233) hx hb dL_law_224 (by decide) (by decide) (by decide) (fun h224 => ?_) (fun h9 => absurd h9 (by decide))
        refine lv_aload_n hx hb dL_law_233 rfl (lv_at hl 8 rfl) ?_
        refine lv_iload hx hb dL_law_234 (lv_at hl 13 rfl) ?_
        refine lv_iload hx hb dL_law_236 (lv_at hl 13 rfl) ?_
        refine zcall (wr := wr) (wc := zpic G ad X) (va_runV (As := [.int (zi (a : Int)), .int (zi (a : Int))]) (rest := []) ⟨hx, hb, hml, hown, hts⟩ (c_X7_changedByMove l G ad X a hI.1 hI.2.1 (by omega) H.size) (cwV 2 hts gL_law_X7_changedByMove rfl rfl rfl (by decide +kernel) ⟨Nat.le_of_ble_eq_true rfl, Nat.le_of_ble_eq_true rfl⟩) (zPreV (As := [.int (zi (a : Int)), .int (zi (a : Int))]) (wr := wr) (wc := zpic G ad X) (q0 := 52) (ci := 7) (q := (RX7, TX7, 8)) hP hD hE hS hA rfl p_52) rfl rfl hl.1 rfl (lv_room (Nat.le_of_ble_eq_true rfl)) dL_law_238 ⟨(by show _ ≤ 600104; omega), (by show _ ≤ 7301314; omega)⟩) hP hD hS hA (fun _ _ H locs hf9 hP hD hS => ?_)
        obtain ⟨v7, Y3, rfl, hv7, rfl⟩ := hf9
        have eY3 : X = Y3 := (hv7.2.1 hFr.1).symm
        subst eY3
        have hP : va_P G.1 vwCl (wr ++ zpic G ad X) H := hP
        have hD : va_D A (wr ++ zpic G ad X) := hD
        refine W.eq (g2 := F0 m 241 ls [.int (zi v7)]) rfl ?_
        refine z0_eq (tgt := 246) hx hb dL_law_241 (by decide) (by omega) (fun h241 => ?_) (fun h9 => by exfalso; omega)
        refine lv_iload hx hb dL_law_246 (lv_at hl 0 rfl) ?_
        refine z0_le (tgt := 264) hx hb dL_law_248 (by decide) (by decide) (fun h9 => absurd h9 (by decide)) (fun h248 => ?_)
        refine lv_aload_n hx hb dL_law_251 rfl (lv_at hl 8 rfl) ?_
        refine lv_iload hx hb dL_law_252 (lv_at hl 13 rfl) ?_
        refine zcall (wr := wr) (wc := zpic G ad X) (va_runV (As := [.int (zi (a : Int))]) (rest := []) ⟨hx, hb, hml, hown, hts⟩ (c_X7_allowedWithout l G ad X a hI.1 hI.2.1 (by omega) H.size) (cwV 1 hts gL_law_X7_allowedWithout rfl rfl rfl (by decide +kernel) ⟨Nat.le_of_ble_eq_true rfl, Nat.le_of_ble_eq_true rfl⟩) (zPreV (As := [.int (zi (a : Int))]) (wr := wr) (wc := zpic G ad X) (q0 := 52) (ci := 7) (q := (RX7, TX7, 8)) hP hD hE hS hA rfl p_52) rfl rfl hl.1 rfl (lv_room (Nat.le_of_ble_eq_true rfl)) dL_law_254 ⟨(by show _ ≤ 600104; omega), (by show _ ≤ 7301314; omega)⟩) hP hD hS hA (fun _ _ H locs hf9 hP hD hS => ?_)
        obtain ⟨v8, Y4, rfl, hv8, rfl⟩ := hf9
        have eY4 : X = Y4 := (hv8.2.1 hFr.1).symm
        subst eY4
        have hP : va_P G.1 vwCl (wr ++ zpic G ad X) H := hP
        have hD : va_D A (wr ++ zpic G ad X) := hD
        refine W.eq (g2 := F0 m 257 ls [.int (zi v8)]) rfl ?_
        refine lv_aload_n hx hb dL_law_257 rfl (lv_at hl 8 rfl) ?_
        refine zcall (wr := wr) (wc := zpic G ad X) (va_runV (As := []) (rest := [.int (zi v8)]) ⟨hx, hb, hml, hown, hts⟩ (c_X7_allowed l G ad X hI.1 hI.2.1 H.size) (cwV 0 hts gL_law_X7_allowed rfl rfl rfl (by decide +kernel) ⟨Nat.le_of_ble_eq_true rfl, Nat.le_of_ble_eq_true rfl⟩) (zPreV (As := []) (wr := wr) (wc := zpic G ad X) (q0 := 52) (ci := 7) (q := (RX7, TX7, 8)) hP hD hE hS hA rfl p_52) rfl rfl hl.1 rfl (lv_room (Nat.le_of_ble_eq_true rfl)) dL_law_258 ⟨(by show _ ≤ 600104; omega), (by show _ ≤ 7301314; omega)⟩) hP hD hS hA (fun _ _ H locs hf9 hP hD hS => ?_)
        obtain ⟨v9, Y5, rfl, hv9, rfl⟩ := hf9
        have eY5 : X = Y5 := (hv9.2.1 hFr.1).symm
        subst eY5
        have hP : va_P G.1 vwCl (wr ++ zpic G ad X) H := hP
        have hD : va_D A (wr ++ zpic G ad X) := hD
        refine W.eq (g2 := F0 m 261 ls [.int (zi v9), .int (zi v8)]) rfl ?_
        refine zc_ne (tgt := 283) hx hb dL_law_261 (by decide) (by omega) (by omega) (fun h9 => by exfalso; omega) (fun h261 => ?_)
        refine lv_iload hx hb dL_law_264 (lv_at hl 4 rfl) ?_
        refine lv_iconst (v := zi 2) hx hb dL_law_266 rfl ?_
        refine zc_ne (tgt := 285) hx hb dL_law_267 (by decide) (by decide) (by decide) (fun h9 => absurd h9 (by decide)) (fun h267 => ?_)
        refine lv_aload_n hx hb dL_law_270 rfl (lv_at hl 8 rfl) ?_
        refine lv_iload hx hb dL_law_271 (lv_at hl 13 rfl) ?_
        refine zcall (wr := wr) (wc := zpic G ad X) (va_runV (As := [.int (zi (a : Int))]) (rest := []) ⟨hx, hb, hml, hown, hts⟩ (c_X7_allowedWithout l G ad X a hI.1 hI.2.1 (by omega) H.size) (cwV 1 hts gL_law_X7_allowedWithout rfl rfl rfl (by decide +kernel) ⟨Nat.le_of_ble_eq_true rfl, Nat.le_of_ble_eq_true rfl⟩) (zPreV (As := [.int (zi (a : Int))]) (wr := wr) (wc := zpic G ad X) (q0 := 52) (ci := 7) (q := (RX7, TX7, 8)) hP hD hE hS hA rfl p_52) rfl rfl hl.1 rfl (lv_room (Nat.le_of_ble_eq_true rfl)) dL_law_273 ⟨(by show _ ≤ 600104; omega), (by show _ ≤ 7301314; omega)⟩) hP hD hS hA (fun _ _ H locs hf9 hP hD hS => ?_)
        obtain ⟨v10, Y6, rfl, hv10, rfl⟩ := hf9
        have eY6 : X = Y6 := (hv10.2.1 hFr.1).symm
        subst eY6
        have hP : va_P G.1 vwCl (wr ++ zpic G ad X) H := hP
        have hD : va_D A (wr ++ zpic G ad X) := hD
        refine W.eq (g2 := F0 m 276 ls [.int (zi v10)]) rfl ?_
        refine lv_aload_n hx hb dL_law_276 rfl (lv_at hl 8 rfl) ?_
        refine zcall (wr := wr) (wc := zpic G ad X) (va_runV (As := []) (rest := [.int (zi v10)]) ⟨hx, hb, hml, hown, hts⟩ (c_X7_allowed l G ad X hI.1 hI.2.1 H.size) (cwV 0 hts gL_law_X7_allowed rfl rfl rfl (by decide +kernel) ⟨Nat.le_of_ble_eq_true rfl, Nat.le_of_ble_eq_true rfl⟩) (zPreV (As := []) (wr := wr) (wc := zpic G ad X) (q0 := 52) (ci := 7) (q := (RX7, TX7, 8)) hP hD hE hS hA rfl p_52) rfl rfl hl.1 rfl (lv_room (Nat.le_of_ble_eq_true rfl)) dL_law_277 ⟨(by show _ ≤ 600104; omega), (by show _ ≤ 7301314; omega)⟩) hP hD hS hA (fun _ _ H locs hf9 hP hD hS => ?_)
        obtain ⟨v11, Y7, rfl, hv11, rfl⟩ := hf9
        have eY7 : X = Y7 := (hv11.2.1 hFr.1).symm
        subst eY7
        have hP : va_P G.1 vwCl (wr ++ zpic G ad X) H := hP
        have hD : va_D A (wr ++ zpic G ad X) := hD
        refine W.eq (g2 := F0 m 280 ls [.int (zi v11), .int (zi v10)]) rfl ?_
        refine zc_eq (tgt := 285) hx hb dL_law_280 (by decide) (by omega) (by omega) (fun h280 => ?_) (fun h9 => by exfalso; omega)
        have ezSA : (zSA X a) + 0 = zSA X (a + 1) := by show _ = zSA X a + (if X (zr X 0 a) 0 = 2 then 0 else zDc X a); rw [if_pos hvd.symm]
        have ezSW : (zSW X a) + 0 = zSW X (a + 1) := by show _ = zSW X a + (if X (zr X 0 a) 0 = 1 then zDc X a else 0); rw [if_neg (by omega)]
        rw [ezSA, ezSW] at hl
        exact kk 2 H locs ls hP hD hS (lv_sub hl [5, 6, 7, 8, 9, 10, 2, 11, 12, 1, 13, 4] rfl) hvd
    · refine lv_istore (lv' := [(16, .int (zi 2)), (11, .long (zln ((zSW X a) + 0))), (7, .long (zln ((zSA X a) + 0))), (15, .int (zi 0)), (14, .int (zi 2)), (0, .ref b), (1, .int (zi tm)), (2, .ref g0), (3, .ref (ad 52)), (4, .int (zi st)), (5, .long dg), (9, .int (zi (zN X 0 : Int))), (10, .int (zi qu)), (13, .int (zi (a : Int)))]) hx hb dL_law_145 hl (by decide) rfl (fun ls hl => ?_)
      refine lv_iload hx hb dL_law_147 (lv_at hl 3 rfl) ?_
      refine lv_aload_n hx hb dL_law_149 rfl (lv_at hl 8 rfl) ?_
      refine lv_iload hx hb dL_law_150 (lv_at hl 13 rfl) ?_
      refine lv_iload hx hb dL_law_152 (lv_at hl 13 rfl) ?_
      refine zcall (wr := wr) (wc := zpic G ad X) (va_runV (As := [.int (zi (a : Int)), .int (zi (a : Int))]) (rest := [.int (zi 0)]) ⟨hx, hb, hml, hown, hts⟩ (c_X7_shared l G ad X a a hI.1 (by omega) (by omega) H.size) (cwV 2 hts gL_law_X7_shared rfl rfl rfl (by decide +kernel) ⟨Nat.le_of_ble_eq_true rfl, Nat.le_of_ble_eq_true rfl⟩) (zPreV (As := [.int (zi (a : Int)), .int (zi (a : Int))]) (wr := wr) (wc := zpic G ad X) (q0 := 52) (ci := 7) (q := (RX7, TX7, 8)) hP hD hE hS hA rfl p_52) rfl rfl hl.1 rfl (lv_room (Nat.le_of_ble_eq_true rfl)) dL_law_154 ⟨(by show _ ≤ 600104; omega), (by show _ ≤ 7301314; omega)⟩) hP hD hS hA (fun _ _ H locs hf9 hP hD hS => ?_)
      obtain ⟨v4, rfl, hv4, rfl⟩ := hf9
      have hP : va_P G.1 vwCl (wr ++ zpic G ad X) H := hP
      have hD : va_D A (wr ++ zpic G ad X) := hD
      refine W.eq (g2 := F0 m 157 ls [.int (zi v4), .int (zi 0)]) rfl ?_
      refine zc_gt (tgt := 244) hx hb dL_law_157 (by decide) (by decide) (by omega) (fun h9 => by exfalso; omega) (fun h157 => ?_)
      refine lv_iload hx hb dL_law_160 (lv_at hl 3 rfl) ?_
      refine z0_ne (tgt := 169) hx hb dL_law_162 (by decide) (by decide) (fun h9 => absurd h9 (by decide)) (fun h162 => ?_)
      refine lv_iconst (v := zi 1) hx hb dL_law_165 rfl ?_
      refine lv_goto (tgt := 170) hx hb dL_law_166 (by decide) ?_
      refine lv_iload hx hb dL_law_170 (lv_at hl 0 rfl) ?_
      refine z0_le (tgt := 185) hx hb dL_law_172 (by decide) (by decide) (fun h9 => absurd h9 (by decide)) (fun h172 => ?_)
      refine lv_iload hx hb dL_law_175 (lv_at hl 0 rfl) ?_
      refine lv_iconst (v := zi 4) hx hb dL_law_177 rfl ?_
      refine zc_ge (tgt := 185) hx hb dL_law_178 (by decide) (by decide) (by decide) (fun h9 => absurd h9 (by decide)) (fun h178 => ?_)
      refine lv_iconst (v := zi 1) hx hb dL_law_181 rfl ?_
      refine lv_goto (tgt := 186) hx hb dL_law_182 (by decide) ?_
      refine zc_ne (tgt := 244) hx hb dL_law_186 (by decide) (by decide) (by decide) (fun h9 => absurd h9 (by decide)) (fun h186 => ?_)
      refine lv_aload_n hx hb dL_law_189 rfl (lv_at hl 8 rfl) ?_
      refine lv_iload hx hb dL_law_190 (lv_at hl 13 rfl) ?_
      refine zcall (wr := wr) (wc := zpic G ad X) (va_runV (As := [.int (zi (a : Int))]) (rest := []) ⟨hx, hb, hml, hown, hts⟩ (c_X7_coveredBy l G ad X a hI.1 (by omega) H.size) (cwV 1 hts gL_law_X7_coveredBy rfl rfl rfl (by decide +kernel) ⟨Nat.le_of_ble_eq_true rfl, Nat.le_of_ble_eq_true rfl⟩) (zPreV (As := [.int (zi (a : Int))]) (wr := wr) (wc := zpic G ad X) (q0 := 52) (ci := 7) (q := (RX7, TX7, 8)) hP hD hE hS hA rfl p_52) rfl rfl hl.1 rfl (lv_room (Nat.le_of_ble_eq_true rfl)) dL_law_192 ⟨(by show _ ≤ 600104; omega), (by show _ ≤ 7301314; omega)⟩) hP hD hS hA (fun _ _ H locs hf9 hP hD hS => ?_)
      obtain ⟨v5, rfl, hv5, rfl⟩ := hf9
      have hP : va_P G.1 vwCl (wr ++ zpic G ad X) H := hP
      have hD : va_D A (wr ++ zpic G ad X) := hD
      refine W.eq (g2 := F0 m 195 ls [.int (zi v5)]) rfl ?_
      refine lv_iload hx hb dL_law_195 (lv_at hl 13 rfl) ?_
      refine zc_ge (tgt := 244) hx hb dL_law_197 (by decide) (by omega) (by omega) (fun h9 => by exfalso; omega) (fun h197 => ?_)
      refine lv_aload_n hx hb dL_law_200 rfl (lv_at hl 8 rfl) ?_
      refine lv_iload hx hb dL_law_201 (lv_at hl 13 rfl) ?_
      refine zcall (wr := wr) (wc := zpic G ad X) (va_runV (As := [.int (zi (a : Int))]) (rest := []) ⟨hx, hb, hml, hown, hts⟩ (c_X7_coveredBy l G ad X a hI.1 (by omega) H.size) (cwV 1 hts gL_law_X7_coveredBy rfl rfl rfl (by decide +kernel) ⟨Nat.le_of_ble_eq_true rfl, Nat.le_of_ble_eq_true rfl⟩) (zPreV (As := [.int (zi (a : Int))]) (wr := wr) (wc := zpic G ad X) (q0 := 52) (ci := 7) (q := (RX7, TX7, 8)) hP hD hE hS hA rfl p_52) rfl rfl hl.1 rfl (lv_room (Nat.le_of_ble_eq_true rfl)) dL_law_203 ⟨(by show _ ≤ 600104; omega), (by show _ ≤ 7301314; omega)⟩) hP hD hS hA (fun _ _ H locs hf9 hP hD hS => ?_)
      obtain ⟨v6, rfl, hv6, rfl⟩ := hf9
      have hP : va_P G.1 vwCl (wr ++ zpic G ad X) H := hP
      have hD : va_D A (wr ++ zpic G ad X) := hD
      refine W.eq (g2 := F0 m 206 ls [.int (zi v6)]) rfl ?_
      have hcf := hv6.2.2.f hv6.2.1
      have hcd : 0 ≤ v6 → zDc X a = 0 := fun h0 => zCvF_dead hI.1 ha hv6.2.1 hv6.2.2 h0
      have hs2 : 0 ≤ zCvF X a → zSt X a = 1 ∨ zSt X a = 2 := by rcases hst with ⟨-, -, a3⟩ | ⟨a1, -⟩; exact a3; omega
      refine z0_lt (tgt := 221) hx hb dL_law_206 (by decide) (by omega) (fun h206 => ?_) (fun h206 => ?_)
      · refine lv_iload hx hb dL_law_221 (lv_at hl 0 rfl) ?_
        refine lv_iconst (v := zi 4) hx hb dL_law_223 rfl ?_
        refine zc_ne (tgt := 233) hx hb dL_law_224 (by decide) (by decide) (by decide) (fun h224 => ?_) (fun h9 => absurd h9 (by decide))
        refine lv_aload_n hx hb dL_law_233 rfl (lv_at hl 8 rfl) ?_
        refine lv_iload hx hb dL_law_234 (lv_at hl 13 rfl) ?_
        refine lv_iload hx hb dL_law_236 (lv_at hl 13 rfl) ?_
        refine zcall (wr := wr) (wc := zpic G ad X) (va_runV (As := [.int (zi (a : Int)), .int (zi (a : Int))]) (rest := []) ⟨hx, hb, hml, hown, hts⟩ (c_X7_changedByMove l G ad X a hI.1 hI.2.1 (by omega) H.size) (cwV 2 hts gL_law_X7_changedByMove rfl rfl rfl (by decide +kernel) ⟨Nat.le_of_ble_eq_true rfl, Nat.le_of_ble_eq_true rfl⟩) (zPreV (As := [.int (zi (a : Int)), .int (zi (a : Int))]) (wr := wr) (wc := zpic G ad X) (q0 := 52) (ci := 7) (q := (RX7, TX7, 8)) hP hD hE hS hA rfl p_52) rfl rfl hl.1 rfl (lv_room (Nat.le_of_ble_eq_true rfl)) dL_law_238 ⟨(by show _ ≤ 600104; omega), (by show _ ≤ 7301314; omega)⟩) hP hD hS hA (fun _ _ H locs hf9 hP hD hS => ?_)
        obtain ⟨v7, Y3, rfl, hv7, rfl⟩ := hf9
        have eY3 : X = Y3 := (hv7.2.1 hFr.1).symm
        subst eY3
        have hP : va_P G.1 vwCl (wr ++ zpic G ad X) H := hP
        have hD : va_D A (wr ++ zpic G ad X) := hD
        refine W.eq (g2 := F0 m 241 ls [.int (zi v7)]) rfl ?_
        refine z0_eq (tgt := 246) hx hb dL_law_241 (by decide) (by omega) (fun h241 => ?_) (fun h9 => by exfalso; omega)
        refine lv_iload hx hb dL_law_246 (lv_at hl 0 rfl) ?_
        refine z0_le (tgt := 264) hx hb dL_law_248 (by decide) (by decide) (fun h9 => absurd h9 (by decide)) (fun h248 => ?_)
        refine lv_aload_n hx hb dL_law_251 rfl (lv_at hl 8 rfl) ?_
        refine lv_iload hx hb dL_law_252 (lv_at hl 13 rfl) ?_
        refine zcall (wr := wr) (wc := zpic G ad X) (va_runV (As := [.int (zi (a : Int))]) (rest := []) ⟨hx, hb, hml, hown, hts⟩ (c_X7_allowedWithout l G ad X a hI.1 hI.2.1 (by omega) H.size) (cwV 1 hts gL_law_X7_allowedWithout rfl rfl rfl (by decide +kernel) ⟨Nat.le_of_ble_eq_true rfl, Nat.le_of_ble_eq_true rfl⟩) (zPreV (As := [.int (zi (a : Int))]) (wr := wr) (wc := zpic G ad X) (q0 := 52) (ci := 7) (q := (RX7, TX7, 8)) hP hD hE hS hA rfl p_52) rfl rfl hl.1 rfl (lv_room (Nat.le_of_ble_eq_true rfl)) dL_law_254 ⟨(by show _ ≤ 600104; omega), (by show _ ≤ 7301314; omega)⟩) hP hD hS hA (fun _ _ H locs hf9 hP hD hS => ?_)
        obtain ⟨v8, Y4, rfl, hv8, rfl⟩ := hf9
        have eY4 : X = Y4 := (hv8.2.1 hFr.1).symm
        subst eY4
        have hP : va_P G.1 vwCl (wr ++ zpic G ad X) H := hP
        have hD : va_D A (wr ++ zpic G ad X) := hD
        refine W.eq (g2 := F0 m 257 ls [.int (zi v8)]) rfl ?_
        refine lv_aload_n hx hb dL_law_257 rfl (lv_at hl 8 rfl) ?_
        refine zcall (wr := wr) (wc := zpic G ad X) (va_runV (As := []) (rest := [.int (zi v8)]) ⟨hx, hb, hml, hown, hts⟩ (c_X7_allowed l G ad X hI.1 hI.2.1 H.size) (cwV 0 hts gL_law_X7_allowed rfl rfl rfl (by decide +kernel) ⟨Nat.le_of_ble_eq_true rfl, Nat.le_of_ble_eq_true rfl⟩) (zPreV (As := []) (wr := wr) (wc := zpic G ad X) (q0 := 52) (ci := 7) (q := (RX7, TX7, 8)) hP hD hE hS hA rfl p_52) rfl rfl hl.1 rfl (lv_room (Nat.le_of_ble_eq_true rfl)) dL_law_258 ⟨(by show _ ≤ 600104; omega), (by show _ ≤ 7301314; omega)⟩) hP hD hS hA (fun _ _ H locs hf9 hP hD hS => ?_)
        obtain ⟨v9, Y5, rfl, hv9, rfl⟩ := hf9
        have eY5 : X = Y5 := (hv9.2.1 hFr.1).symm
        subst eY5
        have hP : va_P G.1 vwCl (wr ++ zpic G ad X) H := hP
        have hD : va_D A (wr ++ zpic G ad X) := hD
        refine W.eq (g2 := F0 m 261 ls [.int (zi v9), .int (zi v8)]) rfl ?_
        refine zc_ne (tgt := 283) hx hb dL_law_261 (by decide) (by omega) (by omega) (fun h9 => by exfalso; omega) (fun h261 => ?_)
        refine lv_iload hx hb dL_law_264 (lv_at hl 4 rfl) ?_
        refine lv_iconst (v := zi 2) hx hb dL_law_266 rfl ?_
        refine zc_ne (tgt := 285) hx hb dL_law_267 (by decide) (by decide) (by decide) (fun h9 => absurd h9 (by decide)) (fun h267 => ?_)
        refine lv_aload_n hx hb dL_law_270 rfl (lv_at hl 8 rfl) ?_
        refine lv_iload hx hb dL_law_271 (lv_at hl 13 rfl) ?_
        refine zcall (wr := wr) (wc := zpic G ad X) (va_runV (As := [.int (zi (a : Int))]) (rest := []) ⟨hx, hb, hml, hown, hts⟩ (c_X7_allowedWithout l G ad X a hI.1 hI.2.1 (by omega) H.size) (cwV 1 hts gL_law_X7_allowedWithout rfl rfl rfl (by decide +kernel) ⟨Nat.le_of_ble_eq_true rfl, Nat.le_of_ble_eq_true rfl⟩) (zPreV (As := [.int (zi (a : Int))]) (wr := wr) (wc := zpic G ad X) (q0 := 52) (ci := 7) (q := (RX7, TX7, 8)) hP hD hE hS hA rfl p_52) rfl rfl hl.1 rfl (lv_room (Nat.le_of_ble_eq_true rfl)) dL_law_273 ⟨(by show _ ≤ 600104; omega), (by show _ ≤ 7301314; omega)⟩) hP hD hS hA (fun _ _ H locs hf9 hP hD hS => ?_)
        obtain ⟨v10, Y6, rfl, hv10, rfl⟩ := hf9
        have eY6 : X = Y6 := (hv10.2.1 hFr.1).symm
        subst eY6
        have hP : va_P G.1 vwCl (wr ++ zpic G ad X) H := hP
        have hD : va_D A (wr ++ zpic G ad X) := hD
        refine W.eq (g2 := F0 m 276 ls [.int (zi v10)]) rfl ?_
        refine lv_aload_n hx hb dL_law_276 rfl (lv_at hl 8 rfl) ?_
        refine zcall (wr := wr) (wc := zpic G ad X) (va_runV (As := []) (rest := [.int (zi v10)]) ⟨hx, hb, hml, hown, hts⟩ (c_X7_allowed l G ad X hI.1 hI.2.1 H.size) (cwV 0 hts gL_law_X7_allowed rfl rfl rfl (by decide +kernel) ⟨Nat.le_of_ble_eq_true rfl, Nat.le_of_ble_eq_true rfl⟩) (zPreV (As := []) (wr := wr) (wc := zpic G ad X) (q0 := 52) (ci := 7) (q := (RX7, TX7, 8)) hP hD hE hS hA rfl p_52) rfl rfl hl.1 rfl (lv_room (Nat.le_of_ble_eq_true rfl)) dL_law_277 ⟨(by show _ ≤ 600104; omega), (by show _ ≤ 7301314; omega)⟩) hP hD hS hA (fun _ _ H locs hf9 hP hD hS => ?_)
        obtain ⟨v11, Y7, rfl, hv11, rfl⟩ := hf9
        have eY7 : X = Y7 := (hv11.2.1 hFr.1).symm
        subst eY7
        have hP : va_P G.1 vwCl (wr ++ zpic G ad X) H := hP
        have hD : va_D A (wr ++ zpic G ad X) := hD
        refine W.eq (g2 := F0 m 280 ls [.int (zi v11), .int (zi v10)]) rfl ?_
        refine zc_eq (tgt := 285) hx hb dL_law_280 (by decide) (by omega) (by omega) (fun h280 => ?_) (fun h9 => by exfalso; omega)
        have ezSA : (zSA X a) + 0 = zSA X (a + 1) := by show _ = zSA X a + (if X (zr X 0 a) 0 = 2 then 0 else zDc X a); rw [if_pos hvd.symm]
        have ezSW : (zSW X a) + 0 = zSW X (a + 1) := by show _ = zSW X a + (if X (zr X 0 a) 0 = 1 then zDc X a else 0); rw [if_neg (by omega)]
        rw [ezSA, ezSW] at hl
        exact kk 2 H locs ls hP hD hS (lv_sub hl [5, 6, 7, 8, 9, 10, 2, 11, 12, 1, 13, 4] rfl) hvd
      · refine lv_iload hx hb dL_law_209 (lv_at hl 0 rfl) ?_
        refine lv_iconst (v := zi 1) hx hb dL_law_211 rfl ?_
        refine zc_eq (tgt := 221) hx hb dL_law_212 (by decide) (by decide) (by decide) (fun h9 => absurd h9 (by decide)) (fun h212 => ?_)
        refine lv_iload hx hb dL_law_215 (lv_at hl 0 rfl) ?_
        refine lv_iconst (v := zi 2) hx hb dL_law_217 rfl ?_
        refine zc_ne (tgt := 244) hx hb dL_law_218 (by decide) (by decide) (by decide) (fun h9 => absurd h9 (by decide)) (fun h218 => ?_)
        refine lv_iload hx hb dL_law_221 (lv_at hl 0 rfl) ?_
        refine lv_iconst (v := zi 4) hx hb dL_law_223 rfl ?_
        refine zc_ne (tgt := 233) hx hb dL_law_224 (by decide) (by decide) (by decide) (fun h224 => ?_) (fun h9 => absurd h9 (by decide))
        refine lv_aload_n hx hb dL_law_233 rfl (lv_at hl 8 rfl) ?_
        refine lv_iload hx hb dL_law_234 (lv_at hl 13 rfl) ?_
        refine lv_iload hx hb dL_law_236 (lv_at hl 13 rfl) ?_
        refine zcall (wr := wr) (wc := zpic G ad X) (va_runV (As := [.int (zi (a : Int)), .int (zi (a : Int))]) (rest := []) ⟨hx, hb, hml, hown, hts⟩ (c_X7_changedByMove l G ad X a hI.1 hI.2.1 (by omega) H.size) (cwV 2 hts gL_law_X7_changedByMove rfl rfl rfl (by decide +kernel) ⟨Nat.le_of_ble_eq_true rfl, Nat.le_of_ble_eq_true rfl⟩) (zPreV (As := [.int (zi (a : Int)), .int (zi (a : Int))]) (wr := wr) (wc := zpic G ad X) (q0 := 52) (ci := 7) (q := (RX7, TX7, 8)) hP hD hE hS hA rfl p_52) rfl rfl hl.1 rfl (lv_room (Nat.le_of_ble_eq_true rfl)) dL_law_238 ⟨(by show _ ≤ 600104; omega), (by show _ ≤ 7301314; omega)⟩) hP hD hS hA (fun _ _ H locs hf9 hP hD hS => ?_)
        obtain ⟨v7, Y3, rfl, hv7, rfl⟩ := hf9
        have eY3 : X = Y3 := (hv7.2.1 hFr.1).symm
        subst eY3
        have hP : va_P G.1 vwCl (wr ++ zpic G ad X) H := hP
        have hD : va_D A (wr ++ zpic G ad X) := hD
        refine W.eq (g2 := F0 m 241 ls [.int (zi v7)]) rfl ?_
        refine z0_eq (tgt := 246) hx hb dL_law_241 (by decide) (by omega) (fun h241 => ?_) (fun h9 => by exfalso; omega)
        refine lv_iload hx hb dL_law_246 (lv_at hl 0 rfl) ?_
        refine z0_le (tgt := 264) hx hb dL_law_248 (by decide) (by decide) (fun h9 => absurd h9 (by decide)) (fun h248 => ?_)
        refine lv_aload_n hx hb dL_law_251 rfl (lv_at hl 8 rfl) ?_
        refine lv_iload hx hb dL_law_252 (lv_at hl 13 rfl) ?_
        refine zcall (wr := wr) (wc := zpic G ad X) (va_runV (As := [.int (zi (a : Int))]) (rest := []) ⟨hx, hb, hml, hown, hts⟩ (c_X7_allowedWithout l G ad X a hI.1 hI.2.1 (by omega) H.size) (cwV 1 hts gL_law_X7_allowedWithout rfl rfl rfl (by decide +kernel) ⟨Nat.le_of_ble_eq_true rfl, Nat.le_of_ble_eq_true rfl⟩) (zPreV (As := [.int (zi (a : Int))]) (wr := wr) (wc := zpic G ad X) (q0 := 52) (ci := 7) (q := (RX7, TX7, 8)) hP hD hE hS hA rfl p_52) rfl rfl hl.1 rfl (lv_room (Nat.le_of_ble_eq_true rfl)) dL_law_254 ⟨(by show _ ≤ 600104; omega), (by show _ ≤ 7301314; omega)⟩) hP hD hS hA (fun _ _ H locs hf9 hP hD hS => ?_)
        obtain ⟨v8, Y4, rfl, hv8, rfl⟩ := hf9
        have eY4 : X = Y4 := (hv8.2.1 hFr.1).symm
        subst eY4
        have hP : va_P G.1 vwCl (wr ++ zpic G ad X) H := hP
        have hD : va_D A (wr ++ zpic G ad X) := hD
        refine W.eq (g2 := F0 m 257 ls [.int (zi v8)]) rfl ?_
        refine lv_aload_n hx hb dL_law_257 rfl (lv_at hl 8 rfl) ?_
        refine zcall (wr := wr) (wc := zpic G ad X) (va_runV (As := []) (rest := [.int (zi v8)]) ⟨hx, hb, hml, hown, hts⟩ (c_X7_allowed l G ad X hI.1 hI.2.1 H.size) (cwV 0 hts gL_law_X7_allowed rfl rfl rfl (by decide +kernel) ⟨Nat.le_of_ble_eq_true rfl, Nat.le_of_ble_eq_true rfl⟩) (zPreV (As := []) (wr := wr) (wc := zpic G ad X) (q0 := 52) (ci := 7) (q := (RX7, TX7, 8)) hP hD hE hS hA rfl p_52) rfl rfl hl.1 rfl (lv_room (Nat.le_of_ble_eq_true rfl)) dL_law_258 ⟨(by show _ ≤ 600104; omega), (by show _ ≤ 7301314; omega)⟩) hP hD hS hA (fun _ _ H locs hf9 hP hD hS => ?_)
        obtain ⟨v9, Y5, rfl, hv9, rfl⟩ := hf9
        have eY5 : X = Y5 := (hv9.2.1 hFr.1).symm
        subst eY5
        have hP : va_P G.1 vwCl (wr ++ zpic G ad X) H := hP
        have hD : va_D A (wr ++ zpic G ad X) := hD
        refine W.eq (g2 := F0 m 261 ls [.int (zi v9), .int (zi v8)]) rfl ?_
        refine zc_ne (tgt := 283) hx hb dL_law_261 (by decide) (by omega) (by omega) (fun h9 => by exfalso; omega) (fun h261 => ?_)
        refine lv_iload hx hb dL_law_264 (lv_at hl 4 rfl) ?_
        refine lv_iconst (v := zi 2) hx hb dL_law_266 rfl ?_
        refine zc_ne (tgt := 285) hx hb dL_law_267 (by decide) (by decide) (by decide) (fun h9 => absurd h9 (by decide)) (fun h267 => ?_)
        refine lv_aload_n hx hb dL_law_270 rfl (lv_at hl 8 rfl) ?_
        refine lv_iload hx hb dL_law_271 (lv_at hl 13 rfl) ?_
        refine zcall (wr := wr) (wc := zpic G ad X) (va_runV (As := [.int (zi (a : Int))]) (rest := []) ⟨hx, hb, hml, hown, hts⟩ (c_X7_allowedWithout l G ad X a hI.1 hI.2.1 (by omega) H.size) (cwV 1 hts gL_law_X7_allowedWithout rfl rfl rfl (by decide +kernel) ⟨Nat.le_of_ble_eq_true rfl, Nat.le_of_ble_eq_true rfl⟩) (zPreV (As := [.int (zi (a : Int))]) (wr := wr) (wc := zpic G ad X) (q0 := 52) (ci := 7) (q := (RX7, TX7, 8)) hP hD hE hS hA rfl p_52) rfl rfl hl.1 rfl (lv_room (Nat.le_of_ble_eq_true rfl)) dL_law_273 ⟨(by show _ ≤ 600104; omega), (by show _ ≤ 7301314; omega)⟩) hP hD hS hA (fun _ _ H locs hf9 hP hD hS => ?_)
        obtain ⟨v10, Y6, rfl, hv10, rfl⟩ := hf9
        have eY6 : X = Y6 := (hv10.2.1 hFr.1).symm
        subst eY6
        have hP : va_P G.1 vwCl (wr ++ zpic G ad X) H := hP
        have hD : va_D A (wr ++ zpic G ad X) := hD
        refine W.eq (g2 := F0 m 276 ls [.int (zi v10)]) rfl ?_
        refine lv_aload_n hx hb dL_law_276 rfl (lv_at hl 8 rfl) ?_
        refine zcall (wr := wr) (wc := zpic G ad X) (va_runV (As := []) (rest := [.int (zi v10)]) ⟨hx, hb, hml, hown, hts⟩ (c_X7_allowed l G ad X hI.1 hI.2.1 H.size) (cwV 0 hts gL_law_X7_allowed rfl rfl rfl (by decide +kernel) ⟨Nat.le_of_ble_eq_true rfl, Nat.le_of_ble_eq_true rfl⟩) (zPreV (As := []) (wr := wr) (wc := zpic G ad X) (q0 := 52) (ci := 7) (q := (RX7, TX7, 8)) hP hD hE hS hA rfl p_52) rfl rfl hl.1 rfl (lv_room (Nat.le_of_ble_eq_true rfl)) dL_law_277 ⟨(by show _ ≤ 600104; omega), (by show _ ≤ 7301314; omega)⟩) hP hD hS hA (fun _ _ H locs hf9 hP hD hS => ?_)
        obtain ⟨v11, Y7, rfl, hv11, rfl⟩ := hf9
        have eY7 : X = Y7 := (hv11.2.1 hFr.1).symm
        subst eY7
        have hP : va_P G.1 vwCl (wr ++ zpic G ad X) H := hP
        have hD : va_D A (wr ++ zpic G ad X) := hD
        refine W.eq (g2 := F0 m 280 ls [.int (zi v11), .int (zi v10)]) rfl ?_
        refine zc_eq (tgt := 285) hx hb dL_law_280 (by decide) (by omega) (by omega) (fun h280 => ?_) (fun h9 => by exfalso; omega)
        have ezSA : (zSA X a) + 0 = zSA X (a + 1) := by show _ = zSA X a + (if X (zr X 0 a) 0 = 2 then 0 else zDc X a); rw [if_pos hvd.symm]
        have ezSW : (zSW X a) + 0 = zSW X (a + 1) := by show _ = zSW X a + (if X (zr X 0 a) 0 = 1 then zDc X a else 0); rw [if_neg (by omega)]
        rw [ezSA, ezSW] at hl
        exact kk 2 H locs ls hP hD hS (lv_sub hl [5, 6, 7, 8, 9, 10, 2, 11, 12, 1, 13, 4] rfl) hvd
    · refine lv_istore (lv' := [(16, .int (zi 3)), (11, .long (zln ((zSW X a) + 0))), (7, .long (zln ((zSA X a) + 0))), (15, .int (zi 0)), (14, .int (zi 2)), (0, .ref b), (1, .int (zi tm)), (2, .ref g0), (3, .ref (ad 52)), (4, .int (zi st)), (5, .long dg), (9, .int (zi (zN X 0 : Int))), (10, .int (zi qu)), (13, .int (zi (a : Int)))]) hx hb dL_law_145 hl (by decide) rfl (fun ls hl => ?_)
      refine lv_iload hx hb dL_law_147 (lv_at hl 3 rfl) ?_
      refine lv_aload_n hx hb dL_law_149 rfl (lv_at hl 8 rfl) ?_
      refine lv_iload hx hb dL_law_150 (lv_at hl 13 rfl) ?_
      refine lv_iload hx hb dL_law_152 (lv_at hl 13 rfl) ?_
      refine zcall (wr := wr) (wc := zpic G ad X) (va_runV (As := [.int (zi (a : Int)), .int (zi (a : Int))]) (rest := [.int (zi 0)]) ⟨hx, hb, hml, hown, hts⟩ (c_X7_shared l G ad X a a hI.1 (by omega) (by omega) H.size) (cwV 2 hts gL_law_X7_shared rfl rfl rfl (by decide +kernel) ⟨Nat.le_of_ble_eq_true rfl, Nat.le_of_ble_eq_true rfl⟩) (zPreV (As := [.int (zi (a : Int)), .int (zi (a : Int))]) (wr := wr) (wc := zpic G ad X) (q0 := 52) (ci := 7) (q := (RX7, TX7, 8)) hP hD hE hS hA rfl p_52) rfl rfl hl.1 rfl (lv_room (Nat.le_of_ble_eq_true rfl)) dL_law_154 ⟨(by show _ ≤ 600104; omega), (by show _ ≤ 7301314; omega)⟩) hP hD hS hA (fun _ _ H locs hf9 hP hD hS => ?_)
      obtain ⟨v4, rfl, hv4, rfl⟩ := hf9
      have hP : va_P G.1 vwCl (wr ++ zpic G ad X) H := hP
      have hD : va_D A (wr ++ zpic G ad X) := hD
      refine W.eq (g2 := F0 m 157 ls [.int (zi v4), .int (zi 0)]) rfl ?_
      refine zc_gt (tgt := 244) hx hb dL_law_157 (by decide) (by decide) (by omega) (fun h9 => by exfalso; omega) (fun h157 => ?_)
      refine lv_iload hx hb dL_law_160 (lv_at hl 3 rfl) ?_
      refine z0_ne (tgt := 169) hx hb dL_law_162 (by decide) (by decide) (fun h9 => absurd h9 (by decide)) (fun h162 => ?_)
      refine lv_iconst (v := zi 1) hx hb dL_law_165 rfl ?_
      refine lv_goto (tgt := 170) hx hb dL_law_166 (by decide) ?_
      refine lv_iload hx hb dL_law_170 (lv_at hl 0 rfl) ?_
      refine z0_le (tgt := 185) hx hb dL_law_172 (by decide) (by decide) (fun h9 => absurd h9 (by decide)) (fun h172 => ?_)
      refine lv_iload hx hb dL_law_175 (lv_at hl 0 rfl) ?_
      refine lv_iconst (v := zi 4) hx hb dL_law_177 rfl ?_
      refine zc_ge (tgt := 185) hx hb dL_law_178 (by decide) (by decide) (by decide) (fun h9 => absurd h9 (by decide)) (fun h178 => ?_)
      refine lv_iconst (v := zi 1) hx hb dL_law_181 rfl ?_
      refine lv_goto (tgt := 186) hx hb dL_law_182 (by decide) ?_
      refine zc_ne (tgt := 244) hx hb dL_law_186 (by decide) (by decide) (by decide) (fun h9 => absurd h9 (by decide)) (fun h186 => ?_)
      refine lv_aload_n hx hb dL_law_189 rfl (lv_at hl 8 rfl) ?_
      refine lv_iload hx hb dL_law_190 (lv_at hl 13 rfl) ?_
      refine zcall (wr := wr) (wc := zpic G ad X) (va_runV (As := [.int (zi (a : Int))]) (rest := []) ⟨hx, hb, hml, hown, hts⟩ (c_X7_coveredBy l G ad X a hI.1 (by omega) H.size) (cwV 1 hts gL_law_X7_coveredBy rfl rfl rfl (by decide +kernel) ⟨Nat.le_of_ble_eq_true rfl, Nat.le_of_ble_eq_true rfl⟩) (zPreV (As := [.int (zi (a : Int))]) (wr := wr) (wc := zpic G ad X) (q0 := 52) (ci := 7) (q := (RX7, TX7, 8)) hP hD hE hS hA rfl p_52) rfl rfl hl.1 rfl (lv_room (Nat.le_of_ble_eq_true rfl)) dL_law_192 ⟨(by show _ ≤ 600104; omega), (by show _ ≤ 7301314; omega)⟩) hP hD hS hA (fun _ _ H locs hf9 hP hD hS => ?_)
      obtain ⟨v5, rfl, hv5, rfl⟩ := hf9
      have hP : va_P G.1 vwCl (wr ++ zpic G ad X) H := hP
      have hD : va_D A (wr ++ zpic G ad X) := hD
      refine W.eq (g2 := F0 m 195 ls [.int (zi v5)]) rfl ?_
      refine lv_iload hx hb dL_law_195 (lv_at hl 13 rfl) ?_
      refine zc_ge (tgt := 244) hx hb dL_law_197 (by decide) (by omega) (by omega) (fun h9 => by exfalso; omega) (fun h197 => ?_)
      refine lv_aload_n hx hb dL_law_200 rfl (lv_at hl 8 rfl) ?_
      refine lv_iload hx hb dL_law_201 (lv_at hl 13 rfl) ?_
      refine zcall (wr := wr) (wc := zpic G ad X) (va_runV (As := [.int (zi (a : Int))]) (rest := []) ⟨hx, hb, hml, hown, hts⟩ (c_X7_coveredBy l G ad X a hI.1 (by omega) H.size) (cwV 1 hts gL_law_X7_coveredBy rfl rfl rfl (by decide +kernel) ⟨Nat.le_of_ble_eq_true rfl, Nat.le_of_ble_eq_true rfl⟩) (zPreV (As := [.int (zi (a : Int))]) (wr := wr) (wc := zpic G ad X) (q0 := 52) (ci := 7) (q := (RX7, TX7, 8)) hP hD hE hS hA rfl p_52) rfl rfl hl.1 rfl (lv_room (Nat.le_of_ble_eq_true rfl)) dL_law_203 ⟨(by show _ ≤ 600104; omega), (by show _ ≤ 7301314; omega)⟩) hP hD hS hA (fun _ _ H locs hf9 hP hD hS => ?_)
      obtain ⟨v6, rfl, hv6, rfl⟩ := hf9
      have hP : va_P G.1 vwCl (wr ++ zpic G ad X) H := hP
      have hD : va_D A (wr ++ zpic G ad X) := hD
      refine W.eq (g2 := F0 m 206 ls [.int (zi v6)]) rfl ?_
      have hcf := hv6.2.2.f hv6.2.1
      have hcd : 0 ≤ v6 → zDc X a = 0 := fun h0 => zCvF_dead hI.1 ha hv6.2.1 hv6.2.2 h0
      have hs2 : 0 ≤ zCvF X a → zSt X a = 1 ∨ zSt X a = 2 := by rcases hst with ⟨-, -, a3⟩ | ⟨a1, -⟩; exact a3; omega
      refine z0_lt (tgt := 221) hx hb dL_law_206 (by decide) (by omega) (fun h206 => ?_) (fun h9 => by exfalso; omega)
      refine lv_iload hx hb dL_law_221 (lv_at hl 0 rfl) ?_
      refine lv_iconst (v := zi 4) hx hb dL_law_223 rfl ?_
      refine zc_ne (tgt := 233) hx hb dL_law_224 (by decide) (by decide) (by decide) (fun h224 => ?_) (fun h9 => absurd h9 (by decide))
      refine lv_aload_n hx hb dL_law_233 rfl (lv_at hl 8 rfl) ?_
      refine lv_iload hx hb dL_law_234 (lv_at hl 13 rfl) ?_
      refine lv_iload hx hb dL_law_236 (lv_at hl 13 rfl) ?_
      refine zcall (wr := wr) (wc := zpic G ad X) (va_runV (As := [.int (zi (a : Int)), .int (zi (a : Int))]) (rest := []) ⟨hx, hb, hml, hown, hts⟩ (c_X7_changedByMove l G ad X a hI.1 hI.2.1 (by omega) H.size) (cwV 2 hts gL_law_X7_changedByMove rfl rfl rfl (by decide +kernel) ⟨Nat.le_of_ble_eq_true rfl, Nat.le_of_ble_eq_true rfl⟩) (zPreV (As := [.int (zi (a : Int)), .int (zi (a : Int))]) (wr := wr) (wc := zpic G ad X) (q0 := 52) (ci := 7) (q := (RX7, TX7, 8)) hP hD hE hS hA rfl p_52) rfl rfl hl.1 rfl (lv_room (Nat.le_of_ble_eq_true rfl)) dL_law_238 ⟨(by show _ ≤ 600104; omega), (by show _ ≤ 7301314; omega)⟩) hP hD hS hA (fun _ _ H locs hf9 hP hD hS => ?_)
      obtain ⟨v7, Y3, rfl, hv7, rfl⟩ := hf9
      have eY3 : X = Y3 := (hv7.2.1 hFr.1).symm
      subst eY3
      have hP : va_P G.1 vwCl (wr ++ zpic G ad X) H := hP
      have hD : va_D A (wr ++ zpic G ad X) := hD
      refine W.eq (g2 := F0 m 241 ls [.int (zi v7)]) rfl ?_
      refine z0_eq (tgt := 246) hx hb dL_law_241 (by decide) (by omega) (fun h241 => ?_) (fun h9 => by exfalso; omega)
      refine lv_iload hx hb dL_law_246 (lv_at hl 0 rfl) ?_
      refine z0_le (tgt := 264) hx hb dL_law_248 (by decide) (by decide) (fun h9 => absurd h9 (by decide)) (fun h248 => ?_)
      refine lv_aload_n hx hb dL_law_251 rfl (lv_at hl 8 rfl) ?_
      refine lv_iload hx hb dL_law_252 (lv_at hl 13 rfl) ?_
      refine zcall (wr := wr) (wc := zpic G ad X) (va_runV (As := [.int (zi (a : Int))]) (rest := []) ⟨hx, hb, hml, hown, hts⟩ (c_X7_allowedWithout l G ad X a hI.1 hI.2.1 (by omega) H.size) (cwV 1 hts gL_law_X7_allowedWithout rfl rfl rfl (by decide +kernel) ⟨Nat.le_of_ble_eq_true rfl, Nat.le_of_ble_eq_true rfl⟩) (zPreV (As := [.int (zi (a : Int))]) (wr := wr) (wc := zpic G ad X) (q0 := 52) (ci := 7) (q := (RX7, TX7, 8)) hP hD hE hS hA rfl p_52) rfl rfl hl.1 rfl (lv_room (Nat.le_of_ble_eq_true rfl)) dL_law_254 ⟨(by show _ ≤ 600104; omega), (by show _ ≤ 7301314; omega)⟩) hP hD hS hA (fun _ _ H locs hf9 hP hD hS => ?_)
      obtain ⟨v8, Y4, rfl, hv8, rfl⟩ := hf9
      have eY4 : X = Y4 := (hv8.2.1 hFr.1).symm
      subst eY4
      have hP : va_P G.1 vwCl (wr ++ zpic G ad X) H := hP
      have hD : va_D A (wr ++ zpic G ad X) := hD
      refine W.eq (g2 := F0 m 257 ls [.int (zi v8)]) rfl ?_
      refine lv_aload_n hx hb dL_law_257 rfl (lv_at hl 8 rfl) ?_
      refine zcall (wr := wr) (wc := zpic G ad X) (va_runV (As := []) (rest := [.int (zi v8)]) ⟨hx, hb, hml, hown, hts⟩ (c_X7_allowed l G ad X hI.1 hI.2.1 H.size) (cwV 0 hts gL_law_X7_allowed rfl rfl rfl (by decide +kernel) ⟨Nat.le_of_ble_eq_true rfl, Nat.le_of_ble_eq_true rfl⟩) (zPreV (As := []) (wr := wr) (wc := zpic G ad X) (q0 := 52) (ci := 7) (q := (RX7, TX7, 8)) hP hD hE hS hA rfl p_52) rfl rfl hl.1 rfl (lv_room (Nat.le_of_ble_eq_true rfl)) dL_law_258 ⟨(by show _ ≤ 600104; omega), (by show _ ≤ 7301314; omega)⟩) hP hD hS hA (fun _ _ H locs hf9 hP hD hS => ?_)
      obtain ⟨v9, Y5, rfl, hv9, rfl⟩ := hf9
      have eY5 : X = Y5 := (hv9.2.1 hFr.1).symm
      subst eY5
      have hP : va_P G.1 vwCl (wr ++ zpic G ad X) H := hP
      have hD : va_D A (wr ++ zpic G ad X) := hD
      refine W.eq (g2 := F0 m 261 ls [.int (zi v9), .int (zi v8)]) rfl ?_
      refine zc_ne (tgt := 283) hx hb dL_law_261 (by decide) (by omega) (by omega) (fun h9 => by exfalso; omega) (fun h261 => ?_)
      refine lv_iload hx hb dL_law_264 (lv_at hl 4 rfl) ?_
      refine lv_iconst (v := zi 2) hx hb dL_law_266 rfl ?_
      refine zc_ne (tgt := 285) hx hb dL_law_267 (by decide) (by decide) (by decide) (fun h9 => absurd h9 (by decide)) (fun h267 => ?_)
      refine lv_aload_n hx hb dL_law_270 rfl (lv_at hl 8 rfl) ?_
      refine lv_iload hx hb dL_law_271 (lv_at hl 13 rfl) ?_
      refine zcall (wr := wr) (wc := zpic G ad X) (va_runV (As := [.int (zi (a : Int))]) (rest := []) ⟨hx, hb, hml, hown, hts⟩ (c_X7_allowedWithout l G ad X a hI.1 hI.2.1 (by omega) H.size) (cwV 1 hts gL_law_X7_allowedWithout rfl rfl rfl (by decide +kernel) ⟨Nat.le_of_ble_eq_true rfl, Nat.le_of_ble_eq_true rfl⟩) (zPreV (As := [.int (zi (a : Int))]) (wr := wr) (wc := zpic G ad X) (q0 := 52) (ci := 7) (q := (RX7, TX7, 8)) hP hD hE hS hA rfl p_52) rfl rfl hl.1 rfl (lv_room (Nat.le_of_ble_eq_true rfl)) dL_law_273 ⟨(by show _ ≤ 600104; omega), (by show _ ≤ 7301314; omega)⟩) hP hD hS hA (fun _ _ H locs hf9 hP hD hS => ?_)
      obtain ⟨v10, Y6, rfl, hv10, rfl⟩ := hf9
      have eY6 : X = Y6 := (hv10.2.1 hFr.1).symm
      subst eY6
      have hP : va_P G.1 vwCl (wr ++ zpic G ad X) H := hP
      have hD : va_D A (wr ++ zpic G ad X) := hD
      refine W.eq (g2 := F0 m 276 ls [.int (zi v10)]) rfl ?_
      refine lv_aload_n hx hb dL_law_276 rfl (lv_at hl 8 rfl) ?_
      refine zcall (wr := wr) (wc := zpic G ad X) (va_runV (As := []) (rest := [.int (zi v10)]) ⟨hx, hb, hml, hown, hts⟩ (c_X7_allowed l G ad X hI.1 hI.2.1 H.size) (cwV 0 hts gL_law_X7_allowed rfl rfl rfl (by decide +kernel) ⟨Nat.le_of_ble_eq_true rfl, Nat.le_of_ble_eq_true rfl⟩) (zPreV (As := []) (wr := wr) (wc := zpic G ad X) (q0 := 52) (ci := 7) (q := (RX7, TX7, 8)) hP hD hE hS hA rfl p_52) rfl rfl hl.1 rfl (lv_room (Nat.le_of_ble_eq_true rfl)) dL_law_277 ⟨(by show _ ≤ 600104; omega), (by show _ ≤ 7301314; omega)⟩) hP hD hS hA (fun _ _ H locs hf9 hP hD hS => ?_)
      obtain ⟨v11, Y7, rfl, hv11, rfl⟩ := hf9
      have eY7 : X = Y7 := (hv11.2.1 hFr.1).symm
      subst eY7
      have hP : va_P G.1 vwCl (wr ++ zpic G ad X) H := hP
      have hD : va_D A (wr ++ zpic G ad X) := hD
      refine W.eq (g2 := F0 m 280 ls [.int (zi v11), .int (zi v10)]) rfl ?_
      refine zc_eq (tgt := 285) hx hb dL_law_280 (by decide) (by omega) (by omega) (fun h280 => ?_) (fun h9 => by exfalso; omega)
      have ezSA : (zSA X a) + 0 = zSA X (a + 1) := by show _ = zSA X a + (if X (zr X 0 a) 0 = 2 then 0 else zDc X a); rw [if_pos hvd.symm]
      have ezSW : (zSW X a) + 0 = zSW X (a + 1) := by show _ = zSW X a + (if X (zr X 0 a) 0 = 1 then zDc X a else 0); rw [if_neg (by omega)]
      rw [ezSA, ezSW] at hl
      exact kk 2 H locs ls hP hD hS (lv_sub hl [5, 6, 7, 8, 9, 10, 2, 11, 12, 1, 13, 4] rfl) hvd
    · exact absurd (show zNm X a by rcases hst with ⟨a1, -, -⟩ | ⟨-, ⟨-, a2⟩ | a2⟩; omega; exact a2; omega) hno
    · refine lv_istore (lv' := [(16, .int (zi 0)), (11, .long (zln ((zSW X a) + 0))), (7, .long (zln ((zSA X a) + 0))), (15, .int (zi v2)), (14, .int (zi 2)), (0, .ref b), (1, .int (zi tm)), (2, .ref g0), (3, .ref (ad 52)), (4, .int (zi st)), (5, .long dg), (9, .int (zi (zN X 0 : Int))), (10, .int (zi qu)), (13, .int (zi (a : Int)))]) hx hb dL_law_145 hl (by decide) rfl (fun ls hl => ?_)
      refine lv_iload hx hb dL_law_147 (lv_at hl 3 rfl) ?_
      refine lv_aload_n hx hb dL_law_149 rfl (lv_at hl 8 rfl) ?_
      refine lv_iload hx hb dL_law_150 (lv_at hl 13 rfl) ?_
      refine lv_iload hx hb dL_law_152 (lv_at hl 13 rfl) ?_
      refine zcall (wr := wr) (wc := zpic G ad X) (va_runV (As := [.int (zi (a : Int)), .int (zi (a : Int))]) (rest := [.int (zi v2)]) ⟨hx, hb, hml, hown, hts⟩ (c_X7_shared l G ad X a a hI.1 (by omega) (by omega) H.size) (cwV 2 hts gL_law_X7_shared rfl rfl rfl (by decide +kernel) ⟨Nat.le_of_ble_eq_true rfl, Nat.le_of_ble_eq_true rfl⟩) (zPreV (As := [.int (zi (a : Int)), .int (zi (a : Int))]) (wr := wr) (wc := zpic G ad X) (q0 := 52) (ci := 7) (q := (RX7, TX7, 8)) hP hD hE hS hA rfl p_52) rfl rfl hl.1 rfl (lv_room (Nat.le_of_ble_eq_true rfl)) dL_law_154 ⟨(by show _ ≤ 600104; omega), (by show _ ≤ 7301314; omega)⟩) hP hD hS hA (fun _ _ H locs hf9 hP hD hS => ?_)
      obtain ⟨v4, rfl, hv4, rfl⟩ := hf9
      have hP : va_P G.1 vwCl (wr ++ zpic G ad X) H := hP
      have hD : va_D A (wr ++ zpic G ad X) := hD
      refine W.eq (g2 := F0 m 157 ls [.int (zi v4), .int (zi v2)]) rfl ?_
      refine zc_gt (tgt := 244) hx hb dL_law_157 (by decide) (by omega) (by omega) (fun h9 => by exfalso; omega) (fun h157 => ?_)
      refine lv_iload hx hb dL_law_160 (lv_at hl 3 rfl) ?_
      refine z0_ne (tgt := 169) hx hb dL_law_162 (by decide) (by omega) (fun h162 => ?_) (fun h9 => by exfalso; omega)
      refine lv_iconst (v := zi 0) hx hb dL_law_169 rfl ?_
      refine lv_iload hx hb dL_law_170 (lv_at hl 0 rfl) ?_
      refine z0_le (tgt := 185) hx hb dL_law_172 (by decide) (by decide) (fun h172 => ?_) (fun h9 => absurd h9 (by decide))
      refine lv_iconst (v := zi 0) hx hb dL_law_185 rfl ?_
      refine zc_ne (tgt := 244) hx hb dL_law_186 (by decide) (by decide) (by decide) (fun h9 => absurd h9 (by decide)) (fun h186 => ?_)
      refine lv_aload_n hx hb dL_law_189 rfl (lv_at hl 8 rfl) ?_
      refine lv_iload hx hb dL_law_190 (lv_at hl 13 rfl) ?_
      refine zcall (wr := wr) (wc := zpic G ad X) (va_runV (As := [.int (zi (a : Int))]) (rest := []) ⟨hx, hb, hml, hown, hts⟩ (c_X7_coveredBy l G ad X a hI.1 (by omega) H.size) (cwV 1 hts gL_law_X7_coveredBy rfl rfl rfl (by decide +kernel) ⟨Nat.le_of_ble_eq_true rfl, Nat.le_of_ble_eq_true rfl⟩) (zPreV (As := [.int (zi (a : Int))]) (wr := wr) (wc := zpic G ad X) (q0 := 52) (ci := 7) (q := (RX7, TX7, 8)) hP hD hE hS hA rfl p_52) rfl rfl hl.1 rfl (lv_room (Nat.le_of_ble_eq_true rfl)) dL_law_192 ⟨(by show _ ≤ 600104; omega), (by show _ ≤ 7301314; omega)⟩) hP hD hS hA (fun _ _ H locs hf9 hP hD hS => ?_)
      obtain ⟨v5, rfl, hv5, rfl⟩ := hf9
      have hP : va_P G.1 vwCl (wr ++ zpic G ad X) H := hP
      have hD : va_D A (wr ++ zpic G ad X) := hD
      refine W.eq (g2 := F0 m 195 ls [.int (zi v5)]) rfl ?_
      refine lv_iload hx hb dL_law_195 (lv_at hl 13 rfl) ?_
      refine zc_ge (tgt := 244) hx hb dL_law_197 (by decide) (by omega) (by omega) (fun h9 => by exfalso; omega) (fun h197 => ?_)
      refine lv_aload_n hx hb dL_law_200 rfl (lv_at hl 8 rfl) ?_
      refine lv_iload hx hb dL_law_201 (lv_at hl 13 rfl) ?_
      refine zcall (wr := wr) (wc := zpic G ad X) (va_runV (As := [.int (zi (a : Int))]) (rest := []) ⟨hx, hb, hml, hown, hts⟩ (c_X7_coveredBy l G ad X a hI.1 (by omega) H.size) (cwV 1 hts gL_law_X7_coveredBy rfl rfl rfl (by decide +kernel) ⟨Nat.le_of_ble_eq_true rfl, Nat.le_of_ble_eq_true rfl⟩) (zPreV (As := [.int (zi (a : Int))]) (wr := wr) (wc := zpic G ad X) (q0 := 52) (ci := 7) (q := (RX7, TX7, 8)) hP hD hE hS hA rfl p_52) rfl rfl hl.1 rfl (lv_room (Nat.le_of_ble_eq_true rfl)) dL_law_203 ⟨(by show _ ≤ 600104; omega), (by show _ ≤ 7301314; omega)⟩) hP hD hS hA (fun _ _ H locs hf9 hP hD hS => ?_)
      obtain ⟨v6, rfl, hv6, rfl⟩ := hf9
      have hP : va_P G.1 vwCl (wr ++ zpic G ad X) H := hP
      have hD : va_D A (wr ++ zpic G ad X) := hD
      refine W.eq (g2 := F0 m 206 ls [.int (zi v6)]) rfl ?_
      have hcf := hv6.2.2.f hv6.2.1
      have hcd : 0 ≤ v6 → zDc X a = 0 := fun h0 => zCvF_dead hI.1 ha hv6.2.1 hv6.2.2 h0
      refine z0_lt (tgt := 221) hx hb dL_law_206 (by decide) (by omega) (fun h206 => ?_) (fun h9 => by exfalso; omega)
      refine lv_iload hx hb dL_law_221 (lv_at hl 0 rfl) ?_
      refine lv_iconst (v := zi 4) hx hb dL_law_223 rfl ?_
      refine zc_ne (tgt := 233) hx hb dL_law_224 (by decide) (by decide) (by decide) (fun h224 => ?_) (fun h9 => absurd h9 (by decide))
      refine lv_aload_n hx hb dL_law_233 rfl (lv_at hl 8 rfl) ?_
      refine lv_iload hx hb dL_law_234 (lv_at hl 13 rfl) ?_
      refine lv_iload hx hb dL_law_236 (lv_at hl 13 rfl) ?_
      refine zcall (wr := wr) (wc := zpic G ad X) (va_runV (As := [.int (zi (a : Int)), .int (zi (a : Int))]) (rest := []) ⟨hx, hb, hml, hown, hts⟩ (c_X7_changedByMove l G ad X a hI.1 hI.2.1 (by omega) H.size) (cwV 2 hts gL_law_X7_changedByMove rfl rfl rfl (by decide +kernel) ⟨Nat.le_of_ble_eq_true rfl, Nat.le_of_ble_eq_true rfl⟩) (zPreV (As := [.int (zi (a : Int)), .int (zi (a : Int))]) (wr := wr) (wc := zpic G ad X) (q0 := 52) (ci := 7) (q := (RX7, TX7, 8)) hP hD hE hS hA rfl p_52) rfl rfl hl.1 rfl (lv_room (Nat.le_of_ble_eq_true rfl)) dL_law_238 ⟨(by show _ ≤ 600104; omega), (by show _ ≤ 7301314; omega)⟩) hP hD hS hA (fun _ _ H locs hf9 hP hD hS => ?_)
      obtain ⟨v7, Y3, rfl, hv7, rfl⟩ := hf9
      have eY3 : X = Y3 := (hv7.2.1 hFr.1).symm
      subst eY3
      have hP : va_P G.1 vwCl (wr ++ zpic G ad X) H := hP
      have hD : va_D A (wr ++ zpic G ad X) := hD
      refine W.eq (g2 := F0 m 241 ls [.int (zi v7)]) rfl ?_
      refine z0_eq (tgt := 246) hx hb dL_law_241 (by decide) (by omega) (fun h241 => ?_) (fun h9 => by exfalso; omega)
      refine lv_iload hx hb dL_law_246 (lv_at hl 0 rfl) ?_
      refine z0_le (tgt := 264) hx hb dL_law_248 (by decide) (by decide) (fun h248 => ?_) (fun h9 => absurd h9 (by decide))
      refine lv_iload hx hb dL_law_264 (lv_at hl 4 rfl) ?_
      refine lv_iconst (v := zi 2) hx hb dL_law_266 rfl ?_
      refine zc_ne (tgt := 285) hx hb dL_law_267 (by decide) (by decide) (by decide) (fun h9 => absurd h9 (by decide)) (fun h267 => ?_)
      refine lv_aload_n hx hb dL_law_270 rfl (lv_at hl 8 rfl) ?_
      refine lv_iload hx hb dL_law_271 (lv_at hl 13 rfl) ?_
      refine zcall (wr := wr) (wc := zpic G ad X) (va_runV (As := [.int (zi (a : Int))]) (rest := []) ⟨hx, hb, hml, hown, hts⟩ (c_X7_allowedWithout l G ad X a hI.1 hI.2.1 (by omega) H.size) (cwV 1 hts gL_law_X7_allowedWithout rfl rfl rfl (by decide +kernel) ⟨Nat.le_of_ble_eq_true rfl, Nat.le_of_ble_eq_true rfl⟩) (zPreV (As := [.int (zi (a : Int))]) (wr := wr) (wc := zpic G ad X) (q0 := 52) (ci := 7) (q := (RX7, TX7, 8)) hP hD hE hS hA rfl p_52) rfl rfl hl.1 rfl (lv_room (Nat.le_of_ble_eq_true rfl)) dL_law_273 ⟨(by show _ ≤ 600104; omega), (by show _ ≤ 7301314; omega)⟩) hP hD hS hA (fun _ _ H locs hf9 hP hD hS => ?_)
      obtain ⟨v8, Y4, rfl, hv8, rfl⟩ := hf9
      have eY4 : X = Y4 := (hv8.2.1 hFr.1).symm
      subst eY4
      have hP : va_P G.1 vwCl (wr ++ zpic G ad X) H := hP
      have hD : va_D A (wr ++ zpic G ad X) := hD
      refine W.eq (g2 := F0 m 276 ls [.int (zi v8)]) rfl ?_
      refine lv_aload_n hx hb dL_law_276 rfl (lv_at hl 8 rfl) ?_
      refine zcall (wr := wr) (wc := zpic G ad X) (va_runV (As := []) (rest := [.int (zi v8)]) ⟨hx, hb, hml, hown, hts⟩ (c_X7_allowed l G ad X hI.1 hI.2.1 H.size) (cwV 0 hts gL_law_X7_allowed rfl rfl rfl (by decide +kernel) ⟨Nat.le_of_ble_eq_true rfl, Nat.le_of_ble_eq_true rfl⟩) (zPreV (As := []) (wr := wr) (wc := zpic G ad X) (q0 := 52) (ci := 7) (q := (RX7, TX7, 8)) hP hD hE hS hA rfl p_52) rfl rfl hl.1 rfl (lv_room (Nat.le_of_ble_eq_true rfl)) dL_law_277 ⟨(by show _ ≤ 600104; omega), (by show _ ≤ 7301314; omega)⟩) hP hD hS hA (fun _ _ H locs hf9 hP hD hS => ?_)
      obtain ⟨v9, Y5, rfl, hv9, rfl⟩ := hf9
      have eY5 : X = Y5 := (hv9.2.1 hFr.1).symm
      subst eY5
      have hP : va_P G.1 vwCl (wr ++ zpic G ad X) H := hP
      have hD : va_D A (wr ++ zpic G ad X) := hD
      refine W.eq (g2 := F0 m 280 ls [.int (zi v9), .int (zi v8)]) rfl ?_
      refine zc_eq (tgt := 285) hx hb dL_law_280 (by decide) (by omega) (by omega) (fun h280 => ?_) (fun h9 => by exfalso; omega)
      have ezSA : (zSA X a) + 0 = zSA X (a + 1) := by show _ = zSA X a + (if X (zr X 0 a) 0 = 2 then 0 else zDc X a); rw [if_pos hvd.symm]
      have ezSW : (zSW X a) + 0 = zSW X (a + 1) := by show _ = zSW X a + (if X (zr X 0 a) 0 = 1 then zDc X a else 0); rw [if_neg (by omega)]
      rw [ezSA, ezSW] at hl
      exact kk 2 H locs ls hP hD hS (lv_sub hl [5, 6, 7, 8, 9, 10, 2, 11, 12, 1, 13, 4] rfl) hvd
