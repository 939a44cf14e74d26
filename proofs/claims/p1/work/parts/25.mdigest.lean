/-! the reference: the checksum -/
theorem dX9_digest_0 : decode cX9_digest 0 = .ok (.aload_n 0, 1) := by decide +kernel
theorem dX9_digest_1 : decode cX9_digest 1 = .ok (.iconst 0, 1) := by decide +kernel
theorem dX9_digest_2 : decode cX9_digest 2 = .ok (.putfield 40, 3) := by decide +kernel
theorem dX9_digest_5 : decode cX9_digest 5 = .ok (.ldc2_w 228, 3) := by decide +kernel
theorem dX9_digest_8 : decode cX9_digest 8 = .ok (.aload_n 0, 1) := by decide +kernel
theorem dX9_digest_9 : decode cX9_digest 9 = .ok (.getfield 10, 3) := by decide +kernel
theorem dX9_digest_12 : decode cX9_digest 12 = .ok (.getfield 83, 3) := by decide +kernel
theorem dX9_digest_15 : decode cX9_digest 15 = .ok (.i2l, 1) := by decide +kernel
theorem dX9_digest_16 : decode cX9_digest 16 = .ok (.ladd, 1) := by decide +kernel
theorem dX9_digest_17 : decode cX9_digest 17 = .ok (.lstore_n 1, 1) := by decide +kernel
theorem dX9_digest_18 : decode cX9_digest 18 = .ok (.iconst 0, 1) := by decide +kernel
theorem dX9_digest_19 : decode cX9_digest 19 = .ok (.istore_n 3, 1) := by decide +kernel
theorem dX9_digest_20 : decode cX9_digest 20 = .ok (.iload_n 3, 1) := by decide +kernel
theorem dX9_digest_21 : decode cX9_digest 21 = .ok (.aload_n 0, 1) := by decide +kernel
theorem dX9_digest_22 : decode cX9_digest 22 = .ok (.getfield 10, 3) := by decide +kernel
theorem dX9_digest_25 : decode cX9_digest 25 = .ok (.getfield 83, 3) := by decide +kernel
theorem dX9_digest_28 : decode cX9_digest 28 = .ok (.if_icmp .ge 103, 3) := by decide +kernel
theorem dX9_digest_131 : decode cX9_digest 131 = .ok (.aload_n 0, 1) := by decide +kernel
set_option maxRecDepth 20000 in
theorem ggX9_digest_X9_buildAll : GoodIn wsX9_digest wsX9_buildAll := goodIn_r _ [135, 6, 3, 81, 82, 83, 26, 84, 65, 34, 35, 36, 37, 38, 136, 137, 138, 17, 139, 140, 141, 32, 11, 142, 103, 104, 105, 113, 44, 45, 46, 47, 48, 49, 50, 51, 52, 53, 143, 55, 56, 125, 126, 62, 63, 64, 66, 8, 9, 10, 127, 68, 69, 70, 71, 72, 173, 174, 175, 176, 177, 178, 179, 180, 181, 182, 183, 184, 185, 186, 187, 188, 189] (by decide +kernel) (by decide +kernel)
set_option maxRecDepth 20000 in
theorem gX9_digest_X9_buildAll : GoodIn wsX9_digest (wsV RX9 195 RX9 yX9_buildAll wsX9_buildAll) := goodIn_app (goodIn_of _ (by decide +kernel)) ggX9_digest_X9_buildAll
theorem dX9_digest_132 : decode cX9_digest 132 = .ok (.invokevirtual 195, 3) := by decide +kernel
theorem dX9_digest_135 : decode cX9_digest 135 = .ok (.lload_n 1, 1) := by decide +kernel
theorem dX9_digest_136 : decode cX9_digest 136 = .ok (.ldc2_w 230, 3) := by decide +kernel
theorem dX9_digest_139 : decode cX9_digest 139 = .ok (.lmul, 1) := by decide +kernel
theorem dX9_digest_140 : decode cX9_digest 140 = .ok (.aload_n 0, 1) := by decide +kernel
theorem dX9_digest_141 : decode cX9_digest 141 = .ok (.aload_n 0, 1) := by decide +kernel
theorem dX9_digest_142 : decode cX9_digest 142 = .ok (.getfield 10, 3) := by decide +kernel
set_option maxRecDepth 20000 in
theorem ggX9_digest_X8_all : GoodIn wsX9_digest wsX8_all := goodIn_r _ [84, 65, 34, 35, 36, 26, 37, 38, 184, 185, 186, 187, 188, 189] (by decide +kernel) (by decide +kernel)
set_option maxRecDepth 20000 in
theorem gX9_digest_X8_all : GoodIn wsX9_digest (wsV RX9 151 RX8 yX8_all wsX8_all) := goodIn_app (goodIn_of _ (by decide +kernel)) ggX9_digest_X8_all
theorem dX9_digest_145 : decode cX9_digest 145 = .ok (.invokevirtual 151, 3) := by decide +kernel
set_option maxRecDepth 20000 in
theorem ggX9_digest_X9_allowedBy : GoodIn wsX9_digest wsX9_allowedBy := goodIn_r _ [131, 3, 109, 29, 30, 26, 31, 32, 33, 114, 115, 116, 117, 43, 44, 45, 46, 47, 48, 49, 50, 51, 52, 17, 53, 118, 119, 120, 121, 91, 38, 57, 58, 59, 60, 61, 62, 63, 64, 65, 66, 8, 9, 10, 67, 68, 69, 70, 71, 72, 122, 173, 174, 175, 176, 177, 178, 179, 180, 181, 182, 183, 184, 185, 186, 187, 188, 189] (by decide +kernel) (by decide +kernel)
set_option maxRecDepth 20000 in
theorem gX9_digest_X9_allowedBy : GoodIn wsX9_digest (wsV RX9 155 RX9 yX9_allowedBy wsX9_allowedBy) := goodIn_app (goodIn_of _ (by decide +kernel)) ggX9_digest_X9_allowedBy
theorem dX9_digest_148 : decode cX9_digest 148 = .ok (.invokevirtual 155, 3) := by decide +kernel
theorem dX9_digest_151 : decode cX9_digest 151 = .ok (.i2l, 1) := by decide +kernel
theorem dX9_digest_152 : decode cX9_digest 152 = .ok (.ladd, 1) := by decide +kernel
theorem dX9_digest_153 : decode cX9_digest 153 = .ok (.ldc2_w 230, 3) := by decide +kernel
theorem dX9_digest_156 : decode cX9_digest 156 = .ok (.lmul, 1) := by decide +kernel
theorem dX9_digest_157 : decode cX9_digest 157 = .ok (.aload_n 0, 1) := by decide +kernel
set_option maxRecDepth 20000 in
theorem ggX9_digest_X9_quarrelsNow : GoodIn wsX9_digest wsX9_quarrelsNow := goodIn_r _ [147, 3, 4, 19, 148, 149, 150, 17, 151, 22, 7, 8, 9, 10, 21, 152, 153, 154, 173, 174, 175, 176, 177, 178, 179, 180, 181, 182, 183, 184, 185, 186, 187, 188, 189] (by decide +kernel) (by decide +kernel)
set_option maxRecDepth 20000 in
theorem gX9_digest_X9_quarrelsNow : GoodIn wsX9_digest (wsV RX9 171 RX9 yX9_quarrelsNow wsX9_quarrelsNow) := goodIn_app (goodIn_of _ (by decide +kernel)) ggX9_digest_X9_quarrelsNow
theorem dX9_digest_158 : decode cX9_digest 158 = .ok (.invokevirtual 171, 3) := by decide +kernel
theorem dX9_digest_161 : decode cX9_digest 161 = .ok (.i2l, 1) := by decide +kernel
theorem dX9_digest_162 : decode cX9_digest 162 = .ok (.ladd, 1) := by decide +kernel
theorem dX9_digest_163 : decode cX9_digest 163 = .ok (.ldc2_w 230, 3) := by decide +kernel
theorem dX9_digest_166 : decode cX9_digest 166 = .ok (.lmul, 1) := by decide +kernel
theorem dX9_digest_167 : decode cX9_digest 167 = .ok (.aload_n 0, 1) := by decide +kernel
theorem dX9_digest_168 : decode cX9_digest 168 = .ok (.getfield 189, 3) := by decide +kernel
theorem dX9_digest_171 : decode cX9_digest 171 = .ok (.i2l, 1) := by decide +kernel
theorem dX9_digest_172 : decode cX9_digest 172 = .ok (.ladd, 1) := by decide +kernel
theorem dX9_digest_173 : decode cX9_digest 173 = .ok (.lstore_n 1, 1) := by decide +kernel
theorem dX9_digest_174 : decode cX9_digest 174 = .ok (.iconst 0, 1) := by decide +kernel
theorem dX9_digest_175 : decode cX9_digest 175 = .ok (.istore_n 3, 1) := by decide +kernel
theorem dX9_digest_176 : decode cX9_digest 176 = .ok (.iload_n 3, 1) := by decide +kernel
theorem dX9_digest_177 : decode cX9_digest 177 = .ok (.bipush 20, 2) := by decide +kernel
theorem dX9_digest_179 : decode cX9_digest 179 = .ok (.aload_n 0, 1) := by decide +kernel
theorem dX9_digest_180 : decode cX9_digest 180 = .ok (.getfield 189, 3) := by decide +kernel
theorem dX9_digest_183 : decode cX9_digest 183 = .ok (.invokestatic 68, 3) := by decide +kernel
theorem dX9_digest_186 : decode cX9_digest 186 = .ok (.if_icmp .ge 85, 3) := by decide +kernel
theorem dX9_digest_271 : decode cX9_digest 271 = .ok (.iconst 0, 1) := by decide +kernel
theorem dX9_digest_272 : decode cX9_digest 272 = .ok (.istore_n 3, 1) := by decide +kernel
theorem dX9_digest_273 : decode cX9_digest 273 = .ok (.iload_n 3, 1) := by decide +kernel
theorem dX9_digest_274 : decode cX9_digest 274 = .ok (.iconst 5, 1) := by decide +kernel
theorem dX9_digest_275 : decode cX9_digest 275 = .ok (.if_icmp .ge 22, 3) := by decide +kernel
theorem dX9_digest_278 : decode cX9_digest 278 = .ok (.lload_n 1, 1) := by decide +kernel
theorem dX9_digest_279 : decode cX9_digest 279 = .ok (.ldc2_w 230, 3) := by decide +kernel
theorem dX9_digest_282 : decode cX9_digest 282 = .ok (.lmul, 1) := by decide +kernel
theorem dX9_digest_283 : decode cX9_digest 283 = .ok (.aload_n 0, 1) := by decide +kernel
theorem dX9_digest_284 : decode cX9_digest 284 = .ok (.iload_n 3, 1) := by decide +kernel
set_option maxRecDepth 20000 in
theorem ggX9_digest_X9_sentNow : GoodIn wsX9_digest wsX9_sentNow := goodIn_r _ [162, 12, 163, 173, 174, 175, 176, 177, 178, 179, 180, 181, 182, 183] (by decide +kernel) (by decide +kernel)
set_option maxRecDepth 20000 in
theorem gX9_digest_X9_sentNow : GoodIn wsX9_digest (wsV RX9 218 RX9 yX9_sentNow wsX9_sentNow) := goodIn_app (goodIn_of _ (by decide +kernel)) ggX9_digest_X9_sentNow
theorem dX9_digest_285 : decode cX9_digest 285 = .ok (.invokevirtual 218, 3) := by decide +kernel
theorem dX9_digest_288 : decode cX9_digest 288 = .ok (.i2l, 1) := by decide +kernel
theorem dX9_digest_289 : decode cX9_digest 289 = .ok (.ladd, 1) := by decide +kernel
theorem dX9_digest_290 : decode cX9_digest 290 = .ok (.lstore_n 1, 1) := by decide +kernel
theorem dX9_digest_291 : decode cX9_digest 291 = .ok (.iinc 3 1, 3) := by decide +kernel
theorem dX9_digest_294 : decode cX9_digest 294 = .ok (.goto (-21), 3) := by decide +kernel
theorem dX9_digest_297 : decode cX9_digest 297 = .ok (.iconst 0, 1) := by decide +kernel
theorem dX9_digest_298 : decode cX9_digest 298 = .ok (.istore_n 3, 1) := by decide +kernel
theorem dX9_digest_299 : decode cX9_digest 299 = .ok (.iload_n 3, 1) := by decide +kernel
theorem dX9_digest_300 : decode cX9_digest 300 = .ok (.iconst 3, 1) := by decide +kernel
theorem dX9_digest_301 : decode cX9_digest 301 = .ok (.aload_n 0, 1) := by decide +kernel
theorem dX9_digest_302 : decode cX9_digest 302 = .ok (.getfield 205, 3) := by decide +kernel
theorem dX9_digest_305 : decode cX9_digest 305 = .ok (.imul, 1) := by decide +kernel
theorem dX9_digest_306 : decode cX9_digest 306 = .ok (.if_icmp .ge 23, 3) := by decide +kernel
theorem dX9_digest_329 : decode cX9_digest 329 = .ok (.lload_n 1, 1) := by decide +kernel
theorem dX9_digest_330 : decode cX9_digest 330 = .ok (.ldc2_w 230, 3) := by decide +kernel
theorem dX9_digest_333 : decode cX9_digest 333 = .ok (.lmul, 1) := by decide +kernel
theorem dX9_digest_334 : decode cX9_digest 334 = .ok (.aload_n 0, 1) := by decide +kernel
set_option maxRecDepth 20000 in
theorem ggX9_digest_X9_changedNow : GoodIn wsX9_digest wsX9_changedNow := goodIn_r _ [167, 3, 168, 81, 82, 83, 26, 84, 65, 34, 35, 36, 37, 38, 106, 107, 17, 108, 109, 29, 30, 31, 32, 33, 110, 111, 112, 7, 8, 9, 10, 113, 44, 45, 46, 47, 48, 49, 50, 51, 52, 53, 114, 115, 116, 117, 43, 118, 119, 120, 121, 91, 57, 58, 59, 60, 61, 62, 63, 64, 66, 67, 68, 69, 70, 71, 72, 122, 123, 124, 125, 126, 127, 173, 174, 175, 176, 177, 178, 179, 180, 181, 182, 183, 184, 185, 186, 187, 188, 189] (by decide +kernel) (by decide +kernel)
set_option maxRecDepth 20000 in
theorem gX9_digest_X9_changedNow : GoodIn wsX9_digest (wsV RX9 221 RX9 yX9_changedNow wsX9_changedNow) := goodIn_app (goodIn_of _ (by decide +kernel)) ggX9_digest_X9_changedNow
theorem dX9_digest_335 : decode cX9_digest 335 = .ok (.invokevirtual 221, 3) := by decide +kernel
theorem dX9_digest_338 : decode cX9_digest 338 = .ok (.i2l, 1) := by decide +kernel
theorem dX9_digest_339 : decode cX9_digest 339 = .ok (.ladd, 1) := by decide +kernel
theorem dX9_digest_340 : decode cX9_digest 340 = .ok (.lstore_n 1, 1) := by decide +kernel
theorem dX9_digest_341 : decode cX9_digest 341 = .ok (.aload_n 0, 1) := by decide +kernel
set_option maxRecDepth 20000 in
theorem ggX9_digest_X9_witnessNow : GoodIn wsX9_digest wsX9_witnessNow := goodIn_r _ [172, 32, 3, 168, 7, 8, 9, 10, 164, 165, 166, 17, 167, 81, 82, 83, 26, 84, 65, 34, 35, 36, 37, 38, 106, 107, 108, 109, 29, 30, 31, 33, 110, 111, 112, 113, 44, 45, 46, 47, 48, 49, 50, 51, 52, 53, 114, 115, 116, 117, 43, 118, 119, 120, 121, 91, 57, 58, 59, 60, 61, 62, 63, 64, 66, 67, 68, 69, 70, 71, 72, 122, 123, 124, 125, 126, 127, 173, 174, 175, 176, 177, 178, 179, 180, 181, 182, 183, 184, 185, 186, 187, 188, 189] (by decide +kernel) (by decide +kernel)
set_option maxRecDepth 20000 in
theorem gX9_digest_X9_witnessNow : GoodIn wsX9_digest (wsV RX9 224 RX9 yX9_witnessNow wsX9_witnessNow) := goodIn_app (goodIn_of _ (by decide +kernel)) ggX9_digest_X9_witnessNow
theorem dX9_digest_342 : decode cX9_digest 342 = .ok (.invokevirtual 224, 3) := by decide +kernel
theorem dX9_digest_345 : decode cX9_digest 345 = .ok (.astore_n 3, 1) := by decide +kernel
theorem dX9_digest_346 : decode cX9_digest 346 = .ok (.aload_n 3, 1) := by decide +kernel
theorem dX9_digest_347 : decode cX9_digest 347 = .ok (.arraylength, 1) := by decide +kernel
theorem dX9_digest_348 : decode cX9_digest 348 = .ok (.istore 4, 2) := by decide +kernel
theorem dX9_digest_350 : decode cX9_digest 350 = .ok (.iconst 0, 1) := by decide +kernel
theorem dX9_digest_351 : decode cX9_digest 351 = .ok (.istore 5, 2) := by decide +kernel
theorem dX9_digest_353 : decode cX9_digest 353 = .ok (.iload 5, 2) := by decide +kernel
theorem dX9_digest_355 : decode cX9_digest 355 = .ok (.iload 4, 2) := by decide +kernel
theorem dX9_digest_357 : decode cX9_digest 357 = .ok (.if_icmp .ge 25, 3) := by decide +kernel
theorem dX9_digest_360 : decode cX9_digest 360 = .ok (.aload_n 3, 1) := by decide +kernel
theorem dX9_digest_361 : decode cX9_digest 361 = .ok (.iload 5, 2) := by decide +kernel
theorem dX9_digest_363 : decode cX9_digest 363 = .ok (.iaload, 1) := by decide +kernel
theorem dX9_digest_364 : decode cX9_digest 364 = .ok (.istore 6, 2) := by decide +kernel
theorem dX9_digest_366 : decode cX9_digest 366 = .ok (.lload_n 1, 1) := by decide +kernel
theorem dX9_digest_367 : decode cX9_digest 367 = .ok (.ldc2_w 230, 3) := by decide +kernel
theorem dX9_digest_370 : decode cX9_digest 370 = .ok (.lmul, 1) := by decide +kernel
theorem dX9_digest_371 : decode cX9_digest 371 = .ok (.iload 6, 2) := by decide +kernel
theorem dX9_digest_373 : decode cX9_digest 373 = .ok (.i2l, 1) := by decide +kernel
theorem dX9_digest_374 : decode cX9_digest 374 = .ok (.ladd, 1) := by decide +kernel
theorem dX9_digest_375 : decode cX9_digest 375 = .ok (.lstore_n 1, 1) := by decide +kernel
theorem dX9_digest_376 : decode cX9_digest 376 = .ok (.iinc 5 1, 3) := by decide +kernel
theorem dX9_digest_379 : decode cX9_digest 379 = .ok (.goto (-26), 3) := by decide +kernel
theorem dX9_digest_382 : decode cX9_digest 382 = .ok (.lload_n 1, 1) := by decide +kernel
theorem dX9_digest_383 : decode cX9_digest 383 = .ok (.lreturn, 1) := by decide +kernel
set_option maxHeartbeats 4000000 in
set_option maxRecDepth 100000 in
theorem z_X9_digest (l : Launch) (G : zG) (mm : Nat) (nw : Nat) (cq : Nat) (hi : Nat) (ko : Nat) (se : Nat) (nf : Nat) (ns : Nat) (pi : Nat) (th : Int32) (vd : Nat) (lw : Nat) (hg : Nat) (rk : Nat) (vc : Nat) (lc : Nat) (hc : Nat) (rc : Nat) : zR l G yX9_digest wsX9_digest { frames := 6, cells := 6, slots := 5124, locals := 145 } [(mm, .inr (9, [.int th, .ref nw, .ref cq, .ref hi, .int 0, .ref ko, .ref se, .int 0, .ref nf, .ref ns, .ref pi])), (nw, .inr (8, [.int 0, .int 0, .ref vd, .ref lw, .ref hg, .ref rk])), (cq, .inr (8, [.int 0, .int 0, .ref vc, .ref lc, .ref hc, .ref rc])), (se, .inl (G.2.1, 5, .inl (fun _ => 0)))] [.ref mm] (some (.long (-8481652483452520670))) (fun u => [(mm, .inr (9, [.int 0, .ref nw, .ref cq, .ref hi, .int 0, .ref ko, .ref se, .int 0, .ref nf, .ref ns, .ref pi])), (nw, .inr (8, [.int 0, .int 0, .ref vd, .ref lw, .ref hg, .ref (u 0)])), (cq, .inr (8, [.int 0, .int 0, .ref vc, .ref lc, .ref hc, .ref (u 1)])), (se, .inl (G.2.1, 5, .inl (fun _ => 0)))]) 6 5124 := by
  refine zR_of (cc := cX9_digest) (maxL := 8) (rt := (some .long)) (by decide) rfl (Nat.le_of_ble_eq_true rfl) ?_
  intro p e s m below meth c A ls hx hb hml hr hts hown hlocks hin hA hE hP hD hS hl
  have hl : lv_has ls 8 [(0, .ref mm)] := hl
  have hown : s.vm.findClass RX9 = some m.cls := hown
  have hP : va_P G.1 vwCl [(mm, .inr (9, [.int th, .ref nw, .ref cq, .ref hi, .int 0, .ref ko, .ref se, .int 0, .ref nf, .ref ns, .ref pi])), (nw, .inr (8, [.int 0, .int 0, .ref vd, .ref lw, .ref hg, .ref rk])), (cq, .inr (8, [.int 0, .int 0, .ref vc, .ref lc, .ref hc, .ref rc])), (se, .inl (G.2.1, 5, .inl (fun _ => 0)))] s.heap := hP
  have hw9 : ∀ w ∈ u_ws RX9 TX9 11, w ∈ wsX9_digest := by decide +kernel
  have hf40 := hts (.fieldLink RX9 40 "NettleModel" "thrown" "I") (by decide +kernel)
  have hc228 := hts (.constantLong RX9 228 (1800542)) (by decide +kernel)
  have hf10 := hts (.fieldLink RX9 10 "NettleModel" "now" "LNettleModel$Wall;") (by decide +kernel)
  have hw8 : ∀ w ∈ u_ws RX8 TX8 6, w ∈ wsX9_digest := by decide +kernel
  have hf83 := hts (.fieldLink RX9 83 "NettleModel$Wall" "many" "I") (by decide +kernel)
  have hc230 := hts (.constantLong RX9 230 (31)) (by decide +kernel)
  have hf189 := hts (.fieldLink RX9 189 "NettleModel" "nodes" "I") (by decide +kernel)
  have hmamin := hts (.code Lib.Math.min.name Lib.Math.min.code 2 (some .int)) (by decide +kernel)
  have hml68 := hts (.methodLink RX9 68 Lib.Math.min.name) (by decide +kernel)
  have hstmin := hts (.static Lib.Math.min.name) (by decide +kernel)
  have hiniMath := hts (.initialized "java/lang/Math") (by decide +kernel)
  have hf205 := hts (.fieldLink RX9 205 "NettleModel" "kept" "I") (by decide +kernel)
  refine lv_aload_n hx hb dX9_digest_0 rfl (lv_at hl 0 rfl) ?_
  refine lv_iconst (v := 0) hx hb dX9_digest_1 (by decide) ?_
  refine va_put (D := G.1) (ci := 9) (v := .int 0) (ty := tyX9 0) (C := RX9) (T := TX9) (N := 11) hx hb hts hw9 tyX9 tyX9_ok nmX9 hown hE.1 hP hD hS 0 rfl rfl 0 (by decide) hf40 (fun _ h9 => h9) rfl (by decide +kernel) rfl rfl (Nat.le_of_ble_eq_true rfl) dX9_digest_2 (fun H locs hP hD hS => ?_)
  have hP : va_P G.1 vwCl [(mm, .inr (9, [.int 0, .ref nw, .ref cq, .ref hi, .int 0, .ref ko, .ref se, .int 0, .ref nf, .ref ns, .ref pi])), (nw, .inr (8, [.int 0, .int 0, .ref vd, .ref lw, .ref hg, .ref rk])), (cq, .inr (8, [.int 0, .int 0, .ref vc, .ref lc, .ref hc, .ref rc])), (se, .inl (G.2.1, 5, .inl (fun _ => 0)))] H := hP
  have hD : va_D A [(mm, .inr (9, [.int 0, .ref nw, .ref cq, .ref hi, .int 0, .ref ko, .ref se, .int 0, .ref nf, .ref ns, .ref pi])), (nw, .inr (8, [.int 0, .int 0, .ref vd, .ref lw, .ref hg, .ref rk])), (cq, .inr (8, [.int 0, .int 0, .ref vc, .ref lc, .ref hc, .ref rc])), (se, .inl (G.2.1, 5, .inl (fun _ => 0)))] := hD
  refine lv_ldc2 hx hb hown hc228 dX9_digest_5 ?_
  refine lv_aload_n hx hb dX9_digest_8 rfl (lv_at hl 0 rfl) ?_
  refine va_get (D := G.1) (ci := 9) (v := .ref nw) (C := RX9) (T := TX9) (N := 11) hx hb hts hw9 hown hE.1 hP 0 rfl rfl 1 (by decide) hf10 (fun _ h9 => h9) rfl dX9_digest_9 ?_
  refine va_get (D := G.1) (ci := 8) (v := .int 0) (C := RX8) (T := TX8) (N := 6) hx hb hts hw8 hown hE.1 hP 1 rfl rfl 0 (by decide) hf83 (fun _ h9 => h9) rfl dX9_digest_12 ?_
  refine lv_i2l (v := 0) hx hb dX9_digest_15 (by decide) ?_
  refine lv_ladd hx hb dX9_digest_16 ?_
  refine ztl (v := 1800542) (by decide) ?_
  refine lv_lstore_n (lv' := [(1, .long 1800542), (0, .ref mm)]) hx hb dX9_digest_17 rfl hl (by decide) rfl (fun ls hl => ?_)
  refine lv_iconst (v := 0) hx hb dX9_digest_18 (by decide) ?_
  refine lv_istore_n (lv' := [(3, .int 0), (1, .long 1800542), (0, .ref mm)]) hx hb dX9_digest_19 rfl hl (by decide) rfl (fun ls hl => ?_)
  refine lv_iload_n hx hb dX9_digest_20 rfl (lv_at hl 0 rfl) ?_
  refine lv_aload_n hx hb dX9_digest_21 rfl (lv_at hl 2 rfl) ?_
  refine va_get (D := G.1) (ci := 9) (v := .ref nw) (C := RX9) (T := TX9) (N := 11) hx hb hts hw9 hown hE.1 hP 0 rfl rfl 1 (by decide) hf10 (fun _ h9 => h9) rfl dX9_digest_22 ?_
  refine va_get (D := G.1) (ci := 8) (v := .int 0) (C := RX8) (T := TX8) (N := 6) hx hb hts hw8 hown hE.1 hP 1 rfl rfl 0 (by decide) hf83 (fun _ h9 => h9) rfl dX9_digest_25 ?_
  refine lv_icmp_ge (tgt := 131) hx hb dX9_digest_28 (by decide) (fun _ => ?_) (fun h9 => absurd (by decide) h9)
  refine lv_aload_n hx hb dX9_digest_131 rfl (lv_at hl 2 rfl) ?_
  refine zcall (wr := [(cq, .inr (8, [.int 0, .int 0, .ref vc, .ref lc, .ref hc, .ref rc])), (se, .inl (G.2.1, 5, .inl (fun _ => 0)))]) (va_runV (As := []) (rest := []) ⟨hx, hb, hml, hown, hts⟩ (z_X9_buildAll l G mm nw cq hi ko se nf ns pi 0 vd lw hg rk H.size) (cwV 0 hts gX9_digest_X9_buildAll rfl rfl rfl (by decide +kernel) ⟨Nat.le_of_ble_eq_true rfl, Nat.le_of_ble_eq_true rfl⟩) (zPreV (Wc := [(mm, .inr (9, [.int 0, .ref nw, .ref cq, .ref hi, .int 0, .ref ko, .ref se, .int 0, .ref nf, .ref ns, .ref pi])), (nw, .inr (8, [.int 0, .int 0, .ref vd, .ref lw, .ref hg, .ref rk]))]) (q0 := 0) (ci := 9) (q := (RX9, TX9, 11)) hP hD hE hS hA [0, 1] rfl (by decide) rfl rfl) rfl rfl hl.1 rfl (lv_room (Nat.le_of_ble_eq_true rfl)) dX9_digest_132 ⟨Nat.le_of_ble_eq_true rfl, Nat.le_of_ble_eq_true rfl⟩) hP hD hS hA [0, 1] [2, 3] rfl rfl (by decide) (by decide) (fun u1 H locs hP hD hS => ?_)
  have hP : va_P G.1 vwCl [(cq, .inr (8, [.int 0, .int 0, .ref vc, .ref lc, .ref hc, .ref rc])), (se, .inl (G.2.1, 5, .inl (fun _ => 0))), (mm, .inr (9, [.int 0, .ref nw, .ref cq, .ref hi, .int 0, .ref ko, .ref se, .int 0, .ref nf, .ref ns, .ref pi])), (nw, .inr (8, [.int 0, .int 0, .ref vd, .ref lw, .ref hg, .ref rk]))] H := hP
  have hD : va_D A [(cq, .inr (8, [.int 0, .int 0, .ref vc, .ref lc, .ref hc, .ref rc])), (se, .inl (G.2.1, 5, .inl (fun _ => 0))), (mm, .inr (9, [.int 0, .ref nw, .ref cq, .ref hi, .int 0, .ref ko, .ref se, .int 0, .ref nf, .ref ns, .ref pi])), (nw, .inr (8, [.int 0, .int 0, .ref vd, .ref lw, .ref hg, .ref rk]))] := hD
  refine W.eq (g2 := F0 m 135 ls []) rfl ?_
  refine lv_lload_n hx hb dX9_digest_135 rfl (lv_at hl 1 rfl) ?_
  refine lv_ldc2 hx hb hown hc230 dX9_digest_136 ?_
  refine lv_lmul hx hb dX9_digest_139 ?_
  refine ztl (v := 55816802) (by decide) ?_
  refine lv_aload_n hx hb dX9_digest_140 rfl (lv_at hl 2 rfl) ?_
  refine lv_aload_n hx hb dX9_digest_141 rfl (lv_at hl 2 rfl) ?_
  refine va_get (D := G.1) (ci := 9) (v := .ref nw) (C := RX9) (T := TX9) (N := 11) hx hb hts hw9 hown hE.1 hP 2 rfl rfl 1 (by decide) hf10 (fun _ h9 => h9) rfl dX9_digest_142 ?_
  refine zcall (wr := [(cq, .inr (8, [.int 0, .int 0, .ref vc, .ref lc, .ref hc, .ref rc])), (se, .inl (G.2.1, 5, .inl (fun _ => 0))), (mm, .inr (9, [.int 0, .ref nw, .ref cq, .ref hi, .int 0, .ref ko, .ref se, .int 0, .ref nf, .ref ns, .ref pi]))]) (va_runV (As := []) (rest := [.ref mm, .long 55816802]) ⟨hx, hb, hml, hown, hts⟩ (z_X8_all l G nw vd lw hg rk H.size) (cwV 0 hts gX9_digest_X8_all rfl rfl rfl (by decide +kernel) ⟨Nat.le_of_ble_eq_true rfl, Nat.le_of_ble_eq_true rfl⟩) (zPreV (Wc := [(nw, .inr (8, [.int 0, .int 0, .ref vd, .ref lw, .ref hg, .ref rk]))]) (q0 := 3) (ci := 8) (q := (RX8, TX8, 6)) hP hD hE hS hA [3] rfl (by decide) rfl rfl) rfl rfl hl.1 rfl (lv_room (Nat.le_of_ble_eq_true rfl)) dX9_digest_145 ⟨Nat.le_of_ble_eq_true rfl, Nat.le_of_ble_eq_true rfl⟩) hP hD hS hA [3] [0, 1, 2] rfl rfl (by decide) (by decide) (fun u2 H locs hP hD hS => ?_)
  have hP : va_P G.1 vwCl [(cq, .inr (8, [.int 0, .int 0, .ref vc, .ref lc, .ref hc, .ref rc])), (se, .inl (G.2.1, 5, .inl (fun _ => 0))), (mm, .inr (9, [.int 0, .ref nw, .ref cq, .ref hi, .int 0, .ref ko, .ref se, .int 0, .ref nf, .ref ns, .ref pi])), (nw, .inr (8, [.int 0, .int 0, .ref vd, .ref lw, .ref hg, .ref rk]))] H := hP
  have hD : va_D A [(cq, .inr (8, [.int 0, .int 0, .ref vc, .ref lc, .ref hc, .ref rc])), (se, .inl (G.2.1, 5, .inl (fun _ => 0))), (mm, .inr (9, [.int 0, .ref nw, .ref cq, .ref hi, .int 0, .ref ko, .ref se, .int 0, .ref nf, .ref ns, .ref pi])), (nw, .inr (8, [.int 0, .int 0, .ref vd, .ref lw, .ref hg, .ref rk]))] := hD
  refine W.eq (g2 := F0 m 148 ls [.int 0, .ref mm, .long 55816802]) rfl ?_
  refine zcall (wr := [(cq, .inr (8, [.int 0, .int 0, .ref vc, .ref lc, .ref hc, .ref rc])), (se, .inl (G.2.1, 5, .inl (fun _ => 0)))]) (va_runV (As := [.int 0]) (rest := [.long 55816802]) ⟨hx, hb, hml, hown, hts⟩ (z_X9_allowedBy l G mm nw cq hi ko se nf ns pi 0 vd lw hg rk H.size) (cwV 1 hts gX9_digest_X9_allowedBy rfl rfl rfl (by decide +kernel) ⟨Nat.le_of_ble_eq_true rfl, Nat.le_of_ble_eq_true rfl⟩) (zPreV (Wc := [(mm, .inr (9, [.int 0, .ref nw, .ref cq, .ref hi, .int 0, .ref ko, .ref se, .int 0, .ref nf, .ref ns, .ref pi])), (nw, .inr (8, [.int 0, .int 0, .ref vd, .ref lw, .ref hg, .ref rk]))]) (q0 := 2) (ci := 9) (q := (RX9, TX9, 11)) hP hD hE hS hA [2, 3] rfl (by decide) rfl rfl) rfl rfl hl.1 rfl (lv_room (Nat.le_of_ble_eq_true rfl)) dX9_digest_148 ⟨Nat.le_of_ble_eq_true rfl, Nat.le_of_ble_eq_true rfl⟩) hP hD hS hA [2, 3] [0, 1] rfl rfl (by decide) (by decide) (fun u3 H locs hP hD hS => ?_)
  have hP : va_P G.1 vwCl [(cq, .inr (8, [.int 0, .int 0, .ref vc, .ref lc, .ref hc, .ref rc])), (se, .inl (G.2.1, 5, .inl (fun _ => 0))), (mm, .inr (9, [.int 0, .ref nw, .ref cq, .ref hi, .int 0, .ref ko, .ref se, .int 0, .ref nf, .ref ns, .ref pi])), (nw, .inr (8, [.int 0, .int 0, .ref vd, .ref lw, .ref hg, .ref (u3 0)]))] H := hP
  have hD : va_D A [(cq, .inr (8, [.int 0, .int 0, .ref vc, .ref lc, .ref hc, .ref rc])), (se, .inl (G.2.1, 5, .inl (fun _ => 0))), (mm, .inr (9, [.int 0, .ref nw, .ref cq, .ref hi, .int 0, .ref ko, .ref se, .int 0, .ref nf, .ref ns, .ref pi])), (nw, .inr (8, [.int 0, .int 0, .ref vd, .ref lw, .ref hg, .ref (u3 0)]))] := hD
  refine W.eq (g2 := F0 m 151 ls [.int 0, .long 55816802]) rfl ?_
  refine lv_i2l (v := 0) hx hb dX9_digest_151 (by decide) ?_
  refine lv_ladd hx hb dX9_digest_152 ?_
  refine ztl (v := 55816802) (by decide) ?_
  refine lv_ldc2 hx hb hown hc230 dX9_digest_153 ?_
  refine lv_lmul hx hb dX9_digest_156 ?_
  refine ztl (v := 1730320862) (by decide) ?_
  refine lv_aload_n hx hb dX9_digest_157 rfl (lv_at hl 2 rfl) ?_
  refine zcall (wr := [(cq, .inr (8, [.int 0, .int 0, .ref vc, .ref lc, .ref hc, .ref rc])), (se, .inl (G.2.1, 5, .inl (fun _ => 0)))]) (va_runV (As := []) (rest := [.long 1730320862]) ⟨hx, hb, hml, hown, hts⟩ (z_X9_quarrelsNow l G mm nw cq hi ko se nf ns pi 0 vd lw hg (u3 0) H.size) (cwV 0 hts gX9_digest_X9_quarrelsNow rfl rfl rfl (by decide +kernel) ⟨Nat.le_of_ble_eq_true rfl, Nat.le_of_ble_eq_true rfl⟩) (zPreV (Wc := [(mm, .inr (9, [.int 0, .ref nw, .ref cq, .ref hi, .int 0, .ref ko, .ref se, .int 0, .ref nf, .ref ns, .ref pi])), (nw, .inr (8, [.int 0, .int 0, .ref vd, .ref lw, .ref hg, .ref (u3 0)]))]) (q0 := 2) (ci := 9) (q := (RX9, TX9, 11)) hP hD hE hS hA [2, 3] rfl (by decide) rfl rfl) rfl rfl hl.1 rfl (lv_room (Nat.le_of_ble_eq_true rfl)) dX9_digest_158 ⟨Nat.le_of_ble_eq_true rfl, Nat.le_of_ble_eq_true rfl⟩) hP hD hS hA [2, 3] [0, 1] rfl rfl (by decide) (by decide) (fun u4 H locs hP hD hS => ?_)
  have hP : va_P G.1 vwCl [(cq, .inr (8, [.int 0, .int 0, .ref vc, .ref lc, .ref hc, .ref rc])), (se, .inl (G.2.1, 5, .inl (fun _ => 0))), (mm, .inr (9, [.int 0, .ref nw, .ref cq, .ref hi, .int 0, .ref ko, .ref se, .int 0, .ref nf, .ref ns, .ref pi])), (nw, .inr (8, [.int 0, .int 0, .ref vd, .ref lw, .ref hg, .ref (u3 0)]))] H := hP
  have hD : va_D A [(cq, .inr (8, [.int 0, .int 0, .ref vc, .ref lc, .ref hc, .ref rc])), (se, .inl (G.2.1, 5, .inl (fun _ => 0))), (mm, .inr (9, [.int 0, .ref nw, .ref cq, .ref hi, .int 0, .ref ko, .ref se, .int 0, .ref nf, .ref ns, .ref pi])), (nw, .inr (8, [.int 0, .int 0, .ref vd, .ref lw, .ref hg, .ref (u3 0)]))] := hD
  refine W.eq (g2 := F0 m 161 ls [.int 0, .long 1730320862]) rfl ?_
  refine lv_i2l (v := 0) hx hb dX9_digest_161 (by decide) ?_
  refine lv_ladd hx hb dX9_digest_162 ?_
  refine ztl (v := 1730320862) (by decide) ?_
  refine lv_ldc2 hx hb hown hc230 dX9_digest_163 ?_
  refine lv_lmul hx hb dX9_digest_166 ?_
  refine ztl (v := 53639946722) (by decide) ?_
  refine lv_aload_n hx hb dX9_digest_167 rfl (lv_at hl 2 rfl) ?_
  refine va_get (D := G.1) (ci := 9) (v := .int 0) (C := RX9) (T := TX9) (N := 11) hx hb hts hw9 hown hE.1 hP 2 rfl rfl 7 (by decide) hf189 (fun _ h9 => h9) rfl dX9_digest_168 ?_
  refine lv_i2l (v := 0) hx hb dX9_digest_171 (by decide) ?_
  refine lv_ladd hx hb dX9_digest_172 ?_
  refine ztl (v := 53639946722) (by decide) ?_
  refine lv_lstore_n (lv' := [(1, .long 53639946722), (3, .int 0), (0, .ref mm)]) hx hb dX9_digest_173 rfl hl (by decide) rfl (fun ls hl => ?_)
  refine lv_iconst (v := 0) hx hb dX9_digest_174 (by decide) ?_
  refine lv_istore_n (lv' := [(3, .int 0), (1, .long 53639946722), (0, .ref mm)]) hx hb dX9_digest_175 rfl hl (by decide) rfl (fun ls hl => ?_)
  refine lv_iload_n hx hb dX9_digest_176 rfl (lv_at hl 0 rfl) ?_
  refine lv_bipush (v := 20) hx hb dX9_digest_177 (by decide) ?_
  refine lv_aload_n hx hb dX9_digest_179 rfl (lv_at hl 2 rfl) ?_
  refine va_get (D := G.1) (ci := 9) (v := .int 0) (C := RX9) (T := TX9) (N := 11) hx hb hts hw9 hown hE.1 hP 2 rfl rfl 7 (by decide) hf189 (fun _ h9 => h9) rfl dX9_digest_180 ?_
  refine va_mmin hx hb (hml.trans hl.1.symm) hown hml68 hstmin hiniMath hmamin (Nat.le_of_ble_eq_true rfl) (Nat.le_of_ble_eq_true rfl) (Nat.le_of_ble_eq_true rfl) (Nat.le_of_ble_eq_true rfl) dX9_digest_183 ?_
  refine zti (v := 0) (by decide) ?_
  refine lv_icmp_ge (tgt := 271) hx hb dX9_digest_186 (by decide) (fun _ => ?_) (fun h9 => absurd (by decide) h9)
  refine lv_iconst (v := 0) hx hb dX9_digest_271 (by decide) ?_
  refine lv_istore_n (lv' := [(3, .int 0), (1, .long 53639946722), (0, .ref mm)]) hx hb dX9_digest_272 rfl hl (by decide) rfl (fun ls hl => ?_)
  refine lv_iload_n hx hb dX9_digest_273 rfl (lv_at hl 0 rfl) ?_
  refine lv_iconst (v := 5) hx hb dX9_digest_274 (by decide) ?_
  refine lv_icmp_ge (tgt := 297) hx hb dX9_digest_275 (by decide) (fun h9 => absurd h9 (by decide)) (fun _ => ?_)
  refine lv_lload_n hx hb dX9_digest_278 rfl (lv_at hl 1 rfl) ?_
  refine lv_ldc2 hx hb hown hc230 dX9_digest_279 ?_
  refine lv_lmul hx hb dX9_digest_282 ?_
  refine ztl (v := 1662838348382) (by decide) ?_
  refine lv_aload_n hx hb dX9_digest_283 rfl (lv_at hl 2 rfl) ?_
  refine lv_iload_n hx hb dX9_digest_284 rfl (lv_at hl 0 rfl) ?_
  refine zcall (wr := [(cq, .inr (8, [.int 0, .int 0, .ref vc, .ref lc, .ref hc, .ref rc])), (nw, .inr (8, [.int 0, .int 0, .ref vd, .ref lw, .ref hg, .ref (u3 0)]))]) (va_runV (As := [.int 0]) (rest := [.long 1662838348382]) ⟨hx, hb, hml, hown, hts⟩ (z_X9_sentNow0 l G mm nw cq hi ko se nf ns pi 0 H.size) (cwV 1 hts gX9_digest_X9_sentNow rfl rfl rfl (by decide +kernel) ⟨Nat.le_of_ble_eq_true rfl, Nat.le_of_ble_eq_true rfl⟩) (zPreV (Wc := [(mm, .inr (9, [.int 0, .ref nw, .ref cq, .ref hi, .int 0, .ref ko, .ref se, .int 0, .ref nf, .ref ns, .ref pi])), (se, .inl (G.2.1, 5, .inl (fun _ => 0)))]) (q0 := 2) (ci := 9) (q := (RX9, TX9, 11)) hP hD hE hS hA [2, 1] rfl (by decide) rfl rfl) rfl rfl hl.1 rfl (lv_room (Nat.le_of_ble_eq_true rfl)) dX9_digest_285 ⟨Nat.le_of_ble_eq_true rfl, Nat.le_of_ble_eq_true rfl⟩) hP hD hS hA [2, 1] [0, 3] rfl rfl (by decide) (by decide) (fun u5 H locs hP hD hS => ?_)
  have hP : va_P G.1 vwCl [(cq, .inr (8, [.int 0, .int 0, .ref vc, .ref lc, .ref hc, .ref rc])), (nw, .inr (8, [.int 0, .int 0, .ref vd, .ref lw, .ref hg, .ref (u3 0)])), (mm, .inr (9, [.int 0, .ref nw, .ref cq, .ref hi, .int 0, .ref ko, .ref se, .int 0, .ref nf, .ref ns, .ref pi])), (se, .inl (G.2.1, 5, .inl (fun _ => 0)))] H := hP
  have hD : va_D A [(cq, .inr (8, [.int 0, .int 0, .ref vc, .ref lc, .ref hc, .ref rc])), (nw, .inr (8, [.int 0, .int 0, .ref vd, .ref lw, .ref hg, .ref (u3 0)])), (mm, .inr (9, [.int 0, .ref nw, .ref cq, .ref hi, .int 0, .ref ko, .ref se, .int 0, .ref nf, .ref ns, .ref pi])), (se, .inl (G.2.1, 5, .inl (fun _ => 0)))] := hD
  refine W.eq (g2 := F0 m 288 ls [.int 0, .long 1662838348382]) rfl ?_
  refine lv_i2l (v := 0) hx hb dX9_digest_288 (by decide) ?_
  refine lv_ladd hx hb dX9_digest_289 ?_
  refine ztl (v := 1662838348382) (by decide) ?_
  refine lv_lstore_n (lv' := [(1, .long 1662838348382), (3, .int 0), (0, .ref mm)]) hx hb dX9_digest_290 rfl hl (by decide) rfl (fun ls hl => ?_)
  refine lv_iinc (v := 1) (lv' := [(3, .int 1), (1, .long 1662838348382), (0, .ref mm)]) hx hb dX9_digest_291 hl (k := 1) rfl (by decide) (by decide) rfl (fun ls hl => ?_)
  refine lv_goto (tgt := 273) hx hb dX9_digest_294 (by decide) ?_
  refine lv_iload_n hx hb dX9_digest_273 rfl (lv_at hl 0 rfl) ?_
  refine lv_iconst (v := 5) hx hb dX9_digest_274 (by decide) ?_
  refine lv_icmp_ge (tgt := 297) hx hb dX9_digest_275 (by decide) (fun h9 => absurd h9 (by decide)) (fun _ => ?_)
  refine lv_lload_n hx hb dX9_digest_278 rfl (lv_at hl 1 rfl) ?_
  refine lv_ldc2 hx hb hown hc230 dX9_digest_279 ?_
  refine lv_lmul hx hb dX9_digest_282 ?_
  refine ztl (v := 51547988799842) (by decide) ?_
  refine lv_aload_n hx hb dX9_digest_283 rfl (lv_at hl 2 rfl) ?_
  refine lv_iload_n hx hb dX9_digest_284 rfl (lv_at hl 0 rfl) ?_
  refine zcall (wr := [(cq, .inr (8, [.int 0, .int 0, .ref vc, .ref lc, .ref hc, .ref rc])), (nw, .inr (8, [.int 0, .int 0, .ref vd, .ref lw, .ref hg, .ref (u3 0)]))]) (va_runV (As := [.int 1]) (rest := [.long 51547988799842]) ⟨hx, hb, hml, hown, hts⟩ (z_X9_sentNow1 l G mm nw cq hi ko se nf ns pi 0 H.size) (cwV 1 hts gX9_digest_X9_sentNow rfl rfl rfl (by decide +kernel) ⟨Nat.le_of_ble_eq_true rfl, Nat.le_of_ble_eq_true rfl⟩) (zPreV (Wc := [(mm, .inr (9, [.int 0, .ref nw, .ref cq, .ref hi, .int 0, .ref ko, .ref se, .int 0, .ref nf, .ref ns, .ref pi])), (se, .inl (G.2.1, 5, .inl (fun _ => 0)))]) (q0 := 2) (ci := 9) (q := (RX9, TX9, 11)) hP hD hE hS hA [2, 3] rfl (by decide) rfl rfl) rfl rfl hl.1 rfl (lv_room (Nat.le_of_ble_eq_true rfl)) dX9_digest_285 ⟨Nat.le_of_ble_eq_true rfl, Nat.le_of_ble_eq_true rfl⟩) hP hD hS hA [2, 3] [0, 1] rfl rfl (by decide) (by decide) (fun u6 H locs hP hD hS => ?_)
  have hP : va_P G.1 vwCl [(cq, .inr (8, [.int 0, .int 0, .ref vc, .ref lc, .ref hc, .ref rc])), (nw, .inr (8, [.int 0, .int 0, .ref vd, .ref lw, .ref hg, .ref (u3 0)])), (mm, .inr (9, [.int 0, .ref nw, .ref cq, .ref hi, .int 0, .ref ko, .ref se, .int 0, .ref nf, .ref ns, .ref pi])), (se, .inl (G.2.1, 5, .inl (fun _ => 0)))] H := hP
  have hD : va_D A [(cq, .inr (8, [.int 0, .int 0, .ref vc, .ref lc, .ref hc, .ref rc])), (nw, .inr (8, [.int 0, .int 0, .ref vd, .ref lw, .ref hg, .ref (u3 0)])), (mm, .inr (9, [.int 0, .ref nw, .ref cq, .ref hi, .int 0, .ref ko, .ref se, .int 0, .ref nf, .ref ns, .ref pi])), (se, .inl (G.2.1, 5, .inl (fun _ => 0)))] := hD
  refine W.eq (g2 := F0 m 288 ls [.int 0, .long 51547988799842]) rfl ?_
  refine lv_i2l (v := 0) hx hb dX9_digest_288 (by decide) ?_
  refine lv_ladd hx hb dX9_digest_289 ?_
  refine ztl (v := 51547988799842) (by decide) ?_
  refine lv_lstore_n (lv' := [(1, .long 51547988799842), (3, .int 1), (0, .ref mm)]) hx hb dX9_digest_290 rfl hl (by decide) rfl (fun ls hl => ?_)
  refine lv_iinc (v := 2) (lv' := [(3, .int 2), (1, .long 51547988799842), (0, .ref mm)]) hx hb dX9_digest_291 hl (k := 1) rfl (by decide) (by decide) rfl (fun ls hl => ?_)
  refine lv_goto (tgt := 273) hx hb dX9_digest_294 (by decide) ?_
  refine lv_iload_n hx hb dX9_digest_273 rfl (lv_at hl 0 rfl) ?_
  refine lv_iconst (v := 5) hx hb dX9_digest_274 (by decide) ?_
  refine lv_icmp_ge (tgt := 297) hx hb dX9_digest_275 (by decide) (fun h9 => absurd h9 (by decide)) (fun _ => ?_)
  refine lv_lload_n hx hb dX9_digest_278 rfl (lv_at hl 1 rfl) ?_
  refine lv_ldc2 hx hb hown hc230 dX9_digest_279 ?_
  refine lv_lmul hx hb dX9_digest_282 ?_
  refine ztl (v := 1597987652795102) (by decide) ?_
  refine lv_aload_n hx hb dX9_digest_283 rfl (lv_at hl 2 rfl) ?_
  refine lv_iload_n hx hb dX9_digest_284 rfl (lv_at hl 0 rfl) ?_
  refine zcall (wr := [(cq, .inr (8, [.int 0, .int 0, .ref vc, .ref lc, .ref hc, .ref rc])), (nw, .inr (8, [.int 0, .int 0, .ref vd, .ref lw, .ref hg, .ref (u3 0)]))]) (va_runV (As := [.int 2]) (rest := [.long 1597987652795102]) ⟨hx, hb, hml, hown, hts⟩ (z_X9_sentNow2 l G mm nw cq hi ko se nf ns pi 0 H.size) (cwV 1 hts gX9_digest_X9_sentNow rfl rfl rfl (by decide +kernel) ⟨Nat.le_of_ble_eq_true rfl, Nat.le_of_ble_eq_true rfl⟩) (zPreV (Wc := [(mm, .inr (9, [.int 0, .ref nw, .ref cq, .ref hi, .int 0, .ref ko, .ref se, .int 0, .ref nf, .ref ns, .ref pi])), (se, .inl (G.2.1, 5, .inl (fun _ => 0)))]) (q0 := 2) (ci := 9) (q := (RX9, TX9, 11)) hP hD hE hS hA [2, 3] rfl (by decide) rfl rfl) rfl rfl hl.1 rfl (lv_room (Nat.le_of_ble_eq_true rfl)) dX9_digest_285 ⟨Nat.le_of_ble_eq_true rfl, Nat.le_of_ble_eq_true rfl⟩) hP hD hS hA [2, 3] [0, 1] rfl rfl (by decide) (by decide) (fun u7 H locs hP hD hS => ?_)
  have hP : va_P G.1 vwCl [(cq, .inr (8, [.int 0, .int 0, .ref vc, .ref lc, .ref hc, .ref rc])), (nw, .inr (8, [.int 0, .int 0, .ref vd, .ref lw, .ref hg, .ref (u3 0)])), (mm, .inr (9, [.int 0, .ref nw, .ref cq, .ref hi, .int 0, .ref ko, .ref se, .int 0, .ref nf, .ref ns, .ref pi])), (se, .inl (G.2.1, 5, .inl (fun _ => 0)))] H := hP
  have hD : va_D A [(cq, .inr (8, [.int 0, .int 0, .ref vc, .ref lc, .ref hc, .ref rc])), (nw, .inr (8, [.int 0, .int 0, .ref vd, .ref lw, .ref hg, .ref (u3 0)])), (mm, .inr (9, [.int 0, .ref nw, .ref cq, .ref hi, .int 0, .ref ko, .ref se, .int 0, .ref nf, .ref ns, .ref pi])), (se, .inl (G.2.1, 5, .inl (fun _ => 0)))] := hD
  refine W.eq (g2 := F0 m 288 ls [.int 0, .long 1597987652795102]) rfl ?_
  refine lv_i2l (v := 0) hx hb dX9_digest_288 (by decide) ?_
  refine lv_ladd hx hb dX9_digest_289 ?_
  refine ztl (v := 1597987652795102) (by decide) ?_
  refine lv_lstore_n (lv' := [(1, .long 1597987652795102), (3, .int 2), (0, .ref mm)]) hx hb dX9_digest_290 rfl hl (by decide) rfl (fun ls hl => ?_)
  refine lv_iinc (v := 3) (lv' := [(3, .int 3), (1, .long 1597987652795102), (0, .ref mm)]) hx hb dX9_digest_291 hl (k := 1) rfl (by decide) (by decide) rfl (fun ls hl => ?_)
  refine lv_goto (tgt := 273) hx hb dX9_digest_294 (by decide) ?_
  refine lv_iload_n hx hb dX9_digest_273 rfl (lv_at hl 0 rfl) ?_
  refine lv_iconst (v := 5) hx hb dX9_digest_274 (by decide) ?_
  refine lv_icmp_ge (tgt := 297) hx hb dX9_digest_275 (by decide) (fun h9 => absurd h9 (by decide)) (fun _ => ?_)
  refine lv_lload_n hx hb dX9_digest_278 rfl (lv_at hl 1 rfl) ?_
  refine lv_ldc2 hx hb hown hc230 dX9_digest_279 ?_
  refine lv_lmul hx hb dX9_digest_282 ?_
  refine ztl (v := 49537617236648162) (by decide) ?_
  refine lv_aload_n hx hb dX9_digest_283 rfl (lv_at hl 2 rfl) ?_
  refine lv_iload_n hx hb dX9_digest_284 rfl (lv_at hl 0 rfl) ?_
  refine zcall (wr := [(cq, .inr (8, [.int 0, .int 0, .ref vc, .ref lc, .ref hc, .ref rc])), (nw, .inr (8, [.int 0, .int 0, .ref vd, .ref lw, .ref hg, .ref (u3 0)]))]) (va_runV (As := [.int 3]) (rest := [.long 49537617236648162]) ⟨hx, hb, hml, hown, hts⟩ (z_X9_sentNow3 l G mm nw cq hi ko se nf ns pi 0 H.size) (cwV 1 hts gX9_digest_X9_sentNow rfl rfl rfl (by decide +kernel) ⟨Nat.le_of_ble_eq_true rfl, Nat.le_of_ble_eq_true rfl⟩) (zPreV (Wc := [(mm, .inr (9, [.int 0, .ref nw, .ref cq, .ref hi, .int 0, .ref ko, .ref se, .int 0, .ref nf, .ref ns, .ref pi])), (se, .inl (G.2.1, 5, .inl (fun _ => 0)))]) (q0 := 2) (ci := 9) (q := (RX9, TX9, 11)) hP hD hE hS hA [2, 3] rfl (by decide) rfl rfl) rfl rfl hl.1 rfl (lv_room (Nat.le_of_ble_eq_true rfl)) dX9_digest_285 ⟨Nat.le_of_ble_eq_true rfl, Nat.le_of_ble_eq_true rfl⟩) hP hD hS hA [2, 3] [0, 1] rfl rfl (by decide) (by decide) (fun u8 H locs hP hD hS => ?_)
  have hP : va_P G.1 vwCl [(cq, .inr (8, [.int 0, .int 0, .ref vc, .ref lc, .ref hc, .ref rc])), (nw, .inr (8, [.int 0, .int 0, .ref vd, .ref lw, .ref hg, .ref (u3 0)])), (mm, .inr (9, [.int 0, .ref nw, .ref cq, .ref hi, .int 0, .ref ko, .ref se, .int 0, .ref nf, .ref ns, .ref pi])), (se, .inl (G.2.1, 5, .inl (fun _ => 0)))] H := hP
  have hD : va_D A [(cq, .inr (8, [.int 0, .int 0, .ref vc, .ref lc, .ref hc, .ref rc])), (nw, .inr (8, [.int 0, .int 0, .ref vd, .ref lw, .ref hg, .ref (u3 0)])), (mm, .inr (9, [.int 0, .ref nw, .ref cq, .ref hi, .int 0, .ref ko, .ref se, .int 0, .ref nf, .ref ns, .ref pi])), (se, .inl (G.2.1, 5, .inl (fun _ => 0)))] := hD
  refine W.eq (g2 := F0 m 288 ls [.int 0, .long 49537617236648162]) rfl ?_
  refine lv_i2l (v := 0) hx hb dX9_digest_288 (by decide) ?_
  refine lv_ladd hx hb dX9_digest_289 ?_
  refine ztl (v := 49537617236648162) (by decide) ?_
  refine lv_lstore_n (lv' := [(1, .long 49537617236648162), (3, .int 3), (0, .ref mm)]) hx hb dX9_digest_290 rfl hl (by decide) rfl (fun ls hl => ?_)
  refine lv_iinc (v := 4) (lv' := [(3, .int 4), (1, .long 49537617236648162), (0, .ref mm)]) hx hb dX9_digest_291 hl (k := 1) rfl (by decide) (by decide) rfl (fun ls hl => ?_)
  refine lv_goto (tgt := 273) hx hb dX9_digest_294 (by decide) ?_
  refine lv_iload_n hx hb dX9_digest_273 rfl (lv_at hl 0 rfl) ?_
  refine lv_iconst (v := 5) hx hb dX9_digest_274 (by decide) ?_
  refine lv_icmp_ge (tgt := 297) hx hb dX9_digest_275 (by decide) (fun h9 => absurd h9 (by decide)) (fun _ => ?_)
  refine lv_lload_n hx hb dX9_digest_278 rfl (lv_at hl 1 rfl) ?_
  refine lv_ldc2 hx hb hown hc230 dX9_digest_279 ?_
  refine lv_lmul hx hb dX9_digest_282 ?_
  refine ztl (v := 1535666134336093022) (by decide) ?_
  refine lv_aload_n hx hb dX9_digest_283 rfl (lv_at hl 2 rfl) ?_
  refine lv_iload_n hx hb dX9_digest_284 rfl (lv_at hl 0 rfl) ?_
  refine zcall (wr := [(cq, .inr (8, [.int 0, .int 0, .ref vc, .ref lc, .ref hc, .ref rc])), (nw, .inr (8, [.int 0, .int 0, .ref vd, .ref lw, .ref hg, .ref (u3 0)]))]) (va_runV (As := [.int 4]) (rest := [.long 1535666134336093022]) ⟨hx, hb, hml, hown, hts⟩ (z_X9_sentNow4 l G mm nw cq hi ko se nf ns pi 0 H.size) (cwV 1 hts gX9_digest_X9_sentNow rfl rfl rfl (by decide +kernel) ⟨Nat.le_of_ble_eq_true rfl, Nat.le_of_ble_eq_true rfl⟩) (zPreV (Wc := [(mm, .inr (9, [.int 0, .ref nw, .ref cq, .ref hi, .int 0, .ref ko, .ref se, .int 0, .ref nf, .ref ns, .ref pi])), (se, .inl (G.2.1, 5, .inl (fun _ => 0)))]) (q0 := 2) (ci := 9) (q := (RX9, TX9, 11)) hP hD hE hS hA [2, 3] rfl (by decide) rfl rfl) rfl rfl hl.1 rfl (lv_room (Nat.le_of_ble_eq_true rfl)) dX9_digest_285 ⟨Nat.le_of_ble_eq_true rfl, Nat.le_of_ble_eq_true rfl⟩) hP hD hS hA [2, 3] [0, 1] rfl rfl (by decide) (by decide) (fun u9 H locs hP hD hS => ?_)
  have hP : va_P G.1 vwCl [(cq, .inr (8, [.int 0, .int 0, .ref vc, .ref lc, .ref hc, .ref rc])), (nw, .inr (8, [.int 0, .int 0, .ref vd, .ref lw, .ref hg, .ref (u3 0)])), (mm, .inr (9, [.int 0, .ref nw, .ref cq, .ref hi, .int 0, .ref ko, .ref se, .int 0, .ref nf, .ref ns, .ref pi])), (se, .inl (G.2.1, 5, .inl (fun _ => 0)))] H := hP
  have hD : va_D A [(cq, .inr (8, [.int 0, .int 0, .ref vc, .ref lc, .ref hc, .ref rc])), (nw, .inr (8, [.int 0, .int 0, .ref vd, .ref lw, .ref hg, .ref (u3 0)])), (mm, .inr (9, [.int 0, .ref nw, .ref cq, .ref hi, .int 0, .ref ko, .ref se, .int 0, .ref nf, .ref ns, .ref pi])), (se, .inl (G.2.1, 5, .inl (fun _ => 0)))] := hD
  refine W.eq (g2 := F0 m 288 ls [.int 0, .long 1535666134336093022]) rfl ?_
  refine lv_i2l (v := 0) hx hb dX9_digest_288 (by decide) ?_
  refine lv_ladd hx hb dX9_digest_289 ?_
  refine ztl (v := 1535666134336093022) (by decide) ?_
  refine lv_lstore_n (lv' := [(1, .long 1535666134336093022), (3, .int 4), (0, .ref mm)]) hx hb dX9_digest_290 rfl hl (by decide) rfl (fun ls hl => ?_)
  refine lv_iinc (v := 5) (lv' := [(3, .int 5), (1, .long 1535666134336093022), (0, .ref mm)]) hx hb dX9_digest_291 hl (k := 1) rfl (by decide) (by decide) rfl (fun ls hl => ?_)
  refine lv_goto (tgt := 273) hx hb dX9_digest_294 (by decide) ?_
  refine lv_iload_n hx hb dX9_digest_273 rfl (lv_at hl 0 rfl) ?_
  refine lv_iconst (v := 5) hx hb dX9_digest_274 (by decide) ?_
  refine lv_icmp_ge (tgt := 297) hx hb dX9_digest_275 (by decide) (fun _ => ?_) (fun h9 => absurd (by decide) h9)
  refine lv_iconst (v := 0) hx hb dX9_digest_297 (by decide) ?_
  refine lv_istore_n (lv' := [(3, .int 0), (1, .long 1535666134336093022), (0, .ref mm)]) hx hb dX9_digest_298 rfl hl (by decide) rfl (fun ls hl => ?_)
  refine lv_iload_n hx hb dX9_digest_299 rfl (lv_at hl 0 rfl) ?_
  refine lv_iconst (v := 3) hx hb dX9_digest_300 (by decide) ?_
  refine lv_aload_n hx hb dX9_digest_301 rfl (lv_at hl 2 rfl) ?_
  refine va_get (D := G.1) (ci := 9) (v := .int 0) (C := RX9) (T := TX9) (N := 11) hx hb hts hw9 hown hE.1 hP 2 rfl rfl 4 (by decide) hf205 (fun _ h9 => h9) rfl dX9_digest_302 ?_
  refine lv_imul hx hb dX9_digest_305 ?_
  refine zti (v := 0) (by decide) ?_
  refine lv_icmp_ge (tgt := 329) hx hb dX9_digest_306 (by decide) (fun _ => ?_) (fun h9 => absurd (by decide) h9)
  refine lv_lload_n hx hb dX9_digest_329 rfl (lv_at hl 1 rfl) ?_
  refine lv_ldc2 hx hb hown hc230 dX9_digest_330 ?_
  refine lv_lmul hx hb dX9_digest_333 ?_
  refine ztl (v := (-7734582056709771166)) (by decide) ?_
  refine lv_aload_n hx hb dX9_digest_334 rfl (lv_at hl 2 rfl) ?_
  refine zcall (wr := [(se, .inl (G.2.1, 5, .inl (fun _ => 0)))]) (va_runV (As := []) (rest := [.long (-7734582056709771166)]) ⟨hx, hb, hml, hown, hts⟩ (z_X9_changedNow l G mm nw cq hi ko se nf ns pi 0 vd lw hg (u3 0) vc lc hc rc H.size) (cwV 0 hts gX9_digest_X9_changedNow rfl rfl rfl (by decide +kernel) ⟨Nat.le_of_ble_eq_true rfl, Nat.le_of_ble_eq_true rfl⟩) (zPreV (Wc := [(mm, .inr (9, [.int 0, .ref nw, .ref cq, .ref hi, .int 0, .ref ko, .ref se, .int 0, .ref nf, .ref ns, .ref pi])), (nw, .inr (8, [.int 0, .int 0, .ref vd, .ref lw, .ref hg, .ref (u3 0)])), (cq, .inr (8, [.int 0, .int 0, .ref vc, .ref lc, .ref hc, .ref rc]))]) (q0 := 2) (ci := 9) (q := (RX9, TX9, 11)) hP hD hE hS hA [2, 1, 0] rfl (by decide) rfl rfl) rfl rfl hl.1 rfl (lv_room (Nat.le_of_ble_eq_true rfl)) dX9_digest_335 ⟨Nat.le_of_ble_eq_true rfl, Nat.le_of_ble_eq_true rfl⟩) hP hD hS hA [2, 1, 0] [3] rfl rfl (by decide) (by decide) (fun u10 H locs hP hD hS => ?_)
  have hP : va_P G.1 vwCl [(se, .inl (G.2.1, 5, .inl (fun _ => 0))), (mm, .inr (9, [.int 0, .ref nw, .ref cq, .ref hi, .int 0, .ref ko, .ref se, .int 0, .ref nf, .ref ns, .ref pi])), (cq, .inr (8, [.int 0, .int 0, .ref vc, .ref lc, .ref hc, .ref (u10 0)])), (nw, .inr (8, [.int 0, .int 0, .ref vd, .ref lw, .ref hg, .ref (u10 1)]))] H := hP
  have hD : va_D A [(se, .inl (G.2.1, 5, .inl (fun _ => 0))), (mm, .inr (9, [.int 0, .ref nw, .ref cq, .ref hi, .int 0, .ref ko, .ref se, .int 0, .ref nf, .ref ns, .ref pi])), (cq, .inr (8, [.int 0, .int 0, .ref vc, .ref lc, .ref hc, .ref (u10 0)])), (nw, .inr (8, [.int 0, .int 0, .ref vd, .ref lw, .ref hg, .ref (u10 1)]))] := hD
  refine W.eq (g2 := F0 m 338 ls [.int 0, .long (-7734582056709771166)]) rfl ?_
  refine lv_i2l (v := 0) hx hb dX9_digest_338 (by decide) ?_
  refine lv_ladd hx hb dX9_digest_339 ?_
  refine ztl (v := (-7734582056709771166)) (by decide) ?_
  refine lv_lstore_n (lv' := [(1, .long (-7734582056709771166)), (3, .int 0), (0, .ref mm)]) hx hb dX9_digest_340 rfl hl (by decide) rfl (fun ls hl => ?_)
  refine lv_aload_n hx hb dX9_digest_341 rfl (lv_at hl 2 rfl) ?_
  refine zcallA (wr := [(se, .inl (G.2.1, 5, .inl (fun _ => 0)))]) (va_runV (As := []) (rest := []) ⟨hx, hb, hml, hown, hts⟩ (z_X9_witnessNow l G mm nw cq hi ko se nf ns pi 0 vd lw hg (u10 1) vc lc hc (u10 0) H.size) (cwV 0 hts gX9_digest_X9_witnessNow rfl rfl rfl (by decide +kernel) ⟨Nat.le_of_ble_eq_true rfl, Nat.le_of_ble_eq_true rfl⟩) (zPreV (Wc := [(mm, .inr (9, [.int 0, .ref nw, .ref cq, .ref hi, .int 0, .ref ko, .ref se, .int 0, .ref nf, .ref ns, .ref pi])), (nw, .inr (8, [.int 0, .int 0, .ref vd, .ref lw, .ref hg, .ref (u10 1)])), (cq, .inr (8, [.int 0, .int 0, .ref vc, .ref lc, .ref hc, .ref (u10 0)]))]) (q0 := 1) (ci := 9) (q := (RX9, TX9, 11)) hP hD hE hS hA [1, 3, 2] rfl (by decide) rfl rfl) rfl rfl hl.1 rfl (lv_room (Nat.le_of_ble_eq_true rfl)) dX9_digest_342 ⟨Nat.le_of_ble_eq_true rfl, Nat.le_of_ble_eq_true rfl⟩) hP hD hS hA [1, 3, 2] [0] rfl rfl (by decide) (by decide) (fun u11 H locs hP hD hS => ?_)
  have hP : va_P G.1 vwCl [(se, .inl (G.2.1, 5, .inl (fun _ => 0))), (mm, .inr (9, [.int 0, .ref nw, .ref cq, .ref hi, .int 0, .ref ko, .ref se, .int 0, .ref nf, .ref ns, .ref pi])), (nw, .inr (8, [.int 0, .int 0, .ref vd, .ref lw, .ref hg, .ref (u11 1)])), (cq, .inr (8, [.int 0, .int 0, .ref vc, .ref lc, .ref hc, .ref (u11 2)])), ((u11 0), .inl (G.2.1, 4, .inl (upd (upd (upd (upd (fun _ => 0) 0 (-1)) 1 (-1)) 2 (-1)) 3 (-1))))] H := hP
  have hD : va_D A [(se, .inl (G.2.1, 5, .inl (fun _ => 0))), (mm, .inr (9, [.int 0, .ref nw, .ref cq, .ref hi, .int 0, .ref ko, .ref se, .int 0, .ref nf, .ref ns, .ref pi])), (nw, .inr (8, [.int 0, .int 0, .ref vd, .ref lw, .ref hg, .ref (u11 1)])), (cq, .inr (8, [.int 0, .int 0, .ref vc, .ref lc, .ref hc, .ref (u11 2)])), ((u11 0), .inl (G.2.1, 4, .inl (upd (upd (upd (upd (fun _ => 0) 0 (-1)) 1 (-1)) 2 (-1)) 3 (-1))))] := hD
  refine W.eq (g2 := F0 m 345 ls [.ref (u11 0)]) rfl ?_
  refine lv_astore_n (lv' := [(3, .ref (u11 0)), (1, .long (-7734582056709771166)), (0, .ref mm)]) hx hb dX9_digest_345 rfl hl (by decide) rfl (fun ls hl => ?_)
  refine lv_aload_n hx hb dX9_digest_346 rfl (lv_at hl 0 rfl) ?_
  refine va_alen (ty := .int) (v := 4) hx hb hE.1 hP 4 0 rfl rfl (by decide) dX9_digest_347 ?_
  refine lv_istore (lv' := [(4, .int 4), (3, .ref (u11 0)), (1, .long (-7734582056709771166)), (0, .ref mm)]) hx hb dX9_digest_348 hl (by decide) rfl (fun ls hl => ?_)
  refine lv_iconst (v := 0) hx hb dX9_digest_350 (by decide) ?_
  refine lv_istore (lv' := [(5, .int 0), (4, .int 4), (3, .ref (u11 0)), (1, .long (-7734582056709771166)), (0, .ref mm)]) hx hb dX9_digest_351 hl (by decide) rfl (fun ls hl => ?_)
  refine lv_iload hx hb dX9_digest_353 (lv_at hl 0 rfl) ?_
  refine lv_iload hx hb dX9_digest_355 (lv_at hl 1 rfl) ?_
  refine lv_icmp_ge (tgt := 382) hx hb dX9_digest_357 (by decide) (fun h9 => absurd h9 (by decide)) (fun _ => ?_)
  refine lv_aload_n hx hb dX9_digest_360 rfl (lv_at hl 2 rfl) ?_
  refine lv_iload hx hb dX9_digest_361 (lv_at hl 0 rfl) ?_
  refine va_iald hx hb hE.1 hP 4 0 rfl rfl (zin (by decide +kernel)) dX9_digest_363 ?_
  refine zti (v := (-1)) rfl ?_
  refine lv_istore (lv' := [(6, .int (-1)), (5, .int 0), (4, .int 4), (3, .ref (u11 0)), (1, .long (-7734582056709771166)), (0, .ref mm)]) hx hb dX9_digest_364 hl (by decide) rfl (fun ls hl => ?_)
  refine lv_lload_n hx hb dX9_digest_366 rfl (lv_at hl 4 rfl) ?_
  refine lv_ldc2 hx hb hown hc230 dX9_digest_367 ?_
  refine lv_lmul hx hb dX9_digest_370 ?_
  refine ztl (v := 35629200221264862) (by decide) ?_
  refine lv_iload hx hb dX9_digest_371 (lv_at hl 0 rfl) ?_
  refine lv_i2l (v := (-1)) hx hb dX9_digest_373 (by decide) ?_
  refine lv_ladd hx hb dX9_digest_374 ?_
  refine ztl (v := 35629200221264861) (by decide) ?_
  refine lv_lstore_n (lv' := [(1, .long 35629200221264861), (6, .int (-1)), (5, .int 0), (4, .int 4), (3, .ref (u11 0)), (0, .ref mm)]) hx hb dX9_digest_375 rfl hl (by decide) rfl (fun ls hl => ?_)
  refine lv_iinc (v := 1) (lv' := [(5, .int 1), (1, .long 35629200221264861), (6, .int (-1)), (4, .int 4), (3, .ref (u11 0)), (0, .ref mm)]) hx hb dX9_digest_376 hl (k := 2) rfl (by decide) (by decide) rfl (fun ls hl => ?_)
  refine lv_goto (tgt := 353) hx hb dX9_digest_379 (by decide) ?_
  refine lv_iload hx hb dX9_digest_353 (lv_at hl 0 rfl) ?_
  refine lv_iload hx hb dX9_digest_355 (lv_at hl 3 rfl) ?_
  refine lv_icmp_ge (tgt := 382) hx hb dX9_digest_357 (by decide) (fun h9 => absurd h9 (by decide)) (fun _ => ?_)
  refine lv_aload_n hx hb dX9_digest_360 rfl (lv_at hl 4 rfl) ?_
  refine lv_iload hx hb dX9_digest_361 (lv_at hl 0 rfl) ?_
  refine va_iald hx hb hE.1 hP 4 0 rfl rfl (zin (by decide +kernel)) dX9_digest_363 ?_
  refine zti (v := (-1)) rfl ?_
  refine lv_istore (lv' := [(6, .int (-1)), (5, .int 1), (1, .long 35629200221264861), (4, .int 4), (3, .ref (u11 0)), (0, .ref mm)]) hx hb dX9_digest_364 hl (by decide) rfl (fun ls hl => ?_)
  refine lv_lload_n hx hb dX9_digest_366 rfl (lv_at hl 2 rfl) ?_
  refine lv_ldc2 hx hb hown hc230 dX9_digest_367 ?_
  refine lv_lmul hx hb dX9_digest_370 ?_
  refine ztl (v := 1104505206859210691) (by decide) ?_
  refine lv_iload hx hb dX9_digest_371 (lv_at hl 0 rfl) ?_
  refine lv_i2l (v := (-1)) hx hb dX9_digest_373 (by decide) ?_
  refine lv_ladd hx hb dX9_digest_374 ?_
  refine ztl (v := 1104505206859210690) (by decide) ?_
  refine lv_lstore_n (lv' := [(1, .long 1104505206859210690), (6, .int (-1)), (5, .int 1), (4, .int 4), (3, .ref (u11 0)), (0, .ref mm)]) hx hb dX9_digest_375 rfl hl (by decide) rfl (fun ls hl => ?_)
  refine lv_iinc (v := 2) (lv' := [(5, .int 2), (1, .long 1104505206859210690), (6, .int (-1)), (4, .int 4), (3, .ref (u11 0)), (0, .ref mm)]) hx hb dX9_digest_376 hl (k := 2) rfl (by decide) (by decide) rfl (fun ls hl => ?_)
  refine lv_goto (tgt := 353) hx hb dX9_digest_379 (by decide) ?_
  refine lv_iload hx hb dX9_digest_353 (lv_at hl 0 rfl) ?_
  refine lv_iload hx hb dX9_digest_355 (lv_at hl 3 rfl) ?_
  refine lv_icmp_ge (tgt := 382) hx hb dX9_digest_357 (by decide) (fun h9 => absurd h9 (by decide)) (fun _ => ?_)
  refine lv_aload_n hx hb dX9_digest_360 rfl (lv_at hl 4 rfl) ?_
  refine lv_iload hx hb dX9_digest_361 (lv_at hl 0 rfl) ?_
  refine va_iald hx hb hE.1 hP 4 0 rfl rfl (zin (by decide +kernel)) dX9_digest_363 ?_
  refine zti (v := (-1)) rfl ?_
  refine lv_istore (lv' := [(6, .int (-1)), (5, .int 2), (1, .long 1104505206859210690), (4, .int 4), (3, .ref (u11 0)), (0, .ref mm)]) hx hb dX9_digest_364 hl (by decide) rfl (fun ls hl => ?_)
  refine lv_lload_n hx hb dX9_digest_366 rfl (lv_at hl 2 rfl) ?_
  refine lv_ldc2 hx hb hown hc230 dX9_digest_367 ?_
  refine lv_lmul hx hb dX9_digest_370 ?_
  refine ztl (v := (-2653826734783571842)) (by decide) ?_
  refine lv_iload hx hb dX9_digest_371 (lv_at hl 0 rfl) ?_
  refine lv_i2l (v := (-1)) hx hb dX9_digest_373 (by decide) ?_
  refine lv_ladd hx hb dX9_digest_374 ?_
  refine ztl (v := (-2653826734783571843)) (by decide) ?_
  refine lv_lstore_n (lv' := [(1, .long (-2653826734783571843)), (6, .int (-1)), (5, .int 2), (4, .int 4), (3, .ref (u11 0)), (0, .ref mm)]) hx hb dX9_digest_375 rfl hl (by decide) rfl (fun ls hl => ?_)
  refine lv_iinc (v := 3) (lv' := [(5, .int 3), (1, .long (-2653826734783571843)), (6, .int (-1)), (4, .int 4), (3, .ref (u11 0)), (0, .ref mm)]) hx hb dX9_digest_376 hl (k := 2) rfl (by decide) (by decide) rfl (fun ls hl => ?_)
  refine lv_goto (tgt := 353) hx hb dX9_digest_379 (by decide) ?_
  refine lv_iload hx hb dX9_digest_353 (lv_at hl 0 rfl) ?_
  refine lv_iload hx hb dX9_digest_355 (lv_at hl 3 rfl) ?_
  refine lv_icmp_ge (tgt := 382) hx hb dX9_digest_357 (by decide) (fun h9 => absurd h9 (by decide)) (fun _ => ?_)
  refine lv_aload_n hx hb dX9_digest_360 rfl (lv_at hl 4 rfl) ?_
  refine lv_iload hx hb dX9_digest_361 (lv_at hl 0 rfl) ?_
  refine va_iald hx hb hE.1 hP 4 0 rfl rfl (zin (by decide +kernel)) dX9_digest_363 ?_
  refine zti (v := (-1)) rfl ?_
  refine lv_istore (lv' := [(6, .int (-1)), (5, .int 3), (1, .long (-2653826734783571843)), (4, .int 4), (3, .ref (u11 0)), (0, .ref mm)]) hx hb dX9_digest_364 hl (by decide) rfl (fun ls hl => ?_)
  refine lv_lload_n hx hb dX9_digest_366 rfl (lv_at hl 2 rfl) ?_
  refine lv_ldc2 hx hb hown hc230 dX9_digest_367 ?_
  refine lv_lmul hx hb dX9_digest_370 ?_
  refine ztl (v := (-8481652483452520669)) (by decide) ?_
  refine lv_iload hx hb dX9_digest_371 (lv_at hl 0 rfl) ?_
  refine lv_i2l (v := (-1)) hx hb dX9_digest_373 (by decide) ?_
  refine lv_ladd hx hb dX9_digest_374 ?_
  refine ztl (v := (-8481652483452520670)) (by decide) ?_
  refine lv_lstore_n (lv' := [(1, .long (-8481652483452520670)), (6, .int (-1)), (5, .int 3), (4, .int 4), (3, .ref (u11 0)), (0, .ref mm)]) hx hb dX9_digest_375 rfl hl (by decide) rfl (fun ls hl => ?_)
  refine lv_iinc (v := 4) (lv' := [(5, .int 4), (1, .long (-8481652483452520670)), (6, .int (-1)), (4, .int 4), (3, .ref (u11 0)), (0, .ref mm)]) hx hb dX9_digest_376 hl (k := 2) rfl (by decide) (by decide) rfl (fun ls hl => ?_)
  refine lv_goto (tgt := 353) hx hb dX9_digest_379 (by decide) ?_
  refine lv_iload hx hb dX9_digest_353 (lv_at hl 0 rfl) ?_
  refine lv_iload hx hb dX9_digest_355 (lv_at hl 3 rfl) ?_
  refine lv_icmp_ge (tgt := 382) hx hb dX9_digest_357 (by decide) (fun _ => ?_) (fun h9 => absurd (by decide) h9)
  refine lv_lload_n hx hb dX9_digest_382 rfl (lv_at hl 1 rfl) ?_
  have hP := hP.sub (ws' := [(mm, .inr (9, [.int 0, .ref nw, .ref cq, .ref hi, .int 0, .ref ko, .ref se, .int 0, .ref nf, .ref ns, .ref pi])), (nw, .inr (8, [.int 0, .int 0, .ref vd, .ref lw, .ref hg, .ref (u11 1)])), (cq, .inr (8, [.int 0, .int 0, .ref vc, .ref lc, .ref hc, .ref (u11 2)])), (se, .inl (G.2.1, 5, .inl (fun _ => 0)))]) [1, 2, 3, 0] rfl
  have hD := hD.sub (ws' := [(mm, .inr (9, [.int 0, .ref nw, .ref cq, .ref hi, .int 0, .ref ko, .ref se, .int 0, .ref nf, .ref ns, .ref pi])), (nw, .inr (8, [.int 0, .int 0, .ref vd, .ref lw, .ref hg, .ref (u11 1)])), (cq, .inr (8, [.int 0, .int 0, .ref vc, .ref lc, .ref hc, .ref (u11 2)])), (se, .inl (G.2.1, 5, .inl (fun _ => 0)))]) [1, 2, 3, 0] (by decide) rfl
  exact zend_l hx hb hr hlocks (fun k => [(u11 1), (u11 2)].getD k 0) hP hD hS (Nat.le_of_ble_eq_true rfl) (Nat.le_of_ble_eq_true rfl) dX9_digest_383
