/-! the law: behind the RULES -/
theorem dL_law_363 : decode cL_law 363 = .ok (.lload 7, 2) := by decide +kernel
theorem dL_law_365 : decode cL_law 365 = .ok (.ldc2_w 61, 3) := by decide +kernel
theorem dL_law_368 : decode cL_law 368 = .ok (.lcmp, 1) := by decide +kernel
theorem dL_law_369 : decode cL_law 369 = .ok (.ifCond .gt 90, 3) := by decide +kernel
theorem dL_law_372 : decode cL_law 372 = .ok (.aload_n 3, 1) := by decide +kernel
set_option maxRecDepth 20000 in
theorem ggL_law_X7_quarrels : GoodIn wsL_law wsX7_quarrels := goodIn_r _ [382, 36, 145, 205, 383, 384, 385, 66, 386, 195, 387, 332, 333, 334, 388, 389, 390, 391, 70, 392, 311, 9, 312, 71, 393, 8, 10, 637, 638, 639, 640, 641, 642, 643, 644, 645, 646, 647, 679, 680, 681, 682] (by decide +kernel) (by decide +kernel)
set_option maxRecDepth 20000 in
theorem gL_law_X7_quarrels : GoodIn wsL_law (wsV RL 63 RX7 yX7_quarrels wsX7_quarrels) := goodIn_app (goodIn_of _ (by decide +kernel)) ggL_law_X7_quarrels
theorem dL_law_373 : decode cL_law 373 = .ok (.invokevirtual 63, 3) := by decide +kernel
theorem dL_law_376 : decode cL_law 376 = .ok (.iload 10, 2) := by decide +kernel
theorem dL_law_378 : decode cL_law 378 = .ok (.if_icmp .ne 81, 3) := by decide +kernel
theorem dL_law_381 : decode cL_law 381 = .ok (.aload_n 3, 1) := by decide +kernel
theorem dL_law_382 : decode cL_law 382 = .ok (.invokevirtual 58, 3) := by decide +kernel
theorem dL_law_385 : decode cL_law 385 = .ok (.i2l, 1) := by decide +kernel
theorem dL_law_386 : decode cL_law 386 = .ok (.lload 11, 2) := by decide +kernel
theorem dL_law_388 : decode cL_law 388 = .ok (.lsub, 1) := by decide +kernel
theorem dL_law_389 : decode cL_law 389 = .ok (.aload_n 2, 1) := by decide +kernel
theorem dL_law_390 : decode cL_law 390 = .ok (.getfield 66, 3) := by decide +kernel
theorem dL_law_393 : decode cL_law 393 = .ok (.iconst 1, 1) := by decide +kernel
theorem dL_law_394 : decode cL_law 394 = .ok (.if_icmp .ne 12, 3) := by decide +kernel
theorem dL_law_406 : decode cL_law 406 = .ok (.lconst 0, 1) := by decide +kernel
theorem dL_law_407 : decode cL_law 407 = .ok (.lcmp, 1) := by decide +kernel
theorem dL_law_408 : decode cL_law 408 = .ok (.ifCond .ne 51, 3) := by decide +kernel
theorem dL_law_411 : decode cL_law 411 = .ok (.aload_n 3, 1) := by decide +kernel
set_option maxRecDepth 20000 in
theorem ggL_law_X7_changed : GoodIn wsL_law wsX7_changed := goodIn_r _ [526, 527, 528, 529, 530, 20, 531, 45, 53, 403, 404, 405, 44, 406, 407, 408, 409, 410, 411, 85, 86, 87, 88, 412, 8, 9, 10, 84, 413, 414, 415, 35, 416, 156, 64, 417, 418, 419, 66, 420, 70, 71, 421, 422, 423, 424, 425, 426, 427, 532, 533, 534, 52, 535, 536, 537, 102, 104, 105, 538, 328, 329, 330, 331, 332, 333, 334, 195, 539, 540, 541, 106, 542, 103, 543, 544, 545, 546, 547, 440, 441, 442, 354, 316, 317, 318, 443, 444, 445, 446, 548, 549, 550, 551, 552, 350, 351, 352, 254, 353, 553, 482, 483, 484, 485, 449, 450, 451, 554, 453, 454, 455, 555, 496, 497, 498, 499, 500, 556, 666, 667, 668, 669, 670, 671, 672, 637, 638, 639, 640, 641, 642, 643, 644, 653, 654, 655, 656, 657, 658, 645, 646, 647, 679, 680, 681, 682] (by decide +kernel) (by decide +kernel)
set_option maxRecDepth 20000 in
theorem gL_law_X7_changed : GoodIn wsL_law (wsV RL 70 RX7 yX7_changed wsX7_changed) := goodIn_app (goodIn_of _ (by decide +kernel)) ggL_law_X7_changed
theorem dL_law_412 : decode cL_law 412 = .ok (.invokevirtual 70, 3) := by decide +kernel
theorem dL_law_415 : decode cL_law 415 = .ok (.ifCond .ne 7, 3) := by decide +kernel
theorem dL_law_422 : decode cL_law 422 = .ok (.iconst 0, 1) := by decide +kernel
theorem dL_law_423 : decode cL_law 423 = .ok (.aload_n 3, 1) := by decide +kernel
theorem dL_law_424 : decode cL_law 424 = .ok (.iconst 0, 1) := by decide +kernel
set_option maxRecDepth 20000 in
theorem ggL_law_X7_witness : GoodIn wsL_law wsX7_witness := goodIn_ca (goodIn_r _ [560, 185, 186, 561, 528, 529, 530, 20, 531, 45, 53, 403, 404, 405, 44, 406, 407, 408, 409, 410, 411, 85, 86, 87, 88, 412, 8, 9, 10, 84, 413, 414, 415, 35, 416, 156, 64, 417, 418, 419, 66, 420, 70, 71, 421, 422, 423, 424, 425, 426, 427, 532, 533, 534, 52, 535, 536, 537, 102, 104, 105, 538, 328, 329, 330, 331, 332, 333, 334, 195, 539, 540, 541, 106, 542, 103, 543, 544, 545, 546, 547, 440, 441, 442, 354, 316, 317, 318, 443, 444, 445, 446, 548, 549, 550, 551, 552, 350, 351, 352, 254, 353, 553, 482, 483, 484, 485, 449, 450, 451, 554, 453, 454, 455, 555, 496, 497, 498, 499, 500, 556, 666, 667, 668, 669, 670, 671, 672, 637, 638, 639, 640, 641, 642, 643, 644, 653, 654, 655, 656, 657, 658, 645, 646, 647, 679, 680, 681, 682] (by decide +kernel) (by decide +kernel)) (goodIn_sub (fun _ h => List.mem_append_right _ h) (by decide +kernel))
set_option maxRecDepth 20000 in
theorem gL_law_X7_witness : GoodIn wsL_law (wsV RL 73 RX7 yX7_witness wsX7_witness) := goodIn_app (goodIn_of _ (by decide +kernel)) ggL_law_X7_witness
theorem dL_law_425 : decode cL_law 425 = .ok (.invokevirtual 73, 3) := by decide +kernel
theorem dL_law_428 : decode cL_law 428 = .ok (.ifCond .ge 7, 3) := by decide +kernel
theorem dL_law_435 : decode cL_law 435 = .ok (.iconst 0, 1) := by decide +kernel
theorem dL_law_436 : decode cL_law 436 = .ok (.if_icmp .ne 23, 3) := by decide +kernel
theorem dL_law_439 : decode cL_law 439 = .ok (.aload_n 3, 1) := by decide +kernel
set_option maxRecDepth 20000 in
theorem ggL_law_X7_meanSteps : GoodIn wsL_law wsX7_meanSteps := goodIn_r _ [592, 593, 399, 400, 401, 20, 402, 45, 49, 403, 404, 405, 44, 406, 407, 408, 409, 410, 411, 85, 86, 87, 88, 412, 8, 9, 10, 84, 413, 414, 415, 35, 416, 156, 64, 417, 418, 419, 66, 420, 70, 71, 421, 422, 423, 424, 425, 426, 427, 428, 429, 430, 48, 431, 432, 433, 93, 96, 434, 328, 329, 330, 331, 332, 333, 334, 195, 435, 436, 437, 94, 97, 438, 95, 439, 440, 441, 442, 354, 316, 317, 318, 443, 444, 445, 446, 447, 448, 449, 450, 451, 452, 453, 454, 455, 594, 595, 596, 597, 637, 638, 639, 640, 641, 642, 643, 644, 653, 654, 655, 656, 657, 658, 645, 646, 647, 679, 680, 681, 682, 659, 660, 661, 662, 663, 664, 665] (by decide +kernel) (by decide +kernel)
set_option maxRecDepth 20000 in
theorem gL_law_X7_meanSteps : GoodIn wsL_law (wsV RL 76 RX7 yX7_meanSteps wsX7_meanSteps) := goodIn_app (goodIn_of _ (by decide +kernel)) ggL_law_X7_meanSteps
theorem dL_law_440 : decode cL_law 440 = .ok (.invokevirtual 76, 3) := by decide +kernel
theorem dL_law_443 : decode cL_law 443 = .ok (.dconst 0, 1) := by decide +kernel
theorem dL_law_444 : decode cL_law 444 = .ok (.dcmp .g, 1) := by decide +kernel
theorem dL_law_445 : decode cL_law 445 = .ok (.ifCond .lt 14, 3) := by decide +kernel
theorem dL_law_448 : decode cL_law 448 = .ok (.aload_n 3, 1) := by decide +kernel
theorem dL_law_449 : decode cL_law 449 = .ok (.invokevirtual 76, 3) := by decide +kernel
theorem dL_law_452 : decode cL_law 452 = .ok (.ldc2_w 80, 3) := by decide +kernel
theorem dL_law_455 : decode cL_law 455 = .ok (.dcmp .l, 1) := by decide +kernel
theorem dL_law_456 : decode cL_law 456 = .ok (.ifCond .le 5, 3) := by decide +kernel
theorem dL_law_418 : decode cL_law 418 = .ok (.iconst 1, 1) := by decide +kernel
theorem dL_law_419 : decode cL_law 419 = .ok (.goto 4, 3) := by decide +kernel
theorem dL_law_431 : decode cL_law 431 = .ok (.iconst 1, 1) := by decide +kernel
theorem dL_law_432 : decode cL_law 432 = .ok (.goto 4, 3) := by decide +kernel
theorem dL_law_397 : decode cL_law 397 = .ok (.ldc2_w 61, 3) := by decide +kernel
theorem dL_law_400 : decode cL_law 400 = .ok (.lload 7, 2) := by decide +kernel
theorem dL_law_402 : decode cL_law 402 = .ok (.lsub, 1) := by decide +kernel
theorem dL_law_403 : decode cL_law 403 = .ok (.goto 4, 3) := by decide +kernel
theorem zmean0 {v : UInt64} (h : zMean v) : ∃ w : Int, Op.cmpValue (FP.dcmp v FP.dconst0) .g = zi w ∧ 0 ≤ w ∧ w ≤ 1 := by
  obtain ⟨n, h0, h1, rfl⟩ := h
  rcases zfl_0 h0 h1 with e | e
  · rw [e]; exact ⟨1, rfl, by omega, by omega⟩
  · rw [e]; exact ⟨0, rfl, by omega, by omega⟩
theorem zmean4 {v : UInt64} (h : zMean v) : ∃ w : Int, Op.cmpValue (FP.dcmp v 4616189618054758400) .l = zi w ∧ -1 ≤ w ∧ w ≤ 0 := by
  obtain ⟨n, h0, h1, rfl⟩ := h
  rcases zfl_le h0 h1 with e | e
  · rw [e]; exact ⟨-1, rfl, by omega, by omega⟩
  · rw [e]; exact ⟨0, rfl, by omega, by omega⟩
theorem zcmp_or (x y : Int) : (y < x ∧ zcmp x y = 1) ∨ (x = y ∧ zcmp x y = 0) ∨ (x < y ∧ zcmp x y = -1) := by
  unfold zcmp
  split
  · omega
  · split <;> omega

set_option maxHeartbeats 4000000 in
set_option maxRecDepth 100000 in
/-- behind the RULES -/
theorem law_cond0 {p : Program} {l : Launch} {e : Env} {s : State} {m : MethodId} {below : List Frame} {meth : Method} {c : Code} {A : Nat → Prop} {G : zG} {b : Nat} {Q : State → Prop} {cells slots : Nat} {H : Heap} {locs : List Loc} {ls : Array Slot} {wr : va_W} {ad : Nat → Nat} {X : Nat → Nat → Int} {tm st : Int} {g0 : Nat} {dg : Int64} {la : Int} {f0 f3 f4 f6 f7 f8 f9 : Value} {dr : Nat} {sA sW qT wA : Int} (hx : p.tables.exec = Jvm.exec) (hb : c.code = cL_law) (hml : c.maxLocals = 19) (hown : s.vm.findClass RL = some m.cls) (hts : ∀ w ∈ wsL_law, w.before #[Value.ref b] s = true) (hA : ∀ q : Nat, s.heap.size ≤ q → A q) (hE : zZ G A s s.heap) (hc : cells ≤ 500000) (hn : slots ≤ 6000000) (hI : zI X) (hFr : zFr X) (hTf : zTf X) (hg : wr[0]? = some (g0, zho G f0 dr f3 f4 (.int (zi la)) f6 f7 f8 f9)) (hla : la = X 0 2 ∧ (la = 0 ∨ la = 1)) (hsA : 0 ≤ sA ∧ sA ≤ 268435456) (hsW : 0 ≤ sW ∧ sW ≤ 268435456) (hqb : 0 ≤ qT ∧ qT ≤ 64) (hab1 : 0 ≤ wA ∧ wA ≤ 268435456) (hwA : zIs wA (zAll X 255)) (hqT : zIs qT (zQu X (zN X 0))) (hs1 : la = 1 → wA - sW = 268435456 - sA) (hs0 : la ≠ 1 → wA - sW = 0) (hP : va_P G.1 vwCl (wr ++ zpic G ad X) H) (hD : va_D A (wr ++ zpic G ad X)) (hS : va_S A s.heap H locs) (hl : lv_has ls 19 [(0, .ref b), (1, .int (zi tm)), (2, .ref g0), (3, .ref (ad 52)), (4, .int (zi st)), (5, .long dg), (7, .long (zln sA)), (9, .int (zi (zN X 0 : Int))), (10, .int (zi qT)), (11, .long (zln sW))])
    (kk : ∀ (H : Heap) (locs : List Loc) (ls : Array Slot), va_P G.1 vwCl (wr ++ zpic G ad X) H → va_D A (wr ++ zpic G ad X) → va_S A s.heap H locs → lv_has ls 19 [(0, .ref b), (1, .int (zi tm)), (2, .ref g0), (3, .ref (ad 52)), (4, .int (zi st)), (5, .long dg), (9, .int (zi (zN X 0 : Int)))] → W p l e room_1 s m #[Value.ref b] below meth c H locs cells slots Q (F0 m 461 ls [])) : W p l e room_1 s m #[Value.ref b] below meth c H locs cells slots Q (F0 m 363 ls []) := by
  have hn8 := hI.1.n (Or.inl rfl : zIsW 0)
  have hwz : (X 65 5 = 0 ∧ X 66 0 = -1) ∨ (0 < X 65 5 ∧ X 65 5 ≤ 268435456 ∧ 0 ≤ X 66 0 ∧ X 66 0 < 1024) := by rcases hI.2.2.2.2.1 with h9 | ⟨-, -, h9⟩; exact absurd h9 (by have := hFr.2.2.2; omega); rcases h9 with ⟨a1, a2⟩ | ⟨a1, a2, a3⟩; exact Or.inl ⟨a1, a2 0 (by omega)⟩; exact Or.inr ⟨a1, a2, a3 0 (by omega)⟩
  have hc61 := hts (.constantLong RL 61 (268435456)) (by decide +kernel)
  have hw8 : ∀ w ∈ u_ws RX8 TX8 10, w ∈ wsL_law := by decide +kernel
  have hf66 := hts (.fieldLink RL 66 "NettleLaw$Hedge" "last" "I") (by decide +kernel)
  have hc80 := hts (.constantDouble RL 80 (4616189618054758400)) (by decide +kernel)
  refine lv_lload hx hb dL_law_363 (lv_at hl 6 rfl) ?_
  refine lv_ldc2 hx hb hown hc61 dL_law_365 ?_
  refine ztl (v := zln 268435456) rfl ?_
  refine lv_lcmp hx hb dL_law_368 ?_
  refine zti (v := zi (zcmp sA 268435456)) (zln_cmp (by omega) (by omega)) ?_
  have hcm368 : (268435456 < sA ∧ zcmp sA 268435456 = 1) ∨ (sA = 268435456 ∧ zcmp sA 268435456 = 0) ∨ (sA < 268435456 ∧ zcmp sA 268435456 = -1) := zcmp_or _ _
  refine z0_gt (tgt := 459) hx hb dL_law_369 (by decide) (by omega) (fun h9 => by exfalso; omega) (fun h369 => ?_)
  refine lv_aload_n hx hb dL_law_372 rfl (lv_at hl 3 rfl) ?_
  refine zcall (wr := wr) (wc := zpic G ad X) (va_runV (As := []) (rest := []) ⟨hx, hb, hml, hown, hts⟩ (c_X7_quarrels l G ad X hI.1 H.size) (cwV 0 hts gL_law_X7_quarrels rfl rfl rfl (by decide +kernel) ⟨Nat.le_of_ble_eq_true rfl, Nat.le_of_ble_eq_true rfl⟩) (zPreV (As := []) (wr := wr) (wc := zpic G ad X) (q0 := 52) (ci := 7) (q := (RX7, TX7, 8)) hP hD hE hS hA rfl p_52) rfl rfl hl.1 rfl (lv_room (Nat.le_of_ble_eq_true rfl)) dL_law_373 ⟨(by show _ ≤ 600104; omega), (by show _ ≤ 7301314; omega)⟩) hP hD hS hA (fun _ _ H locs hf9 hP hD hS => ?_)
  obtain ⟨v1, rfl, hv1, rfl⟩ := hf9
  have hP : va_P G.1 vwCl (wr ++ zpic G ad X) H := hP
  have hD : va_D A (wr ++ zpic G ad X) := hD
  refine W.eq (g2 := F0 m 376 ls [.int (zi v1)]) rfl ?_
  have kv1 : v1 = qT := hv1.trans (hqT.eq).symm
  clear hv1
  refine lv_iload hx hb dL_law_376 (lv_at hl 8 rfl) ?_
  refine zc_ne (tgt := 459) hx hb dL_law_378 (by decide) (by omega) (by omega) (fun h9 => by exfalso; omega) (fun h378 => ?_)
  refine lv_aload_n hx hb dL_law_381 rfl (lv_at hl 3 rfl) ?_
  refine zcall (wr := wr) (wc := zpic G ad X) (va_runV (As := []) (rest := []) ⟨hx, hb, hml, hown, hts⟩ (c_X7_allowed l G ad X hI.1 hI.2.1 H.size) (cwV 0 hts gL_law_X7_allowed rfl rfl rfl (by decide +kernel) ⟨Nat.le_of_ble_eq_true rfl, Nat.le_of_ble_eq_true rfl⟩) (zPreV (As := []) (wr := wr) (wc := zpic G ad X) (q0 := 52) (ci := 7) (q := (RX7, TX7, 8)) hP hD hE hS hA rfl p_52) rfl rfl hl.1 rfl (lv_room (Nat.le_of_ble_eq_true rfl)) dL_law_382 ⟨(by show _ ≤ 600104; omega), (by show _ ≤ 7301314; omega)⟩) hP hD hS hA (fun _ _ H locs hf9 hP hD hS => ?_)
  obtain ⟨v2, Y1, rfl, hv2, rfl⟩ := hf9
  have eY1 : X = Y1 := (hv2.2.1 hFr.1).symm
  subst eY1
  have hP : va_P G.1 vwCl (wr ++ zpic G ad X) H := hP
  have hD : va_D A (wr ++ zpic G ad X) := hD
  refine W.eq (g2 := F0 m 385 ls [.int (zi v2)]) rfl ?_
  have kv2 : v2 = wA := hv2.1.trans (hwA.eq).symm
  clear hv2
  refine lv_i2l (v := (zln v2)) hx hb dL_law_385 (zi_l (by omega)) ?_
  refine lv_lload hx hb dL_law_386 (lv_at hl 9 rfl) ?_
  refine lv_lsub hx hb dL_law_388 (ztl (v := (zln (v2 - sW))) (zln_sub _ _) ?_)
  refine lv_aload_n hx hb dL_law_389 rfl (lv_at hl 2 rfl) ?_
  refine va_get (D := G.1) (ci := 8) (v := .int (zi la)) (C := RX8) (T := TX8) (N := 10) hx hb hts hw8 hown hE.1 hP 0 (zget_old hg) rfl 5 (by decide) hf66 (fun _ h9 => h9) rfl dL_law_390 ?_
  refine lv_iconst (v := zi 1) hx hb dL_law_393 rfl ?_
  refine zc_ne (tgt := 406) hx hb dL_law_394 (by decide) (by omega) (by decide) (fun h394 => ?_) (fun h394 => ?_)
  · refine lv_lconst (v := 0) hx hb dL_law_406 (by decide) ?_
    refine ztl (v := zln 0) rfl ?_
    refine lv_lcmp hx hb dL_law_407 ?_
    refine zti (v := zi (zcmp (v2 - sW) 0)) (zln_cmp (by omega) (by omega)) ?_
    have hcm407 : (0 < (v2 - sW) ∧ zcmp (v2 - sW) 0 = 1) ∨ ((v2 - sW) = 0 ∧ zcmp (v2 - sW) 0 = 0) ∨ ((v2 - sW) < 0 ∧ zcmp (v2 - sW) 0 = -1) := zcmp_or _ _
    refine z0_ne (tgt := 459) hx hb dL_law_408 (by decide) (by omega) (fun h9 => by exfalso; omega) (fun h408 => ?_)
    refine lv_aload_n hx hb dL_law_411 rfl (lv_at hl 3 rfl) ?_
    refine zcall (wr := wr) (wc := zpic G ad X) (va_runV (As := []) (rest := []) ⟨hx, hb, hml, hown, hts⟩ (c_X7_changed l G ad X hI.1 hI.2.2.1 hI.2.2.2.2.1 H.size) (cwV 0 hts gL_law_X7_changed rfl rfl rfl (by decide +kernel) ⟨Nat.le_of_ble_eq_true rfl, Nat.le_of_ble_eq_true rfl⟩) (zPreV (As := []) (wr := wr) (wc := zpic G ad X) (q0 := 52) (ci := 7) (q := (RX7, TX7, 8)) hP hD hE hS hA rfl p_52) rfl rfl hl.1 rfl (lv_room (Nat.le_of_ble_eq_true rfl)) dL_law_412 ⟨(by show _ ≤ 600104; omega), (by show _ ≤ 7301314; omega)⟩) hP hD hS hA (fun _ _ H locs hf9 hP hD hS => ?_)
    obtain ⟨v3, Y2, rfl, hv3, rfl⟩ := hf9
    have eY2 : X = Y2 := (hv3.2.1 hFr.2.2.2).symm
    subst eY2
    have hP : va_P G.1 vwCl (wr ++ zpic G ad X) H := hP
    have hD : va_D A (wr ++ zpic G ad X) := hD
    refine W.eq (g2 := F0 m 415 ls [.int (zi v3)]) rfl ?_
    refine z0_ne (tgt := 422) hx hb dL_law_415 (by decide) (by omega) (fun h415 => ?_) (fun h415 => ?_)
    · refine lv_iconst (v := zi 0) hx hb dL_law_422 rfl ?_
      refine lv_aload_n hx hb dL_law_423 rfl (lv_at hl 3 rfl) ?_
      refine lv_iconst (v := zi 0) hx hb dL_law_424 rfl ?_
      refine zcall (wr := wr) (wc := zpic G ad X) (va_runV (As := [.int (zi 0)]) (rest := [.int (zi 0)]) ⟨hx, hb, hml, hown, hts⟩ (c_X7_witness l G ad X 0 hI.1 hI.2.2.1 hI.2.2.2.2.1 (by omega) H.size) (cwV 1 hts gL_law_X7_witness rfl rfl rfl (by decide +kernel) ⟨Nat.le_of_ble_eq_true rfl, Nat.le_of_ble_eq_true rfl⟩) (zPreV (As := [.int (zi 0)]) (wr := wr) (wc := zpic G ad X) (q0 := 52) (ci := 7) (q := (RX7, TX7, 8)) hP hD hE hS hA rfl p_52) rfl rfl hl.1 rfl (lv_room (Nat.le_of_ble_eq_true rfl)) dL_law_425 ⟨(by show _ ≤ 600104; omega), (by show _ ≤ 7301314; omega)⟩) hP hD hS hA (fun _ _ H locs hf9 hP hD hS => ?_)
      obtain ⟨v4, Y3, rfl, hv4, rfl⟩ := hf9
      have eY3 : X = Y3 := (hv4.2.1 hFr.2.2.2).symm
      subst eY3
      have hP : va_P G.1 vwCl (wr ++ zpic G ad X) H := hP
      have hD : va_D A (wr ++ zpic G ad X) := hD
      refine W.eq (g2 := F0 m 428 ls [.int (zi v4), .int (zi 0)]) rfl ?_
      refine z0_ge (tgt := 435) hx hb dL_law_428 (by decide) (by omega) (fun h428 => ?_) (fun h9 => by exfalso; omega)
      refine lv_iconst (v := zi 0) hx hb dL_law_435 rfl ?_
      refine zc_ne (tgt := 459) hx hb dL_law_436 (by decide) (by decide) (by decide) (fun h9 => by exfalso; omega) (fun h436 => ?_)
      refine lv_aload_n hx hb dL_law_439 rfl (lv_at hl 3 rfl) ?_
      refine zcall (wr := wr) (wc := zpic G ad X) (va_runV (As := []) (rest := []) ⟨hx, hb, hml, hown, hts⟩ (c_X7_meanSteps l G ad X hI.1 hTf H.size) (cwV 0 hts gL_law_X7_meanSteps rfl rfl rfl (by decide +kernel) ⟨Nat.le_of_ble_eq_true rfl, Nat.le_of_ble_eq_true rfl⟩) (zPreV (As := []) (wr := wr) (wc := zpic G ad X) (q0 := 52) (ci := 7) (q := (RX7, TX7, 8)) hP hD hE hS hA rfl p_52) rfl rfl hl.1 rfl (lv_room (Nat.le_of_ble_eq_true rfl)) dL_law_440 ⟨(by show _ ≤ 600104; omega), (by show _ ≤ 7301314; omega)⟩) hP hD hS hA (fun _ _ H locs hf9 hP hD hS => ?_)
      obtain ⟨v5, rfl, hv5, rfl⟩ := hf9
      have hP : va_P G.1 vwCl (wr ++ zpic G ad X) H := hP
      have hD : va_D A (wr ++ zpic G ad X) := hD
      refine W.eq (g2 := F0 m 443 ls [.double v5]) rfl ?_
      refine lv_dconst0 hx hb dL_law_443 ?_
      refine lv_dcmp hx hb dL_law_444 ?_
      obtain ⟨w1, hw1, hbw1⟩ := zmean0 hv5
      refine zti (v := zi w1) hw1 ?_
      refine z0_lt (tgt := 459) hx hb dL_law_445 (by decide) (by omega) (fun h9 => by exfalso; omega) (fun h445 => ?_)
      refine lv_aload_n hx hb dL_law_448 rfl (lv_at hl 3 rfl) ?_
      refine zcall (wr := wr) (wc := zpic G ad X) (va_runV (As := []) (rest := []) ⟨hx, hb, hml, hown, hts⟩ (c_X7_meanSteps l G ad X hI.1 hTf H.size) (cwV 0 hts gL_law_X7_meanSteps rfl rfl rfl (by decide +kernel) ⟨Nat.le_of_ble_eq_true rfl, Nat.le_of_ble_eq_true rfl⟩) (zPreV (As := []) (wr := wr) (wc := zpic G ad X) (q0 := 52) (ci := 7) (q := (RX7, TX7, 8)) hP hD hE hS hA rfl p_52) rfl rfl hl.1 rfl (lv_room (Nat.le_of_ble_eq_true rfl)) dL_law_449 ⟨(by show _ ≤ 600104; omega), (by show _ ≤ 7301314; omega)⟩) hP hD hS hA (fun _ _ H locs hf9 hP hD hS => ?_)
      obtain ⟨v6, rfl, hv6, rfl⟩ := hf9
      have hP : va_P G.1 vwCl (wr ++ zpic G ad X) H := hP
      have hD : va_D A (wr ++ zpic G ad X) := hD
      refine W.eq (g2 := F0 m 452 ls [.double v6]) rfl ?_
      refine lv_ldc2d hx hb hown hc80 dL_law_452 ?_
      refine lv_dcmp hx hb dL_law_455 ?_
      obtain ⟨w2, hw2, hbw2⟩ := zmean4 hv6
      refine zti (v := zi w2) hw2 ?_
      refine z0_le (tgt := 461) hx hb dL_law_456 (by decide) (by omega) (fun h456 => ?_) (fun h9 => by exfalso; omega)
      exact kk  H locs ls hP hD hS (lv_sub hl [0, 1, 2, 3, 4, 5, 7] rfl)
    · refine lv_iconst (v := zi 1) hx hb dL_law_418 rfl ?_
      refine lv_goto (tgt := 423) hx hb dL_law_419 (by decide) ?_
      refine lv_aload_n hx hb dL_law_423 rfl (lv_at hl 3 rfl) ?_
      refine lv_iconst (v := zi 0) hx hb dL_law_424 rfl ?_
      refine zcall (wr := wr) (wc := zpic G ad X) (va_runV (As := [.int (zi 0)]) (rest := [.int (zi 1)]) ⟨hx, hb, hml, hown, hts⟩ (c_X7_witness l G ad X 0 hI.1 hI.2.2.1 hI.2.2.2.2.1 (by omega) H.size) (cwV 1 hts gL_law_X7_witness rfl rfl rfl (by decide +kernel) ⟨Nat.le_of_ble_eq_true rfl, Nat.le_of_ble_eq_true rfl⟩) (zPreV (As := [.int (zi 0)]) (wr := wr) (wc := zpic G ad X) (q0 := 52) (ci := 7) (q := (RX7, TX7, 8)) hP hD hE hS hA rfl p_52) rfl rfl hl.1 rfl (lv_room (Nat.le_of_ble_eq_true rfl)) dL_law_425 ⟨(by show _ ≤ 600104; omega), (by show _ ≤ 7301314; omega)⟩) hP hD hS hA (fun _ _ H locs hf9 hP hD hS => ?_)
      obtain ⟨v4, Y3, rfl, hv4, rfl⟩ := hf9
      have eY3 : X = Y3 := (hv4.2.1 hFr.2.2.2).symm
      subst eY3
      have hP : va_P G.1 vwCl (wr ++ zpic G ad X) H := hP
      have hD : va_D A (wr ++ zpic G ad X) := hD
      refine W.eq (g2 := F0 m 428 ls [.int (zi v4), .int (zi 1)]) rfl ?_
      refine z0_ge (tgt := 435) hx hb dL_law_428 (by decide) (by omega) (fun h9 => by exfalso; omega) (fun h428 => ?_)
      refine lv_iconst (v := zi 1) hx hb dL_law_431 rfl ?_
      refine lv_goto (tgt := 436) hx hb dL_law_432 (by decide) ?_
      refine zc_ne (tgt := 459) hx hb dL_law_436 (by decide) (by decide) (by decide) (fun h9 => by exfalso; omega) (fun h436 => ?_)
      refine lv_aload_n hx hb dL_law_439 rfl (lv_at hl 3 rfl) ?_
      refine zcall (wr := wr) (wc := zpic G ad X) (va_runV (As := []) (rest := []) ⟨hx, hb, hml, hown, hts⟩ (c_X7_meanSteps l G ad X hI.1 hTf H.size) (cwV 0 hts gL_law_X7_meanSteps rfl rfl rfl (by decide +kernel) ⟨Nat.le_of_ble_eq_true rfl, Nat.le_of_ble_eq_true rfl⟩) (zPreV (As := []) (wr := wr) (wc := zpic G ad X) (q0 := 52) (ci := 7) (q := (RX7, TX7, 8)) hP hD hE hS hA rfl p_52) rfl rfl hl.1 rfl (lv_room (Nat.le_of_ble_eq_true rfl)) dL_law_440 ⟨(by show _ ≤ 600104; omega), (by show _ ≤ 7301314; omega)⟩) hP hD hS hA (fun _ _ H locs hf9 hP hD hS => ?_)
      obtain ⟨v5, rfl, hv5, rfl⟩ := hf9
      have hP : va_P G.1 vwCl (wr ++ zpic G ad X) H := hP
      have hD : va_D A (wr ++ zpic G ad X) := hD
      refine W.eq (g2 := F0 m 443 ls [.double v5]) rfl ?_
      refine lv_dconst0 hx hb dL_law_443 ?_
      refine lv_dcmp hx hb dL_law_444 ?_
      obtain ⟨w1, hw1, hbw1⟩ := zmean0 hv5
      refine zti (v := zi w1) hw1 ?_
      refine z0_lt (tgt := 459) hx hb dL_law_445 (by decide) (by omega) (fun h9 => by exfalso; omega) (fun h445 => ?_)
      refine lv_aload_n hx hb dL_law_448 rfl (lv_at hl 3 rfl) ?_
      refine zcall (wr := wr) (wc := zpic G ad X) (va_runV (As := []) (rest := []) ⟨hx, hb, hml, hown, hts⟩ (c_X7_meanSteps l G ad X hI.1 hTf H.size) (cwV 0 hts gL_law_X7_meanSteps rfl rfl rfl (by decide +kernel) ⟨Nat.le_of_ble_eq_true rfl, Nat.le_of_ble_eq_true rfl⟩) (zPreV (As := []) (wr := wr) (wc := zpic G ad X) (q0 := 52) (ci := 7) (q := (RX7, TX7, 8)) hP hD hE hS hA rfl p_52) rfl rfl hl.1 rfl (lv_room (Nat.le_of_ble_eq_true rfl)) dL_law_449 ⟨(by show _ ≤ 600104; omega), (by show _ ≤ 7301314; omega)⟩) hP hD hS hA (fun _ _ H locs hf9 hP hD hS => ?_)
      obtain ⟨v6, rfl, hv6, rfl⟩ := hf9
      have hP : va_P G.1 vwCl (wr ++ zpic G ad X) H := hP
      have hD : va_D A (wr ++ zpic G ad X) := hD
      refine W.eq (g2 := F0 m 452 ls [.double v6]) rfl ?_
      refine lv_ldc2d hx hb hown hc80 dL_law_452 ?_
      refine lv_dcmp hx hb dL_law_455 ?_
      obtain ⟨w2, hw2, hbw2⟩ := zmean4 hv6
      refine zti (v := zi w2) hw2 ?_
      refine z0_le (tgt := 461) hx hb dL_law_456 (by decide) (by omega) (fun h456 => ?_) (fun h9 => by exfalso; omega)
      exact kk  H locs ls hP hD hS (lv_sub hl [0, 1, 2, 3, 4, 5, 7] rfl)
  · refine lv_ldc2 hx hb hown hc61 dL_law_397 ?_
    refine ztl (v := zln 268435456) rfl ?_
    refine lv_lload hx hb dL_law_400 (lv_at hl 6 rfl) ?_
    refine lv_lsub hx hb dL_law_402 (ztl (v := (zln (268435456 - sA))) (zln_sub _ _) ?_)
    refine lv_goto (tgt := 407) hx hb dL_law_403 (by decide) ?_
    refine lv_lcmp hx hb dL_law_407 ?_
    refine zti (v := zi (zcmp (v2 - sW) (268435456 - sA))) (zln_cmp (by omega) (by omega)) ?_
    have hcm407 : ((268435456 - sA) < (v2 - sW) ∧ zcmp (v2 - sW) (268435456 - sA) = 1) ∨ ((v2 - sW) = (268435456 - sA) ∧ zcmp (v2 - sW) (268435456 - sA) = 0) ∨ ((v2 - sW) < (268435456 - sA) ∧ zcmp (v2 - sW) (268435456 - sA) = -1) := zcmp_or _ _
    refine z0_ne (tgt := 459) hx hb dL_law_408 (by decide) (by omega) (fun h9 => by exfalso; omega) (fun h408 => ?_)
    refine lv_aload_n hx hb dL_law_411 rfl (lv_at hl 3 rfl) ?_
    refine zcall (wr := wr) (wc := zpic G ad X) (va_runV (As := []) (rest := []) ⟨hx, hb, hml, hown, hts⟩ (c_X7_changed l G ad X hI.1 hI.2.2.1 hI.2.2.2.2.1 H.size) (cwV 0 hts gL_law_X7_changed rfl rfl rfl (by decide +kernel) ⟨Nat.le_of_ble_eq_true rfl, Nat.le_of_ble_eq_true rfl⟩) (zPreV (As := []) (wr := wr) (wc := zpic G ad X) (q0 := 52) (ci := 7) (q := (RX7, TX7, 8)) hP hD hE hS hA rfl p_52) rfl rfl hl.1 rfl (lv_room (Nat.le_of_ble_eq_true rfl)) dL_law_412 ⟨(by show _ ≤ 600104; omega), (by show _ ≤ 7301314; omega)⟩) hP hD hS hA (fun _ _ H locs hf9 hP hD hS => ?_)
    obtain ⟨v3, Y2, rfl, hv3, rfl⟩ := hf9
    have eY2 : X = Y2 := (hv3.2.1 hFr.2.2.2).symm
    subst eY2
    have hP : va_P G.1 vwCl (wr ++ zpic G ad X) H := hP
    have hD : va_D A (wr ++ zpic G ad X) := hD
    refine W.eq (g2 := F0 m 415 ls [.int (zi v3)]) rfl ?_
    refine z0_ne (tgt := 422) hx hb dL_law_415 (by decide) (by omega) (fun h415 => ?_) (fun h415 => ?_)
    · refine lv_iconst (v := zi 0) hx hb dL_law_422 rfl ?_
      refine lv_aload_n hx hb dL_law_423 rfl (lv_at hl 3 rfl) ?_
      refine lv_iconst (v := zi 0) hx hb dL_law_424 rfl ?_
      refine zcall (wr := wr) (wc := zpic G ad X) (va_runV (As := [.int (zi 0)]) (rest := [.int (zi 0)]) ⟨hx, hb, hml, hown, hts⟩ (c_X7_witness l G ad X 0 hI.1 hI.2.2.1 hI.2.2.2.2.1 (by omega) H.size) (cwV 1 hts gL_law_X7_witness rfl rfl rfl (by decide +kernel) ⟨Nat.le_of_ble_eq_true rfl, Nat.le_of_ble_eq_true rfl⟩) (zPreV (As := [.int (zi 0)]) (wr := wr) (wc := zpic G ad X) (q0 := 52) (ci := 7) (q := (RX7, TX7, 8)) hP hD hE hS hA rfl p_52) rfl rfl hl.1 rfl (lv_room (Nat.le_of_ble_eq_true rfl)) dL_law_425 ⟨(by show _ ≤ 600104; omega), (by show _ ≤ 7301314; omega)⟩) hP hD hS hA (fun _ _ H locs hf9 hP hD hS => ?_)
      obtain ⟨v4, Y3, rfl, hv4, rfl⟩ := hf9
      have eY3 : X = Y3 := (hv4.2.1 hFr.2.2.2).symm
      subst eY3
      have hP : va_P G.1 vwCl (wr ++ zpic G ad X) H := hP
      have hD : va_D A (wr ++ zpic G ad X) := hD
      refine W.eq (g2 := F0 m 428 ls [.int (zi v4), .int (zi 0)]) rfl ?_
      refine z0_ge (tgt := 435) hx hb dL_law_428 (by decide) (by omega) (fun h428 => ?_) (fun h9 => by exfalso; omega)
      refine lv_iconst (v := zi 0) hx hb dL_law_435 rfl ?_
      refine zc_ne (tgt := 459) hx hb dL_law_436 (by decide) (by decide) (by decide) (fun h9 => by exfalso; omega) (fun h436 => ?_)
      refine lv_aload_n hx hb dL_law_439 rfl (lv_at hl 3 rfl) ?_
      refine zcall (wr := wr) (wc := zpic G ad X) (va_runV (As := []) (rest := []) ⟨hx, hb, hml, hown, hts⟩ (c_X7_meanSteps l G ad X hI.1 hTf H.size) (cwV 0 hts gL_law_X7_meanSteps rfl rfl rfl (by decide +kernel) ⟨Nat.le_of_ble_eq_true rfl, Nat.le_of_ble_eq_true rfl⟩) (zPreV (As := []) (wr := wr) (wc := zpic G ad X) (q0 := 52) (ci := 7) (q := (RX7, TX7, 8)) hP hD hE hS hA rfl p_52) rfl rfl hl.1 rfl (lv_room (Nat.le_of_ble_eq_true rfl)) dL_law_440 ⟨(by show _ ≤ 600104; omega), (by show _ ≤ 7301314; omega)⟩) hP hD hS hA (fun _ _ H locs hf9 hP hD hS => ?_)
      obtain ⟨v5, rfl, hv5, rfl⟩ := hf9
      have hP : va_P G.1 vwCl (wr ++ zpic G ad X) H := hP
      have hD : va_D A (wr ++ zpic G ad X) := hD
      refine W.eq (g2 := F0 m 443 ls [.double v5]) rfl ?_
      refine lv_dconst0 hx hb dL_law_443 ?_
      refine lv_dcmp hx hb dL_law_444 ?_
      obtain ⟨w1, hw1, hbw1⟩ := zmean0 hv5
      refine zti (v := zi w1) hw1 ?_
      refine z0_lt (tgt := 459) hx hb dL_law_445 (by decide) (by omega) (fun h9 => by exfalso; omega) (fun h445 => ?_)
      refine lv_aload_n hx hb dL_law_448 rfl (lv_at hl 3 rfl) ?_
      refine zcall (wr := wr) (wc := zpic G ad X) (va_runV (As := []) (rest := []) ⟨hx, hb, hml, hown, hts⟩ (c_X7_meanSteps l G ad X hI.1 hTf H.size) (cwV 0 hts gL_law_X7_meanSteps rfl rfl rfl (by decide +kernel) ⟨Nat.le_of_ble_eq_true rfl, Nat.le_of_ble_eq_true rfl⟩) (zPreV (As := []) (wr := wr) (wc := zpic G ad X) (q0 := 52) (ci := 7) (q := (RX7, TX7, 8)) hP hD hE hS hA rfl p_52) rfl rfl hl.1 rfl (lv_room (Nat.le_of_ble_eq_true rfl)) dL_law_449 ⟨(by show _ ≤ 600104; omega), (by show _ ≤ 7301314; omega)⟩) hP hD hS hA (fun _ _ H locs hf9 hP hD hS => ?_)
      obtain ⟨v6, rfl, hv6, rfl⟩ := hf9
      have hP : va_P G.1 vwCl (wr ++ zpic G ad X) H := hP
      have hD : va_D A (wr ++ zpic G ad X) := hD
      refine W.eq (g2 := F0 m 452 ls [.double v6]) rfl ?_
      refine lv_ldc2d hx hb hown hc80 dL_law_452 ?_
      refine lv_dcmp hx hb dL_law_455 ?_
      obtain ⟨w2, hw2, hbw2⟩ := zmean4 hv6
      refine zti (v := zi w2) hw2 ?_
      refine z0_le (tgt := 461) hx hb dL_law_456 (by decide) (by omega) (fun h456 => ?_) (fun h9 => by exfalso; omega)
      exact kk  H locs ls hP hD hS (lv_sub hl [0, 1, 2, 3, 4, 5, 7] rfl)
    · refine lv_iconst (v := zi 1) hx hb dL_law_418 rfl ?_
      refine lv_goto (tgt := 423) hx hb dL_law_419 (by decide) ?_
      refine lv_aload_n hx hb dL_law_423 rfl (lv_at hl 3 rfl) ?_
      refine lv_iconst (v := zi 0) hx hb dL_law_424 rfl ?_
      refine zcall (wr := wr) (wc := zpic G ad X) (va_runV (As := [.int (zi 0)]) (rest := [.int (zi 1)]) ⟨hx, hb, hml, hown, hts⟩ (c_X7_witness l G ad X 0 hI.1 hI.2.2.1 hI.2.2.2.2.1 (by omega) H.size) (cwV 1 hts gL_law_X7_witness rfl rfl rfl (by decide +kernel) ⟨Nat.le_of_ble_eq_true rfl, Nat.le_of_ble_eq_true rfl⟩) (zPreV (As := [.int (zi 0)]) (wr := wr) (wc := zpic G ad X) (q0 := 52) (ci := 7) (q := (RX7, TX7, 8)) hP hD hE hS hA rfl p_52) rfl rfl hl.1 rfl (lv_room (Nat.le_of_ble_eq_true rfl)) dL_law_425 ⟨(by show _ ≤ 600104; omega), (by show _ ≤ 7301314; omega)⟩) hP hD hS hA (fun _ _ H locs hf9 hP hD hS => ?_)
      obtain ⟨v4, Y3, rfl, hv4, rfl⟩ := hf9
      have eY3 : X = Y3 := (hv4.2.1 hFr.2.2.2).symm
      subst eY3
      have hP : va_P G.1 vwCl (wr ++ zpic G ad X) H := hP
      have hD : va_D A (wr ++ zpic G ad X) := hD
      refine W.eq (g2 := F0 m 428 ls [.int (zi v4), .int (zi 1)]) rfl ?_
      refine z0_ge (tgt := 435) hx hb dL_law_428 (by decide) (by omega) (fun h9 => by exfalso; omega) (fun h428 => ?_)
      refine lv_iconst (v := zi 1) hx hb dL_law_431 rfl ?_
      refine lv_goto (tgt := 436) hx hb dL_law_432 (by decide) ?_
      refine zc_ne (tgt := 459) hx hb dL_law_436 (by decide) (by decide) (by decide) (fun h9 => by exfalso; omega) (fun h436 => ?_)
      refine lv_aload_n hx hb dL_law_439 rfl (lv_at hl 3 rfl) ?_
      refine zcall (wr := wr) (wc := zpic G ad X) (va_runV (As := []) (rest := []) ⟨hx, hb, hml, hown, hts⟩ (c_X7_meanSteps l G ad X hI.1 hTf H.size) (cwV 0 hts gL_law_X7_meanSteps rfl rfl rfl (by decide +kernel) ⟨Nat.le_of_ble_eq_true rfl, Nat.le_of_ble_eq_true rfl⟩) (zPreV (As := []) (wr := wr) (wc := zpic G ad X) (q0 := 52) (ci := 7) (q := (RX7, TX7, 8)) hP hD hE hS hA rfl p_52) rfl rfl hl.1 rfl (lv_room (Nat.le_of_ble_eq_true rfl)) dL_law_440 ⟨(by show _ ≤ 600104; omega), (by show _ ≤ 7301314; omega)⟩) hP hD hS hA (fun _ _ H locs hf9 hP hD hS => ?_)
      obtain ⟨v5, rfl, hv5, rfl⟩ := hf9
      have hP : va_P G.1 vwCl (wr ++ zpic G ad X) H := hP
      have hD : va_D A (wr ++ zpic G ad X) := hD
      refine W.eq (g2 := F0 m 443 ls [.double v5]) rfl ?_
      refine lv_dconst0 hx hb dL_law_443 ?_
      refine lv_dcmp hx hb dL_law_444 ?_
      obtain ⟨w1, hw1, hbw1⟩ := zmean0 hv5
      refine zti (v := zi w1) hw1 ?_
      refine z0_lt (tgt := 459) hx hb dL_law_445 (by decide) (by omega) (fun h9 => by exfalso; omega) (fun h445 => ?_)
      refine lv_aload_n hx hb dL_law_448 rfl (lv_at hl 3 rfl) ?_
      refine zcall (wr := wr) (wc := zpic G ad X) (va_runV (As := []) (rest := []) ⟨hx, hb, hml, hown, hts⟩ (c_X7_meanSteps l G ad X hI.1 hTf H.size) (cwV 0 hts gL_law_X7_meanSteps rfl rfl rfl (by decide +kernel) ⟨Nat.le_of_ble_eq_true rfl, Nat.le_of_ble_eq_true rfl⟩) (zPreV (As := []) (wr := wr) (wc := zpic G ad X) (q0 := 52) (ci := 7) (q := (RX7, TX7, 8)) hP hD hE hS hA rfl p_52) rfl rfl hl.1 rfl (lv_room (Nat.le_of_ble_eq_true rfl)) dL_law_449 ⟨(by show _ ≤ 600104; omega), (by show _ ≤ 7301314; omega)⟩) hP hD hS hA (fun _ _ H locs hf9 hP hD hS => ?_)
      obtain ⟨v6, rfl, hv6, rfl⟩ := hf9
      have hP : va_P G.1 vwCl (wr ++ zpic G ad X) H := hP
      have hD : va_D A (wr ++ zpic G ad X) := hD
      refine W.eq (g2 := F0 m 452 ls [.double v6]) rfl ?_
      refine lv_ldc2d hx hb hown hc80 dL_law_452 ?_
      refine lv_dcmp hx hb dL_law_455 ?_
      obtain ⟨w2, hw2, hbw2⟩ := zmean4 hv6
      refine zti (v := zi w2) hw2 ?_
      refine z0_le (tgt := 461) hx hb dL_law_456 (by decide) (by omega) (fun h456 => ?_) (fun h9 => by exfalso; omega)
      exact kk  H locs ls hP hD hS (lv_sub hl [0, 1, 2, 3, 4, 5, 7] rfl)

set_option maxHeartbeats 4000000 in
/-- behind the RULES -/
theorem law_cond {p : Program} {l : Launch} {e : Env} {s : State} {m : MethodId} {below : List Frame} {meth : Method} {c : Code} {A : Nat → Prop} {G : zG} {b : Nat} {Q : State → Prop} {cells slots : Nat} {H : Heap} {locs : List Loc} {ls : Array Slot} {wr : va_W} {ad : Nat → Nat} {X : Nat → Nat → Int} {tm st : Int} {g0 : Nat} {dg : Int64} {la : Int} {f0 f3 f4 f6 f7 f8 f9 : Value} {dr : Nat} (hx : p.tables.exec = Jvm.exec) (hb : c.code = cL_law) (hml : c.maxLocals = 19) (hown : s.vm.findClass RL = some m.cls) (hts : ∀ w ∈ wsL_law, w.before #[Value.ref b] s = true) (hA : ∀ q : Nat, s.heap.size ≤ q → A q) (hE : zZ G A s s.heap) (hc : cells ≤ 500000) (hn : slots ≤ 6000000) (hI : zI X) (hFr : zFr X) (hTf : zTf X) (hg : wr[0]? = some (g0, zho G f0 dr f3 f4 (.int (zi la)) f6 f7 f8 f9)) (hla : la = X 0 2 ∧ (la = 0 ∨ la = 1)) (hP : va_P G.1 vwCl (wr ++ zpic G ad X) H) (hD : va_D A (wr ++ zpic G ad X)) (hS : va_S A s.heap H locs) (hl : lv_has ls 19 [(0, .ref b), (1, .int (zi tm)), (2, .ref g0), (3, .ref (ad 52)), (4, .int (zi st)), (5, .long dg), (7, .long (zln (zSA X (zN X 0)))), (9, .int (zi (zN X 0 : Int))), (10, .int (zi (zQt X (zN X 0)))), (11, .long (zln (zSW X (zN X 0))))])
    (kk : ∀ (H : Heap) (locs : List Loc) (ls : Array Slot), va_P G.1 vwCl (wr ++ zpic G ad X) H → va_D A (wr ++ zpic G ad X) → va_S A s.heap H locs → lv_has ls 19 [(0, .ref b), (1, .int (zi tm)), (2, .ref g0), (3, .ref (ad 52)), (4, .int (zi st)), (5, .long dg), (9, .int (zi (zN X 0 : Int)))] → W p l e room_1 s m #[Value.ref b] below meth c H locs cells slots Q (F0 m 461 ls [])) : W p l e room_1 s m #[Value.ref b] below meth c H locs cells slots Q (F0 m 363 ls []) := by
  have hn8 := hI.1.n (Or.inl rfl : zIsW 0)
  have hsum := zAll_sum hI.1
  have e0 : X 0 2 = la := hla.1.symm
  rw [e0] at hsum
  exact law_cond0 (sA := zSA X (zN X 0)) (sW := zSW X (zN X 0)) (qT := zQt X (zN X 0)) (wA := zAll X 255) hx hb hml hown hts hA hE hc hn hI hFr hTf hg hla (zSA_bd (Nat.le_refl (zN X 0))) (by rw [zSW_eq (Nat.le_refl (zN X 0))]; exact ⟨zm_nn, zm_top⟩) (zQt_bd (X := X) (zN X 0) hn8.2) ⟨zm_nn, zm_top⟩ (Eq.refl _ : zAll X 255 = zAll X 255) (zQu_eq (X := X)).symm (fun h => hsum.trans (if_pos h)) (fun h => hsum.trans (if_neg h)) hP hD hS hl kk
