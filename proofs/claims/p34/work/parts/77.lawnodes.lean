/-! the law: the nodes -/
theorem dL_law_461 : decode cL_law 461 = .ok (.aload_n 3, 1) := by decide +kernel
set_option maxRecDepth 20000 in
theorem ggL_law_X7_nodes : GoodIn wsL_law wsX7_nodes := goodIn_r _ [397, 398, 399, 400, 401, 20, 402, 45, 49, 403, 404, 405, 44, 406, 407, 408, 409, 410, 411, 85, 86, 87, 88, 412, 8, 9, 10, 84, 413, 414, 415, 35, 416, 156, 64, 417, 418, 419, 66, 420, 70, 71, 421, 422, 423, 424, 425, 426, 427, 428, 429, 430, 48, 431, 432, 433, 93, 96, 434, 328, 329, 330, 331, 332, 333, 334, 195, 435, 436, 437, 94, 97, 438, 95, 439, 440, 441, 442, 354, 316, 317, 318, 443, 444, 445, 446, 447, 448, 449, 450, 451, 452, 453, 454, 455, 659, 660, 661, 662, 663, 664, 665, 637, 638, 639, 640, 641, 642, 643, 644, 653, 654, 655, 656, 657, 658, 645, 646, 647, 679, 680, 681, 682] (by decide +kernel) (by decide +kernel)
set_option maxRecDepth 20000 in
theorem gL_law_X7_nodes : GoodIn wsL_law (wsV RL 82 RX7 yX7_nodes wsX7_nodes) := goodIn_app (goodIn_of _ (by decide +kernel)) ggL_law_X7_nodes
theorem dL_law_462 : decode cL_law 462 = .ok (.invokevirtual 82, 3) := by decide +kernel
theorem dL_law_465 : decode cL_law 465 = .ok (.istore 13, 2) := by decide +kernel
theorem dL_law_467 : decode cL_law 467 = .ok (.iconst 0, 1) := by decide +kernel
theorem dL_law_468 : decode cL_law 468 = .ok (.istore 14, 2) := by decide +kernel
theorem dL_law_470 : decode cL_law 470 = .ok (.iload 14, 2) := by decide +kernel
theorem dL_law_472 : decode cL_law 472 = .ok (.iload 13, 2) := by decide +kernel
theorem dL_law_474 : decode cL_law 474 = .ok (.bipush 10, 2) := by decide +kernel
theorem dL_law_476 : decode cL_law 476 = .ok (.invokestatic 85, 3) := by decide +kernel
theorem dL_law_479 : decode cL_law 479 = .ok (.if_icmp .ge 217, 3) := by decide +kernel
theorem dL_law_482 : decode cL_law 482 = .ok (.iconst 0, 1) := by decide +kernel
theorem dL_law_483 : decode cL_law 483 = .ok (.istore 15, 2) := by decide +kernel
theorem dL_law_485 : decode cL_law 485 = .ok (.aload_n 3, 1) := by decide +kernel
theorem dL_law_486 : decode cL_law 486 = .ok (.iload 14, 2) := by decide +kernel
theorem dL_law_488 : decode cL_law 488 = .ok (.iconst 0, 1) := by decide +kernel
set_option maxRecDepth 20000 in
theorem ggL_law_X7_ofNode : GoodIn wsL_law wsX7_ofNode := goodIn_ca (goodIn_ca (goodIn_r _ [463, 399, 400, 401, 20, 402, 45, 49, 403, 404, 405, 44, 406, 407, 408, 409, 410, 411, 85, 86, 87, 88, 412, 8, 9, 10, 84, 413, 414, 415, 35, 416, 156, 64, 417, 418, 419, 66, 420, 70, 71, 421, 422, 423, 424, 425, 426, 427, 428, 429, 430, 48, 431, 432, 433, 93, 96, 434, 328, 329, 330, 331, 332, 333, 334, 195, 435, 436, 437, 94, 97, 438, 95, 439, 440, 441, 442, 354, 316, 317, 318, 443, 444, 445, 446, 447, 448, 449, 450, 451, 452, 453, 454, 455, 464, 465, 466, 150, 151, 398, 283, 284, 285, 185, 186, 467, 468, 469, 470, 471, 472, 473, 474, 475, 476, 477, 478, 479, 480, 481, 482, 483, 484, 485, 637, 638, 639, 640, 641, 642, 643, 644, 653, 654, 655, 656, 657, 658, 645, 646, 647, 679, 680, 681, 682, 659, 660, 661, 662, 663, 664, 665] (by decide +kernel) (by decide +kernel)) (goodIn_sub (fun _ h => List.mem_append_left _ (List.mem_append_left _ (List.mem_append_right _ h))) (by decide +kernel))) (goodIn_sub (fun _ h => List.mem_append_right _ h) (by decide +kernel))
set_option maxRecDepth 20000 in
theorem gL_law_X7_ofNode : GoodIn wsL_law (wsV RL 90 RX7 yX7_ofNode wsX7_ofNode) := goodIn_app (goodIn_of _ (by decide +kernel)) ggL_law_X7_ofNode
theorem dL_law_489 : decode cL_law 489 = .ok (.invokevirtual 90, 3) := by decide +kernel
theorem dL_law_492 : decode cL_law 492 = .ok (.istore 16, 2) := by decide +kernel
theorem dL_law_494 : decode cL_law 494 = .ok (.iconst 0, 1) := by decide +kernel
theorem dL_law_495 : decode cL_law 495 = .ok (.istore 17, 2) := by decide +kernel
theorem dL_law_497 : decode cL_law 497 = .ok (.iload 17, 2) := by decide +kernel
theorem dL_law_499 : decode cL_law 499 = .ok (.aload_n 3, 1) := by decide +kernel
theorem dL_law_500 : decode cL_law 500 = .ok (.iload 14, 2) := by decide +kernel
theorem dL_law_502 : decode cL_law 502 = .ok (.iconst 2, 1) := by decide +kernel
theorem dL_law_503 : decode cL_law 503 = .ok (.invokevirtual 90, 3) := by decide +kernel
theorem dL_law_506 : decode cL_law 506 = .ok (.if_icmp .ge 118, 3) := by decide +kernel
theorem dL_law_624 : decode cL_law 624 = .ok (.iload 15, 2) := by decide +kernel
theorem dL_law_626 : decode cL_law 626 = .ok (.iload 16, 2) := by decide +kernel
theorem dL_law_628 : decode cL_law 628 = .ok (.iconst 2, 1) := by decide +kernel
theorem dL_law_629 : decode cL_law 629 = .ok (.if_icmp .ge 9, 3) := by decide +kernel
theorem dL_law_638 : decode cL_law 638 = .ok (.iload 16, 2) := by decide +kernel
theorem dL_law_640 : decode cL_law 640 = .ok (.iconst 2, 1) := by decide +kernel
theorem dL_law_641 : decode cL_law 641 = .ok (.if_icmp .ne 9, 3) := by decide +kernel
theorem dL_law_650 : decode cL_law 650 = .ok (.iconst 4, 1) := by decide +kernel
theorem dL_law_651 : decode cL_law 651 = .ok (.if_icmp .ne 37, 3) := by decide +kernel
theorem dL_law_654 : decode cL_law 654 = .ok (.iload 16, 2) := by decide +kernel
theorem dL_law_656 : decode cL_law 656 = .ok (.ifCond .lt 32, 3) := by decide +kernel
theorem dL_law_659 : decode cL_law 659 = .ok (.iload 16, 2) := by decide +kernel
theorem dL_law_661 : decode cL_law 661 = .ok (.iconst 3, 1) := by decide +kernel
theorem dL_law_662 : decode cL_law 662 = .ok (.if_icmp .gt 26, 3) := by decide +kernel
theorem dL_law_665 : decode cL_law 665 = .ok (.iload 14, 2) := by decide +kernel
theorem dL_law_667 : decode cL_law 667 = .ok (.ifCond .ne 23, 3) := by decide +kernel
theorem dL_law_690 : decode cL_law 690 = .ok (.iinc 14 1, 3) := by decide +kernel
theorem dL_law_693 : decode cL_law 693 = .ok (.goto (-223), 3) := by decide +kernel
theorem dL_law_670 : decode cL_law 670 = .ok (.iload 16, 2) := by decide +kernel
theorem dL_law_672 : decode cL_law 672 = .ok (.ifCond .ne 16, 3) := by decide +kernel
theorem dL_law_675 : decode cL_law 675 = .ok (.aload_n 3, 1) := by decide +kernel
theorem dL_law_676 : decode cL_law 676 = .ok (.iconst 0, 1) := by decide +kernel
theorem dL_law_677 : decode cL_law 677 = .ok (.iconst 1, 1) := by decide +kernel
theorem dL_law_678 : decode cL_law 678 = .ok (.invokevirtual 90, 3) := by decide +kernel
theorem dL_law_681 : decode cL_law 681 = .ok (.aload_n 2, 1) := by decide +kernel
theorem dL_law_685 : decode cL_law 685 = .ok (.if_icmp .eq 5, 3) := by decide +kernel
theorem dL_law_644 : decode cL_law 644 = .ok (.sipush 1024, 3) := by decide +kernel
theorem dL_law_647 : decode cL_law 647 = .ok (.goto 4, 3) := by decide +kernel
theorem dL_law_632 : decode cL_law 632 = .ok (.sipush 256, 3) := by decide +kernel
theorem dL_law_635 : decode cL_law 635 = .ok (.goto 16, 3) := by decide +kernel
theorem dL_law_509 : decode cL_law 509 = .ok (.aload_n 3, 1) := by decide +kernel
theorem dL_law_510 : decode cL_law 510 = .ok (.iload 14, 2) := by decide +kernel
theorem dL_law_512 : decode cL_law 512 = .ok (.iload 17, 2) := by decide +kernel
theorem dL_law_514 : decode cL_law 514 = .ok (.iconst 2, 1) := by decide +kernel
set_option maxRecDepth 20000 in
theorem ggL_law_X7_piece : GoodIn wsL_law wsX7_piece := goodIn_ca (goodIn_ca (goodIn_r _ [489, 150, 151, 45, 399, 400, 401, 20, 402, 49, 403, 404, 405, 44, 406, 407, 408, 409, 410, 411, 85, 86, 87, 88, 412, 8, 9, 10, 84, 413, 414, 415, 35, 416, 156, 64, 417, 418, 419, 66, 420, 70, 71, 421, 422, 423, 424, 425, 426, 427, 428, 429, 430, 48, 431, 432, 433, 93, 96, 434, 328, 329, 330, 331, 332, 333, 334, 195, 435, 436, 437, 94, 97, 438, 95, 439, 440, 441, 442, 354, 316, 317, 318, 443, 444, 445, 446, 447, 448, 449, 450, 451, 452, 453, 454, 455, 464, 465, 466, 398, 490, 491, 492, 493, 479, 468, 469, 470, 480, 472, 473, 474, 481, 482, 483, 484, 485, 283, 284, 285, 185, 186, 467, 494, 471, 495, 496, 497, 498, 499, 500, 501, 502, 503, 504, 637, 638, 639, 640, 641, 642, 643, 644, 653, 654, 655, 656, 657, 658, 645, 646, 647, 679, 680, 681, 682, 659, 660, 661, 662, 663, 664, 665] (by decide +kernel) (by decide +kernel)) (goodIn_sub (fun _ h => List.mem_append_left _ (List.mem_append_left _ (List.mem_append_right _ h))) (by decide +kernel))) (goodIn_sub (fun _ h => List.mem_append_right _ h) (by decide +kernel))
set_option maxRecDepth 20000 in
theorem gL_law_X7_piece : GoodIn wsL_law (wsV RL 93 RX7 yX7_piece wsX7_piece) := goodIn_app (goodIn_of _ (by decide +kernel)) ggL_law_X7_piece
theorem dL_law_515 : decode cL_law 515 = .ok (.invokevirtual 93, 3) := by decide +kernel
theorem dL_law_518 : decode cL_law 518 = .ok (.istore 18, 2) := by decide +kernel
theorem dL_law_520 : decode cL_law 520 = .ok (.aload_n 3, 1) := by decide +kernel
theorem dL_law_521 : decode cL_law 521 = .ok (.iload 14, 2) := by decide +kernel
theorem dL_law_523 : decode cL_law 523 = .ok (.iload 17, 2) := by decide +kernel
theorem dL_law_525 : decode cL_law 525 = .ok (.iconst 0, 1) := by decide +kernel
theorem dL_law_526 : decode cL_law 526 = .ok (.invokevirtual 93, 3) := by decide +kernel
theorem dL_law_529 : decode cL_law 529 = .ok (.iload 15, 2) := by decide +kernel
theorem dL_law_531 : decode cL_law 531 = .ok (.if_icmp .ne 72, 3) := by decide +kernel
theorem dL_law_534 : decode cL_law 534 = .ok (.aload_n 3, 1) := by decide +kernel
theorem dL_law_535 : decode cL_law 535 = .ok (.iload 14, 2) := by decide +kernel
theorem dL_law_537 : decode cL_law 537 = .ok (.iload 17, 2) := by decide +kernel
theorem dL_law_539 : decode cL_law 539 = .ok (.iconst 1, 1) := by decide +kernel
theorem dL_law_540 : decode cL_law 540 = .ok (.invokevirtual 93, 3) := by decide +kernel
theorem dL_law_543 : decode cL_law 543 = .ok (.iload 15, 2) := by decide +kernel
theorem dL_law_545 : decode cL_law 545 = .ok (.if_icmp .lt 58, 3) := by decide +kernel
theorem dL_law_548 : decode cL_law 548 = .ok (.iload 18, 2) := by decide +kernel
theorem dL_law_550 : decode cL_law 550 = .ok (.iload 13, 2) := by decide +kernel
theorem dL_law_552 : decode cL_law 552 = .ok (.if_icmp .ge 51, 3) := by decide +kernel
theorem dL_law_555 : decode cL_law 555 = .ok (.iload 18, 2) := by decide +kernel
theorem dL_law_557 : decode cL_law 557 = .ok (.iconst (-1), 1) := by decide +kernel
theorem dL_law_558 : decode cL_law 558 = .ok (.iload 9, 2) := by decide +kernel
theorem dL_law_560 : decode cL_law 560 = .ok (.isub, 1) := by decide +kernel
theorem dL_law_561 : decode cL_law 561 = .ok (.if_icmp .lt 42, 3) := by decide +kernel
theorem dL_law_564 : decode cL_law 564 = .ok (.iload 18, 2) := by decide +kernel
theorem dL_law_566 : decode cL_law 566 = .ok (.ifCond .lt 39, 3) := by decide +kernel
theorem dL_law_605 : decode cL_law 605 = .ok (.aload_n 3, 1) := by decide +kernel
theorem dL_law_606 : decode cL_law 606 = .ok (.iload 14, 2) := by decide +kernel
theorem dL_law_608 : decode cL_law 608 = .ok (.iload 17, 2) := by decide +kernel
theorem dL_law_610 : decode cL_law 610 = .ok (.iconst 1, 1) := by decide +kernel
theorem dL_law_611 : decode cL_law 611 = .ok (.invokevirtual 93, 3) := by decide +kernel
theorem dL_law_614 : decode cL_law 614 = .ok (.iconst 1, 1) := by decide +kernel
theorem dL_law_615 : decode cL_law 615 = .ok (.iadd, 1) := by decide +kernel
theorem dL_law_616 : decode cL_law 616 = .ok (.istore 15, 2) := by decide +kernel
theorem dL_law_618 : decode cL_law 618 = .ok (.iinc 17 1, 3) := by decide +kernel
theorem dL_law_621 : decode cL_law 621 = .ok (.goto (-124), 3) := by decide +kernel
theorem dL_law_569 : decode cL_law 569 = .ok (.aload_n 3, 1) := by decide +kernel
theorem dL_law_570 : decode cL_law 570 = .ok (.iload 18, 2) := by decide +kernel
theorem dL_law_572 : decode cL_law 572 = .ok (.iconst 0, 1) := by decide +kernel
theorem dL_law_573 : decode cL_law 573 = .ok (.invokevirtual 90, 3) := by decide +kernel
theorem dL_law_576 : decode cL_law 576 = .ok (.iload 16, 2) := by decide +kernel
theorem dL_law_578 : decode cL_law 578 = .ok (.iconst 1, 1) := by decide +kernel
theorem dL_law_579 : decode cL_law 579 = .ok (.iadd, 1) := by decide +kernel
theorem dL_law_580 : decode cL_law 580 = .ok (.if_icmp .ne 23, 3) := by decide +kernel
theorem dL_law_583 : decode cL_law 583 = .ok (.aload_n 3, 1) := by decide +kernel
theorem dL_law_584 : decode cL_law 584 = .ok (.iload 18, 2) := by decide +kernel
theorem dL_law_586 : decode cL_law 586 = .ok (.iconst 1, 1) := by decide +kernel
theorem dL_law_587 : decode cL_law 587 = .ok (.invokevirtual 90, 3) := by decide +kernel
theorem dL_law_590 : decode cL_law 590 = .ok (.aload_n 3, 1) := by decide +kernel
theorem dL_law_591 : decode cL_law 591 = .ok (.iload 14, 2) := by decide +kernel
theorem dL_law_593 : decode cL_law 593 = .ok (.iconst 1, 1) := by decide +kernel
theorem dL_law_594 : decode cL_law 594 = .ok (.invokevirtual 90, 3) := by decide +kernel
theorem dL_law_597 : decode cL_law 597 = .ok (.iconst (-1), 1) := by decide +kernel
theorem dL_law_598 : decode cL_law 598 = .ok (.ixor, 1) := by decide +kernel
theorem dL_law_599 : decode cL_law 599 = .ok (.iand, 1) := by decide +kernel
theorem dL_law_600 : decode cL_law 600 = .ok (.ifCond .eq 5, 3) := by decide +kernel
theorem zi_sub0 {a b : Nat} (h : a &&& b = a) : zi (a : Int) &&& (zi (b : Int) ^^^ zi (-1)) = zi 0 := by
  have e1 : zi (a : Int) = zi (a : Int) &&& zi (b : Int) := by rw [zi_and, h]
  rw [e1]
  apply Int32.toBitVec_inj.1
  have e2 : (zi (-1)).toBitVec = BitVec.allOnes 32 := by decide
  show ((zi (a : Int)).toBitVec &&& (zi (b : Int)).toBitVec) &&& ((zi (b : Int)).toBitVec ^^^ (zi (-1)).toBitVec) = (zi 0).toBitVec
  rw [e2]
  have e3 : (zi 0).toBitVec = 0#32 := by decide
  rw [e3, BitVec.xor_allOnes, BitVec.and_assoc, BitVec.and_not_self]
  simp
theorem zS_of (f : Nat) : (f < 2 → zS f = 256) ∧ (f = 2 → zS f = 1024) ∧ (f = 3 → zS f = 4) := ⟨fun h => by rcases (show f = 0 ∨ f = 1 by omega) with rfl | rfl <;> rfl, fun h => by rw [h]; rfl, fun h => by rw [h]; rfl⟩
theorem zNp_le {X : Nat → Nat → Int} (hT : zTf X) {k : Nat} (hk : (k : Int) < X 61 5) : zNp X k ≤ 33 := by
  unfold zNp
  have h1 := zNr_le X (zFo X k) (zSo X k) (zCn X (zFo X k))
  have h2 := hT.2.2.1.n (hT.2.2.2.node hk).2.2.1
  omega
/-- the root -/
theorem zroot {X : Nat → Nat → Int} (hV : zV X) (hT : zTf X) (h : 0 < X 61 5) : zFo X 0 = 0 ∧ zSo X 0 = zDec X 0 := by
  rcases hT.2.2.2.2 with ⟨-, h2⟩ | ⟨-, -, h2⟩
  · omega
  · have h3 := zDec_lt hV (Or.inl rfl : zIsW 0)
    unfold zFo zSo
    rw [h2, Int.toNat_natCast]
    exact ⟨by omega, by omega⟩

set_option maxHeartbeats 4000000 in
set_option maxRecDepth 100000 in
/-- the nodes -/
theorem law_nodes {p : Program} {l : Launch} {e : Env} {s : State} {m : MethodId} {below : List Frame} {meth : Method} {c : Code} {A : Nat → Prop} {G : zG} {b : Nat} {Q : State → Prop} {cells slots : Nat} {H : Heap} {locs : List Loc} {ls : Array Slot} {wr : va_W} {ad : Nat → Nat} {X : Nat → Nat → Int} {tm st : Int} {g0 : Nat} {dg : Int64} {N : Nat} (hx : p.tables.exec = Jvm.exec) (hb : c.code = cL_law) (hml : c.maxLocals = 19) (hown : s.vm.findClass RL = some m.cls) (hts : ∀ w ∈ wsL_law, w.before #[Value.ref b] s = true) (hA : ∀ q : Nat, s.heap.size ≤ q → A q) (hE : zZ G A s s.heap) (hc : cells ≤ 500000) (hn : slots ≤ 6000000) (hI : zI X) (hFr : zFr X) (hTf : zTf X) (hN0 : X 61 5 = (N : Int)) (kall : ∀ (H : Heap) (locs : List Loc) (ls : Array Slot) (z : Int32), va_P G.1 vwCl (wr ++ zpic G ad X) H → va_D A (wr ++ zpic G ad X) → va_S A s.heap H locs → ls.size = 19 → (∀ (H : Heap) (locs : List Loc), va_P G.1 vwCl (wr ++ zpic G ad X) H → va_D A (wr ++ zpic G ad X) → va_S A s.heap H locs → W p l e room_1 s m #[Value.ref b] below meth c H locs cells slots Q (F0 m 685 ls [.int (zi (zDec X 0 : Int)), .int z])) → W p l e room_1 s m #[Value.ref b] below meth c H locs cells slots Q (F0 m 682 ls [.ref g0, .int z])) (hP : va_P G.1 vwCl (wr ++ zpic G ad X) H) (hD : va_D A (wr ++ zpic G ad X)) (hS : va_S A s.heap H locs) (hl : lv_has ls 19 [(0, .ref b), (1, .int (zi tm)), (2, .ref g0), (3, .ref (ad 52)), (4, .int (zi st)), (5, .long dg), (9, .int (zi (zN X 0 : Int)))])
    (kk : ∀ (H : Heap) (locs : List Loc) (ls : Array Slot), va_P G.1 vwCl (wr ++ zpic G ad X) H → va_D A (wr ++ zpic G ad X) → va_S A s.heap H locs → lv_has ls 19 [(0, .ref b), (1, .int (zi tm)), (2, .ref g0), (3, .ref (ad 52)), (4, .int (zi st)), (5, .long dg), (9, .int (zi (zN X 0 : Int))), (13, .int (zi (N : Int)))] → W p l e room_1 s m #[Value.ref b] below meth c H locs cells slots Q (F0 m 696 ls [])) : W p l e room_1 s m #[Value.ref b] below meth c H locs cells slots Q (F0 m 461 ls []) := by
  have hn8 := hI.1.n (Or.inl rfl : zIsW 0)
  have hcn := hTf.2.2.2.1.cnt
  have hdl := zDec_lt hI.1 (Or.inl rfl : zIsW 0)
  have hmamin := hts (.code Lib.Math.min.name Lib.Math.min.code 2 (some .int)) (by decide +kernel)
  have hml85 := hts (.methodLink RL 85 Lib.Math.min.name) (by decide +kernel)
  have hstmin := hts (.static Lib.Math.min.name) (by decide +kernel)
  have hiniMath := hts (.initialized "java/lang/Math") (by decide +kernel)
  refine lv_aload_n hx hb dL_law_461 rfl (lv_at hl 3 rfl) ?_
  refine zcall (wr := wr) (wc := zpic G ad X) (va_runV (As := []) (rest := []) ⟨hx, hb, hml, hown, hts⟩ (c_X7_nodes l G ad X hI.1 hI.2.2.1 hI.2.2.2.1 H.size) (cwV 0 hts gL_law_X7_nodes rfl rfl rfl (by decide +kernel) ⟨Nat.le_of_ble_eq_true rfl, Nat.le_of_ble_eq_true rfl⟩) (zPreV (As := []) (wr := wr) (wc := zpic G ad X) (q0 := 52) (ci := 7) (q := (RX7, TX7, 8)) hP hD hE hS hA rfl p_52) rfl rfl hl.1 rfl (lv_room (Nat.le_of_ble_eq_true rfl)) dL_law_462 ⟨(by show _ ≤ 600104; omega), (by show _ ≤ 7301314; omega)⟩) hP hD hS hA (fun _ _ H locs hf9 hP hD hS => ?_)
  obtain ⟨v1, Y1, rfl, hv1, rfl⟩ := hf9
  have eY1 : X = Y1 := (hv1.2.1 hFr.2.2.1).symm
  subst eY1
  have hP : va_P G.1 vwCl (wr ++ zpic G ad X) H := hP
  have hD : va_D A (wr ++ zpic G ad X) := hD
  refine W.eq (g2 := F0 m 465 ls [.int (zi v1)]) rfl ?_
  have hvN : v1 = (N : Int) := by rw [hv1.1, hN0]
  subst hvN
  refine lv_istore (lv' := [(13, .int (zi (N : Int))), (0, .ref b), (1, .int (zi tm)), (2, .ref g0), (3, .ref (ad 52)), (4, .int (zi st)), (5, .long dg), (9, .int (zi (zN X 0 : Int)))]) hx hb dL_law_465 hl (by decide) rfl (fun ls hl => ?_)
  refine lv_iconst (v := zi 0) hx hb dL_law_467 rfl ?_
  refine lv_istore (lv' := [(14, .int (zi 0)), (13, .int (zi (N : Int))), (0, .ref b), (1, .int (zi tm)), (2, .ref g0), (3, .ref (ad 52)), (4, .int (zi st)), (5, .long dg), (9, .int (zi (zN X 0 : Int)))]) hx hb dL_law_468 hl (by decide) rfl (fun ls hl => ?_)
  refine zloop1 (fun (k : Nat) => 10 - k) (fun (k : Nat) (H : Heap) (locs : List Loc) (ls : Array Slot) => va_P G.1 vwCl (wr ++ zpic G ad X) H ∧ va_D A (wr ++ zpic G ad X) ∧ va_S A s.heap H locs ∧ lv_has ls 19 [(0, .ref b), (1, .int (zi tm)), (2, .ref g0), (3, .ref (ad 52)), (4, .int (zi st)), (5, .long dg), (9, .int (zi (zN X 0 : Int))), (13, .int (zi (N : Int))), (14, .int (zi (k : Int)))] ∧ (k ≤ N)) ?_ 0 ⟨hP, hD, hS, lv_sub hl [2, 3, 4, 5, 6, 7, 8, 1, 0] rfl, (by omega)⟩
  intro k ihk H locs ls ⟨hP, hD, hS, hl, hkn⟩
  refine lv_iload hx hb dL_law_470 (lv_at hl 8 rfl) ?_
  refine lv_iload hx hb dL_law_472 (lv_at hl 7 rfl) ?_
  refine lv_bipush (v := zi 10) hx hb dL_law_474 (by decide +kernel) ?_
  refine va_mmin hx hb (hml.trans hl.1.symm) hown hml85 hstmin hiniMath hmamin (by first | exact Nat.le_of_ble_eq_true rfl | (show _ ≤ 600104; omega) | (show _ ≤ 7301314; omega)) (by first | exact Nat.le_of_ble_eq_true rfl | (show _ ≤ 600104; omega) | (show _ ≤ 7301314; omega)) (by first | exact Nat.le_of_ble_eq_true rfl | (show _ ≤ 600104; omega) | (show _ ≤ 7301314; omega)) (by first | exact Nat.le_of_ble_eq_true rfl | (show _ ≤ 600104; omega) | (show _ ≤ 7301314; omega)) dL_law_476 ?_
  refine zti (v := zi (min (N : Int) 10)) (zi_min (by omega) (by decide)) ?_
  refine zc_ge (tgt := 696) hx hb dL_law_479 (by decide) (by omega) (by omega) (fun h479 => ?_) (fun h479 => ?_)
  · exact kk  H locs ls hP hD hS (lv_sub hl [0, 1, 2, 3, 4, 5, 6, 7] rfl)
  · refine lv_iconst (v := zi 0) hx hb dL_law_482 rfl ?_
    refine lv_istore (lv' := [(15, .int (zi 0)), (0, .ref b), (1, .int (zi tm)), (2, .ref g0), (3, .ref (ad 52)), (4, .int (zi st)), (5, .long dg), (9, .int (zi (zN X 0 : Int))), (13, .int (zi (N : Int))), (14, .int (zi (k : Int)))]) hx hb dL_law_483 hl (by decide) rfl (fun ls hl => ?_)
    refine lv_aload_n hx hb dL_law_485 rfl (lv_at hl 4 rfl) ?_
    refine lv_iload hx hb dL_law_486 (lv_at hl 9 rfl) ?_
    refine lv_iconst (v := zi 0) hx hb dL_law_488 rfl ?_
    refine zcall (wr := wr) (wc := zpic G ad X) (va_runV (As := [.int (zi (k : Int)), .int (zi 0)]) (rest := []) ⟨hx, hb, hml, hown, hts⟩ (c_X7_ofNode l G ad X k 0 hI.1 hTf (by omega) (by omega) H.size) (cwV 2 hts gL_law_X7_ofNode rfl rfl rfl (by decide +kernel) ⟨Nat.le_of_ble_eq_true rfl, Nat.le_of_ble_eq_true rfl⟩) (zPreV (As := [.int (zi (k : Int)), .int (zi 0)]) (wr := wr) (wc := zpic G ad X) (q0 := 52) (ci := 7) (q := (RX7, TX7, 8)) hP hD hE hS hA rfl p_52) rfl rfl hl.1 rfl (lv_room (Nat.le_of_ble_eq_true rfl)) dL_law_489 ⟨(by show _ ≤ 600104; omega), (by show _ ≤ 7301314; omega)⟩) hP hD hS hA (fun _ _ H locs hf9 hP hD hS => ?_)
    obtain ⟨v2, rfl, hv2, rfl⟩ := hf9
    have hP : va_P G.1 vwCl (wr ++ zpic G ad X) H := hP
    have hD : va_D A (wr ++ zpic G ad X) := hD
    refine W.eq (g2 := F0 m 492 ls [.int (zi v2)]) rfl ?_
    have hfo : v2 = (zFo X k : Int) := hv2
    subst hfo
    have hkN : (k : Int) < X 61 5 := by omega
    have hnd := hTf.2.2.2.node hkN
    have hzs := zS_of (zFo X k)
    have hnp := zNp_pos hTf hkN
    have hnle := zNp_le hTf hkN
    have he0 := zEn_0 hTf hkN
    refine lv_istore (lv' := [(16, .int (zi (zFo X k : Int))), (15, .int (zi 0)), (0, .ref b), (1, .int (zi tm)), (2, .ref g0), (3, .ref (ad 52)), (4, .int (zi st)), (5, .long dg), (9, .int (zi (zN X 0 : Int))), (13, .int (zi (N : Int))), (14, .int (zi (k : Int)))]) hx hb dL_law_492 hl (by decide) rfl (fun ls hl => ?_)
    have hl : lv_has ls 19 [(16, .int (zi (zFo X k : Int))), (15, .int (zi (zEn X k 0))), (0, .ref b), (1, .int (zi tm)), (2, .ref g0), (3, .ref (ad 52)), (4, .int (zi st)), (5, .long dg), (9, .int (zi (zN X 0 : Int))), (13, .int (zi (N : Int))), (14, .int (zi (k : Int)))] := by rw [he0]; exact hl
    refine lv_iconst (v := zi 0) hx hb dL_law_494 rfl ?_
    refine lv_istore (lv' := [(17, .int (zi 0)), (16, .int (zi (zFo X k : Int))), (15, .int (zi (zEn X k 0))), (0, .ref b), (1, .int (zi tm)), (2, .ref g0), (3, .ref (ad 52)), (4, .int (zi st)), (5, .long dg), (9, .int (zi (zN X 0 : Int))), (13, .int (zi (N : Int))), (14, .int (zi (k : Int)))]) hx hb dL_law_495 hl (by decide) rfl (fun ls hl => ?_)
    refine zloop1 (fun (q : Nat) => zNp X k - q) (fun (q : Nat) (H : Heap) (locs : List Loc) (ls : Array Slot) => va_P G.1 vwCl (wr ++ zpic G ad X) H ∧ va_D A (wr ++ zpic G ad X) ∧ va_S A s.heap H locs ∧ lv_has ls 19 [(0, .ref b), (1, .int (zi tm)), (2, .ref g0), (3, .ref (ad 52)), (4, .int (zi st)), (5, .long dg), (9, .int (zi (zN X 0 : Int))), (13, .int (zi (N : Int))), (14, .int (zi (k : Int))), (15, .int (zi (zEn X k q))), (16, .int (zi (zFo X k : Int))), (17, .int (zi (q : Int)))] ∧ (q ≤ zNp X k)) ?_ 0 ⟨hP, hD, hS, lv_sub hl [3, 4, 5, 6, 7, 8, 9, 10, 11, 2, 1, 0] rfl, (by omega)⟩
    intro q ih H locs ls ⟨hP, hD, hS, hl, hqn0⟩
    refine lv_iload hx hb dL_law_497 (lv_at hl 11 rfl) ?_
    refine lv_aload_n hx hb dL_law_499 rfl (lv_at hl 3 rfl) ?_
    refine lv_iload hx hb dL_law_500 (lv_at hl 8 rfl) ?_
    refine lv_iconst (v := zi 2) hx hb dL_law_502 rfl ?_
    refine zcall (wr := wr) (wc := zpic G ad X) (va_runV (As := [.int (zi (k : Int)), .int (zi 2)]) (rest := [.int (zi (q : Int))]) ⟨hx, hb, hml, hown, hts⟩ (c_X7_ofNode l G ad X k 2 hI.1 hTf (by omega) (by omega) H.size) (cwV 2 hts gL_law_X7_ofNode rfl rfl rfl (by decide +kernel) ⟨Nat.le_of_ble_eq_true rfl, Nat.le_of_ble_eq_true rfl⟩) (zPreV (As := [.int (zi (k : Int)), .int (zi 2)]) (wr := wr) (wc := zpic G ad X) (q0 := 52) (ci := 7) (q := (RX7, TX7, 8)) hP hD hE hS hA rfl p_52) rfl rfl hl.1 rfl (lv_room (Nat.le_of_ble_eq_true rfl)) dL_law_503 ⟨(by show _ ≤ 600104; omega), (by show _ ≤ 7301314; omega)⟩) hP hD hS hA (fun _ _ H locs hf9 hP hD hS => ?_)
    obtain ⟨v3, rfl, hv3, rfl⟩ := hf9
    have hP : va_P G.1 vwCl (wr ++ zpic G ad X) H := hP
    have hD : va_D A (wr ++ zpic G ad X) := hD
    refine W.eq (g2 := F0 m 506 ls [.int (zi v3), .int (zi (q : Int))]) rfl ?_
    have hnq : v3 = (zNp X k : Int) := hv3
    refine zc_ge (tgt := 624) hx hb dL_law_506 (by decide) (by omega) (by omega) (fun h506 => ?_) (fun h506 => ?_)
    · have hqn : q = zNp X k := by omega
      have hen := zEn_s (X := X) (k := k)
      rw [← hqn] at hen
      refine lv_iload hx hb dL_law_624 (lv_at hl 9 rfl) ?_
      refine lv_iload hx hb dL_law_626 (lv_at hl 10 rfl) ?_
      refine lv_iconst (v := zi 2) hx hb dL_law_628 rfl ?_
      refine zc_ge (tgt := 638) hx hb dL_law_629 (by decide) (by omega) (by decide) (fun h629 => ?_) (fun h629 => ?_)
      · refine lv_iload hx hb dL_law_638 (lv_at hl 10 rfl) ?_
        refine lv_iconst (v := zi 2) hx hb dL_law_640 rfl ?_
        refine zc_ne (tgt := 650) hx hb dL_law_641 (by decide) (by omega) (by decide) (fun h641 => ?_) (fun h641 => ?_)
        · refine lv_iconst (v := zi 4) hx hb dL_law_650 rfl ?_
          refine zc_ne (tgt := 688) hx hb dL_law_651 (by decide) (by omega) (by decide) (fun h9 => by exfalso; omega) (fun h651 => ?_)
          refine lv_iload hx hb dL_law_654 (lv_at hl 10 rfl) ?_
          refine z0_lt (tgt := 688) hx hb dL_law_656 (by decide) (by omega) (fun h9 => by exfalso; omega) (fun h656 => ?_)
          refine lv_iload hx hb dL_law_659 (lv_at hl 10 rfl) ?_
          refine lv_iconst (v := zi 3) hx hb dL_law_661 rfl ?_
          refine zc_gt (tgt := 688) hx hb dL_law_662 (by decide) (by omega) (by decide) (fun h9 => by exfalso; omega) (fun h662 => ?_)
          refine lv_iload hx hb dL_law_665 (lv_at hl 8 rfl) ?_
          refine z0_ne (tgt := 690) hx hb dL_law_667 (by decide) (by omega) (fun h667 => ?_) (fun h667 => ?_)
          · refine lv_iinc (v := zi ((k : Int) + 1)) (lv' := [(14, .int (zi ((k : Int) + 1))), (0, .ref b), (1, .int (zi tm)), (2, .ref g0), (3, .ref (ad 52)), (4, .int (zi st)), (5, .long dg), (9, .int (zi (zN X 0 : Int))), (13, .int (zi (N : Int))), (15, .int (zi (zEn X k q))), (16, .int (zi (zFo X k : Int))), (17, .int (zi (q : Int)))]) hx hb dL_law_690 hl (k := 8) rfl (zi_add _ _) (by decide) rfl (fun ls hl => ?_)
            refine lv_goto (tgt := 470) hx hb dL_law_693 (by decide) ?_
            exact ihk (k + 1) (by omega) H locs ls ⟨hP, hD, hS, lv_sub hl [1, 2, 3, 4, 5, 6, 7, 8, 0] rfl, (by omega)⟩
          · have hk0 : k = 0 := by omega
            subst hk0
            have hrt := zroot hI.1 hTf (by omega)
            refine lv_iload hx hb dL_law_670 (lv_at hl 10 rfl) ?_
            refine z0_ne (tgt := 688) hx hb dL_law_672 (by decide) (by omega) (fun h9 => by exfalso; omega) (fun h672 => ?_)
            refine lv_aload_n hx hb dL_law_675 rfl (lv_at hl 3 rfl) ?_
            refine lv_iconst (v := zi 0) hx hb dL_law_676 rfl ?_
            refine lv_iconst (v := zi 1) hx hb dL_law_677 rfl ?_
            refine zcall (wr := wr) (wc := zpic G ad X) (va_runV (As := [.int (zi 0), .int (zi 1)]) (rest := []) ⟨hx, hb, hml, hown, hts⟩ (c_X7_ofNode l G ad X 0 1 hI.1 hTf (by omega) (by omega) H.size) (cwV 2 hts gL_law_X7_ofNode rfl rfl rfl (by decide +kernel) ⟨Nat.le_of_ble_eq_true rfl, Nat.le_of_ble_eq_true rfl⟩) (zPreV (As := [.int (zi 0), .int (zi 1)]) (wr := wr) (wc := zpic G ad X) (q0 := 52) (ci := 7) (q := (RX7, TX7, 8)) hP hD hE hS hA rfl p_52) rfl rfl hl.1 rfl (lv_room (Nat.le_of_ble_eq_true rfl)) dL_law_678 ⟨(by show _ ≤ 600104; omega), (by show _ ≤ 7301314; omega)⟩) hP hD hS hA (fun _ _ H locs hf9 hP hD hS => ?_)
            obtain ⟨v4, rfl, hv4, rfl⟩ := hf9
            have hP : va_P G.1 vwCl (wr ++ zpic G ad X) H := hP
            have hD : va_D A (wr ++ zpic G ad X) := hD
            refine W.eq (g2 := F0 m 681 ls [.int (zi v4)]) rfl ?_
            have hr1 : v4 = (zSo X 0 : Int) := hv4
            refine lv_aload_n hx hb dL_law_681 rfl (lv_at hl 2 rfl) ?_
            refine kall H locs ls _ hP hD hS hl.1 (fun H locs hP hD hS => ?_)
            refine zc_eq (tgt := 690) hx hb dL_law_685 (by decide) (by omega) (by omega) (fun h685 => ?_) (fun h9 => by exfalso; omega)
            refine lv_iinc (v := zi ((0 : Int) + 1)) (lv' := [(14, .int (zi ((0 : Int) + 1))), (0, .ref b), (1, .int (zi tm)), (2, .ref g0), (3, .ref (ad 52)), (4, .int (zi st)), (5, .long dg), (9, .int (zi (zN X 0 : Int))), (13, .int (zi (N : Int))), (15, .int (zi (zEn X 0 q))), (16, .int (zi (zFo X 0 : Int))), (17, .int (zi (q : Int)))]) hx hb dL_law_690 hl (k := 8) rfl (zi_add _ _) (by decide) rfl (fun ls hl => ?_)
            refine lv_goto (tgt := 470) hx hb dL_law_693 (by decide) ?_
            exact ihk (0 + 1) (by omega) H locs ls ⟨hP, hD, hS, lv_sub hl [1, 2, 3, 4, 5, 6, 7, 8, 0] rfl, (by omega)⟩
        · refine lv_sipush (v := zi 1024) hx hb dL_law_644 (by decide +kernel) ?_
          refine lv_goto (tgt := 651) hx hb dL_law_647 (by decide) ?_
          refine zc_ne (tgt := 688) hx hb dL_law_651 (by decide) (by omega) (by decide) (fun h9 => by exfalso; omega) (fun h651 => ?_)
          refine lv_iload hx hb dL_law_654 (lv_at hl 10 rfl) ?_
          refine z0_lt (tgt := 688) hx hb dL_law_656 (by decide) (by omega) (fun h9 => by exfalso; omega) (fun h656 => ?_)
          refine lv_iload hx hb dL_law_659 (lv_at hl 10 rfl) ?_
          refine lv_iconst (v := zi 3) hx hb dL_law_661 rfl ?_
          refine zc_gt (tgt := 688) hx hb dL_law_662 (by decide) (by omega) (by decide) (fun h9 => by exfalso; omega) (fun h662 => ?_)
          refine lv_iload hx hb dL_law_665 (lv_at hl 8 rfl) ?_
          refine z0_ne (tgt := 690) hx hb dL_law_667 (by decide) (by omega) (fun h667 => ?_) (fun h667 => ?_)
          · refine lv_iinc (v := zi ((k : Int) + 1)) (lv' := [(14, .int (zi ((k : Int) + 1))), (0, .ref b), (1, .int (zi tm)), (2, .ref g0), (3, .ref (ad 52)), (4, .int (zi st)), (5, .long dg), (9, .int (zi (zN X 0 : Int))), (13, .int (zi (N : Int))), (15, .int (zi (zEn X k q))), (16, .int (zi (zFo X k : Int))), (17, .int (zi (q : Int)))]) hx hb dL_law_690 hl (k := 8) rfl (zi_add _ _) (by decide) rfl (fun ls hl => ?_)
            refine lv_goto (tgt := 470) hx hb dL_law_693 (by decide) ?_
            exact ihk (k + 1) (by omega) H locs ls ⟨hP, hD, hS, lv_sub hl [1, 2, 3, 4, 5, 6, 7, 8, 0] rfl, (by omega)⟩
          · have hk0 : k = 0 := by omega
            subst hk0
            have hrt := zroot hI.1 hTf (by omega)
            refine lv_iload hx hb dL_law_670 (lv_at hl 10 rfl) ?_
            refine z0_ne (tgt := 688) hx hb dL_law_672 (by decide) (by omega) (fun h9 => by exfalso; omega) (fun h672 => ?_)
            refine lv_aload_n hx hb dL_law_675 rfl (lv_at hl 3 rfl) ?_
            refine lv_iconst (v := zi 0) hx hb dL_law_676 rfl ?_
            refine lv_iconst (v := zi 1) hx hb dL_law_677 rfl ?_
            refine zcall (wr := wr) (wc := zpic G ad X) (va_runV (As := [.int (zi 0), .int (zi 1)]) (rest := []) ⟨hx, hb, hml, hown, hts⟩ (c_X7_ofNode l G ad X 0 1 hI.1 hTf (by omega) (by omega) H.size) (cwV 2 hts gL_law_X7_ofNode rfl rfl rfl (by decide +kernel) ⟨Nat.le_of_ble_eq_true rfl, Nat.le_of_ble_eq_true rfl⟩) (zPreV (As := [.int (zi 0), .int (zi 1)]) (wr := wr) (wc := zpic G ad X) (q0 := 52) (ci := 7) (q := (RX7, TX7, 8)) hP hD hE hS hA rfl p_52) rfl rfl hl.1 rfl (lv_room (Nat.le_of_ble_eq_true rfl)) dL_law_678 ⟨(by show _ ≤ 600104; omega), (by show _ ≤ 7301314; omega)⟩) hP hD hS hA (fun _ _ H locs hf9 hP hD hS => ?_)
            obtain ⟨v4, rfl, hv4, rfl⟩ := hf9
            have hP : va_P G.1 vwCl (wr ++ zpic G ad X) H := hP
            have hD : va_D A (wr ++ zpic G ad X) := hD
            refine W.eq (g2 := F0 m 681 ls [.int (zi v4)]) rfl ?_
            have hr1 : v4 = (zSo X 0 : Int) := hv4
            refine lv_aload_n hx hb dL_law_681 rfl (lv_at hl 2 rfl) ?_
            refine kall H locs ls _ hP hD hS hl.1 (fun H locs hP hD hS => ?_)
            refine zc_eq (tgt := 690) hx hb dL_law_685 (by decide) (by omega) (by omega) (fun h685 => ?_) (fun h9 => by exfalso; omega)
            refine lv_iinc (v := zi ((0 : Int) + 1)) (lv' := [(14, .int (zi ((0 : Int) + 1))), (0, .ref b), (1, .int (zi tm)), (2, .ref g0), (3, .ref (ad 52)), (4, .int (zi st)), (5, .long dg), (9, .int (zi (zN X 0 : Int))), (13, .int (zi (N : Int))), (15, .int (zi (zEn X 0 q))), (16, .int (zi (zFo X 0 : Int))), (17, .int (zi (q : Int)))]) hx hb dL_law_690 hl (k := 8) rfl (zi_add _ _) (by decide) rfl (fun ls hl => ?_)
            refine lv_goto (tgt := 470) hx hb dL_law_693 (by decide) ?_
            exact ihk (0 + 1) (by omega) H locs ls ⟨hP, hD, hS, lv_sub hl [1, 2, 3, 4, 5, 6, 7, 8, 0] rfl, (by omega)⟩
      · refine lv_sipush (v := zi 256) hx hb dL_law_632 (by decide +kernel) ?_
        refine lv_goto (tgt := 651) hx hb dL_law_635 (by decide) ?_
        refine zc_ne (tgt := 688) hx hb dL_law_651 (by decide) (by omega) (by decide) (fun h9 => by exfalso; omega) (fun h651 => ?_)
        refine lv_iload hx hb dL_law_654 (lv_at hl 10 rfl) ?_
        refine z0_lt (tgt := 688) hx hb dL_law_656 (by decide) (by omega) (fun h9 => by exfalso; omega) (fun h656 => ?_)
        refine lv_iload hx hb dL_law_659 (lv_at hl 10 rfl) ?_
        refine lv_iconst (v := zi 3) hx hb dL_law_661 rfl ?_
        refine zc_gt (tgt := 688) hx hb dL_law_662 (by decide) (by omega) (by decide) (fun h9 => by exfalso; omega) (fun h662 => ?_)
        refine lv_iload hx hb dL_law_665 (lv_at hl 8 rfl) ?_
        refine z0_ne (tgt := 690) hx hb dL_law_667 (by decide) (by omega) (fun h667 => ?_) (fun h667 => ?_)
        · refine lv_iinc (v := zi ((k : Int) + 1)) (lv' := [(14, .int (zi ((k : Int) + 1))), (0, .ref b), (1, .int (zi tm)), (2, .ref g0), (3, .ref (ad 52)), (4, .int (zi st)), (5, .long dg), (9, .int (zi (zN X 0 : Int))), (13, .int (zi (N : Int))), (15, .int (zi (zEn X k q))), (16, .int (zi (zFo X k : Int))), (17, .int (zi (q : Int)))]) hx hb dL_law_690 hl (k := 8) rfl (zi_add _ _) (by decide) rfl (fun ls hl => ?_)
          refine lv_goto (tgt := 470) hx hb dL_law_693 (by decide) ?_
          exact ihk (k + 1) (by omega) H locs ls ⟨hP, hD, hS, lv_sub hl [1, 2, 3, 4, 5, 6, 7, 8, 0] rfl, (by omega)⟩
        · have hk0 : k = 0 := by omega
          subst hk0
          have hrt := zroot hI.1 hTf (by omega)
          refine lv_iload hx hb dL_law_670 (lv_at hl 10 rfl) ?_
          refine z0_ne (tgt := 688) hx hb dL_law_672 (by decide) (by omega) (fun h9 => by exfalso; omega) (fun h672 => ?_)
          refine lv_aload_n hx hb dL_law_675 rfl (lv_at hl 3 rfl) ?_
          refine lv_iconst (v := zi 0) hx hb dL_law_676 rfl ?_
          refine lv_iconst (v := zi 1) hx hb dL_law_677 rfl ?_
          refine zcall (wr := wr) (wc := zpic G ad X) (va_runV (As := [.int (zi 0), .int (zi 1)]) (rest := []) ⟨hx, hb, hml, hown, hts⟩ (c_X7_ofNode l G ad X 0 1 hI.1 hTf (by omega) (by omega) H.size) (cwV 2 hts gL_law_X7_ofNode rfl rfl rfl (by decide +kernel) ⟨Nat.le_of_ble_eq_true rfl, Nat.le_of_ble_eq_true rfl⟩) (zPreV (As := [.int (zi 0), .int (zi 1)]) (wr := wr) (wc := zpic G ad X) (q0 := 52) (ci := 7) (q := (RX7, TX7, 8)) hP hD hE hS hA rfl p_52) rfl rfl hl.1 rfl (lv_room (Nat.le_of_ble_eq_true rfl)) dL_law_678 ⟨(by show _ ≤ 600104; omega), (by show _ ≤ 7301314; omega)⟩) hP hD hS hA (fun _ _ H locs hf9 hP hD hS => ?_)
          obtain ⟨v4, rfl, hv4, rfl⟩ := hf9
          have hP : va_P G.1 vwCl (wr ++ zpic G ad X) H := hP
          have hD : va_D A (wr ++ zpic G ad X) := hD
          refine W.eq (g2 := F0 m 681 ls [.int (zi v4)]) rfl ?_
          have hr1 : v4 = (zSo X 0 : Int) := hv4
          refine lv_aload_n hx hb dL_law_681 rfl (lv_at hl 2 rfl) ?_
          refine kall H locs ls _ hP hD hS hl.1 (fun H locs hP hD hS => ?_)
          refine zc_eq (tgt := 690) hx hb dL_law_685 (by decide) (by omega) (by omega) (fun h685 => ?_) (fun h9 => by exfalso; omega)
          refine lv_iinc (v := zi ((0 : Int) + 1)) (lv' := [(14, .int (zi ((0 : Int) + 1))), (0, .ref b), (1, .int (zi tm)), (2, .ref g0), (3, .ref (ad 52)), (4, .int (zi st)), (5, .long dg), (9, .int (zi (zN X 0 : Int))), (13, .int (zi (N : Int))), (15, .int (zi (zEn X 0 q))), (16, .int (zi (zFo X 0 : Int))), (17, .int (zi (q : Int)))]) hx hb dL_law_690 hl (k := 8) rfl (zi_add _ _) (by decide) rfl (fun ls hl => ?_)
          refine lv_goto (tgt := 470) hx hb dL_law_693 (by decide) ?_
          exact ihk (0 + 1) (by omega) H locs ls ⟨hP, hD, hS, lv_sub hl [1, 2, 3, 4, 5, 6, 7, 8, 0] rfl, (by omega)⟩
    · refine lv_aload_n hx hb dL_law_509 rfl (lv_at hl 3 rfl) ?_
      refine lv_iload hx hb dL_law_510 (lv_at hl 8 rfl) ?_
      refine lv_iload hx hb dL_law_512 (lv_at hl 11 rfl) ?_
      refine lv_iconst (v := zi 2) hx hb dL_law_514 rfl ?_
      refine zcall (wr := wr) (wc := zpic G ad X) (va_runV (As := [.int (zi (k : Int)), .int (zi (q : Int)), .int (zi 2)]) (rest := []) ⟨hx, hb, hml, hown, hts⟩ (c_X7_piece l G ad X k q 2 hI.1 hTf (by omega) (by show q < zNp X k; omega) (by omega) H.size) (cwV 3 hts gL_law_X7_piece rfl rfl rfl (by decide +kernel) ⟨Nat.le_of_ble_eq_true rfl, Nat.le_of_ble_eq_true rfl⟩) (zPreV (As := [.int (zi (k : Int)), .int (zi (q : Int)), .int (zi 2)]) (wr := wr) (wc := zpic G ad X) (q0 := 52) (ci := 7) (q := (RX7, TX7, 8)) hP hD hE hS hA rfl p_52) rfl rfl hl.1 rfl (lv_room (Nat.le_of_ble_eq_true rfl)) dL_law_515 ⟨(by show _ ≤ 600104; omega), (by show _ ≤ 7301314; omega)⟩) hP hD hS hA (fun _ _ H locs hf9 hP hD hS => ?_)
      obtain ⟨v4, rfl, hv4, rfl⟩ := hf9
      have hP : va_P G.1 vwCl (wr ++ zpic G ad X) H := hP
      have hD : va_D A (wr ++ zpic G ad X) := hD
      refine W.eq (g2 := F0 m 518 ls [.int (zi v4)]) rfl ?_
      have hto := hv4
      have hpf := zPf2_facts hI.1 hTf hkN (i := q) (by omega)
      rw [← hto] at hpf
      have hes := zEn_step hTf hkN (i := q) (by omega)
      have hei := zEn_i (X := X) (k := k) (i := q) (by omega)
      have hsf := zS_le (zFo X k)
      refine lv_istore (lv' := [(18, .int (zi v4)), (0, .ref b), (1, .int (zi tm)), (2, .ref g0), (3, .ref (ad 52)), (4, .int (zi st)), (5, .long dg), (9, .int (zi (zN X 0 : Int))), (13, .int (zi (N : Int))), (14, .int (zi (k : Int))), (15, .int (zi (zEn X k q))), (16, .int (zi (zFo X k : Int))), (17, .int (zi (q : Int)))]) hx hb dL_law_518 hl (by decide) rfl (fun ls hl => ?_)
      refine lv_aload_n hx hb dL_law_520 rfl (lv_at hl 4 rfl) ?_
      refine lv_iload hx hb dL_law_521 (lv_at hl 9 rfl) ?_
      refine lv_iload hx hb dL_law_523 (lv_at hl 12 rfl) ?_
      refine lv_iconst (v := zi 0) hx hb dL_law_525 rfl ?_
      refine zcall (wr := wr) (wc := zpic G ad X) (va_runV (As := [.int (zi (k : Int)), .int (zi (q : Int)), .int (zi 0)]) (rest := []) ⟨hx, hb, hml, hown, hts⟩ (c_X7_piece l G ad X k q 0 hI.1 hTf (by omega) (by show q < zNp X k; omega) (by omega) H.size) (cwV 3 hts gL_law_X7_piece rfl rfl rfl (by decide +kernel) ⟨Nat.le_of_ble_eq_true rfl, Nat.le_of_ble_eq_true rfl⟩) (zPreV (As := [.int (zi (k : Int)), .int (zi (q : Int)), .int (zi 0)]) (wr := wr) (wc := zpic G ad X) (q0 := 52) (ci := 7) (q := (RX7, TX7, 8)) hP hD hE hS hA rfl p_52) rfl rfl hl.1 rfl (lv_room (Nat.le_of_ble_eq_true rfl)) dL_law_526 ⟨(by show _ ≤ 600104; omega), (by show _ ≤ 7301314; omega)⟩) hP hD hS hA (fun _ _ H locs hf9 hP hD hS => ?_)
      obtain ⟨v5, rfl, hv5, rfl⟩ := hf9
      have hP : va_P G.1 vwCl (wr ++ zpic G ad X) H := hP
      have hD : va_D A (wr ++ zpic G ad X) := hD
      refine W.eq (g2 := F0 m 529 ls [.int (zi v5)]) rfl ?_
      refine lv_iload hx hb dL_law_529 (lv_at hl 10 rfl) ?_
      refine zc_ne (tgt := 603) hx hb dL_law_531 (by decide) (by omega) (by omega) (fun h9 => by exfalso; omega) (fun h531 => ?_)
      refine lv_aload_n hx hb dL_law_534 rfl (lv_at hl 4 rfl) ?_
      refine lv_iload hx hb dL_law_535 (lv_at hl 9 rfl) ?_
      refine lv_iload hx hb dL_law_537 (lv_at hl 12 rfl) ?_
      refine lv_iconst (v := zi 1) hx hb dL_law_539 rfl ?_
      refine zcall (wr := wr) (wc := zpic G ad X) (va_runV (As := [.int (zi (k : Int)), .int (zi (q : Int)), .int (zi 1)]) (rest := []) ⟨hx, hb, hml, hown, hts⟩ (c_X7_piece l G ad X k q 1 hI.1 hTf (by omega) (by show q < zNp X k; omega) (by omega) H.size) (cwV 3 hts gL_law_X7_piece rfl rfl rfl (by decide +kernel) ⟨Nat.le_of_ble_eq_true rfl, Nat.le_of_ble_eq_true rfl⟩) (zPreV (As := [.int (zi (k : Int)), .int (zi (q : Int)), .int (zi 1)]) (wr := wr) (wc := zpic G ad X) (q0 := 52) (ci := 7) (q := (RX7, TX7, 8)) hP hD hE hS hA rfl p_52) rfl rfl hl.1 rfl (lv_room (Nat.le_of_ble_eq_true rfl)) dL_law_540 ⟨(by show _ ≤ 600104; omega), (by show _ ≤ 7301314; omega)⟩) hP hD hS hA (fun _ _ H locs hf9 hP hD hS => ?_)
      obtain ⟨v6, rfl, hv6, rfl⟩ := hf9
      have hP : va_P G.1 vwCl (wr ++ zpic G ad X) H := hP
      have hD : va_D A (wr ++ zpic G ad X) := hD
      refine W.eq (g2 := F0 m 543 ls [.int (zi v6)]) rfl ?_
      refine lv_iload hx hb dL_law_543 (lv_at hl 10 rfl) ?_
      refine zc_lt (tgt := 603) hx hb dL_law_545 (by decide) (by omega) (by omega) (fun h9 => by exfalso; omega) (fun h545 => ?_)
      refine lv_iload hx hb dL_law_548 (lv_at hl 0 rfl) ?_
      refine lv_iload hx hb dL_law_550 (lv_at hl 8 rfl) ?_
      refine zc_ge (tgt := 603) hx hb dL_law_552 (by decide) (by omega) (by omega) (fun h9 => by exfalso; omega) (fun h552 => ?_)
      refine lv_iload hx hb dL_law_555 (lv_at hl 0 rfl) ?_
      refine lv_iconst (v := zi (-1)) hx hb dL_law_557 rfl ?_
      refine lv_iload hx hb dL_law_558 (lv_at hl 7 rfl) ?_
      refine lv_isub hx hb dL_law_560 (zti (v := zi ((-1) - (zN X 0 : Int))) (zi_sub _ _) ?_)
      refine zc_lt (tgt := 603) hx hb dL_law_561 (by decide) (by omega) (by omega) (fun h9 => by exfalso; omega) (fun h561 => ?_)
      refine lv_iload hx hb dL_law_564 (lv_at hl 0 rfl) ?_
      refine z0_lt (tgt := 605) hx hb dL_law_566 (by decide) (by omega) (fun h566 => ?_) (fun h566 => ?_)
      · refine lv_aload_n hx hb dL_law_605 rfl (lv_at hl 4 rfl) ?_
        refine lv_iload hx hb dL_law_606 (lv_at hl 9 rfl) ?_
        refine lv_iload hx hb dL_law_608 (lv_at hl 12 rfl) ?_
        refine lv_iconst (v := zi 1) hx hb dL_law_610 rfl ?_
        refine zcall (wr := wr) (wc := zpic G ad X) (va_runV (As := [.int (zi (k : Int)), .int (zi (q : Int)), .int (zi 1)]) (rest := []) ⟨hx, hb, hml, hown, hts⟩ (c_X7_piece l G ad X k q 1 hI.1 hTf (by omega) (by show q < zNp X k; omega) (by omega) H.size) (cwV 3 hts gL_law_X7_piece rfl rfl rfl (by decide +kernel) ⟨Nat.le_of_ble_eq_true rfl, Nat.le_of_ble_eq_true rfl⟩) (zPreV (As := [.int (zi (k : Int)), .int (zi (q : Int)), .int (zi 1)]) (wr := wr) (wc := zpic G ad X) (q0 := 52) (ci := 7) (q := (RX7, TX7, 8)) hP hD hE hS hA rfl p_52) rfl rfl hl.1 rfl (lv_room (Nat.le_of_ble_eq_true rfl)) dL_law_611 ⟨(by show _ ≤ 600104; omega), (by show _ ≤ 7301314; omega)⟩) hP hD hS hA (fun _ _ H locs hf9 hP hD hS => ?_)
        obtain ⟨v7, rfl, hv7, rfl⟩ := hf9
        have hP : va_P G.1 vwCl (wr ++ zpic G ad X) H := hP
        have hD : va_D A (wr ++ zpic G ad X) := hD
        refine W.eq (g2 := F0 m 614 ls [.int (zi v7)]) rfl ?_
        have hp1 : v7 = zPf X k q 1 := hv7
        refine lv_iconst (v := zi 1) hx hb dL_law_614 rfl ?_
        refine lv_iadd hx hb dL_law_615 (zti (v := zi (v7 + 1)) (zi_add _ _) ?_)
        refine lv_istore (lv' := [(15, .int (zi (v7 + 1))), (18, .int (zi v4)), (0, .ref b), (1, .int (zi tm)), (2, .ref g0), (3, .ref (ad 52)), (4, .int (zi st)), (5, .long dg), (9, .int (zi (zN X 0 : Int))), (13, .int (zi (N : Int))), (14, .int (zi (k : Int))), (16, .int (zi (zFo X k : Int))), (17, .int (zi (q : Int)))]) hx hb dL_law_616 hl (by decide) rfl (fun ls hl => ?_)
        refine lv_iinc (v := zi ((q : Int) + 1)) (lv' := [(17, .int (zi ((q : Int) + 1))), (15, .int (zi (v7 + 1))), (18, .int (zi v4)), (0, .ref b), (1, .int (zi tm)), (2, .ref g0), (3, .ref (ad 52)), (4, .int (zi st)), (5, .long dg), (9, .int (zi (zN X 0 : Int))), (13, .int (zi (N : Int))), (14, .int (zi (k : Int))), (16, .int (zi (zFo X k : Int)))]) hx hb dL_law_618 hl (k := 12) rfl (zi_add _ _) (by decide) rfl (fun ls hl => ?_)
        refine lv_goto (tgt := 497) hx hb dL_law_621 (by decide) ?_
        have hne : v7 + 1 = zEn X k (q + 1) := by omega
        rw [hne] at hl
        exact ih (q + 1) (by omega) H locs ls ⟨hP, hD, hS, lv_sub hl [3, 4, 5, 6, 7, 8, 9, 10, 11, 1, 12, 0] rfl, (by omega)⟩
      · obtain ⟨t, rfl⟩ : ∃ z : Nat, v4 = (z : Int) := ⟨v4.toNat, by omega⟩
        have hpt := hpf.2.2 (by omega)
        rw [Int.toNat_natCast] at hpt
        have htn := hTf.2.2.2.node (k := t) (by omega)
        refine lv_aload_n hx hb dL_law_569 rfl (lv_at hl 4 rfl) ?_
        refine lv_iload hx hb dL_law_570 (lv_at hl 0 rfl) ?_
        refine lv_iconst (v := zi 0) hx hb dL_law_572 rfl ?_
        refine zcall (wr := wr) (wc := zpic G ad X) (va_runV (As := [.int (zi (t : Int)), .int (zi 0)]) (rest := []) ⟨hx, hb, hml, hown, hts⟩ (c_X7_ofNode l G ad X t 0 hI.1 hTf (by omega) (by omega) H.size) (cwV 2 hts gL_law_X7_ofNode rfl rfl rfl (by decide +kernel) ⟨Nat.le_of_ble_eq_true rfl, Nat.le_of_ble_eq_true rfl⟩) (zPreV (As := [.int (zi (t : Int)), .int (zi 0)]) (wr := wr) (wc := zpic G ad X) (q0 := 52) (ci := 7) (q := (RX7, TX7, 8)) hP hD hE hS hA rfl p_52) rfl rfl hl.1 rfl (lv_room (Nat.le_of_ble_eq_true rfl)) dL_law_573 ⟨(by show _ ≤ 600104; omega), (by show _ ≤ 7301314; omega)⟩) hP hD hS hA (fun _ _ H locs hf9 hP hD hS => ?_)
        obtain ⟨v7, rfl, hv7, rfl⟩ := hf9
        have hP : va_P G.1 vwCl (wr ++ zpic G ad X) H := hP
        have hD : va_D A (wr ++ zpic G ad X) := hD
        refine W.eq (g2 := F0 m 576 ls [.int (zi v7)]) rfl ?_
        have hft : v7 = (zFo X t : Int) := hv7
        refine lv_iload hx hb dL_law_576 (lv_at hl 11 rfl) ?_
        refine lv_iconst (v := zi 1) hx hb dL_law_578 rfl ?_
        refine lv_iadd hx hb dL_law_579 (zti (v := zi ((zFo X k : Int) + 1)) (zi_add _ _) ?_)
        refine zc_ne (tgt := 603) hx hb dL_law_580 (by decide) (by omega) (by omega) (fun h9 => by exfalso; omega) (fun h580 => ?_)
        refine lv_aload_n hx hb dL_law_583 rfl (lv_at hl 4 rfl) ?_
        refine lv_iload hx hb dL_law_584 (lv_at hl 0 rfl) ?_
        refine lv_iconst (v := zi 1) hx hb dL_law_586 rfl ?_
        refine zcall (wr := wr) (wc := zpic G ad X) (va_runV (As := [.int (zi (t : Int)), .int (zi 1)]) (rest := []) ⟨hx, hb, hml, hown, hts⟩ (c_X7_ofNode l G ad X t 1 hI.1 hTf (by omega) (by omega) H.size) (cwV 2 hts gL_law_X7_ofNode rfl rfl rfl (by decide +kernel) ⟨Nat.le_of_ble_eq_true rfl, Nat.le_of_ble_eq_true rfl⟩) (zPreV (As := [.int (zi (t : Int)), .int (zi 1)]) (wr := wr) (wc := zpic G ad X) (q0 := 52) (ci := 7) (q := (RX7, TX7, 8)) hP hD hE hS hA rfl p_52) rfl rfl hl.1 rfl (lv_room (Nat.le_of_ble_eq_true rfl)) dL_law_587 ⟨(by show _ ≤ 600104; omega), (by show _ ≤ 7301314; omega)⟩) hP hD hS hA (fun _ _ H locs hf9 hP hD hS => ?_)
        obtain ⟨v8, rfl, hv8, rfl⟩ := hf9
        have hP : va_P G.1 vwCl (wr ++ zpic G ad X) H := hP
        have hD : va_D A (wr ++ zpic G ad X) := hD
        refine W.eq (g2 := F0 m 590 ls [.int (zi v8)]) rfl ?_
        have hs9 : v8 = (zSo X t : Int) := hv8
        subst hs9
        refine lv_aload_n hx hb dL_law_590 rfl (lv_at hl 4 rfl) ?_
        refine lv_iload hx hb dL_law_591 (lv_at hl 9 rfl) ?_
        refine lv_iconst (v := zi 1) hx hb dL_law_593 rfl ?_
        refine zcall (wr := wr) (wc := zpic G ad X) (va_runV (As := [.int (zi (k : Int)), .int (zi 1)]) (rest := [.int (zi (zSo X t : Int))]) ⟨hx, hb, hml, hown, hts⟩ (c_X7_ofNode l G ad X k 1 hI.1 hTf (by omega) (by omega) H.size) (cwV 2 hts gL_law_X7_ofNode rfl rfl rfl (by decide +kernel) ⟨Nat.le_of_ble_eq_true rfl, Nat.le_of_ble_eq_true rfl⟩) (zPreV (As := [.int (zi (k : Int)), .int (zi 1)]) (wr := wr) (wc := zpic G ad X) (q0 := 52) (ci := 7) (q := (RX7, TX7, 8)) hP hD hE hS hA rfl p_52) rfl rfl hl.1 rfl (lv_room (Nat.le_of_ble_eq_true rfl)) dL_law_594 ⟨(by show _ ≤ 600104; omega), (by show _ ≤ 7301314; omega)⟩) hP hD hS hA (fun _ _ H locs hf9 hP hD hS => ?_)
        obtain ⟨v9, rfl, hv9, rfl⟩ := hf9
        have hP : va_P G.1 vwCl (wr ++ zpic G ad X) H := hP
        have hD : va_D A (wr ++ zpic G ad X) := hD
        refine W.eq (g2 := F0 m 597 ls [.int (zi v9), .int (zi (zSo X t : Int))]) rfl ?_
        have hs8 : v9 = (zSo X k : Int) := hv9
        subst hs8
        refine lv_iconst (v := zi (-1)) hx hb dL_law_597 rfl ?_
        refine lv_ixor hx hb dL_law_598 ?_
        refine lv_iand hx hb dL_law_599 (zti (v := zi 0) (zi_sub0 hpt.2) ?_)
        refine z0_eq (tgt := 605) hx hb dL_law_600 (by decide) (by decide) (fun h600 => ?_) (fun h9 => by exfalso; omega)
        refine lv_aload_n hx hb dL_law_605 rfl (lv_at hl 4 rfl) ?_
        refine lv_iload hx hb dL_law_606 (lv_at hl 9 rfl) ?_
        refine lv_iload hx hb dL_law_608 (lv_at hl 12 rfl) ?_
        refine lv_iconst (v := zi 1) hx hb dL_law_610 rfl ?_
        refine zcall (wr := wr) (wc := zpic G ad X) (va_runV (As := [.int (zi (k : Int)), .int (zi (q : Int)), .int (zi 1)]) (rest := []) ⟨hx, hb, hml, hown, hts⟩ (c_X7_piece l G ad X k q 1 hI.1 hTf (by omega) (by show q < zNp X k; omega) (by omega) H.size) (cwV 3 hts gL_law_X7_piece rfl rfl rfl (by decide +kernel) ⟨Nat.le_of_ble_eq_true rfl, Nat.le_of_ble_eq_true rfl⟩) (zPreV (As := [.int (zi (k : Int)), .int (zi (q : Int)), .int (zi 1)]) (wr := wr) (wc := zpic G ad X) (q0 := 52) (ci := 7) (q := (RX7, TX7, 8)) hP hD hE hS hA rfl p_52) rfl rfl hl.1 rfl (lv_room (Nat.le_of_ble_eq_true rfl)) dL_law_611 ⟨(by show _ ≤ 600104; omega), (by show _ ≤ 7301314; omega)⟩) hP hD hS hA (fun _ _ H locs hf9 hP hD hS => ?_)
        obtain ⟨v10, rfl, hv10, rfl⟩ := hf9
        have hP : va_P G.1 vwCl (wr ++ zpic G ad X) H := hP
        have hD : va_D A (wr ++ zpic G ad X) := hD
        refine W.eq (g2 := F0 m 614 ls [.int (zi v10)]) rfl ?_
        have hp1 : v10 = zPf X k q 1 := hv10
        refine lv_iconst (v := zi 1) hx hb dL_law_614 rfl ?_
        refine lv_iadd hx hb dL_law_615 (zti (v := zi (v10 + 1)) (zi_add _ _) ?_)
        refine lv_istore (lv' := [(15, .int (zi (v10 + 1))), (18, .int (zi (t : Int))), (0, .ref b), (1, .int (zi tm)), (2, .ref g0), (3, .ref (ad 52)), (4, .int (zi st)), (5, .long dg), (9, .int (zi (zN X 0 : Int))), (13, .int (zi (N : Int))), (14, .int (zi (k : Int))), (16, .int (zi (zFo X k : Int))), (17, .int (zi (q : Int)))]) hx hb dL_law_616 hl (by decide) rfl (fun ls hl => ?_)
        refine lv_iinc (v := zi ((q : Int) + 1)) (lv' := [(17, .int (zi ((q : Int) + 1))), (15, .int (zi (v10 + 1))), (18, .int (zi (t : Int))), (0, .ref b), (1, .int (zi tm)), (2, .ref g0), (3, .ref (ad 52)), (4, .int (zi st)), (5, .long dg), (9, .int (zi (zN X 0 : Int))), (13, .int (zi (N : Int))), (14, .int (zi (k : Int))), (16, .int (zi (zFo X k : Int)))]) hx hb dL_law_618 hl (k := 12) rfl (zi_add _ _) (by decide) rfl (fun ls hl => ?_)
        refine lv_goto (tgt := 497) hx hb dL_law_621 (by decide) ?_
        have hne : v10 + 1 = zEn X k (q + 1) := by omega
        rw [hne] at hl
        exact ih (q + 1) (by omega) H locs ls ⟨hP, hD, hS, lv_sub hl [3, 4, 5, 6, 7, 8, 9, 10, 11, 1, 12, 0] rfl, (by omega)⟩
