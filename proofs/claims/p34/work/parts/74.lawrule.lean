/-! the law: one RULE, the sums -/
theorem dL_law_86 : decode cL_law 86 = .ok (.aload_n 3, 1) := by decide +kernel
theorem dL_law_87 : decode cL_law 87 = .ok (.iload 13, 2) := by decide +kernel
theorem dL_law_89 : decode cL_law 89 = .ok (.iconst 0, 1) := by decide +kernel
set_option maxRecDepth 20000 in
theorem ggL_law_X7_ofRule : GoodIn wsL_law wsX7_ofRule := goodIn_ca (goodIn_ca (goodIn_r _ [281, 36, 205, 245, 282, 206, 207, 146, 147, 148, 20, 149, 150, 151, 145, 283, 284, 285, 185, 186, 637, 638, 639, 640, 641, 642, 643, 644, 645, 646, 647, 679, 680, 681, 682] (by decide +kernel) (by decide +kernel)) (goodIn_sub (fun _ h => List.mem_append_left _ (List.mem_append_left _ (List.mem_append_right _ h))) (by decide +kernel))) (goodIn_sub (fun _ h => List.mem_append_right _ h) (by decide +kernel))
set_option maxRecDepth 20000 in
theorem gL_law_X7_ofRule : GoodIn wsL_law (wsV RL 35 RX7 yX7_ofRule wsX7_ofRule) := goodIn_app (goodIn_of _ (by decide +kernel)) ggL_law_X7_ofRule
theorem dL_law_90 : decode cL_law 90 = .ok (.invokevirtual 35, 3) := by decide +kernel
theorem dL_law_93 : decode cL_law 93 = .ok (.istore 14, 2) := by decide +kernel
theorem dL_law_95 : decode cL_law 95 = .ok (.aload_n 3, 1) := by decide +kernel
theorem dL_law_96 : decode cL_law 96 = .ok (.iload 13, 2) := by decide +kernel
set_option maxRecDepth 20000 in
theorem ggL_law_X7_decides : GoodIn wsL_law wsX7_decides := goodIn_ca (goodIn_r _ [289, 146, 147, 148, 20, 149, 150, 151, 36, 145, 290, 291, 292, 293, 41, 294, 295, 296, 40, 297, 298, 76, 77, 78, 299, 300, 301, 302, 79, 303, 304, 305, 306, 307, 308, 309, 310, 311, 9, 312, 313, 314, 8, 10, 315, 316, 317, 35, 318, 156, 319, 320, 321, 322, 323, 324, 325, 326, 327, 328, 329, 330, 64, 331, 332, 333, 66, 334, 195, 637, 638, 639, 640, 641, 642, 643, 644, 645, 646, 647, 648, 649, 650, 651, 652, 679, 680, 681, 682] (by decide +kernel) (by decide +kernel)) (goodIn_sub (fun _ h => List.mem_append_left _ (List.mem_append_left _ (List.mem_append_right _ h))) (by decide +kernel))
set_option maxRecDepth 20000 in
theorem gL_law_X7_decides : GoodIn wsL_law (wsV RL 39 RX7 yX7_decides wsX7_decides) := goodIn_app (goodIn_of _ (by decide +kernel)) ggL_law_X7_decides
theorem dL_law_98 : decode cL_law 98 = .ok (.invokevirtual 39, 3) := by decide +kernel
theorem dL_law_101 : decode cL_law 101 = .ok (.istore 15, 2) := by decide +kernel
theorem dL_law_103 : decode cL_law 103 = .ok (.lload 7, 2) := by decide +kernel
theorem dL_law_105 : decode cL_law 105 = .ok (.iload 14, 2) := by decide +kernel
theorem dL_law_107 : decode cL_law 107 = .ok (.iconst 2, 1) := by decide +kernel
theorem dL_law_108 : decode cL_law 108 = .ok (.if_icmp .ne 7, 3) := by decide +kernel
theorem dL_law_115 : decode cL_law 115 = .ok (.iload 15, 2) := by decide +kernel
theorem dL_law_117 : decode cL_law 117 = .ok (.i2l, 1) := by decide +kernel
theorem dL_law_118 : decode cL_law 118 = .ok (.ladd, 1) := by decide +kernel
theorem dL_law_119 : decode cL_law 119 = .ok (.lstore 7, 2) := by decide +kernel
theorem dL_law_121 : decode cL_law 121 = .ok (.lload 11, 2) := by decide +kernel
theorem dL_law_123 : decode cL_law 123 = .ok (.iload 14, 2) := by decide +kernel
theorem dL_law_125 : decode cL_law 125 = .ok (.iconst 1, 1) := by decide +kernel
theorem dL_law_126 : decode cL_law 126 = .ok (.if_icmp .ne 9, 3) := by decide +kernel
theorem dL_law_135 : decode cL_law 135 = .ok (.lconst 0, 1) := by decide +kernel
theorem dL_law_136 : decode cL_law 136 = .ok (.ladd, 1) := by decide +kernel
theorem dL_law_137 : decode cL_law 137 = .ok (.lstore 11, 2) := by decide +kernel
theorem dL_law_139 : decode cL_law 139 = .ok (.aload_n 3, 1) := by decide +kernel
theorem dL_law_140 : decode cL_law 140 = .ok (.iload 13, 2) := by decide +kernel
set_option maxRecDepth 20000 in
theorem ggL_law_X7_state : GoodIn wsL_law wsX7_state := goodIn_ca (goodIn_r _ [338, 36, 205, 245, 146, 147, 148, 20, 149, 150, 151, 145, 290, 291, 292, 293, 41, 294, 295, 296, 40, 297, 298, 76, 77, 78, 299, 300, 301, 302, 79, 303, 304, 305, 306, 307, 308, 309, 310, 311, 9, 312, 313, 314, 8, 10, 315, 316, 317, 35, 318, 156, 319, 320, 321, 322, 339, 340, 341, 342, 343, 324, 325, 326, 327, 328, 329, 330, 64, 331, 332, 333, 66, 334, 195, 344, 345, 346, 347, 348, 349, 350, 351, 352, 254, 353, 354, 355, 356, 357, 358, 359, 360, 361, 362, 70, 71, 637, 638, 639, 640, 641, 642, 643, 644, 645, 646, 647, 679, 680, 681, 682, 648, 649, 650, 651, 652] (by decide +kernel) (by decide +kernel)) (goodIn_sub (fun _ h => List.mem_append_left _ (List.mem_append_left _ (List.mem_append_right _ h))) (by decide +kernel))
set_option maxRecDepth 20000 in
theorem gL_law_X7_state : GoodIn wsL_law (wsV RL 43 RX7 yX7_state wsX7_state) := goodIn_app (goodIn_of _ (by decide +kernel)) ggL_law_X7_state
theorem dL_law_142 : decode cL_law 142 = .ok (.invokevirtual 43, 3) := by decide +kernel
theorem dL_law_145 : decode cL_law 145 = .ok (.istore 16, 2) := by decide +kernel
theorem dL_law_129 : decode cL_law 129 = .ok (.iload 15, 2) := by decide +kernel
theorem dL_law_131 : decode cL_law 131 = .ok (.i2l, 1) := by decide +kernel
theorem dL_law_132 : decode cL_law 132 = .ok (.goto 4, 3) := by decide +kernel
theorem dL_law_111 : decode cL_law 111 = .ok (.lconst 0, 1) := by decide +kernel
theorem dL_law_112 : decode cL_law 112 = .ok (.goto 6, 3) := by decide +kernel
set_option maxHeartbeats 4000000 in
set_option maxRecDepth 100000 in
/-- one RULE of the law: the sums -/
theorem law_rule1 {p : Program} {l : Launch} {e : Env} {s : State} {m : MethodId} {below : List Frame} {meth : Method} {c : Code} {A : Nat → Prop} {G : zG} {b : Nat} {Q : State → Prop} {cells slots : Nat} {H : Heap} {locs : List Loc} {ls : Array Slot} {wr : va_W} {ad : Nat → Nat} {X : Nat → Nat → Int} {tm st : Int} {g0 : Nat} {dg : Int64} {qu : Int} {a : Nat} (hx : p.tables.exec = Jvm.exec) (hb : c.code = cL_law) (hml : c.maxLocals = 19) (hown : s.vm.findClass RL = some m.cls) (hts : ∀ w ∈ wsL_law, w.before #[Value.ref b] s = true) (hA : ∀ q : Nat, s.heap.size ≤ q → A q) (hE : zZ G A s s.heap) (hc : cells ≤ 500000) (hn : slots ≤ 6000000) (hI : zI X) (hFr : zFr X) (ha : a < zN X 0) (hP : va_P G.1 vwCl (wr ++ zpic G ad X) H) (hD : va_D A (wr ++ zpic G ad X)) (hS : va_S A s.heap H locs) (hl : lv_has ls 19 [(0, .ref b), (1, .int (zi tm)), (2, .ref g0), (3, .ref (ad 52)), (4, .int (zi st)), (5, .long dg), (7, .long (zln (zSA X a))), (9, .int (zi (zN X 0 : Int))), (10, .int (zi qu)), (11, .long (zln (zSW X a))), (13, .int (zi (a : Int)))])
    (kk : ∀ (vd dd stt : Int) (H : Heap) (locs : List Loc) (ls : Array Slot), va_P G.1 vwCl (wr ++ zpic G ad X) H → va_D A (wr ++ zpic G ad X) → va_S A s.heap H locs → lv_has ls 19 [(0, .ref b), (1, .int (zi tm)), (2, .ref g0), (3, .ref (ad 52)), (4, .int (zi st)), (5, .long dg), (7, .long (zln (zSA X (a + 1)))), (9, .int (zi (zN X 0 : Int))), (10, .int (zi qu)), (11, .long (zln (zSW X (a + 1)))), (13, .int (zi (a : Int))), (14, .int (zi vd)), (15, .int (zi dd)), (16, .int (zi stt))] → vd = X (zr X 0 a) 0 → dd = zDc X a → stt = zSt X a → W p l e room_1 s m #[Value.ref b] below meth c H locs cells slots Q (F0 m 147 ls [])) : W p l e room_1 s m #[Value.ref b] below meth c H locs cells slots Q (F0 m 86 ls []) := by
  have hn8 := hI.1.n (Or.inl rfl : zIsW 0)
  have hwa := hn8.1
  have hdb := zDc_bd (X := X) a
  have hle := zDc_le hI.1 ha
  have hsb : 0 ≤ zSt X a ∧ zSt X a ≤ 4 := by rcases zSt_cases (X := X) a with ⟨-, a2 | a2 | a2, -⟩ | ⟨-, ⟨a2, -⟩ | a2⟩ <;> omega
  have hok := (hI.1.rok (hI.1.isR (Or.inl rfl : zIsW 0) (show a < 8 by omega))).1
  refine lv_aload_n hx hb dL_law_86 rfl (lv_at hl 3 rfl) ?_
  refine lv_iload hx hb dL_law_87 (lv_at hl 10 rfl) ?_
  refine lv_iconst (v := zi 0) hx hb dL_law_89 rfl ?_
  refine zcall (wr := wr) (wc := zpic G ad X) (va_runV (As := [.int (zi (a : Int)), .int (zi 0)]) (rest := []) ⟨hx, hb, hml, hown, hts⟩ (c_X7_ofRule l G ad X a 0 hI.1 (by omega) (by omega) H.size) (cwV 2 hts gL_law_X7_ofRule rfl rfl rfl (by decide +kernel) ⟨Nat.le_of_ble_eq_true rfl, Nat.le_of_ble_eq_true rfl⟩) (zPreV (As := [.int (zi (a : Int)), .int (zi 0)]) (wr := wr) (wc := zpic G ad X) (q0 := 52) (ci := 7) (q := (RX7, TX7, 8)) hP hD hE hS hA rfl p_52) rfl rfl hl.1 rfl (lv_room (Nat.le_of_ble_eq_true rfl)) dL_law_90 ⟨(by show _ ≤ 600104; omega), (by show _ ≤ 7301314; omega)⟩) hP hD hS hA (fun _ _ H locs hf9 hP hD hS => ?_)
  obtain ⟨v1, rfl, hv1, rfl⟩ := hf9
  have hP : va_P G.1 vwCl (wr ++ zpic G ad X) H := hP
  have hD : va_D A (wr ++ zpic G ad X) := hD
  refine W.eq (g2 := F0 m 93 ls [.int (zi v1)]) rfl ?_
  have hvd : v1 = X (zr X 0 a) 0 := hv1
  refine lv_istore (lv' := [(14, .int (zi v1)), (0, .ref b), (1, .int (zi tm)), (2, .ref g0), (3, .ref (ad 52)), (4, .int (zi st)), (5, .long dg), (7, .long (zln (zSA X a))), (9, .int (zi (zN X 0 : Int))), (10, .int (zi qu)), (11, .long (zln (zSW X a))), (13, .int (zi (a : Int)))]) hx hb dL_law_93 hl (by decide) rfl (fun ls hl => ?_)
  refine lv_aload_n hx hb dL_law_95 rfl (lv_at hl 4 rfl) ?_
  refine lv_iload hx hb dL_law_96 (lv_at hl 11 rfl) ?_
  refine zcall (wr := wr) (wc := zpic G ad X) (va_runV (As := [.int (zi (a : Int))]) (rest := []) ⟨hx, hb, hml, hown, hts⟩ (c_X7_decides l G ad X a hI.1 hI.2.1 (by omega) H.size) (cwV 1 hts gL_law_X7_decides rfl rfl rfl (by decide +kernel) ⟨Nat.le_of_ble_eq_true rfl, Nat.le_of_ble_eq_true rfl⟩) (zPreV (As := [.int (zi (a : Int))]) (wr := wr) (wc := zpic G ad X) (q0 := 52) (ci := 7) (q := (RX7, TX7, 8)) hP hD hE hS hA rfl p_52) rfl rfl hl.1 rfl (lv_room (Nat.le_of_ble_eq_true rfl)) dL_law_98 ⟨(by show _ ≤ 600104; omega), (by show _ ≤ 7301314; omega)⟩) hP hD hS hA (fun _ _ H locs hf9 hP hD hS => ?_)
  obtain ⟨v2, Y1, rfl, hv2, rfl⟩ := hf9
  have eY1 : X = Y1 := (hv2.2.1 hFr.1).symm
  subst eY1
  have hP : va_P G.1 vwCl (wr ++ zpic G ad X) H := hP
  have hD : va_D A (wr ++ zpic G ad X) := hD
  refine W.eq (g2 := F0 m 101 ls [.int (zi v2)]) rfl ?_
  refine lv_istore (lv' := [(15, .int (zi v2)), (14, .int (zi v1)), (0, .ref b), (1, .int (zi tm)), (2, .ref g0), (3, .ref (ad 52)), (4, .int (zi st)), (5, .long dg), (7, .long (zln (zSA X a))), (9, .int (zi (zN X 0 : Int))), (10, .int (zi qu)), (11, .long (zln (zSW X a))), (13, .int (zi (a : Int)))]) hx hb dL_law_101 hl (by decide) rfl (fun ls hl => ?_)
  have hdd := hv2.1
  refine lv_lload hx hb dL_law_103 (lv_at hl 8 rfl) ?_
  refine lv_iload hx hb dL_law_105 (lv_at hl 1 rfl) ?_
  refine lv_iconst (v := zi 2) hx hb dL_law_107 rfl ?_
  refine zc_ne (tgt := 115) hx hb dL_law_108 (by decide) (by omega) (by decide) (fun h108 => ?_) (fun h108 => ?_)
  · refine lv_iload hx hb dL_law_115 (lv_at hl 0 rfl) ?_
    refine lv_i2l (v := (zln v2)) hx hb dL_law_117 (zi_l (by omega)) ?_
    refine lv_ladd hx hb dL_law_118 (ztl (v := (zln ((zSA X a) + v2))) (zln_add _ _) ?_)
    refine lv_lstore (lv' := [(7, .long (zln ((zSA X a) + v2))), (15, .int (zi v2)), (14, .int (zi v1)), (0, .ref b), (1, .int (zi tm)), (2, .ref g0), (3, .ref (ad 52)), (4, .int (zi st)), (5, .long dg), (9, .int (zi (zN X 0 : Int))), (10, .int (zi qu)), (11, .long (zln (zSW X a))), (13, .int (zi (a : Int)))]) hx hb dL_law_119 hl (by decide) rfl (fun ls hl => ?_)
    refine lv_lload hx hb dL_law_121 (lv_at hl 11 rfl) ?_
    refine lv_iload hx hb dL_law_123 (lv_at hl 2 rfl) ?_
    refine lv_iconst (v := zi 1) hx hb dL_law_125 rfl ?_
    refine zc_ne (tgt := 135) hx hb dL_law_126 (by decide) (by omega) (by decide) (fun h126 => ?_) (fun h126 => ?_)
    · refine lv_lconst (v := 0) hx hb dL_law_135 (by decide) ?_
      refine ztl (v := zln 0) rfl ?_
      refine lv_ladd hx hb dL_law_136 (ztl (v := (zln ((zSW X a) + 0))) (zln_add _ _) ?_)
      refine lv_lstore (lv' := [(11, .long (zln ((zSW X a) + 0))), (7, .long (zln ((zSA X a) + v2))), (15, .int (zi v2)), (14, .int (zi v1)), (0, .ref b), (1, .int (zi tm)), (2, .ref g0), (3, .ref (ad 52)), (4, .int (zi st)), (5, .long dg), (9, .int (zi (zN X 0 : Int))), (10, .int (zi qu)), (13, .int (zi (a : Int)))]) hx hb dL_law_137 hl (by decide) rfl (fun ls hl => ?_)
      refine lv_aload_n hx hb dL_law_139 rfl (lv_at hl 7 rfl) ?_
      refine lv_iload hx hb dL_law_140 (lv_at hl 12 rfl) ?_
      refine zcall (wr := wr) (wc := zpic G ad X) (va_runV (As := [.int (zi (a : Int))]) (rest := []) ⟨hx, hb, hml, hown, hts⟩ (c_X7_state l G ad X a hI.1 hI.2.1 (by omega) H.size) (cwV 1 hts gL_law_X7_state rfl rfl rfl (by decide +kernel) ⟨Nat.le_of_ble_eq_true rfl, Nat.le_of_ble_eq_true rfl⟩) (zPreV (As := [.int (zi (a : Int))]) (wr := wr) (wc := zpic G ad X) (q0 := 52) (ci := 7) (q := (RX7, TX7, 8)) hP hD hE hS hA rfl p_52) rfl rfl hl.1 rfl (lv_room (Nat.le_of_ble_eq_true rfl)) dL_law_142 ⟨(by show _ ≤ 600104; omega), (by show _ ≤ 7301314; omega)⟩) hP hD hS hA (fun _ _ H locs hf9 hP hD hS => ?_)
      obtain ⟨v3, Y2, rfl, hv3, rfl⟩ := hf9
      have eY2 : X = Y2 := (hv3.2.1 hFr.1).symm
      subst eY2
      have hP : va_P G.1 vwCl (wr ++ zpic G ad X) H := hP
      have hD : va_D A (wr ++ zpic G ad X) := hD
      refine W.eq (g2 := F0 m 145 ls [.int (zi v3)]) rfl ?_
      refine lv_istore (lv' := [(16, .int (zi v3)), (11, .long (zln ((zSW X a) + 0))), (7, .long (zln ((zSA X a) + v2))), (15, .int (zi v2)), (14, .int (zi v1)), (0, .ref b), (1, .int (zi tm)), (2, .ref g0), (3, .ref (ad 52)), (4, .int (zi st)), (5, .long dg), (9, .int (zi (zN X 0 : Int))), (10, .int (zi qu)), (13, .int (zi (a : Int)))]) hx hb dL_law_145 hl (by decide) rfl (fun ls hl => ?_)
      have ezSA : (zSA X a) + v2 = zSA X (a + 1) := by show _ = zSA X a + (if X (zr X 0 a) 0 = 2 then 0 else zDc X a); rw [if_neg (by omega)] <;> omega
      have ezSW : (zSW X a) + 0 = zSW X (a + 1) := by show _ = zSW X a + (if X (zr X 0 a) 0 = 1 then zDc X a else 0); rw [if_neg (by omega)] <;> omega
      rw [ezSA, ezSW] at hl
      exact kk v1 v2 v3 H locs ls hP hD hS (lv_sub hl [5, 6, 7, 8, 9, 10, 2, 11, 12, 1, 13, 4, 3, 0] rfl) hvd hdd hv3.1
    · refine lv_iload hx hb dL_law_129 (lv_at hl 1 rfl) ?_
      refine lv_i2l (v := (zln v2)) hx hb dL_law_131 (zi_l (by omega)) ?_
      refine lv_goto (tgt := 136) hx hb dL_law_132 (by decide) ?_
      refine lv_ladd hx hb dL_law_136 (ztl (v := (zln ((zSW X a) + v2))) (zln_add _ _) ?_)
      refine lv_lstore (lv' := [(11, .long (zln ((zSW X a) + v2))), (7, .long (zln ((zSA X a) + v2))), (15, .int (zi v2)), (14, .int (zi v1)), (0, .ref b), (1, .int (zi tm)), (2, .ref g0), (3, .ref (ad 52)), (4, .int (zi st)), (5, .long dg), (9, .int (zi (zN X 0 : Int))), (10, .int (zi qu)), (13, .int (zi (a : Int)))]) hx hb dL_law_137 hl (by decide) rfl (fun ls hl => ?_)
      refine lv_aload_n hx hb dL_law_139 rfl (lv_at hl 7 rfl) ?_
      refine lv_iload hx hb dL_law_140 (lv_at hl 12 rfl) ?_
      refine zcall (wr := wr) (wc := zpic G ad X) (va_runV (As := [.int (zi (a : Int))]) (rest := []) ⟨hx, hb, hml, hown, hts⟩ (c_X7_state l G ad X a hI.1 hI.2.1 (by omega) H.size) (cwV 1 hts gL_law_X7_state rfl rfl rfl (by decide +kernel) ⟨Nat.le_of_ble_eq_true rfl, Nat.le_of_ble_eq_true rfl⟩) (zPreV (As := [.int (zi (a : Int))]) (wr := wr) (wc := zpic G ad X) (q0 := 52) (ci := 7) (q := (RX7, TX7, 8)) hP hD hE hS hA rfl p_52) rfl rfl hl.1 rfl (lv_room (Nat.le_of_ble_eq_true rfl)) dL_law_142 ⟨(by show _ ≤ 600104; omega), (by show _ ≤ 7301314; omega)⟩) hP hD hS hA (fun _ _ H locs hf9 hP hD hS => ?_)
      obtain ⟨v3, Y2, rfl, hv3, rfl⟩ := hf9
      have eY2 : X = Y2 := (hv3.2.1 hFr.1).symm
      subst eY2
      have hP : va_P G.1 vwCl (wr ++ zpic G ad X) H := hP
      have hD : va_D A (wr ++ zpic G ad X) := hD
      refine W.eq (g2 := F0 m 145 ls [.int (zi v3)]) rfl ?_
      refine lv_istore (lv' := [(16, .int (zi v3)), (11, .long (zln ((zSW X a) + v2))), (7, .long (zln ((zSA X a) + v2))), (15, .int (zi v2)), (14, .int (zi v1)), (0, .ref b), (1, .int (zi tm)), (2, .ref g0), (3, .ref (ad 52)), (4, .int (zi st)), (5, .long dg), (9, .int (zi (zN X 0 : Int))), (10, .int (zi qu)), (13, .int (zi (a : Int)))]) hx hb dL_law_145 hl (by decide) rfl (fun ls hl => ?_)
      have ezSA : (zSA X a) + v2 = zSA X (a + 1) := by show _ = zSA X a + (if X (zr X 0 a) 0 = 2 then 0 else zDc X a); rw [if_neg (by omega)] <;> omega
      have ezSW : (zSW X a) + v2 = zSW X (a + 1) := by show _ = zSW X a + (if X (zr X 0 a) 0 = 1 then zDc X a else 0); rw [if_pos (by omega)] <;> omega
      rw [ezSA, ezSW] at hl
      exact kk v1 v2 v3 H locs ls hP hD hS (lv_sub hl [5, 6, 7, 8, 9, 10, 2, 11, 12, 1, 13, 4, 3, 0] rfl) hvd hdd hv3.1
  · refine lv_lconst (v := 0) hx hb dL_law_111 (by decide) ?_
    refine ztl (v := zln 0) rfl ?_
    refine lv_goto (tgt := 118) hx hb dL_law_112 (by decide) ?_
    refine lv_ladd hx hb dL_law_118 (ztl (v := (zln ((zSA X a) + 0))) (zln_add _ _) ?_)
    refine lv_lstore (lv' := [(7, .long (zln ((zSA X a) + 0))), (15, .int (zi v2)), (14, .int (zi v1)), (0, .ref b), (1, .int (zi tm)), (2, .ref g0), (3, .ref (ad 52)), (4, .int (zi st)), (5, .long dg), (9, .int (zi (zN X 0 : Int))), (10, .int (zi qu)), (11, .long (zln (zSW X a))), (13, .int (zi (a : Int)))]) hx hb dL_law_119 hl (by decide) rfl (fun ls hl => ?_)
    refine lv_lload hx hb dL_law_121 (lv_at hl 11 rfl) ?_
    refine lv_iload hx hb dL_law_123 (lv_at hl 2 rfl) ?_
    refine lv_iconst (v := zi 1) hx hb dL_law_125 rfl ?_
    refine zc_ne (tgt := 135) hx hb dL_law_126 (by decide) (by omega) (by decide) (fun h126 => ?_) (fun h9 => by exfalso; omega)
    refine lv_lconst (v := 0) hx hb dL_law_135 (by decide) ?_
    refine ztl (v := zln 0) rfl ?_
    refine lv_ladd hx hb dL_law_136 (ztl (v := (zln ((zSW X a) + 0))) (zln_add _ _) ?_)
    refine lv_lstore (lv' := [(11, .long (zln ((zSW X a) + 0))), (7, .long (zln ((zSA X a) + 0))), (15, .int (zi v2)), (14, .int (zi v1)), (0, .ref b), (1, .int (zi tm)), (2, .ref g0), (3, .ref (ad 52)), (4, .int (zi st)), (5, .long dg), (9, .int (zi (zN X 0 : Int))), (10, .int (zi qu)), (13, .int (zi (a : Int)))]) hx hb dL_law_137 hl (by decide) rfl (fun ls hl => ?_)
    refine lv_aload_n hx hb dL_law_139 rfl (lv_at hl 7 rfl) ?_
    refine lv_iload hx hb dL_law_140 (lv_at hl 12 rfl) ?_
    refine zcall (wr := wr) (wc := zpic G ad X) (va_runV (As := [.int (zi (a : Int))]) (rest := []) ⟨hx, hb, hml, hown, hts⟩ (c_X7_state l G ad X a hI.1 hI.2.1 (by omega) H.size) (cwV 1 hts gL_law_X7_state rfl rfl rfl (by decide +kernel) ⟨Nat.le_of_ble_eq_true rfl, Nat.le_of_ble_eq_true rfl⟩) (zPreV (As := [.int (zi (a : Int))]) (wr := wr) (wc := zpic G ad X) (q0 := 52) (ci := 7) (q := (RX7, TX7, 8)) hP hD hE hS hA rfl p_52) rfl rfl hl.1 rfl (lv_room (Nat.le_of_ble_eq_true rfl)) dL_law_142 ⟨(by show _ ≤ 600104; omega), (by show _ ≤ 7301314; omega)⟩) hP hD hS hA (fun _ _ H locs hf9 hP hD hS => ?_)
    obtain ⟨v3, Y2, rfl, hv3, rfl⟩ := hf9
    have eY2 : X = Y2 := (hv3.2.1 hFr.1).symm
    subst eY2
    have hP : va_P G.1 vwCl (wr ++ zpic G ad X) H := hP
    have hD : va_D A (wr ++ zpic G ad X) := hD
    refine W.eq (g2 := F0 m 145 ls [.int (zi v3)]) rfl ?_
    refine lv_istore (lv' := [(16, .int (zi v3)), (11, .long (zln ((zSW X a) + 0))), (7, .long (zln ((zSA X a) + 0))), (15, .int (zi v2)), (14, .int (zi v1)), (0, .ref b), (1, .int (zi tm)), (2, .ref g0), (3, .ref (ad 52)), (4, .int (zi st)), (5, .long dg), (9, .int (zi (zN X 0 : Int))), (10, .int (zi qu)), (13, .int (zi (a : Int)))]) hx hb dL_law_145 hl (by decide) rfl (fun ls hl => ?_)
    have ezSA : (zSA X a) + 0 = zSA X (a + 1) := by show _ = zSA X a + (if X (zr X 0 a) 0 = 2 then 0 else zDc X a); rw [if_pos (by omega)] <;> omega
    have ezSW : (zSW X a) + 0 = zSW X (a + 1) := by show _ = zSW X a + (if X (zr X 0 a) 0 = 1 then zDc X a else 0); rw [if_neg (by omega)] <;> omega
    rw [ezSA, ezSW] at hl
    exact kk v1 v2 v3 H locs ls hP hD hS (lv_sub hl [5, 6, 7, 8, 9, 10, 2, 11, 12, 1, 13, 4, 3, 0] rfl) hvd hdd hv3.1
