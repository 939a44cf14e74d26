/-! the law: one RULE -/
theorem dL_law_221 : decode cL_law 221 = .ok (.iload 16, 2) := by decide +kernel
theorem dL_law_223 : decode cL_law 223 = .ok (.iconst 4, 1) := by decide +kernel
theorem dL_law_224 : decode cL_law 224 = .ok (.if_icmp .ne 9, 3) := by decide +kernel
theorem dL_law_233 : decode cL_law 233 = .ok (.aload_n 3, 1) := by decide +kernel
theorem dL_law_234 : decode cL_law 234 = .ok (.iload 13, 2) := by decide +kernel
theorem dL_law_236 : decode cL_law 236 = .ok (.iload 13, 2) := by decide +kernel
set_option maxRecDepth 20000 in
theorem ggL_law_X7_changedByMove : GoodIn wsL_law wsX7_changedByMove := goodIn_ca (goodIn_r _ [575, 146, 147, 148, 20, 149, 150, 151, 36, 145, 290, 291, 292, 293, 41, 294, 295, 296, 40, 297, 298, 76, 77, 78, 299, 300, 301, 302, 79, 303, 304, 305, 306, 307, 308, 309, 310, 311, 9, 312, 313, 314, 8, 10, 315, 316, 317, 35, 318, 156, 319, 320, 321, 322, 576, 577, 578, 579, 327, 328, 329, 330, 64, 331, 332, 333, 66, 334, 195, 349, 350, 351, 352, 254, 353, 354, 580, 581, 582, 583, 637, 638, 639, 640, 641, 642, 643, 644, 645, 646, 647, 648, 649, 650, 651, 652, 679, 680, 681, 682] (by decide +kernel) (by decide +kernel)) (goodIn_sub (fun _ h => List.mem_append_left _ (List.mem_append_left _ (List.mem_append_right _ h))) (by decide +kernel))
set_option maxRecDepth 20000 in
theorem gL_law_X7_changedByMove : GoodIn wsL_law (wsV RL 52 RX7 yX7_changedByMove wsX7_changedByMove) := goodIn_app (goodIn_of _ (by decide +kernel)) ggL_law_X7_changedByMove
theorem dL_law_238 : decode cL_law 238 = .ok (.invokevirtual 52, 3) := by decide +kernel
theorem dL_law_241 : decode cL_law 241 = .ok (.ifCond .eq 5, 3) := by decide +kernel
theorem dL_law_227 : decode cL_law 227 = .ok (.iload 14, 2) := by decide +kernel
theorem dL_law_229 : decode cL_law 229 = .ok (.iconst 2, 1) := by decide +kernel
theorem dL_law_230 : decode cL_law 230 = .ok (.if_icmp .eq 14, 3) := by decide +kernel
theorem dL_law_246 : decode cL_law 246 = .ok (.iload 16, 2) := by decide +kernel
theorem dL_law_248 : decode cL_law 248 = .ok (.ifCond .le 16, 3) := by decide +kernel
theorem dL_law_251 : decode cL_law 251 = .ok (.aload_n 3, 1) := by decide +kernel
theorem dL_law_252 : decode cL_law 252 = .ok (.iload 13, 2) := by decide +kernel
set_option maxRecDepth 20000 in
theorem ggL_law_X7_allowedWithout : GoodIn wsL_law wsX7_allowedWithout := goodIn_ca (goodIn_r _ [370, 146, 147, 148, 20, 149, 150, 151, 36, 145, 290, 291, 292, 293, 41, 294, 295, 296, 40, 297, 298, 76, 77, 78, 299, 300, 301, 302, 79, 303, 304, 305, 306, 307, 308, 309, 310, 311, 9, 312, 313, 314, 8, 10, 315, 316, 317, 35, 318, 156, 319, 320, 321, 322, 371, 372, 373, 374, 327, 328, 329, 330, 64, 331, 332, 333, 66, 334, 195, 349, 350, 351, 352, 254, 353, 354, 637, 638, 639, 640, 641, 642, 643, 644, 645, 646, 647, 648, 649, 650, 651, 652, 679, 680, 681, 682] (by decide +kernel) (by decide +kernel)) (goodIn_sub (fun _ h => List.mem_append_left _ (List.mem_append_left _ (List.mem_append_right _ h))) (by decide +kernel))
set_option maxRecDepth 20000 in
theorem gL_law_X7_allowedWithout : GoodIn wsL_law (wsV RL 55 RX7 yX7_allowedWithout wsX7_allowedWithout) := goodIn_app (goodIn_of _ (by decide +kernel)) ggL_law_X7_allowedWithout
theorem dL_law_254 : decode cL_law 254 = .ok (.invokevirtual 55, 3) := by decide +kernel
theorem dL_law_257 : decode cL_law 257 = .ok (.aload_n 3, 1) := by decide +kernel
set_option maxRecDepth 20000 in
theorem ggL_law_X7_allowed : GoodIn wsL_law wsX7_allowed := goodIn_r _ [378, 290, 291, 292, 20, 293, 41, 294, 295, 296, 40, 297, 298, 76, 77, 78, 299, 300, 301, 302, 79, 303, 304, 305, 306, 307, 308, 309, 310, 311, 9, 312, 313, 314, 8, 10, 315, 316, 317, 35, 318, 156, 319, 320, 321, 322, 371, 372, 373, 374, 327, 328, 329, 330, 64, 331, 332, 333, 66, 334, 195, 349, 350, 351, 352, 254, 353, 354, 637, 638, 639, 640, 641, 642, 643, 644, 648, 649, 650, 651, 652, 645, 646, 647, 679, 680, 681, 682] (by decide +kernel) (by decide +kernel)
set_option maxRecDepth 20000 in
theorem gL_law_X7_allowed : GoodIn wsL_law (wsV RL 58 RX7 yX7_allowed wsX7_allowed) := goodIn_app (goodIn_of _ (by decide +kernel)) ggL_law_X7_allowed
theorem dL_law_258 : decode cL_law 258 = .ok (.invokevirtual 58, 3) := by decide +kernel
theorem dL_law_261 : decode cL_law 261 = .ok (.if_icmp .ne 22, 3) := by decide +kernel
theorem dL_law_264 : decode cL_law 264 = .ok (.iload 14, 2) := by decide +kernel
theorem dL_law_266 : decode cL_law 266 = .ok (.iconst 2, 1) := by decide +kernel
theorem dL_law_267 : decode cL_law 267 = .ok (.if_icmp .ne 18, 3) := by decide +kernel
theorem dL_law_270 : decode cL_law 270 = .ok (.aload_n 3, 1) := by decide +kernel
theorem dL_law_271 : decode cL_law 271 = .ok (.iload 13, 2) := by decide +kernel
theorem dL_law_273 : decode cL_law 273 = .ok (.invokevirtual 55, 3) := by decide +kernel
theorem dL_law_276 : decode cL_law 276 = .ok (.aload_n 3, 1) := by decide +kernel
theorem dL_law_277 : decode cL_law 277 = .ok (.invokevirtual 58, 3) := by decide +kernel
theorem dL_law_280 : decode cL_law 280 = .ok (.if_icmp .eq 5, 3) := by decide +kernel
set_option maxHeartbeats 4000000 in
set_option maxRecDepth 100000 in
/-- moved to where it is -/
theorem law_rule4 {p : Program} {l : Launch} {e : Env} {s : State} {m : MethodId} {below : List Frame} {meth : Method} {c : Code} {A : Nat → Prop} {G : zG} {b : Nat} {Q : State → Prop} {cells slots : Nat} {H : Heap} {locs : List Loc} {ls : Array Slot} {wr : va_W} {ad : Nat → Nat} {X : Nat → Nat → Int} {tm st : Int} {g0 : Nat} {dg : Int64} {qu vd dd stt : Int} {a : Nat} (hx : p.tables.exec = Jvm.exec) (hb : c.code = cL_law) (hml : c.maxLocals = 19) (hown : s.vm.findClass RL = some m.cls) (hts : ∀ w ∈ wsL_law, w.before #[Value.ref b] s = true) (hA : ∀ q : Nat, s.heap.size ≤ q → A q) (hE : zZ G A s s.heap) (hc : cells ≤ 500000) (hn : slots ≤ 6000000) (hI : zI X) (hFr : zFr X) (ha : a < zN X 0) (hvd : vd = X (zr X 0 a) 0) (hdd : zIs dd (zDc X a)) (hst : zIs stt (zSt X a)) (hP : va_P G.1 vwCl (wr ++ zpic G ad X) H) (hD : va_D A (wr ++ zpic G ad X)) (hS : va_S A s.heap H locs) (hl : lv_has ls 19 [(0, .ref b), (1, .int (zi tm)), (2, .ref g0), (3, .ref (ad 52)), (4, .int (zi st)), (5, .long dg), (7, .long (zln (zSA X (a + 1)))), (9, .int (zi (zN X 0 : Int))), (10, .int (zi qu)), (11, .long (zln (zSW X (a + 1)))), (13, .int (zi (a : Int))), (14, .int (zi vd)), (15, .int (zi dd)), (16, .int (zi stt))])
    (kk : ∀ (H : Heap) (locs : List Loc) (ls : Array Slot), va_P G.1 vwCl (wr ++ zpic G ad X) H → va_D A (wr ++ zpic G ad X) → va_S A s.heap H locs → lv_has ls 19 [(0, .ref b), (1, .int (zi tm)), (2, .ref g0), (3, .ref (ad 52)), (4, .int (zi st)), (5, .long dg), (7, .long (zln (zSA X (a + 1)))), (9, .int (zi (zN X 0 : Int))), (10, .int (zi qu)), (11, .long (zln (zSW X (a + 1)))), (13, .int (zi (a : Int))), (14, .int (zi vd)), (15, .int (zi dd)), (16, .int (zi stt))] → W p l e room_1 s m #[Value.ref b] below meth c H locs cells slots Q (F0 m 246 ls [])) : W p l e room_1 s m #[Value.ref b] below meth c H locs cells slots Q (F0 m 221 ls []) := by
  have hn8 := hI.1.n (Or.inl rfl : zIsW 0)
  have hwa := hn8.1
  have hok := (hI.1.rok (hI.1.isR (Or.inl rfl : zIsW 0) (show a < 8 by omega))).1
  have hdb := zDc_b2 hdd
  have hdj := zSt_c2 hdd hst
  have hsb : 0 ≤ stt ∧ stt ≤ 4 := by rcases hdj with ⟨-, e⟩ | ⟨-, e⟩ | ⟨-, e⟩ | ⟨-, e, -⟩ | ⟨-, e⟩ <;> (rw [e]; decide)
  have hno : stt = 4 → vd ≠ 2 := fun h9 h8 => by rcases hdj with ⟨-, e⟩ | ⟨-, e⟩ | ⟨-, e⟩ | ⟨-, -, e⟩ | ⟨-, e⟩; omega; omega; omega; exact e.1 (hvd.symm.trans h8); omega
  clear hdj
  refine lv_iload hx hb dL_law_221 (lv_at hl 13 rfl) ?_
  refine lv_iconst (v := zi 4) hx hb dL_law_223 rfl ?_
  refine zc_ne (tgt := 233) hx hb dL_law_224 (by decide) (by omega) (by decide) (fun h224 => ?_) (fun h224 => ?_)
  · refine lv_aload_n hx hb dL_law_233 rfl (lv_at hl 3 rfl) ?_
    refine lv_iload hx hb dL_law_234 (lv_at hl 10 rfl) ?_
    refine lv_iload hx hb dL_law_236 (lv_at hl 10 rfl) ?_
    refine zcall (wr := wr) (wc := zpic G ad X) (va_runV (As := [.int (zi (a : Int)), .int (zi (a : Int))]) (rest := []) ⟨hx, hb, hml, hown, hts⟩ (c_X7_changedByMove l G ad X a hI.1 hI.2.1 (by omega) H.size) (cwV 2 hts gL_law_X7_changedByMove rfl rfl rfl (by decide +kernel) ⟨Nat.le_of_ble_eq_true rfl, Nat.le_of_ble_eq_true rfl⟩) (zPreV (As := [.int (zi (a : Int)), .int (zi (a : Int))]) (wr := wr) (wc := zpic G ad X) (q0 := 52) (ci := 7) (q := (RX7, TX7, 8)) hP hD hE hS hA rfl p_52) rfl rfl hl.1 rfl (lv_room (Nat.le_of_ble_eq_true rfl)) dL_law_238 ⟨(by show _ ≤ 600104; omega), (by show _ ≤ 7301314; omega)⟩) hP hD hS hA (fun _ _ H locs hf9 hP hD hS => ?_)
    obtain ⟨v1, Y1, rfl, hv1, rfl⟩ := hf9
    have eY1 : X = Y1 := (hv1.2.1 hFr.1).symm
    subst eY1
    have hP : va_P G.1 vwCl (wr ++ zpic G ad X) H := hP
    have hD : va_D A (wr ++ zpic G ad X) := hD
    refine W.eq (g2 := F0 m 241 ls [.int (zi v1)]) rfl ?_
    have kv : v1 = 0 := hv1.1
    clear hv1
    refine z0_eq (tgt := 246) hx hb dL_law_241 (by decide) (by omega) (fun h241 => ?_) (fun h9 => by exfalso; omega)
    exact kk  H locs ls hP hD hS (lv_sub hl [0, 1, 2, 3, 4, 5, 6, 7, 8, 9, 10, 11, 12, 13] rfl)
  · refine lv_iload hx hb dL_law_227 (lv_at hl 11 rfl) ?_
    refine lv_iconst (v := zi 2) hx hb dL_law_229 rfl ?_
    refine zc_eq (tgt := 244) hx hb dL_law_230 (by decide) (by omega) (by decide) (fun h9 => by exfalso; omega) (fun h230 => ?_)
    refine lv_aload_n hx hb dL_law_233 rfl (lv_at hl 3 rfl) ?_
    refine lv_iload hx hb dL_law_234 (lv_at hl 10 rfl) ?_
    refine lv_iload hx hb dL_law_236 (lv_at hl 10 rfl) ?_
    refine zcall (wr := wr) (wc := zpic G ad X) (va_runV (As := [.int (zi (a : Int)), .int (zi (a : Int))]) (rest := []) ⟨hx, hb, hml, hown, hts⟩ (c_X7_changedByMove l G ad X a hI.1 hI.2.1 (by omega) H.size) (cwV 2 hts gL_law_X7_changedByMove rfl rfl rfl (by decide +kernel) ⟨Nat.le_of_ble_eq_true rfl, Nat.le_of_ble_eq_true rfl⟩) (zPreV (As := [.int (zi (a : Int)), .int (zi (a : Int))]) (wr := wr) (wc := zpic G ad X) (q0 := 52) (ci := 7) (q := (RX7, TX7, 8)) hP hD hE hS hA rfl p_52) rfl rfl hl.1 rfl (lv_room (Nat.le_of_ble_eq_true rfl)) dL_law_238 ⟨(by show _ ≤ 600104; omega), (by show _ ≤ 7301314; omega)⟩) hP hD hS hA (fun _ _ H locs hf9 hP hD hS => ?_)
    obtain ⟨v1, Y1, rfl, hv1, rfl⟩ := hf9
    have eY1 : X = Y1 := (hv1.2.1 hFr.1).symm
    subst eY1
    have hP : va_P G.1 vwCl (wr ++ zpic G ad X) H := hP
    have hD : va_D A (wr ++ zpic G ad X) := hD
    refine W.eq (g2 := F0 m 241 ls [.int (zi v1)]) rfl ?_
    have kv : v1 = 0 := hv1.1
    clear hv1
    refine z0_eq (tgt := 246) hx hb dL_law_241 (by decide) (by omega) (fun h241 => ?_) (fun h9 => by exfalso; omega)
    exact kk  H locs ls hP hD hS (lv_sub hl [0, 1, 2, 3, 4, 5, 6, 7, 8, 9, 10, 11, 12, 13] rfl)

set_option maxHeartbeats 4000000 in
set_option maxRecDepth 100000 in
/-- allowed without one that is dead or needless -/
theorem law_rule5 {p : Program} {l : Launch} {e : Env} {s : State} {m : MethodId} {below : List Frame} {meth : Method} {c : Code} {A : Nat → Prop} {G : zG} {b : Nat} {Q : State → Prop} {cells slots : Nat} {H : Heap} {locs : List Loc} {ls : Array Slot} {wr : va_W} {ad : Nat → Nat} {X : Nat → Nat → Int} {tm st : Int} {g0 : Nat} {dg : Int64} {qu vd dd stt : Int} {a : Nat} (hx : p.tables.exec = Jvm.exec) (hb : c.code = cL_law) (hml : c.maxLocals = 19) (hown : s.vm.findClass RL = some m.cls) (hts : ∀ w ∈ wsL_law, w.before #[Value.ref b] s = true) (hA : ∀ q : Nat, s.heap.size ≤ q → A q) (hE : zZ G A s s.heap) (hc : cells ≤ 500000) (hn : slots ≤ 6000000) (hI : zI X) (hFr : zFr X) (ha : a < zN X 0) (hvd : vd = X (zr X 0 a) 0) (hdd : zIs dd (zDc X a)) (hst : zIs stt (zSt X a)) (hP : va_P G.1 vwCl (wr ++ zpic G ad X) H) (hD : va_D A (wr ++ zpic G ad X)) (hS : va_S A s.heap H locs) (hl : lv_has ls 19 [(0, .ref b), (1, .int (zi tm)), (2, .ref g0), (3, .ref (ad 52)), (4, .int (zi st)), (5, .long dg), (7, .long (zln (zSA X (a + 1)))), (9, .int (zi (zN X 0 : Int))), (10, .int (zi qu)), (11, .long (zln (zSW X (a + 1)))), (13, .int (zi (a : Int))), (14, .int (zi vd)), (15, .int (zi dd)), (16, .int (zi stt))])
    (kk : ∀ (H : Heap) (locs : List Loc) (ls : Array Slot), va_P G.1 vwCl (wr ++ zpic G ad X) H → va_D A (wr ++ zpic G ad X) → va_S A s.heap H locs → lv_has ls 19 [(0, .ref b), (1, .int (zi tm)), (2, .ref g0), (3, .ref (ad 52)), (4, .int (zi st)), (5, .long dg), (7, .long (zln (zSA X (a + 1)))), (9, .int (zi (zN X 0 : Int))), (10, .int (zi qu)), (11, .long (zln (zSW X (a + 1)))), (13, .int (zi (a : Int))), (14, .int (zi vd)), (15, .int (zi dd)), (16, .int (zi stt))] → W p l e room_1 s m #[Value.ref b] below meth c H locs cells slots Q (F0 m 264 ls [])) : W p l e room_1 s m #[Value.ref b] below meth c H locs cells slots Q (F0 m 246 ls []) := by
  have hn8 := hI.1.n (Or.inl rfl : zIsW 0)
  have hwa := hn8.1
  have hok := (hI.1.rok (hI.1.isR (Or.inl rfl : zIsW 0) (show a < 8 by omega))).1
  have hdb := zDc_b2 hdd
  have hdj := zSt_c2 hdd hst
  have hsb : 0 ≤ stt ∧ stt ≤ 4 := by rcases hdj with ⟨-, e⟩ | ⟨-, e⟩ | ⟨-, e⟩ | ⟨-, e, -⟩ | ⟨-, e⟩ <;> (rw [e]; decide)
  obtain ⟨w1, hw1⟩ := zIs.ex (zAll X 255)
  obtain ⟨w2, hw2⟩ := zIs.ex (zAll X (255 - 2 ^ a))
  have hab1 := zAll_b2 hw1
  have hab2 := zAll_b2 hw2
  clear hdj
  have hal : 0 < stt → w2 = w1 := zAll_s2 hst hI.1 ha hw1 hw2
  refine lv_iload hx hb dL_law_246 (lv_at hl 13 rfl) ?_
  refine z0_le (tgt := 264) hx hb dL_law_248 (by decide) (by omega) (fun h248 => ?_) (fun h248 => ?_)
  · exact kk  H locs ls hP hD hS (lv_sub hl [0, 1, 2, 3, 4, 5, 6, 7, 8, 9, 10, 11, 12, 13] rfl)
  · refine lv_aload_n hx hb dL_law_251 rfl (lv_at hl 3 rfl) ?_
    refine lv_iload hx hb dL_law_252 (lv_at hl 10 rfl) ?_
    refine zcall (wr := wr) (wc := zpic G ad X) (va_runV (As := [.int (zi (a : Int))]) (rest := []) ⟨hx, hb, hml, hown, hts⟩ (c_X7_allowedWithout l G ad X a hI.1 hI.2.1 (by omega) H.size) (cwV 1 hts gL_law_X7_allowedWithout rfl rfl rfl (by decide +kernel) ⟨Nat.le_of_ble_eq_true rfl, Nat.le_of_ble_eq_true rfl⟩) (zPreV (As := [.int (zi (a : Int))]) (wr := wr) (wc := zpic G ad X) (q0 := 52) (ci := 7) (q := (RX7, TX7, 8)) hP hD hE hS hA rfl p_52) rfl rfl hl.1 rfl (lv_room (Nat.le_of_ble_eq_true rfl)) dL_law_254 ⟨(by show _ ≤ 600104; omega), (by show _ ≤ 7301314; omega)⟩) hP hD hS hA (fun _ _ H locs hf9 hP hD hS => ?_)
    obtain ⟨v1, Y1, rfl, hv1, rfl⟩ := hf9
    have eY1 : X = Y1 := (hv1.2.1 hFr.1).symm
    subst eY1
    have hP : va_P G.1 vwCl (wr ++ zpic G ad X) H := hP
    have hD : va_D A (wr ++ zpic G ad X) := hD
    refine W.eq (g2 := F0 m 257 ls [.int (zi v1)]) rfl ?_
    have kv1 : v1 = w2 := hv1.1.trans (hw2.eq).symm
    clear hv1
    refine lv_aload_n hx hb dL_law_257 rfl (lv_at hl 3 rfl) ?_
    refine zcall (wr := wr) (wc := zpic G ad X) (va_runV (As := []) (rest := [.int (zi v1)]) ⟨hx, hb, hml, hown, hts⟩ (c_X7_allowed l G ad X hI.1 hI.2.1 H.size) (cwV 0 hts gL_law_X7_allowed rfl rfl rfl (by decide +kernel) ⟨Nat.le_of_ble_eq_true rfl, Nat.le_of_ble_eq_true rfl⟩) (zPreV (As := []) (wr := wr) (wc := zpic G ad X) (q0 := 52) (ci := 7) (q := (RX7, TX7, 8)) hP hD hE hS hA rfl p_52) rfl rfl hl.1 rfl (lv_room (Nat.le_of_ble_eq_true rfl)) dL_law_258 ⟨(by show _ ≤ 600104; omega), (by show _ ≤ 7301314; omega)⟩) hP hD hS hA (fun _ _ H locs hf9 hP hD hS => ?_)
    obtain ⟨v2, Y2, rfl, hv2, rfl⟩ := hf9
    have eY2 : X = Y2 := (hv2.2.1 hFr.1).symm
    subst eY2
    have hP : va_P G.1 vwCl (wr ++ zpic G ad X) H := hP
    have hD : va_D A (wr ++ zpic G ad X) := hD
    refine W.eq (g2 := F0 m 261 ls [.int (zi v2), .int (zi v1)]) rfl ?_
    have kv2 : v2 = w1 := hv2.1.trans (hw1.eq).symm
    clear hv2
    refine zc_ne (tgt := 283) hx hb dL_law_261 (by decide) (by omega) (by omega) (fun h9 => by exfalso; omega) (fun h261 => ?_)
    exact kk  H locs ls hP hD hS (lv_sub hl [0, 1, 2, 3, 4, 5, 6, 7, 8, 9, 10, 11, 12, 13] rfl)

set_option maxHeartbeats 4000000 in
set_option maxRecDepth 100000 in
/-- allowed without a NOTE -/
theorem law_rule6 {p : Program} {l : Launch} {e : Env} {s : State} {m : MethodId} {below : List Frame} {meth : Method} {c : Code} {A : Nat → Prop} {G : zG} {b : Nat} {Q : State → Prop} {cells slots : Nat} {H : Heap} {locs : List Loc} {ls : Array Slot} {wr : va_W} {ad : Nat → Nat} {X : Nat → Nat → Int} {tm st : Int} {g0 : Nat} {dg : Int64} {qu vd dd stt : Int} {a : Nat} (hx : p.tables.exec = Jvm.exec) (hb : c.code = cL_law) (hml : c.maxLocals = 19) (hown : s.vm.findClass RL = some m.cls) (hts : ∀ w ∈ wsL_law, w.before #[Value.ref b] s = true) (hA : ∀ q : Nat, s.heap.size ≤ q → A q) (hE : zZ G A s s.heap) (hc : cells ≤ 500000) (hn : slots ≤ 6000000) (hI : zI X) (hFr : zFr X) (ha : a < zN X 0) (hvd : vd = X (zr X 0 a) 0) (hdd : zIs dd (zDc X a)) (hst : zIs stt (zSt X a)) (hP : va_P G.1 vwCl (wr ++ zpic G ad X) H) (hD : va_D A (wr ++ zpic G ad X)) (hS : va_S A s.heap H locs) (hl : lv_has ls 19 [(0, .ref b), (1, .int (zi tm)), (2, .ref g0), (3, .ref (ad 52)), (4, .int (zi st)), (5, .long dg), (7, .long (zln (zSA X (a + 1)))), (9, .int (zi (zN X 0 : Int))), (10, .int (zi qu)), (11, .long (zln (zSW X (a + 1)))), (13, .int (zi (a : Int))), (14, .int (zi vd)), (15, .int (zi dd)), (16, .int (zi stt))])
    (kk : ∀ (H : Heap) (locs : List Loc) (ls : Array Slot), va_P G.1 vwCl (wr ++ zpic G ad X) H → va_D A (wr ++ zpic G ad X) → va_S A s.heap H locs → lv_has ls 19 [(0, .ref b), (1, .int (zi tm)), (2, .ref g0), (3, .ref (ad 52)), (4, .int (zi st)), (5, .long dg), (7, .long (zln (zSA X (a + 1)))), (9, .int (zi (zN X 0 : Int))), (10, .int (zi qu)), (11, .long (zln (zSW X (a + 1)))), (13, .int (zi (a : Int))), (14, .int (zi vd)), (15, .int (zi dd)), (16, .int (zi stt))] → W p l e room_1 s m #[Value.ref b] below meth c H locs cells slots Q (F0 m 285 ls [])) : W p l e room_1 s m #[Value.ref b] below meth c H locs cells slots Q (F0 m 264 ls []) := by
  have hn8 := hI.1.n (Or.inl rfl : zIsW 0)
  have hwa := hn8.1
  have hok := (hI.1.rok (hI.1.isR (Or.inl rfl : zIsW 0) (show a < 8 by omega))).1
  have hdb := zDc_b2 hdd
  have hdj := zSt_c2 hdd hst
  have hsb : 0 ≤ stt ∧ stt ≤ 4 := by rcases hdj with ⟨-, e⟩ | ⟨-, e⟩ | ⟨-, e⟩ | ⟨-, e, -⟩ | ⟨-, e⟩ <;> (rw [e]; decide)
  obtain ⟨w1, hw1⟩ := zIs.ex (zAll X 255)
  obtain ⟨w2, hw2⟩ := zIs.ex (zAll X (255 - 2 ^ a))
  have hab1 := zAll_b2 hw1
  have hab2 := zAll_b2 hw2
  clear hdj
  have hnt : vd = 2 → w2 = w1 := zAll_n2 hI.1 (by omega) hvd hw1 hw2
  refine lv_iload hx hb dL_law_264 (lv_at hl 11 rfl) ?_
  refine lv_iconst (v := zi 2) hx hb dL_law_266 rfl ?_
  refine zc_ne (tgt := 285) hx hb dL_law_267 (by decide) (by omega) (by decide) (fun h267 => ?_) (fun h267 => ?_)
  · exact kk  H locs ls hP hD hS (lv_sub hl [0, 1, 2, 3, 4, 5, 6, 7, 8, 9, 10, 11, 12, 13] rfl)
  · refine lv_aload_n hx hb dL_law_270 rfl (lv_at hl 3 rfl) ?_
    refine lv_iload hx hb dL_law_271 (lv_at hl 10 rfl) ?_
    refine zcall (wr := wr) (wc := zpic G ad X) (va_runV (As := [.int (zi (a : Int))]) (rest := []) ⟨hx, hb, hml, hown, hts⟩ (c_X7_allowedWithout l G ad X a hI.1 hI.2.1 (by omega) H.size) (cwV 1 hts gL_law_X7_allowedWithout rfl rfl rfl (by decide +kernel) ⟨Nat.le_of_ble_eq_true rfl, Nat.le_of_ble_eq_true rfl⟩) (zPreV (As := [.int (zi (a : Int))]) (wr := wr) (wc := zpic G ad X) (q0 := 52) (ci := 7) (q := (RX7, TX7, 8)) hP hD hE hS hA rfl p_52) rfl rfl hl.1 rfl (lv_room (Nat.le_of_ble_eq_true rfl)) dL_law_273 ⟨(by show _ ≤ 600104; omega), (by show _ ≤ 7301314; omega)⟩) hP hD hS hA (fun _ _ H locs hf9 hP hD hS => ?_)
    obtain ⟨v1, Y1, rfl, hv1, rfl⟩ := hf9
    have eY1 : X = Y1 := (hv1.2.1 hFr.1).symm
    subst eY1
    have hP : va_P G.1 vwCl (wr ++ zpic G ad X) H := hP
    have hD : va_D A (wr ++ zpic G ad X) := hD
    refine W.eq (g2 := F0 m 276 ls [.int (zi v1)]) rfl ?_
    have kv1 : v1 = w2 := hv1.1.trans (hw2.eq).symm
    clear hv1
    refine lv_aload_n hx hb dL_law_276 rfl (lv_at hl 3 rfl) ?_
    refine zcall (wr := wr) (wc := zpic G ad X) (va_runV (As := []) (rest := [.int (zi v1)]) ⟨hx, hb, hml, hown, hts⟩ (c_X7_allowed l G ad X hI.1 hI.2.1 H.size) (cwV 0 hts gL_law_X7_allowed rfl rfl rfl (by decide +kernel) ⟨Nat.le_of_ble_eq_true rfl, Nat.le_of_ble_eq_true rfl⟩) (zPreV (As := []) (wr := wr) (wc := zpic G ad X) (q0 := 52) (ci := 7) (q := (RX7, TX7, 8)) hP hD hE hS hA rfl p_52) rfl rfl hl.1 rfl (lv_room (Nat.le_of_ble_eq_true rfl)) dL_law_277 ⟨(by show _ ≤ 600104; omega), (by show _ ≤ 7301314; omega)⟩) hP hD hS hA (fun _ _ H locs hf9 hP hD hS => ?_)
    obtain ⟨v2, Y2, rfl, hv2, rfl⟩ := hf9
    have eY2 : X = Y2 := (hv2.2.1 hFr.1).symm
    subst eY2
    have hP : va_P G.1 vwCl (wr ++ zpic G ad X) H := hP
    have hD : va_D A (wr ++ zpic G ad X) := hD
    refine W.eq (g2 := F0 m 280 ls [.int (zi v2), .int (zi v1)]) rfl ?_
    have kv2 : v2 = w1 := hv2.1.trans (hw1.eq).symm
    clear hv2
    refine zc_eq (tgt := 285) hx hb dL_law_280 (by decide) (by omega) (by omega) (fun h280 => ?_) (fun h9 => by exfalso; omega)
    exact kk  H locs ls hP hD hS (lv_sub hl [0, 1, 2, 3, 4, 5, 6, 7, 8, 9, 10, 11, 12, 13] rfl)

set_option maxHeartbeats 4000000 in
set_option maxRecDepth 100000 in
/-- one RULE of the law -/
theorem law_rule {p : Program} {l : Launch} {e : Env} {s : State} {m : MethodId} {below : List Frame} {meth : Method} {c : Code} {A : Nat → Prop} {G : zG} {b : Nat} {Q : State → Prop} {cells slots : Nat} {H : Heap} {locs : List Loc} {ls : Array Slot} {wr : va_W} {ad : Nat → Nat} {X : Nat → Nat → Int} {tm st : Int} {g0 : Nat} {dg : Int64} {qu : Int} {a : Nat} (hx : p.tables.exec = Jvm.exec) (hb : c.code = cL_law) (hml : c.maxLocals = 19) (hown : s.vm.findClass RL = some m.cls) (hts : ∀ w ∈ wsL_law, w.before #[Value.ref b] s = true) (hA : ∀ q : Nat, s.heap.size ≤ q → A q) (hE : zZ G A s s.heap) (hc : cells ≤ 500000) (hn : slots ≤ 6000000) (hI : zI X) (hFr : zFr X) (ha : a < zN X 0) (hP : va_P G.1 vwCl (wr ++ zpic G ad X) H) (hD : va_D A (wr ++ zpic G ad X)) (hS : va_S A s.heap H locs) (hl : lv_has ls 19 [(0, .ref b), (1, .int (zi tm)), (2, .ref g0), (3, .ref (ad 52)), (4, .int (zi st)), (5, .long dg), (7, .long (zln (zSA X a))), (9, .int (zi (zN X 0 : Int))), (10, .int (zi qu)), (11, .long (zln (zSW X a))), (13, .int (zi (a : Int)))])
    (kk : ∀ (vd : Int) (H : Heap) (locs : List Loc) (ls : Array Slot), va_P G.1 vwCl (wr ++ zpic G ad X) H → va_D A (wr ++ zpic G ad X) → va_S A s.heap H locs → lv_has ls 19 [(0, .ref b), (1, .int (zi tm)), (2, .ref g0), (3, .ref (ad 52)), (4, .int (zi st)), (5, .long dg), (7, .long (zln (zSA X (a + 1)))), (9, .int (zi (zN X 0 : Int))), (10, .int (zi qu)), (11, .long (zln (zSW X (a + 1)))), (13, .int (zi (a : Int))), (14, .int (zi vd))] → vd = X (zr X 0 a) 0 → W p l e room_1 s m #[Value.ref b] below meth c H locs cells slots Q (F0 m 285 ls [])) : W p l e room_1 s m #[Value.ref b] below meth c H locs cells slots Q (F0 m 86 ls []) := by
  refine law_rule1 hx hb hml hown hts hA hE hc hn hI hFr ha hP hD hS hl (fun vd dd stt H locs ls hP hD hS hl hvd hdd hst => ?_)
  refine law_rule2 hx hb hml hown hts hA hE hc hn hI hFr ha hvd hdd hst hP hD hS hl (fun H locs ls hP hD hS hl => ?_)
  refine law_rule3 hx hb hml hown hts hA hE hc hn hI hFr ha hvd hdd hst hP hD hS hl (fun H locs ls hP hD hS hl => ?_)
  refine law_rule4 hx hb hml hown hts hA hE hc hn hI hFr ha hvd hdd hst hP hD hS hl (fun H locs ls hP hD hS hl => ?_)
  refine law_rule5 hx hb hml hown hts hA hE hc hn hI hFr ha hvd hdd hst hP hD hS hl (fun H locs ls hP hD hS hl => ?_)
  refine law_rule6 hx hb hml hown hts hA hE hc hn hI hFr ha hvd hdd hst hP hD hS hl (fun H locs ls hP hD hS hl => ?_)
  exact kk vd H locs ls hP hD hS (lv_sub hl [0, 1, 2, 3, 4, 5, 6, 7, 8, 9, 10, 11] rfl) hvd
