/-! the law: all RULES -/
theorem dL_law_285 : decode cL_law 285 = .ok (.iconst 0, 1) := by decide +kernel
theorem dL_law_286 : decode cL_law 286 = .ok (.istore 17, 2) := by decide +kernel
theorem dL_law_288 : decode cL_law 288 = .ok (.iload 17, 2) := by decide +kernel
theorem dL_law_290 : decode cL_law 290 = .ok (.iload 13, 2) := by decide +kernel
theorem dL_law_292 : decode cL_law 292 = .ok (.if_icmp .ge 65, 3) := by decide +kernel
theorem dL_law_295 : decode cL_law 295 = .ok (.aload_n 3, 1) := by decide +kernel
theorem dL_law_296 : decode cL_law 296 = .ok (.iload 13, 2) := by decide +kernel
theorem dL_law_298 : decode cL_law 298 = .ok (.iload 17, 2) := by decide +kernel
theorem dL_law_300 : decode cL_law 300 = .ok (.invokevirtual 46, 3) := by decide +kernel
theorem dL_law_303 : decode cL_law 303 = .ok (.aload_n 3, 1) := by decide +kernel
theorem dL_law_304 : decode cL_law 304 = .ok (.iload 17, 2) := by decide +kernel
theorem dL_law_306 : decode cL_law 306 = .ok (.iload 13, 2) := by decide +kernel
theorem dL_law_308 : decode cL_law 308 = .ok (.invokevirtual 46, 3) := by decide +kernel
theorem dL_law_311 : decode cL_law 311 = .ok (.if_icmp .eq 5, 3) := by decide +kernel
theorem dL_law_316 : decode cL_law 316 = .ok (.iload 10, 2) := by decide +kernel
theorem dL_law_318 : decode cL_law 318 = .ok (.aload_n 3, 1) := by decide +kernel
theorem dL_law_319 : decode cL_law 319 = .ok (.iload 13, 2) := by decide +kernel
theorem dL_law_321 : decode cL_law 321 = .ok (.iload 17, 2) := by decide +kernel
theorem dL_law_323 : decode cL_law 323 = .ok (.invokevirtual 46, 3) := by decide +kernel
theorem dL_law_326 : decode cL_law 326 = .ok (.ifCond .le 21, 3) := by decide +kernel
theorem dL_law_347 : decode cL_law 347 = .ok (.iconst 0, 1) := by decide +kernel
theorem dL_law_348 : decode cL_law 348 = .ok (.iadd, 1) := by decide +kernel
theorem dL_law_349 : decode cL_law 349 = .ok (.istore 10, 2) := by decide +kernel
theorem dL_law_351 : decode cL_law 351 = .ok (.iinc 17 1, 3) := by decide +kernel
theorem dL_law_354 : decode cL_law 354 = .ok (.goto (-66), 3) := by decide +kernel
theorem dL_law_329 : decode cL_law 329 = .ok (.iload 14, 2) := by decide +kernel
theorem dL_law_331 : decode cL_law 331 = .ok (.aload_n 3, 1) := by decide +kernel
theorem dL_law_332 : decode cL_law 332 = .ok (.iload 17, 2) := by decide +kernel
theorem dL_law_334 : decode cL_law 334 = .ok (.iconst 0, 1) := by decide +kernel
theorem dL_law_335 : decode cL_law 335 = .ok (.invokevirtual 35, 3) := by decide +kernel
theorem dL_law_338 : decode cL_law 338 = .ok (.iadd, 1) := by decide +kernel
theorem dL_law_339 : decode cL_law 339 = .ok (.iconst 1, 1) := by decide +kernel
theorem dL_law_340 : decode cL_law 340 = .ok (.if_icmp .ne 7, 3) := by decide +kernel
theorem dL_law_343 : decode cL_law 343 = .ok (.iconst 1, 1) := by decide +kernel
theorem dL_law_344 : decode cL_law 344 = .ok (.goto 4, 3) := by decide +kernel
theorem dL_law_79 : decode cL_law 79 = .ok (.iload 13, 2) := by decide +kernel
theorem dL_law_81 : decode cL_law 81 = .ok (.iload 9, 2) := by decide +kernel
theorem dL_law_83 : decode cL_law 83 = .ok (.if_icmp .ge 280, 3) := by decide +kernel
theorem dL_law_357 : decode cL_law 357 = .ok (.iinc 13 1, 3) := by decide +kernel
theorem dL_law_360 : decode cL_law 360 = .ok (.goto (-281), 3) := by decide +kernel
set_option maxHeartbeats 4000000 in
set_option maxRecDepth 100000 in
/-- pairs of RULES -/
theorem law_pairs {p : Program} {l : Launch} {e : Env} {s : State} {m : MethodId} {below : List Frame} {meth : Method} {c : Code} {A : Nat → Prop} {G : zG} {b : Nat} {Q : State → Prop} {cells slots : Nat} {H : Heap} {locs : List Loc} {ls : Array Slot} {wr : va_W} {ad : Nat → Nat} {X : Nat → Nat → Int} {tm st : Int} {g0 : Nat} {dg : Int64} {qu vd : Int} {a : Nat} (hx : p.tables.exec = Jvm.exec) (hb : c.code = cL_law) (hml : c.maxLocals = 19) (hown : s.vm.findClass RL = some m.cls) (hts : ∀ w ∈ wsL_law, w.before #[Value.ref b] s = true) (hA : ∀ q : Nat, s.heap.size ≤ q → A q) (hE : zZ G A s s.heap) (hc : cells ≤ 500000) (hn : slots ≤ 6000000) (hI : zI X) (hFr : zFr X) (ha : a < zN X 0) (hvd : vd = X (zr X 0 a) 0) (hP : va_P G.1 vwCl (wr ++ zpic G ad X) H) (hD : va_D A (wr ++ zpic G ad X)) (hS : va_S A s.heap H locs) (hl : lv_has ls 19 [(0, .ref b), (1, .int (zi tm)), (2, .ref g0), (3, .ref (ad 52)), (4, .int (zi st)), (5, .long dg), (7, .long (zln (zSA X (a + 1)))), (9, .int (zi (zN X 0 : Int))), (10, .int (zi qu)), (11, .long (zln (zSW X (a + 1)))), (13, .int (zi (a : Int))), (14, .int (zi vd))])
    (kk : ∀ (H : Heap) (locs : List Loc) (ls : Array Slot), va_P G.1 vwCl (wr ++ zpic G ad X) H → va_D A (wr ++ zpic G ad X) → va_S A s.heap H locs → lv_has ls 19 [(0, .ref b), (1, .int (zi tm)), (2, .ref g0), (3, .ref (ad 52)), (4, .int (zi st)), (5, .long dg), (7, .long (zln (zSA X (a + 1)))), (9, .int (zi (zN X 0 : Int))), (10, .int (zi (qu + zQl X a a))), (11, .long (zln (zSW X (a + 1)))), (13, .int (zi (a : Int)))] → W p l e room_1 s m #[Value.ref b] below meth c H locs cells slots Q (F0 m 357 ls [])) : W p l e room_1 s m #[Value.ref b] below meth c H locs cells slots Q (F0 m 285 ls []) := by
  have hn8 := hI.1.n (Or.inl rfl : zIsW 0)
  have hwa := hn8.1
  refine lv_iconst (v := zi 0) hx hb dL_law_285 rfl ?_
  have e0 : qu = qu + zQl X a 0 := by show qu = qu + 0; omega
  rw [e0] at hl
  refine lv_istore (lv' := [(17, .int (zi 0)), (0, .ref b), (1, .int (zi tm)), (2, .ref g0), (3, .ref (ad 52)), (4, .int (zi st)), (5, .long dg), (7, .long (zln (zSA X (a + 1)))), (9, .int (zi (zN X 0 : Int))), (10, .int (zi (qu + zQl X a 0))), (11, .long (zln (zSW X (a + 1)))), (13, .int (zi (a : Int))), (14, .int (zi vd))]) hx hb dL_law_286 hl (by decide) rfl (fun ls hl => ?_)
  refine zloop1 (fun (j : Nat) => a - j) (fun (j : Nat) (H : Heap) (locs : List Loc) (ls : Array Slot) => va_P G.1 vwCl (wr ++ zpic G ad X) H ∧ va_D A (wr ++ zpic G ad X) ∧ va_S A s.heap H locs ∧ lv_has ls 19 [(0, .ref b), (1, .int (zi tm)), (2, .ref g0), (3, .ref (ad 52)), (4, .int (zi st)), (5, .long dg), (7, .long (zln (zSA X (a + 1)))), (9, .int (zi (zN X 0 : Int))), (10, .int (zi (qu + zQl X a j))), (11, .long (zln (zSW X (a + 1)))), (13, .int (zi (a : Int))), (14, .int (zi vd)), (17, .int (zi (j : Int)))] ∧ (j ≤ a)) ?_ 0 ⟨hP, hD, hS, lv_sub hl [1, 2, 3, 4, 5, 6, 7, 8, 9, 10, 11, 12, 0] rfl, (by omega)⟩
  intro j ih H locs ls ⟨hP, hD, hS, hl, hj⟩
  have hok1 := (hI.1.rok (hI.1.isR (Or.inl rfl : zIsW 0) (show a < 8 by omega))).1
  refine lv_iload hx hb dL_law_288 (lv_at hl 12 rfl) ?_
  refine lv_iload hx hb dL_law_290 (lv_at hl 10 rfl) ?_
  refine zc_ge (tgt := 357) hx hb dL_law_292 (by decide) (by omega) (by omega) (fun h292 => ?_) (fun h292 => ?_)
  · have hja : j = a := by omega
    subst hja
    exact kk  H locs ls hP hD hS (lv_sub hl [0, 1, 2, 3, 4, 5, 6, 7, 8, 9, 10] rfl)
  · have hok2 := (hI.1.rok (hI.1.isR (Or.inl rfl : zIsW 0) (show j < 8 by omega))).1
    have hcm := zAW_comm (X := X) (zr X 0 a) (zr X 0 j)
    refine lv_aload_n hx hb dL_law_295 rfl (lv_at hl 3 rfl) ?_
    refine lv_iload hx hb dL_law_296 (lv_at hl 10 rfl) ?_
    refine lv_iload hx hb dL_law_298 (lv_at hl 12 rfl) ?_
    refine zcall (wr := wr) (wc := zpic G ad X) (va_runV (As := [.int (zi (a : Int)), .int (zi (j : Int))]) (rest := []) ⟨hx, hb, hml, hown, hts⟩ (c_X7_shared l G ad X a j hI.1 (by omega) (by omega) H.size) (cwV 2 hts gL_law_X7_shared rfl rfl rfl (by decide +kernel) ⟨Nat.le_of_ble_eq_true rfl, Nat.le_of_ble_eq_true rfl⟩) (zPreV (As := [.int (zi (a : Int)), .int (zi (j : Int))]) (wr := wr) (wc := zpic G ad X) (q0 := 52) (ci := 7) (q := (RX7, TX7, 8)) hP hD hE hS hA rfl p_52) rfl rfl hl.1 rfl (lv_room (Nat.le_of_ble_eq_true rfl)) dL_law_300 ⟨(by show _ ≤ 600104; omega), (by show _ ≤ 7301314; omega)⟩) hP hD hS hA (fun _ _ H locs hf9 hP hD hS => ?_)
    obtain ⟨v1, rfl, hv1, rfl⟩ := hf9
    have hP : va_P G.1 vwCl (wr ++ zpic G ad X) H := hP
    have hD : va_D A (wr ++ zpic G ad X) := hD
    refine W.eq (g2 := F0 m 303 ls [.int (zi v1)]) rfl ?_
    refine lv_aload_n hx hb dL_law_303 rfl (lv_at hl 3 rfl) ?_
    refine lv_iload hx hb dL_law_304 (lv_at hl 12 rfl) ?_
    refine lv_iload hx hb dL_law_306 (lv_at hl 10 rfl) ?_
    refine zcall (wr := wr) (wc := zpic G ad X) (va_runV (As := [.int (zi (j : Int)), .int (zi (a : Int))]) (rest := [.int (zi v1)]) ⟨hx, hb, hml, hown, hts⟩ (c_X7_shared l G ad X j a hI.1 (by omega) (by omega) H.size) (cwV 2 hts gL_law_X7_shared rfl rfl rfl (by decide +kernel) ⟨Nat.le_of_ble_eq_true rfl, Nat.le_of_ble_eq_true rfl⟩) (zPreV (As := [.int (zi (j : Int)), .int (zi (a : Int))]) (wr := wr) (wc := zpic G ad X) (q0 := 52) (ci := 7) (q := (RX7, TX7, 8)) hP hD hE hS hA rfl p_52) rfl rfl hl.1 rfl (lv_room (Nat.le_of_ble_eq_true rfl)) dL_law_308 ⟨(by show _ ≤ 600104; omega), (by show _ ≤ 7301314; omega)⟩) hP hD hS hA (fun _ _ H locs hf9 hP hD hS => ?_)
    obtain ⟨v2, rfl, hv2, rfl⟩ := hf9
    have hP : va_P G.1 vwCl (wr ++ zpic G ad X) H := hP
    have hD : va_D A (wr ++ zpic G ad X) := hD
    refine W.eq (g2 := F0 m 311 ls [.int (zi v2), .int (zi v1)]) rfl ?_
    refine zc_eq (tgt := 316) hx hb dL_law_311 (by decide) (by omega) (by omega) (fun h311 => ?_) (fun h9 => by exfalso; omega)
    refine lv_iload hx hb dL_law_316 (lv_at hl 8 rfl) ?_
    refine lv_aload_n hx hb dL_law_318 rfl (lv_at hl 3 rfl) ?_
    refine lv_iload hx hb dL_law_319 (lv_at hl 10 rfl) ?_
    refine lv_iload hx hb dL_law_321 (lv_at hl 12 rfl) ?_
    refine zcall (wr := wr) (wc := zpic G ad X) (va_runV (As := [.int (zi (a : Int)), .int (zi (j : Int))]) (rest := [.int (zi (qu + zQl X a j))]) ⟨hx, hb, hml, hown, hts⟩ (c_X7_shared l G ad X a j hI.1 (by omega) (by omega) H.size) (cwV 2 hts gL_law_X7_shared rfl rfl rfl (by decide +kernel) ⟨Nat.le_of_ble_eq_true rfl, Nat.le_of_ble_eq_true rfl⟩) (zPreV (As := [.int (zi (a : Int)), .int (zi (j : Int))]) (wr := wr) (wc := zpic G ad X) (q0 := 52) (ci := 7) (q := (RX7, TX7, 8)) hP hD hE hS hA rfl p_52) rfl rfl hl.1 rfl (lv_room (Nat.le_of_ble_eq_true rfl)) dL_law_323 ⟨(by show _ ≤ 600104; omega), (by show _ ≤ 7301314; omega)⟩) hP hD hS hA (fun _ _ H locs hf9 hP hD hS => ?_)
    obtain ⟨v3, rfl, hv3, rfl⟩ := hf9
    have hP : va_P G.1 vwCl (wr ++ zpic G ad X) H := hP
    have hD : va_D A (wr ++ zpic G ad X) := hD
    refine W.eq (g2 := F0 m 326 ls [.int (zi v3), .int (zi (qu + zQl X a j))]) rfl ?_
    refine z0_le (tgt := 347) hx hb dL_law_326 (by decide) (by omega) (fun h326 => ?_) (fun h326 => ?_)
    · refine lv_iconst (v := zi 0) hx hb dL_law_347 rfl ?_
      refine lv_iadd hx hb dL_law_348 (zti (v := zi ((qu + zQl X a j) + 0)) (zi_add _ _) ?_)
      refine lv_istore (lv' := [(10, .int (zi ((qu + zQl X a j) + 0))), (0, .ref b), (1, .int (zi tm)), (2, .ref g0), (3, .ref (ad 52)), (4, .int (zi st)), (5, .long dg), (7, .long (zln (zSA X (a + 1)))), (9, .int (zi (zN X 0 : Int))), (11, .long (zln (zSW X (a + 1)))), (13, .int (zi (a : Int))), (14, .int (zi vd)), (17, .int (zi (j : Int)))]) hx hb dL_law_349 hl (by decide) rfl (fun ls hl => ?_)
      refine lv_iinc (v := zi ((j : Int) + 1)) (lv' := [(17, .int (zi ((j : Int) + 1))), (10, .int (zi ((qu + zQl X a j) + 0))), (0, .ref b), (1, .int (zi tm)), (2, .ref g0), (3, .ref (ad 52)), (4, .int (zi st)), (5, .long dg), (7, .long (zln (zSA X (a + 1)))), (9, .int (zi (zN X 0 : Int))), (11, .long (zln (zSW X (a + 1)))), (13, .int (zi (a : Int))), (14, .int (zi vd))]) hx hb dL_law_351 hl (k := 12) rfl (zi_add _ _) (by decide) rfl (fun ls hl => ?_)
      refine lv_goto (tgt := 288) hx hb dL_law_354 (by decide) ?_
      have e9 : (qu + zQl X a j) + 0 = qu + zQl X a (j + 1) := by show _ = qu + (zQl X a j + z1 (zAg X (zr X 0 a) (zr X 0 j))); rw [z1_no (fun hz => by have hz1 := hz.1; have hz2 := hz.2.1; have hz3 := hz.2.2.1; have hz4 := hz.2.2.2; omega)]; omega
      rw [e9] at hl
      exact ih (j + 1) (by omega) H locs ls ⟨hP, hD, hS, lv_sub hl [2, 3, 4, 5, 6, 7, 8, 9, 1, 10, 11, 12, 0] rfl, (by omega)⟩
    · refine lv_iload hx hb dL_law_329 (lv_at hl 11 rfl) ?_
      refine lv_aload_n hx hb dL_law_331 rfl (lv_at hl 3 rfl) ?_
      refine lv_iload hx hb dL_law_332 (lv_at hl 12 rfl) ?_
      refine lv_iconst (v := zi 0) hx hb dL_law_334 rfl ?_
      refine zcall (wr := wr) (wc := zpic G ad X) (va_runV (As := [.int (zi (j : Int)), .int (zi 0)]) (rest := [.int (zi vd), .int (zi (qu + zQl X a j))]) ⟨hx, hb, hml, hown, hts⟩ (c_X7_ofRule l G ad X j 0 hI.1 (by omega) (by omega) H.size) (cwV 2 hts gL_law_X7_ofRule rfl rfl rfl (by decide +kernel) ⟨Nat.le_of_ble_eq_true rfl, Nat.le_of_ble_eq_true rfl⟩) (zPreV (As := [.int (zi (j : Int)), .int (zi 0)]) (wr := wr) (wc := zpic G ad X) (q0 := 52) (ci := 7) (q := (RX7, TX7, 8)) hP hD hE hS hA rfl p_52) rfl rfl hl.1 rfl (lv_room (Nat.le_of_ble_eq_true rfl)) dL_law_335 ⟨(by show _ ≤ 600104; omega), (by show _ ≤ 7301314; omega)⟩) hP hD hS hA (fun _ _ H locs hf9 hP hD hS => ?_)
      obtain ⟨v4, rfl, hv4, rfl⟩ := hf9
      have hP : va_P G.1 vwCl (wr ++ zpic G ad X) H := hP
      have hD : va_D A (wr ++ zpic G ad X) := hD
      refine W.eq (g2 := F0 m 338 ls [.int (zi v4), .int (zi vd), .int (zi (qu + zQl X a j))]) rfl ?_
      have hv4b : v4 = X (zr X 0 j) 0 := hv4
      refine lv_iadd hx hb dL_law_338 (zti (v := zi (vd + v4)) (zi_add _ _) ?_)
      refine lv_iconst (v := zi 1) hx hb dL_law_339 rfl ?_
      refine zc_ne (tgt := 347) hx hb dL_law_340 (by decide) (by omega) (by decide) (fun h340 => ?_) (fun h340 => ?_)
      · refine lv_iconst (v := zi 0) hx hb dL_law_347 rfl ?_
        refine lv_iadd hx hb dL_law_348 (zti (v := zi ((qu + zQl X a j) + 0)) (zi_add _ _) ?_)
        refine lv_istore (lv' := [(10, .int (zi ((qu + zQl X a j) + 0))), (0, .ref b), (1, .int (zi tm)), (2, .ref g0), (3, .ref (ad 52)), (4, .int (zi st)), (5, .long dg), (7, .long (zln (zSA X (a + 1)))), (9, .int (zi (zN X 0 : Int))), (11, .long (zln (zSW X (a + 1)))), (13, .int (zi (a : Int))), (14, .int (zi vd)), (17, .int (zi (j : Int)))]) hx hb dL_law_349 hl (by decide) rfl (fun ls hl => ?_)
        refine lv_iinc (v := zi ((j : Int) + 1)) (lv' := [(17, .int (zi ((j : Int) + 1))), (10, .int (zi ((qu + zQl X a j) + 0))), (0, .ref b), (1, .int (zi tm)), (2, .ref g0), (3, .ref (ad 52)), (4, .int (zi st)), (5, .long dg), (7, .long (zln (zSA X (a + 1)))), (9, .int (zi (zN X 0 : Int))), (11, .long (zln (zSW X (a + 1)))), (13, .int (zi (a : Int))), (14, .int (zi vd))]) hx hb dL_law_351 hl (k := 12) rfl (zi_add _ _) (by decide) rfl (fun ls hl => ?_)
        refine lv_goto (tgt := 288) hx hb dL_law_354 (by decide) ?_
        have e9 : (qu + zQl X a j) + 0 = qu + zQl X a (j + 1) := by show _ = qu + (zQl X a j + z1 (zAg X (zr X 0 a) (zr X 0 j))); rw [z1_no (fun hz => by have hz1 := hz.1; have hz2 := hz.2.1; have hz3 := hz.2.2.1; have hz4 := hz.2.2.2; omega)]; omega
        rw [e9] at hl
        exact ih (j + 1) (by omega) H locs ls ⟨hP, hD, hS, lv_sub hl [2, 3, 4, 5, 6, 7, 8, 9, 1, 10, 11, 12, 0] rfl, (by omega)⟩
      · refine lv_iconst (v := zi 1) hx hb dL_law_343 rfl ?_
        refine lv_goto (tgt := 348) hx hb dL_law_344 (by decide) ?_
        refine lv_iadd hx hb dL_law_348 (zti (v := zi ((qu + zQl X a j) + 1)) (zi_add _ _) ?_)
        refine lv_istore (lv' := [(10, .int (zi ((qu + zQl X a j) + 1))), (0, .ref b), (1, .int (zi tm)), (2, .ref g0), (3, .ref (ad 52)), (4, .int (zi st)), (5, .long dg), (7, .long (zln (zSA X (a + 1)))), (9, .int (zi (zN X 0 : Int))), (11, .long (zln (zSW X (a + 1)))), (13, .int (zi (a : Int))), (14, .int (zi vd)), (17, .int (zi (j : Int)))]) hx hb dL_law_349 hl (by decide) rfl (fun ls hl => ?_)
        refine lv_iinc (v := zi ((j : Int) + 1)) (lv' := [(17, .int (zi ((j : Int) + 1))), (10, .int (zi ((qu + zQl X a j) + 1))), (0, .ref b), (1, .int (zi tm)), (2, .ref g0), (3, .ref (ad 52)), (4, .int (zi st)), (5, .long dg), (7, .long (zln (zSA X (a + 1)))), (9, .int (zi (zN X 0 : Int))), (11, .long (zln (zSW X (a + 1)))), (13, .int (zi (a : Int))), (14, .int (zi vd))]) hx hb dL_law_351 hl (k := 12) rfl (zi_add _ _) (by decide) rfl (fun ls hl => ?_)
        refine lv_goto (tgt := 288) hx hb dL_law_354 (by decide) ?_
        have e9 : (qu + zQl X a j) + 1 = qu + zQl X a (j + 1) := by show _ = qu + (zQl X a j + z1 (zAg X (zr X 0 a) (zr X 0 j))); rw [z1_yes (show zAg X (zr X 0 a) (zr X 0 j) from ⟨by omega, by omega, by omega, by omega⟩)]; omega
        rw [e9] at hl
        exact ih (j + 1) (by omega) H locs ls ⟨hP, hD, hS, lv_sub hl [2, 3, 4, 5, 6, 7, 8, 9, 1, 10, 11, 12, 0] rfl, (by omega)⟩

set_option maxHeartbeats 4000000 in
set_option maxRecDepth 100000 in
/-- all RULES -/
theorem law_rules {p : Program} {l : Launch} {e : Env} {s : State} {m : MethodId} {below : List Frame} {meth : Method} {c : Code} {A : Nat → Prop} {G : zG} {b : Nat} {Q : State → Prop} {cells slots : Nat} {H : Heap} {locs : List Loc} {ls : Array Slot} {wr : va_W} {ad : Nat → Nat} {X : Nat → Nat → Int} {tm st : Int} {g0 : Nat} {dg : Int64} (hx : p.tables.exec = Jvm.exec) (hb : c.code = cL_law) (hml : c.maxLocals = 19) (hown : s.vm.findClass RL = some m.cls) (hts : ∀ w ∈ wsL_law, w.before #[Value.ref b] s = true) (hA : ∀ q : Nat, s.heap.size ≤ q → A q) (hE : zZ G A s s.heap) (hc : cells ≤ 500000) (hn : slots ≤ 6000000) (hI : zI X) (hFr : zFr X) (hP : va_P G.1 vwCl (wr ++ zpic G ad X) H) (hD : va_D A (wr ++ zpic G ad X)) (hS : va_S A s.heap H locs) (hl : lv_has ls 19 [(0, .ref b), (1, .int (zi tm)), (2, .ref g0), (3, .ref (ad 52)), (4, .int (zi st)), (5, .long dg), (7, .long (zln 0)), (9, .int (zi (zN X 0 : Int))), (10, .int (zi 0)), (11, .long (zln 0)), (13, .int (zi 0))])
    (kk : ∀ (H : Heap) (locs : List Loc) (ls : Array Slot), va_P G.1 vwCl (wr ++ zpic G ad X) H → va_D A (wr ++ zpic G ad X) → va_S A s.heap H locs → lv_has ls 19 [(0, .ref b), (1, .int (zi tm)), (2, .ref g0), (3, .ref (ad 52)), (4, .int (zi st)), (5, .long dg), (7, .long (zln (zSA X (zN X 0)))), (9, .int (zi (zN X 0 : Int))), (10, .int (zi (zQt X (zN X 0)))), (11, .long (zln (zSW X (zN X 0))))] → W p l e room_1 s m #[Value.ref b] below meth c H locs cells slots Q (F0 m 363 ls [])) : W p l e room_1 s m #[Value.ref b] below meth c H locs cells slots Q (F0 m 79 ls []) := by
  have hn8 := hI.1.n (Or.inl rfl : zIsW 0)
  refine zloop1 (fun (a : Nat) => zN X 0 - a) (fun (a : Nat) (H : Heap) (locs : List Loc) (ls : Array Slot) => va_P G.1 vwCl (wr ++ zpic G ad X) H ∧ va_D A (wr ++ zpic G ad X) ∧ va_S A s.heap H locs ∧ lv_has ls 19 [(0, .ref b), (1, .int (zi tm)), (2, .ref g0), (3, .ref (ad 52)), (4, .int (zi st)), (5, .long dg), (7, .long (zln (zSA X a))), (9, .int (zi (zN X 0 : Int))), (10, .int (zi (zQt X a))), (11, .long (zln (zSW X a))), (13, .int (zi (a : Int)))] ∧ (a ≤ zN X 0)) ?_ 0 ⟨hP, hD, hS, lv_sub hl [0, 1, 2, 3, 4, 5, 6, 7, 8, 9, 10] rfl, (by omega)⟩
  intro a ih H locs ls ⟨hP, hD, hS, hl, han0⟩
  refine lv_iload hx hb dL_law_79 (lv_at hl 10 rfl) ?_
  refine lv_iload hx hb dL_law_81 (lv_at hl 7 rfl) ?_
  refine zc_ge (tgt := 363) hx hb dL_law_83 (by decide) (by omega) (by omega) (fun h83 => ?_) (fun h83 => ?_)
  · have han : a = zN X 0 := by omega
    subst han
    exact kk  H locs ls hP hD hS (lv_sub hl [0, 1, 2, 3, 4, 5, 6, 7, 8, 9] rfl)
  · refine law_rule hx hb hml hown hts hA hE hc hn hI hFr (a := a) (by omega) hP hD hS (lv_sub hl [0, 1, 2, 3, 4, 5, 6, 7, 8, 9, 10] rfl) (fun vd H locs ls hP hD hS hl hvd => ?_)
    refine law_pairs hx hb hml hown hts hA hE hc hn hI hFr (a := a) (by omega) hvd hP hD hS hl (fun H locs ls hP hD hS hl => ?_)
    refine lv_iinc (v := zi ((a : Int) + 1)) (lv' := [(13, .int (zi ((a : Int) + 1))), (0, .ref b), (1, .int (zi tm)), (2, .ref g0), (3, .ref (ad 52)), (4, .int (zi st)), (5, .long dg), (7, .long (zln (zSA X (a + 1)))), (9, .int (zi (zN X 0 : Int))), (10, .int (zi (zQt X a + zQl X a a))), (11, .long (zln (zSW X (a + 1))))]) hx hb dL_law_357 hl (k := 10) rfl (zi_add _ _) (by decide) rfl (fun ls hl => ?_)
    refine lv_goto (tgt := 79) hx hb dL_law_360 (by decide) ?_
    have hl : lv_has ls 19 [(13, .int (zi ((a : Int) + 1))), (0, .ref b), (1, .int (zi tm)), (2, .ref g0), (3, .ref (ad 52)), (4, .int (zi st)), (5, .long dg), (7, .long (zln (zSA X (a + 1)))), (9, .int (zi (zN X 0 : Int))), (10, .int (zi (zQt X (a + 1)))), (11, .long (zln (zSW X (a + 1))))] := hl
    exact ih (a + 1) (by omega) H locs ls ⟨hP, hD, hS, lv_sub hl [1, 2, 3, 4, 5, 6, 7, 8, 9, 10, 0] rfl, (by omega)⟩
