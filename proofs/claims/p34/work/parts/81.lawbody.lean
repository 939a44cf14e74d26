/-! the law: all checks behind one change -/
theorem dL_law_55 : decode cL_law 55 = .ok (.aload_n 3, 1) := by decide +kernel
theorem dL_law_56 : decode cL_law 56 = .ok (.invokevirtual 25, 3) := by decide +kernel
theorem dL_law_59 : decode cL_law 59 = .ok (.lstore 5, 2) := by decide +kernel
theorem dL_law_61 : decode cL_law 61 = .ok (.lconst 0, 1) := by decide +kernel
theorem dL_law_62 : decode cL_law 62 = .ok (.lstore 7, 2) := by decide +kernel
theorem dL_law_64 : decode cL_law 64 = .ok (.aload_n 3, 1) := by decide +kernel
set_option maxRecDepth 20000 in
theorem ggL_law_X7_rules : GoodIn wsL_law wsX7_rules := goodIn_r _ [269, 36, 145, 637, 638, 639, 640, 641, 642, 643, 644, 645, 646, 647] (by decide +kernel) (by decide +kernel)
set_option maxRecDepth 20000 in
theorem gL_law_X7_rules : GoodIn wsL_law (wsV RL 31 RX7 yX7_rules wsX7_rules) := goodIn_app (goodIn_of _ (by decide +kernel)) ggL_law_X7_rules
theorem dL_law_65 : decode cL_law 65 = .ok (.invokevirtual 31, 3) := by decide +kernel
theorem dL_law_68 : decode cL_law 68 = .ok (.istore 9, 2) := by decide +kernel
theorem dL_law_70 : decode cL_law 70 = .ok (.iconst 0, 1) := by decide +kernel
theorem dL_law_71 : decode cL_law 71 = .ok (.istore 10, 2) := by decide +kernel
theorem dL_law_73 : decode cL_law 73 = .ok (.lconst 0, 1) := by decide +kernel
theorem dL_law_74 : decode cL_law 74 = .ok (.lstore 11, 2) := by decide +kernel
theorem dL_law_76 : decode cL_law 76 = .ok (.iconst 0, 1) := by decide +kernel
theorem dL_law_77 : decode cL_law 77 = .ok (.istore 13, 2) := by decide +kernel
theorem dL_law_878 : decode cL_law 878 = .ok (.aload_n 3, 1) := by decide +kernel
theorem dL_law_879 : decode cL_law 879 = .ok (.invokevirtual 25, 3) := by decide +kernel
theorem dL_law_882 : decode cL_law 882 = .ok (.lload 5, 2) := by decide +kernel
theorem dL_law_884 : decode cL_law 884 = .ok (.lcmp, 1) := by decide +kernel
theorem dL_law_885 : decode cL_law 885 = .ok (.ifCond .eq 5, 3) := by decide +kernel
set_option maxRecDepth 20000 in
theorem ggL_law_X8_all : GoodIn wsL_law wsX8_all := goodIn_r _ [604, 24, 627, 628, 629, 630, 631, 632, 633, 634, 635, 636] (by decide +kernel) (by decide +kernel)
set_option maxRecDepth 20000 in
theorem gL_law_X8_all : GoodIn wsL_law (wsV RL 97 RX8 yX8_all wsX8_all) := goodIn_app (goodIn_of _ (by decide +kernel)) ggL_law_X8_all
theorem dL_law_682 : decode cL_law 682 = .ok (.invokevirtual 97, 3) := by decide +kernel
set_option maxHeartbeats 4000000 in
set_option maxRecDepth 100000 in
/-- the checksum before -/
theorem law_head {p : Program} {l : Launch} {e : Env} {s : State} {m : MethodId} {below : List Frame} {meth : Method} {c : Code} {A : Nat → Prop} {G : zG} {b : Nat} {Q : State → Prop} {cells slots : Nat} {H : Heap} {locs : List Loc} {ls : Array Slot} {wr : va_W} {ad : Nat → Nat} {X : Nat → Nat → Int} {tm st : Int} {g0 : Nat} (hx : p.tables.exec = Jvm.exec) (hb : c.code = cL_law) (hml : c.maxLocals = 19) (hown : s.vm.findClass RL = some m.cls) (hts : ∀ w ∈ wsL_law, w.before #[Value.ref b] s = true) (hA : ∀ q : Nat, s.heap.size ≤ q → A q) (hE : zZ G A s s.heap) (hc : cells ≤ 500000) (hn : slots ≤ 6000000) (hI : zI X) (hP : va_P G.1 vwCl (wr ++ zpic G ad X) H) (hD : va_D A (wr ++ zpic G ad X)) (hS : va_S A s.heap H locs) (hl : lv_has ls 19 [(0, .ref b), (1, .int (zi tm)), (2, .ref g0), (3, .ref (ad 52)), (4, .int (zi st))])
    (kk : ∀ (Y : Nat → Nat → Int) (dg : Int64) (H : Heap) (locs : List Loc) (ls : Array Slot), dg = zDg Y → zDch X Y → va_P G.1 vwCl (wr ++ zpic G ad Y) H → va_D A (wr ++ zpic G ad Y) → va_S A s.heap H locs → lv_has ls 19 [(0, .ref b), (1, .int (zi tm)), (2, .ref g0), (3, .ref (ad 52)), (4, .int (zi st)), (5, .long dg), (7, .long (zln 0)), (9, .int (zi (zN Y 0 : Int))), (10, .int (zi 0)), (11, .long (zln 0)), (13, .int (zi 0))] → W p l e room_1 s m #[Value.ref b] below meth c H locs cells slots Q (F0 m 79 ls [])) : W p l e room_1 s m #[Value.ref b] below meth c H locs cells slots Q (F0 m 55 ls []) := by
  refine lv_aload_n hx hb dL_law_55 rfl (lv_at hl 3 rfl) ?_
  refine zcall (wr := wr) (wc := zpic G ad X) (va_runV (As := []) (rest := []) ⟨hx, hb, hml, hown, hts⟩ (c_X7_digest l G ad X hI.1 hI.2.1 hI.2.2.1 hI.2.2.2.1 hI.2.2.2.2.1 hI.2.2.2.2.2 H.size) (cwV 0 hts gL_law_X7_digest rfl rfl rfl (by decide +kernel) ⟨Nat.le_of_ble_eq_true rfl, Nat.le_of_ble_eq_true rfl⟩) (zPreV (As := []) (wr := wr) (wc := zpic G ad X) (q0 := 52) (ci := 7) (q := (RX7, TX7, 8)) hP hD hE hS hA rfl p_52) rfl rfl hl.1 rfl (lv_room (Nat.le_of_ble_eq_true rfl)) dL_law_56 ⟨(by show _ ≤ 600104; omega), (by show _ ≤ 7301314; omega)⟩) hP hD hS hA (fun _ _ H locs hf9 hP hD hS => ?_)
  obtain ⟨v1, Y1, rfl, hv1, rfl⟩ := hf9
  have hP : va_P G.1 vwCl (wr ++ zpic G ad Y1) H := hP
  have hD : va_D A (wr ++ zpic G ad Y1) := hD
  refine W.eq (g2 := F0 m 59 ls [.long v1]) rfl ?_
  have hal := hv1.2.all hI
  refine lv_lstore (lv' := [(5, .long v1), (0, .ref b), (1, .int (zi tm)), (2, .ref g0), (3, .ref (ad 52)), (4, .int (zi st))]) hx hb dL_law_59 hl (by decide) rfl (fun ls hl => ?_)
  refine lv_lconst (v := 0) hx hb dL_law_61 (by decide) ?_
  refine ztl (v := zln 0) rfl ?_
  refine lv_lstore (lv' := [(7, .long (zln 0)), (5, .long v1), (0, .ref b), (1, .int (zi tm)), (2, .ref g0), (3, .ref (ad 52)), (4, .int (zi st))]) hx hb dL_law_62 hl (by decide) rfl (fun ls hl => ?_)
  refine lv_aload_n hx hb dL_law_64 rfl (lv_at hl 5 rfl) ?_
  refine zcall (wr := wr) (wc := zpic G ad Y1) (va_runV (As := []) (rest := []) ⟨hx, hb, hml, hown, hts⟩ (c_X7_rules l G ad Y1 hal.1.1 H.size) (cwV 0 hts gL_law_X7_rules rfl rfl rfl (by decide +kernel) ⟨Nat.le_of_ble_eq_true rfl, Nat.le_of_ble_eq_true rfl⟩) (zPreV (As := []) (wr := wr) (wc := zpic G ad Y1) (q0 := 52) (ci := 7) (q := (RX7, TX7, 8)) hP hD hE hS hA rfl p_52) rfl rfl hl.1 rfl (lv_room (Nat.le_of_ble_eq_true rfl)) dL_law_65 ⟨(by show _ ≤ 600104; omega), (by show _ ≤ 7301314; omega)⟩) hP hD hS hA (fun _ _ H locs hf9 hP hD hS => ?_)
  obtain ⟨v2, rfl, hv2, rfl⟩ := hf9
  have hP : va_P G.1 vwCl (wr ++ zpic G ad Y1) H := hP
  have hD : va_D A (wr ++ zpic G ad Y1) := hD
  refine W.eq (g2 := F0 m 68 ls [.int (zi v2)]) rfl ?_
  have hn9 : v2 = (zN Y1 0 : Int) := hv2
  subst hn9
  have hl : lv_has ls 19 [(7, .long (zln 0)), (5, .long v1), (0, .ref b), (1, .int (zi tm)), (2, .ref g0), (3, .ref (ad 52)), (4, .int (zi st))] := hl
  refine lv_istore (lv' := [(9, .int (zi (zN Y1 0 : Int))), (7, .long (zln 0)), (5, .long v1), (0, .ref b), (1, .int (zi tm)), (2, .ref g0), (3, .ref (ad 52)), (4, .int (zi st))]) hx hb dL_law_68 hl (by decide) rfl (fun ls hl => ?_)
  refine lv_iconst (v := zi 0) hx hb dL_law_70 rfl ?_
  refine lv_istore (lv' := [(10, .int (zi 0)), (9, .int (zi (zN Y1 0 : Int))), (7, .long (zln 0)), (5, .long v1), (0, .ref b), (1, .int (zi tm)), (2, .ref g0), (3, .ref (ad 52)), (4, .int (zi st))]) hx hb dL_law_71 hl (by decide) rfl (fun ls hl => ?_)
  refine lv_lconst (v := 0) hx hb dL_law_73 (by decide) ?_
  refine ztl (v := zln 0) rfl ?_
  refine lv_lstore (lv' := [(11, .long (zln 0)), (10, .int (zi 0)), (9, .int (zi (zN Y1 0 : Int))), (7, .long (zln 0)), (5, .long v1), (0, .ref b), (1, .int (zi tm)), (2, .ref g0), (3, .ref (ad 52)), (4, .int (zi st))]) hx hb dL_law_74 hl (by decide) rfl (fun ls hl => ?_)
  refine lv_iconst (v := zi 0) hx hb dL_law_76 rfl ?_
  refine lv_istore (lv' := [(13, .int (zi 0)), (11, .long (zln 0)), (10, .int (zi 0)), (9, .int (zi (zN Y1 0 : Int))), (7, .long (zln 0)), (5, .long v1), (0, .ref b), (1, .int (zi tm)), (2, .ref g0), (3, .ref (ad 52)), (4, .int (zi st))]) hx hb dL_law_77 hl (by decide) rfl (fun ls hl => ?_)
  exact kk Y1 v1 H locs ls hv1.1 hv1.2 hP hD hS (lv_sub hl [6, 7, 8, 9, 10, 5, 4, 3, 2, 1, 0] rfl)

set_option maxHeartbeats 4000000 in
set_option maxRecDepth 100000 in
/-- the checksum behind -/
theorem law_tail {p : Program} {l : Launch} {e : Env} {s : State} {m : MethodId} {below : List Frame} {meth : Method} {c : Code} {A : Nat → Prop} {G : zG} {b : Nat} {Q : State → Prop} {cells slots : Nat} {H : Heap} {locs : List Loc} {ls : Array Slot} {wr : va_W} {ad : Nat → Nat} {X : Nat → Nat → Int} {tm st : Int} {g0 : Nat} {dg : Int64} (hx : p.tables.exec = Jvm.exec) (hb : c.code = cL_law) (hml : c.maxLocals = 19) (hown : s.vm.findClass RL = some m.cls) (hts : ∀ w ∈ wsL_law, w.before #[Value.ref b] s = true) (hA : ∀ q : Nat, s.heap.size ≤ q → A q) (hE : zZ G A s s.heap) (hc : cells ≤ 500000) (hn : slots ≤ 6000000) (hI : zI X) (hFr : zFr X) (hdg : dg = zDg X) (hP : va_P G.1 vwCl (wr ++ zpic G ad X) H) (hD : va_D A (wr ++ zpic G ad X)) (hS : va_S A s.heap H locs) (hl : lv_has ls 19 [(0, .ref b), (1, .int (zi tm)), (2, .ref g0), (3, .ref (ad 52)), (4, .int (zi st)), (5, .long dg)])
    (kk : ∀ (H : Heap) (locs : List Loc) (ls : Array Slot), va_P G.1 vwCl (wr ++ zpic G ad X) H → va_D A (wr ++ zpic G ad X) → va_S A s.heap H locs → lv_has ls 19 [(0, .ref b), (1, .int (zi tm)), (2, .ref g0), (3, .ref (ad 52)), (4, .int (zi st))] → W p l e room_1 s m #[Value.ref b] below meth c H locs cells slots Q (F0 m 890 ls [])) : W p l e room_1 s m #[Value.ref b] below meth c H locs cells slots Q (F0 m 878 ls []) := by
  refine lv_aload_n hx hb dL_law_878 rfl (lv_at hl 3 rfl) ?_
  refine zcall (wr := wr) (wc := zpic G ad X) (va_runV (As := []) (rest := []) ⟨hx, hb, hml, hown, hts⟩ (c_X7_digest l G ad X hI.1 hI.2.1 hI.2.2.1 hI.2.2.2.1 hI.2.2.2.2.1 hI.2.2.2.2.2 H.size) (cwV 0 hts gL_law_X7_digest rfl rfl rfl (by decide +kernel) ⟨Nat.le_of_ble_eq_true rfl, Nat.le_of_ble_eq_true rfl⟩) (zPreV (As := []) (wr := wr) (wc := zpic G ad X) (q0 := 52) (ci := 7) (q := (RX7, TX7, 8)) hP hD hE hS hA rfl p_52) rfl rfl hl.1 rfl (lv_room (Nat.le_of_ble_eq_true rfl)) dL_law_879 ⟨(by show _ ≤ 600104; omega), (by show _ ≤ 7301314; omega)⟩) hP hD hS hA (fun _ _ H locs hf9 hP hD hS => ?_)
  obtain ⟨v1, Y1, rfl, hv1, rfl⟩ := hf9
  have hP : va_P G.1 vwCl (wr ++ zpic G ad Y1) H := hP
  have hD : va_D A (wr ++ zpic G ad Y1) := hD
  refine W.eq (g2 := F0 m 882 ls [.long v1]) rfl ?_
  have hal := hv1.2.all hI
  have eY : X = Y1 := (hal.2.2.2.1 hFr).symm
  subst eY
  have hP : va_P G.1 vwCl (wr ++ zpic G ad X) H := hP
  have hD : va_D A (wr ++ zpic G ad X) := hD
  have ev : dg = v1 := hdg.trans hv1.1.symm
  subst ev
  refine lv_lload hx hb dL_law_882 (lv_at hl 5 rfl) ?_
  refine lv_lcmp hx hb dL_law_884 ?_
  refine zti (v := zi 0) (zln_self _) ?_
  refine z0_eq (tgt := 890) hx hb dL_law_885 (by decide) (by decide) (fun h885 => ?_) (fun h9 => absurd h9 (by decide))
  exact kk H locs ls hP hD hS (lv_sub hl [0, 1, 2, 3, 4] rfl)

set_option maxHeartbeats 4000000 in
set_option maxRecDepth 100000 in
/-- all checks behind one change -/
theorem law_body {p : Program} {l : Launch} {e : Env} {s : State} {m : MethodId} {below : List Frame} {meth : Method} {c : Code} {A : Nat → Prop} {G : zG} {b : Nat} {Q : State → Prop} {cells slots : Nat} {H : Heap} {locs : List Loc} {ls : Array Slot} {tm st : Int} {ad hd hr : Nat → Nat} {X : Nat → Nat → Int} {n dr : Nat} {la cl : Int} {C R : Nat → Nat → Int} (hx : p.tables.exec = Jvm.exec) (hb : c.code = cL_law) (hml : c.maxLocals = 19) (hown : s.vm.findClass RL = some m.cls) (hts : ∀ w ∈ wsL_law, w.before #[Value.ref b] s = true) (hA : ∀ q : Nat, s.heap.size ≤ q → A q) (hE : zZ G A s s.heap) (hc : cells ≤ 300000) (hn : slots ≤ 4000000) (hsl : zsl G ≤ 100000) (hdr : dr ≤ 70000) (hv : zHv X n la C R) (hP : va_P G.1 vwCl (zhW G ad X hd hr n dr la cl C R) H) (hD : va_D A (zhW G ad X hd hr n dr la cl C R)) (hS : va_S A s.heap H locs) (hl : lv_has ls 19 [(0, .ref b), (1, .int (zi tm)), (2, .ref (hd 0)), (3, .ref (ad 52)), (4, .int (zi st))])
    (kk : ∀ (Y : Nat → Nat → Int) (d : Nat) (H : Heap) (locs : List Loc) (ls : Array Slot), d ≤ dr + 20 → zHv Y n la C R → va_P G.1 vwCl (zhW G ad Y hd hr n d la cl C R) H → va_D A (zhW G ad Y hd hr n d la cl C R) → va_S A s.heap H locs → lv_has ls 19 [(0, .ref b), (1, .int (zi tm)), (2, .ref (hd 0)), (3, .ref (ad 52)), (4, .int (zi st))] → W p l e room_1 s m #[Value.ref b] below meth c H locs (cells + 5) (slots + 20) Q (F0 m 890 ls [])) : W p l e room_1 s m #[Value.ref b] below meth c H locs cells slots Q (F0 m 55 ls []) := by
  have hc5 : cells ≤ 500000 := by omega
  have hn5 : slots ≤ 6000000 := by omega
  refine law_head (wr := zhP G ad hd hr n dr la cl C ++ zrw G hr R n) (X := X) (ad := ad) (g0 := hd 0) (tm := tm) (st := st) hx hb hml hown hts hA hE hc5 hn5 hv.1 hP hD hS hl (fun Y dg H locs ls hdg hch hP hD hS hl => ?_)
  have hal := hch.all hv.1
  have hIY := hal.1
  have hFY := hal.2.1
  have hvY : zHv Y n la C R := hv.we hIY hal.2.2.1
  have hTY := zTf_of hIY hFY
  refine law_rules (wr := zhP G ad hd hr n dr la cl C ++ zrw G hr R n) (X := Y) (ad := ad) hx hb hml hown hts hA hE hc5 hn5 hIY hFY hP hD hS hl (fun H locs ls hP hD hS hl => ?_)
  refine law_cond (wr := zhP G ad hd hr n dr la cl C ++ zrw G hr R n) (X := Y) (ad := ad) (la := la) (dr := dr) (f0 := .ref (ad 52)) (f3 := .ref (hd 1)) (f4 := .ref (hd 6)) (f6 := .ref (hd 7)) (f7 := .int (zi cl)) (f8 := .int (zi 0)) (f9 := .ref (hd 8)) hx hb hml hown hts hA hE hc5 hn5 hIY hFY hTY rfl ⟨hvY.2.2.2.1.symm, hvY.2.2.2.2.1⟩ hP hD hS hl (fun H locs ls hP hD hS hl => ?_)
  obtain ⟨N, hN⟩ : ∃ N : Nat, Y 61 5 = (N : Int) := ⟨(Y 61 5).toNat, by have h9 := hTY.2.2.2.1.cnt; omega⟩
  refine law_nodes (wr := zhP G ad hd hr n dr la cl C ++ zrw G hr R n) (X := Y) (ad := ad) (N := N) hx hb hml hown hts hA hE hc5 hn5 hIY hFY hTY hN ?_ hP hD hS hl (fun H locs ls hP hD hS hl => ?_)
  · intro H locs ls z hP hD hS hls kq
    have hP : va_P G.1 vwCl (zhW G ad Y hd hr n dr la cl C R) H := hP
    have hD : va_D A (zhW G ad Y hd hr n dr la cl C R) := hD
    refine zcall (wr := []) (wc := zhW G ad Y hd hr n dr la cl C R) (va_runV (As := []) (rest := [.int z]) ⟨hx, hb, hml, hown, hts⟩ (k_X8_all l G ad hd hr Y n dr la cl C R hsl (by omega) hvY H.size) (cwV 0 hts gL_law_X8_all rfl rfl rfl (by decide +kernel) ⟨Nat.le_of_ble_eq_true rfl, Nat.le_of_ble_eq_true rfl⟩) (zPreV (As := []) (wr := []) (wc := zhW G ad Y hd hr n dr la cl C R) (q0 := 0) (ci := 8) (q := (RX8, TX8, 10)) hP hD hE hS hA rfl rfl) rfl rfl hls rfl (lv_room (Nat.le_of_ble_eq_true rfl)) dL_law_682 ⟨by show _ ≤ 600104; omega, by show _ ≤ 7301314; omega⟩) hP hD hS hA (fun _ _ H locs hf9 hP hD hS => ?_)
    obtain ⟨rfl, hw9⟩ := hf9
    rw [hw9] at hP hD
    exact kq H locs hP hD hS
  · refine law_packets (X := Y) (N := N) (n := n) (dr := dr) (la := la) (cl := cl) (C := C) (R := R) (ad := ad) (hd := hd) (hr := hr) hx hb hml hown hts hA hE (by omega) (by omega) hsl (by omega) hIY hFY hN hP hD hS hl (fun Z d H locs ls hZ hd9 hP hD hS hl => ?_)
    have hIZ := hZ.i hIY
    refine law_tail (wr := zhP G ad hd hr n d la cl C ++ zrw G hr R n) (X := Z) (ad := ad) (dg := dg) hx hb hml hown hts hA hE (by omega) (by omega) hIZ (hZ.fr hFY) (hdg.trans (hZ.dg hIY).symm) hP hD hS (lv_sub hl [0, 1, 2, 3, 4, 5] rfl) (fun H locs ls hP hD hS hl => ?_)
    exact kk Z d H locs ls hd9 (hvY.we hIZ hZ.we) hP hD hS hl
