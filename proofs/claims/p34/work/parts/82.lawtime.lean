/-! the law: one step, one time -/
theorem dL_law_40 : decode cL_law 40 = .ok (.iload 4, 2) := by decide +kernel
theorem dL_law_42 : decode cL_law 42 = .ok (.iconst 4, 1) := by decide +kernel
theorem dL_law_43 : decode cL_law 43 = .ok (.if_icmp .ge 853, 3) := by decide +kernel
theorem dL_law_46 : decode cL_law 46 = .ok (.aload_n 2, 1) := by decide +kernel
theorem dL_law_47 : decode cL_law 47 = .ok (.invokevirtual 22, 3) := by decide +kernel
theorem dL_law_50 : decode cL_law 50 = .ok (.ifCond .ne 5, 3) := by decide +kernel
theorem dL_law_890 : decode cL_law 890 = .ok (.iinc 4 1, 3) := by decide +kernel
theorem dL_law_893 : decode cL_law 893 = .ok (.goto (-853), 3) := by decide +kernel
theorem dL_law_2 : decode cL_law 2 = .ok (.iload_n 1, 1) := by decide +kernel
theorem dL_law_3 : decode cL_law 3 = .ok (.iconst 3, 1) := by decide +kernel
theorem dL_law_4 : decode cL_law 4 = .ok (.if_icmp .ge 898, 3) := by decide +kernel
theorem dL_law_7 : decode cL_law 7 = .ok (.new 9, 3) := by decide +kernel
theorem dL_law_10 : decode cL_law 10 = .ok (.dup, 1) := by decide +kernel
theorem dL_law_11 : decode cL_law 11 = .ok (.aload_n 0, 1) := by decide +kernel
theorem dL_law_12 : decode cL_law 12 = .ok (.bipush 31, 2) := by decide +kernel
theorem dL_law_14 : decode cL_law 14 = .ok (.iload_n 1, 1) := by decide +kernel
theorem dL_law_15 : decode cL_law 15 = .ok (.imul, 1) := by decide +kernel
theorem dL_law_16 : decode cL_law 16 = .ok (.bipush 7, 2) := by decide +kernel
theorem dL_law_18 : decode cL_law 18 = .ok (.iadd, 1) := by decide +kernel
theorem dL_law_19 : decode cL_law 19 = .ok (.invokespecial 11, 3) := by decide +kernel
theorem dL_law_22 : decode cL_law 22 = .ok (.astore_n 2, 1) := by decide +kernel
theorem dL_law_23 : decode cL_law 23 = .ok (.aload_n 2, 1) := by decide +kernel
theorem dL_law_24 : decode cL_law 24 = .ok (.getfield 14, 3) := by decide +kernel
theorem dL_law_27 : decode cL_law 27 = .ok (.astore_n 3, 1) := by decide +kernel
theorem dL_law_28 : decode cL_law 28 = .ok (.aload_n 2, 1) := by decide +kernel
theorem dL_law_29 : decode cL_law 29 = .ok (.invokevirtual 18, 3) := by decide +kernel
theorem dL_law_32 : decode cL_law 32 = .ok (.ifCond .ne 5, 3) := by decide +kernel
theorem dL_law_37 : decode cL_law 37 = .ok (.iconst 0, 1) := by decide +kernel
theorem dL_law_38 : decode cL_law 38 = .ok (.istore 4, 2) := by decide +kernel
theorem dL_law_896 : decode cL_law 896 = .ok (.iinc 1 1, 3) := by decide +kernel
theorem dL_law_899 : decode cL_law 899 = .ok (.goto (-897), 3) := by decide +kernel
/-- a Hedge and what it was told, in some cells -/
def zHw (G : zG) (ad : Nat → Nat) (a0 D : Nat) (C : Nat → Nat → Int) (w : va_W) : Prop := ∃ (hd hr : Nat → Nat) (X : Nat → Nat → Int) (n dr : Nat) (la cl : Int) (R : Nat → Nat → Int), hd 0 = a0 ∧ dr ≤ D ∧ zHv X n la C R ∧ w = zhW G ad X hd hr n dr la cl C R
theorem zHr.hw {G : zG} {ad : Nat → Nat} {a0 D : Nat} {C : Nat → Nat → Int} {r : Option Value} {w : va_W} (h : zHr G ad a0 D C r w) : r = some (.int (zi 1)) ∧ zHw G ad a0 D C w := h
set_option maxHeartbeats 4000000 in
set_option maxRecDepth 100000 in
/-- one step: a change, and all checks behind it -/
theorem law_step {p : Program} {l : Launch} {e : Env} {s : State} {m : MethodId} {below : List Frame} {meth : Method} {c : Code} {A : Nat → Prop} {G : zG} {b : Nat} {Q : State → Prop} {cells slots : Nat} {H : Heap} {locs : List Loc} {ls : Array Slot} {tm : Int} {k g0 D : Nat} {ad : Nat → Nat} {C : Nat → Nat → Int} {w : va_W} (hx : p.tables.exec = Jvm.exec) (hb : c.code = cL_law) (hml : c.maxLocals = 19) (hown : s.vm.findClass RL = some m.cls) (hts : ∀ w ∈ wsL_law, w.before #[Value.ref b] s = true) (hA : ∀ q : Nat, s.heap.size ≤ q → A q) (hE : zZ G A s s.heap) (hc : cells ≤ 200000) (hn : slots ≤ 3000000) (hsl : zsl G ≤ 100000) (hD9 : D ≤ 60000) (hk : k < 4) (hw : zHw G ad g0 D C w) (hP : va_P G.1 vwCl w H) (hD : va_D A w) (hS : va_S A s.heap H locs) (hl : lv_has ls 19 [(0, .ref b), (1, .int (zi tm)), (2, .ref g0), (3, .ref (ad 52)), (4, .int (zi (k : Int)))])
    (kk : ∀ (w : va_W) (H : Heap) (locs : List Loc) (ls : Array Slot), zHw G ad g0 (D + 36) C w → va_P G.1 vwCl w H → va_D A w → va_S A s.heap H locs → lv_has ls 19 [(0, .ref b), (1, .int (zi tm)), (2, .ref g0), (3, .ref (ad 52)), (4, .int (zi ((k : Int) + 1)))] → W p l e room_1 s m #[Value.ref b] below meth c H locs (cells + 14) (slots + 108) Q (F0 m 40 ls [])) : W p l e room_1 s m #[Value.ref b] below meth c H locs cells slots Q (F0 m 40 ls []) := by
  obtain ⟨hd, hr, X, n, dr, la, cl, R, rfl, hdr, hv, rfl⟩ := hw
  refine lv_iload hx hb dL_law_40 (lv_at hl 4 rfl) ?_
  refine lv_iconst (v := zi 4) hx hb dL_law_42 rfl ?_
  refine zc_ge (tgt := 896) hx hb dL_law_43 (by decide) (by omega) (by decide) (fun h9 => by exfalso; omega) (fun h43 => ?_)
  refine lv_aload_n hx hb dL_law_46 rfl (lv_at hl 2 rfl) ?_
  refine zcall (wr := []) (wc := zhW G ad X hd hr n dr la cl C R) (va_runV (As := []) (rest := []) ⟨hx, hb, hml, hown, hts⟩ (k_X8_change l G ad hd hr X n dr la cl C R hsl (by omega) hv H.size) (cwV 0 hts gL_law_X8_change rfl rfl rfl (by decide +kernel) ⟨Nat.le_of_ble_eq_true rfl, Nat.le_of_ble_eq_true rfl⟩) (zPreV (As := []) (wr := []) (wc := zhW G ad X hd hr n dr la cl C R) (q0 := 0) (ci := 8) (q := (RX8, TX8, 10)) hP hD hE hS hA rfl rfl) rfl rfl hl.1 rfl (lv_room (Nat.le_of_ble_eq_true rfl)) dL_law_47 ⟨by show _ ≤ 600104; omega, by show _ ≤ 7301314; omega⟩) hP hD hS hA (fun _ _ H locs hf9 hP hD hS => ?_)
  obtain ⟨rfl, hd2, hr2, X2, n2, dr2, la2, cl2, R2, e2, hdr2, hv2, rfl⟩ := hf9
  have hP : va_P G.1 vwCl (zhW G ad X2 hd2 hr2 n2 dr2 la2 cl2 C R2) H := hP
  have hD : va_D A (zhW G ad X2 hd2 hr2 n2 dr2 la2 cl2 C R2) := hD
  have hl : lv_has ls 19 [(0, .ref b), (1, .int (zi tm)), (2, .ref (hd2 0)), (3, .ref (ad 52)), (4, .int (zi (k : Int)))] := by rw [e2]; exact hl
  refine W.eq (g2 := F0 m 50 ls [.int (zi 1)]) rfl ?_
  refine z0_ne (tgt := 55) hx hb dL_law_50 (by decide) (by decide) (fun h50 => ?_) (fun h9 => absurd h9 (by decide))
  refine law_body (tm := tm) (st := (k : Int)) (ad := ad) (hd := hd2) (hr := hr2) (X := X2) (n := n2) (dr := dr2) (la := la2) (cl := cl2) (C := C) (R := R2) hx hb hml hown hts hA hE (by omega) (by omega) hsl (by omega) hv2 hP hD hS hl (fun Y d H locs ls hd9 hvY hP hD hS hl => ?_)
  refine lv_iinc (v := zi ((k : Int) + 1)) (lv' := [(4, .int (zi ((k : Int) + 1))), (0, .ref b), (1, .int (zi tm)), (2, .ref (hd2 0)), (3, .ref (ad 52))]) hx hb dL_law_890 hl (k := 4) rfl (zi_add _ _) (by decide) rfl (fun ls hl => ?_)
  refine lv_goto (tgt := 40) hx hb dL_law_893 (by decide) ?_
  have hl : lv_has ls 19 [(4, .int (zi ((k : Int) + 1))), (0, .ref b), (1, .int (zi tm)), (2, .ref (hd 0)), (3, .ref (ad 52))] := by rw [← e2]; exact hl
  exact kk _ H locs ls ⟨hd2, hr2, Y, n2, d, la2, cl2, R2, e2, by omega, hvY, rfl⟩ hP hD hS (lv_sub hl [1, 2, 3, 4, 0] rfl)
set_option maxHeartbeats 4000000 in
set_option maxRecDepth 100000 in
/-- four steps -/
theorem law_steps {p : Program} {l : Launch} {e : Env} {s : State} {m : MethodId} {below : List Frame} {meth : Method} {c : Code} {A : Nat → Prop} {G : zG} {b : Nat} {Q : State → Prop} {cells slots : Nat} {H : Heap} {locs : List Loc} {ls : Array Slot} {tm : Int} {g0 D : Nat} {ad : Nat → Nat} {C : Nat → Nat → Int} {w : va_W} (hx : p.tables.exec = Jvm.exec) (hb : c.code = cL_law) (hml : c.maxLocals = 19) (hown : s.vm.findClass RL = some m.cls) (hts : ∀ w ∈ wsL_law, w.before #[Value.ref b] s = true) (hA : ∀ q : Nat, s.heap.size ≤ q → A q) (hE : zZ G A s s.heap) (hc : cells ≤ 100000) (hn : slots ≤ 2000000) (hsl : zsl G ≤ 100000) (hD9 : D ≤ 50000) (hw : zHw G ad g0 D C w) (hP : va_P G.1 vwCl w H) (hD : va_D A w) (hS : va_S A s.heap H locs) (hl : lv_has ls 19 [(0, .ref b), (1, .int (zi tm)), (2, .ref g0), (3, .ref (ad 52)), (4, .int (zi ((0 : Nat) : Int)))])
    (kk : ∀ (H : Heap) (locs : List Loc) (ls : Array Slot), va_S A s.heap H locs → lv_has ls 19 [(0, .ref b), (1, .int (zi tm))] → W p l e room_1 s m #[Value.ref b] below meth c H locs (cells + 56) (slots + 432) Q (F0 m 896 ls [])) : W p l e room_1 s m #[Value.ref b] below meth c H locs cells slots Q (F0 m 40 ls []) := by
  refine law_step (k := 0) hx hb hml hown hts hA hE (by omega) (by omega) hsl (by omega) (by decide) hw hP hD hS hl (fun w H locs ls hw hP hD hS hl => ?_)
  refine law_step (k := 1) hx hb hml hown hts hA hE (by omega) (by omega) hsl (by omega) (by decide) hw hP hD hS hl (fun w H locs ls hw hP hD hS hl => ?_)
  refine law_step (k := 2) hx hb hml hown hts hA hE (by omega) (by omega) hsl (by omega) (by decide) hw hP hD hS hl (fun w H locs ls hw hP hD hS hl => ?_)
  refine law_step (k := 3) hx hb hml hown hts hA hE (by omega) (by omega) hsl (by omega) (by decide) hw hP hD hS hl (fun w H locs ls hw hP hD hS hl => ?_)
  refine lv_iload hx hb dL_law_40 (lv_at hl 4 rfl) ?_
  refine lv_iconst (v := zi 4) hx hb dL_law_42 rfl ?_
  refine zc_ge (x := (((3 : Nat) : Int) + 1)) (tgt := 896) hx hb dL_law_43 (by decide) (by decide) (by decide) (fun h43 => ?_) (fun h9 => absurd (show (4 : Int) ≤ ((3 : Nat) : Int) + 1 by decide) (by omega))
  exact kk H locs ls hS (lv_sub hl [0, 1] rfl)
set_option maxHeartbeats 4000000 in
set_option maxRecDepth 100000 in
/-- one time: a new Hedge, and four steps -/
theorem law_time {p : Program} {l : Launch} {e : Env} {s : State} {m : MethodId} {below : List Frame} {meth : Method} {c : Code} {A : Nat → Prop} {G : zG} {b : Nat} {Q : State → Prop} {cells slots : Nat} {H : Heap} {locs : List Loc} {ls : Array Slot} {k : Nat} (hx : p.tables.exec = Jvm.exec) (hb : c.code = cL_law) (hml : c.maxLocals = 19) (hown : s.vm.findClass RL = some m.cls) (hts : ∀ w ∈ wsL_law, w.before #[Value.ref b] s = true) (hA : ∀ q : Nat, s.heap.size ≤ q → A q) (hE : zZ G A s s.heap) (hc : cells ≤ 50000) (hn : slots ≤ 1000000) (hsl : zsl G ≤ 100000) (hGb : zsb G = b) (hk : k < 3) (hS : va_S A s.heap H locs) (hl : lv_has ls 19 [(0, .ref b), (1, .int (zi (k : Int)))])
    (kk : ∀ (H : Heap) (locs : List Loc) (ls : Array Slot), va_S A s.heap H locs → lv_has ls 19 [(0, .ref b), (1, .int (zi ((k : Int) + 1)))] → W p l e room_1 s m #[Value.ref b] below meth c H locs (cells + 164) (slots + 6977) Q (F0 m 2 ls [])) : W p l e room_1 s m #[Value.ref b] below meth c H locs cells slots Q (F0 m 2 ls []) := by
  have hP : va_P G.1 vwCl [] H := fun k q h => by simp at h
  have hD : va_D A [] := ⟨fun i j p q h => by simp at h, fun k q h => by simp at h⟩
  have hw8 : ∀ w ∈ u_ws RX8 TX8 10, w ∈ wsL_law := inlX8
  have hcl9 := hts (.classLink RL 9 RX8) (by decide +kernel)
  have hisX8 := hts (.instantiable RX8 10) (by decide +kernel)
  have hiniX8 := hts (.initialized RX8) (by decide +kernel)
  have hml11 := hts (.methodLink RL 11 yX8_init) (by decide +kernel)
  have hinsX8_init := hts (.instanceMethod yX8_init) (by decide +kernel)
  have hf14 := hts (.fieldLink RL 14 "NettleLaw$Hedge" "m" "LNettle;") (by decide +kernel)
  refine lv_iload_n hx hb dL_law_2 rfl (lv_at hl 1 rfl) ?_
  refine lv_iconst (v := zi 3) hx hb dL_law_3 rfl ?_
  refine zc_ge (tgt := 902) hx hb dL_law_4 (by decide) (by omega) (by decide) (fun h9 => by exfalso; omega) (fun h4 => ?_)
  refine va_new (ci := 8) (fs := [.null, .null, .int (zi 0), .null, .null, .int (zi 0), .null, .int (zi 0), .int (zi 0), .null]) (C := RX8) (T := TX8) (N := 10) hx hb hts hw8 tyX8 tyX8_ok hown hcl9 hisX8 hiniX8 hE.1 hP hD hS hA rfl (fun j hj => by rcases (show j = 0 ∨ j = 1 ∨ j = 2 ∨ j = 3 ∨ j = 4 ∨ j = 5 ∨ j = 6 ∨ j = 7 ∨ j = 8 ∨ j = 9 by omega) with rfl | rfl | rfl | rfl | rfl | rfl | rfl | rfl | rfl | rfl <;> rfl) (by show _ ≤ 600104; omega) (by show _ ≤ 7301314; omega) dL_law_7 (fun q1 H hP hD hS => ?_)
  have hP : va_P G.1 vwCl [(q1, .inr (8, [.null, .null, .int (zi 0), .null, .null, .int (zi 0), .null, .int (zi 0), .int (zi 0), .null]))] H := hP
  have hD : va_D A [(q1, .inr (8, [.null, .null, .int (zi 0), .null, .null, .int (zi 0), .null, .int (zi 0), .int (zi 0), .null]))] := hD
  refine lv_dup hx hb dL_law_10 rfl ?_
  refine lv_aload_n hx hb dL_law_11 rfl (lv_at hl 0 rfl) ?_
  refine lv_bipush (v := zi 31) hx hb dL_law_12 (by decide +kernel) ?_
  refine lv_iload_n hx hb dL_law_14 rfl (lv_at hl 1 rfl) ?_
  refine lv_imul hx hb dL_law_15 (zti (v := zi (31 * (k : Int))) (zi_mul _ _) ?_)
  refine lv_bipush (v := zi 7) hx hb dL_law_16 (by decide +kernel) ?_
  refine lv_iadd hx hb dL_law_18 (zti (v := zi (31 * (k : Int) + 7)) (zi_add _ _) ?_)
  refine zti (v := zi ((31 * k + 7 : Nat) : Int)) (congrArg zi (by omega)) ?_
  have hci := k_X8_init l G q1 (31 * k + 7) hsl (by omega)
  rw [hGb] at hci
  refine zcall (wr := []) (wc := [(q1, .inr (8, [.null, .null, .int (zi 0), .null, .null, .int (zi 0), .null, .int (zi 0), .int (zi 0), .null]))]) (va_runI (As := [.ref b, .int (zi ((31 * k + 7 : Nat) : Int))]) (rest := [.ref q1]) ⟨hx, hb, hml, hown, hts⟩ (hci H.size) (cwI 2 hts gL_law_X8_init rfl rfl rfl hiniX8 hml11 hinsX8_init rfl (by decide +kernel) ⟨Nat.le_of_ble_eq_true rfl, Nat.le_of_ble_eq_true rfl⟩) (zPre (wr := []) (wc := [(q1, .inr (8, [.null, .null, .int (zi 0), .null, .null, .int (zi 0), .null, .int (zi 0), .int (zi 0), .null]))]) (As := [.ref q1, .ref b, .int (zi ((31 * k + 7 : Nat) : Int))]) hP hD hE hS hA).1 rfl rfl hl.1 rfl (lv_room (Nat.le_of_ble_eq_true rfl)) dL_law_19 ⟨by show _ ≤ 600104; omega, by show _ ≤ 7301314; omega⟩) hP hD hS hA (fun _ _ H locs hf9 hP2 hD2 hS => ?_)
  obtain ⟨rfl, ad, hd, hr, cl, C, R, e1, hC, rfl⟩ := hf9
  subst e1
  have hP : va_P G.1 vwCl (zhW G ad zX0 hd hr 0 (31 * k + 7 + 14) 0 0 C R) H := hP2
  have hD : va_D A (zhW G ad zX0 hd hr 0 (31 * k + 7 + 14) 0 0 C R) := hD2
  refine W.eq (g2 := F0 m 22 ls [.ref (hd 0)]) rfl ?_
  refine lv_astore_n (lv' := [(2, .ref (hd 0)), (0, .ref b), (1, .int (zi (k : Int)))]) hx hb dL_law_22 rfl hl (by decide) rfl (fun ls hl => ?_)
  refine lv_aload_n hx hb dL_law_23 rfl (lv_at hl 0 rfl) ?_
  refine va_get (D := G.1) (ci := 8) (v := .ref (ad 52)) (C := RX8) (T := TX8) (N := 10) hx hb hts hw8 hown hE.1 hP 0 (show (zhW G ad zX0 hd hr 0 (31 * k + 7 + 14) 0 0 C R)[0]? = some (hd 0, zho G (.ref (ad 52)) (31 * k + 7 + 14) (.ref (hd 1)) (.ref (hd 6)) (.int (zi 0)) (.ref (hd 7)) (.int (zi 0)) (.int (zi 0)) (.ref (hd 8))) from rfl) rfl 0 (by decide) hf14 (fun _ h9 => h9) rfl dL_law_24 ?_
  refine lv_astore_n (lv' := [(3, .ref (ad 52)), (2, .ref (hd 0)), (0, .ref b), (1, .int (zi (k : Int)))]) hx hb dL_law_27 rfl hl (by decide) rfl (fun ls hl => ?_)
  refine lv_aload_n hx hb dL_law_28 rfl (lv_at hl 1 rfl) ?_
  refine zcall (wr := []) (wc := zhW G ad zX0 hd hr 0 (31 * k + 7 + 14) 0 0 C R) (va_runV (As := []) (rest := []) ⟨hx, hb, hml, hown, hts⟩ (k_X8_found l G ad hd hr zX0 0 (31 * k + 7 + 14) 0 0 C R hsl (by omega) (zHv0 hC) H.size) (cwV 0 hts gL_law_X8_found rfl rfl rfl (by decide +kernel) ⟨Nat.le_of_ble_eq_true rfl, Nat.le_of_ble_eq_true rfl⟩) (zPreV (As := []) (wr := []) (wc := zhW G ad zX0 hd hr 0 (31 * k + 7 + 14) 0 0 C R) (q0 := 0) (ci := 8) (q := (RX8, TX8, 10)) hP hD hE hS hA rfl rfl) rfl rfl hl.1 rfl (lv_room (Nat.le_of_ble_eq_true rfl)) dL_law_29 ⟨by show _ ≤ 600104; omega, by show _ ≤ 7301314; omega⟩) hP hD hS hA (fun _ w H locs hf9 hP hD hS => ?_)
  obtain ⟨rfl, hw⟩ := hf9.hw
  have hP : va_P G.1 vwCl w H := hP
  have hD : va_D A w := hD
  refine W.eq (g2 := F0 m 32 ls [.int (zi 1)]) rfl ?_
  refine z0_ne (tgt := 37) hx hb dL_law_32 (by decide) (by decide) (fun h32 => ?_) (fun h9 => absurd h9 (by decide))
  refine lv_iconst (v := zi 0) hx hb dL_law_37 rfl ?_
  refine lv_istore (lv' := [(4, .int (zi 0)), (3, .ref (ad 52)), (2, .ref (hd 0)), (0, .ref b), (1, .int (zi (k : Int)))]) hx hb dL_law_38 hl (by decide) rfl (fun ls hl => ?_)
  refine law_steps (tm := (k : Int)) hx hb hml hown hts hA hE (by omega) (by omega) hsl (by omega) hw hP hD hS (lv_sub hl [3, 4, 2, 1, 0] rfl) (fun H locs ls hS hl => ?_)
  refine lv_iinc (v := zi ((k : Int) + 1)) (lv' := [(1, .int (zi ((k : Int) + 1))), (0, .ref b)]) hx hb dL_law_896 hl (k := 1) rfl (zi_add _ _) (by decide) rfl (fun ls hl => ?_)
  refine lv_goto (tgt := 2) hx hb dL_law_899 (by decide) ?_
  exact kk H locs ls hS (lv_sub hl [1, 0] rfl)
