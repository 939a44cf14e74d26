/-! the reference: what a packet is -/
theorem dX9_isPacket_0 : decode cX9_isPacket 0 = .ok (.aload_n 0, 1) := by decide +kernel
theorem dX9_isPacket_1 : decode cX9_isPacket 1 = .ok (.iconst 0, 1) := by decide +kernel
theorem dX9_isPacket_2 : decode cX9_isPacket 2 = .ok (.putfield 40, 3) := by decide +kernel
theorem dX9_isPacket_5 : decode cX9_isPacket 5 = .ok (.iconst 0, 1) := by decide +kernel
theorem dX9_isPacket_6 : decode cX9_isPacket 6 = .ok (.istore_n 2, 1) := by decide +kernel
theorem dX9_isPacket_7 : decode cX9_isPacket 7 = .ok (.iload_n 2, 1) := by decide +kernel
theorem dX9_isPacket_8 : decode cX9_isPacket 8 = .ok (.iconst 4, 1) := by decide +kernel
theorem dX9_isPacket_9 : decode cX9_isPacket 9 = .ok (.if_icmp .ge 30, 3) := by decide +kernel
theorem dX9_isPacket_12 : decode cX9_isPacket 12 = .ok (.aload_n 1, 1) := by decide +kernel
theorem dX9_isPacket_13 : decode cX9_isPacket 13 = .ok (.iload_n 2, 1) := by decide +kernel
theorem dX9_isPacket_14 : decode cX9_isPacket 14 = .ok (.iaload, 1) := by decide +kernel
theorem dX9_isPacket_15 : decode cX9_isPacket 15 = .ok (.iconst 0, 1) := by decide +kernel
theorem dX9_isPacket_16 : decode cX9_isPacket 16 = .ok (.iload_n 2, 1) := by decide +kernel
set_option maxRecDepth 20000 in
theorem ggX9_isPacket_X9_values : GoodIn wsX9_isPacket wsX9_values := goodIn_r _ [5] (by decide +kernel) (by decide +kernel)
set_option maxRecDepth 20000 in
theorem gX9_isPacket_X9_values : GoodIn wsX9_isPacket (va_wsS RX9 61 yX9_values wsX9_values) := goodIn_app (goodIn_of _ (by decide +kernel)) ggX9_isPacket_X9_values
theorem dX9_isPacket_17 : decode cX9_isPacket 17 = .ok (.invokestatic 61, 3) := by decide +kernel
theorem dX9_isPacket_20 : decode cX9_isPacket 20 = .ok (.iconst 1, 1) := by decide +kernel
theorem dX9_isPacket_21 : decode cX9_isPacket 21 = .ok (.isub, 1) := by decide +kernel
set_option maxRecDepth 20000 in
theorem ggX9_isPacket_X9_isIn : GoodIn wsX9_isPacket wsX9_isIn := goodIn_r _ [8] (by decide +kernel) (by decide +kernel)
set_option maxRecDepth 20000 in
theorem gX9_isPacket_X9_isIn : GoodIn wsX9_isPacket (va_wsS RX9 86 yX9_isIn wsX9_isIn) := goodIn_app (goodIn_of _ (by decide +kernel)) ggX9_isPacket_X9_isIn
theorem dX9_isPacket_22 : decode cX9_isPacket 22 = .ok (.invokestatic 86, 3) := by decide +kernel
theorem dX9_isPacket_25 : decode cX9_isPacket 25 = .ok (.ifCond .ne 8, 3) := by decide +kernel
theorem dX9_isPacket_33 : decode cX9_isPacket 33 = .ok (.iinc 2 1, 3) := by decide +kernel
theorem dX9_isPacket_36 : decode cX9_isPacket 36 = .ok (.goto (-29), 3) := by decide +kernel
theorem dX9_isPacket_39 : decode cX9_isPacket 39 = .ok (.aload_n 0, 1) := by decide +kernel
theorem dX9_isPacket_40 : decode cX9_isPacket 40 = .ok (.getfield 40, 3) := by decide +kernel
theorem dX9_isPacket_43 : decode cX9_isPacket 43 = .ok (.ifCond .ne 7, 3) := by decide +kernel
theorem dX9_isPacket_46 : decode cX9_isPacket 46 = .ok (.iconst 1, 1) := by decide +kernel
theorem dX9_isPacket_47 : decode cX9_isPacket 47 = .ok (.goto 4, 3) := by decide +kernel
theorem dX9_isPacket_51 : decode cX9_isPacket 51 = .ok (.ireturn, 1) := by decide +kernel
theorem dX9_isPacket_50 : decode cX9_isPacket 50 = .ok (.iconst 0, 1) := by decide +kernel
theorem dX9_isPacket_28 : decode cX9_isPacket 28 = .ok (.aload_n 0, 1) := by decide +kernel
theorem dX9_isPacket_29 : decode cX9_isPacket 29 = .ok (.iconst 1, 1) := by decide +kernel
theorem dX9_isPacket_30 : decode cX9_isPacket 30 = .ok (.putfield 40, 3) := by decide +kernel
set_option maxHeartbeats 4000000 in
set_option maxRecDepth 100000 in
theorem z_X9_isPacket (l : Launch) (G : zG) (mm : Nat) (nw : Nat) (cq : Nat) (hi : Nat) (ko : Nat) (se : Nat) (nf : Nat) (ns : Nat) (pi : Nat) (th : Int32) (pa : Nat) (p0 : Int32) (p1 : Int32) (p2 : Int32) (p3 : Int32) (hok : zOk p0 p1 p2 p3) : zR l G yX9_isPacket wsX9_isPacket { frames := 1, cells := 0, slots := 0, locals := 22 } [(mm, .inr (9, [.int th, .ref nw, .ref cq, .ref hi, .int 0, .ref ko, .ref se, .int 0, .ref nf, .ref ns, .ref pi])), (pa, .inl (G.2.1, 4, .inl (upd (upd (upd (upd (fun _ => 0) 0 p0) 1 p1) 2 p2) 3 p3)))] [.ref mm, .ref pa] (some (.int 1)) (fun u => [(mm, .inr (9, [.int 0, .ref nw, .ref cq, .ref hi, .int 0, .ref ko, .ref se, .int 0, .ref nf, .ref ns, .ref pi])), (pa, .inl (G.2.1, 4, .inl (upd (upd (upd (upd (fun _ => 0) 0 p0) 1 p1) 2 p2) 3 p3)))]) 0 0 := by
  refine zR_of (cc := cX9_isPacket) (maxL := 3) (rt := (some .boolean)) (by decide) rfl (Nat.le_of_ble_eq_true rfl) ?_
  intro p e s m below meth c A ls hx hb hml hr hts hown hlocks hin hA hE hP hD hS hl
  have hl : lv_has ls 3 [(0, .ref mm), (1, .ref pa)] := hl
  have hown : s.vm.findClass RX9 = some m.cls := hown
  have hP : va_P G.1 vwCl [(mm, .inr (9, [.int th, .ref nw, .ref cq, .ref hi, .int 0, .ref ko, .ref se, .int 0, .ref nf, .ref ns, .ref pi])), (pa, .inl (G.2.1, 4, .inl (upd (upd (upd (upd (fun _ => 0) 0 p0) 1 p1) 2 p2) 3 p3)))] s.heap := hP
  have hw9 : ∀ w ∈ u_ws RX9 TX9 11, w ∈ wsX9_isPacket := by decide +kernel
  have hf40 := hts (.fieldLink RX9 40 "NettleModel" "thrown" "I") (by decide +kernel)
  refine lv_aload_n hx hb dX9_isPacket_0 rfl (lv_at hl 0 rfl) ?_
  refine lv_iconst (v := 0) hx hb dX9_isPacket_1 (by decide) ?_
  refine va_put (D := G.1) (ci := 9) (v := .int 0) (ty := tyX9 0) (C := RX9) (T := TX9) (N := 11) hx hb hts hw9 tyX9 tyX9_ok nmX9 hown hE.1 hP hD hS 0 rfl rfl 0 (by decide) hf40 (fun _ h9 => h9) rfl (by decide +kernel) rfl rfl (Nat.le_of_ble_eq_true rfl) dX9_isPacket_2 (fun H locs hP hD hS => ?_)
  have hP : va_P G.1 vwCl [(mm, .inr (9, [.int 0, .ref nw, .ref cq, .ref hi, .int 0, .ref ko, .ref se, .int 0, .ref nf, .ref ns, .ref pi])), (pa, .inl (G.2.1, 4, .inl (upd (upd (upd (upd (fun _ => 0) 0 p0) 1 p1) 2 p2) 3 p3)))] H := hP
  have hD : va_D A [(mm, .inr (9, [.int 0, .ref nw, .ref cq, .ref hi, .int 0, .ref ko, .ref se, .int 0, .ref nf, .ref ns, .ref pi])), (pa, .inl (G.2.1, 4, .inl (upd (upd (upd (upd (fun _ => 0) 0 p0) 1 p1) 2 p2) 3 p3)))] := hD
  refine lv_iconst (v := 0) hx hb dX9_isPacket_5 (by decide) ?_
  refine lv_istore_n (lv' := [(2, .int 0), (0, .ref mm), (1, .ref pa)]) hx hb dX9_isPacket_6 rfl hl (by decide) rfl (fun ls hl => ?_)
  refine lv_iload_n hx hb dX9_isPacket_7 rfl (lv_at hl 0 rfl) ?_
  refine lv_iconst (v := 4) hx hb dX9_isPacket_8 (by decide) ?_
  refine lv_icmp_ge (tgt := 39) hx hb dX9_isPacket_9 (by decide) (fun h9 => absurd h9 (by decide)) (fun _ => ?_)
  refine lv_aload_n hx hb dX9_isPacket_12 rfl (lv_at hl 2 rfl) ?_
  refine lv_iload_n hx hb dX9_isPacket_13 rfl (lv_at hl 0 rfl) ?_
  refine va_iald hx hb hE.1 hP 1 0 rfl rfl (zin (by decide +kernel)) dX9_isPacket_14 ?_
  refine zti (v := p0) rfl ?_
  refine lv_iconst (v := 0) hx hb dX9_isPacket_15 (by decide) ?_
  refine lv_iload_n hx hb dX9_isPacket_16 rfl (lv_at hl 0 rfl) ?_
  refine zcall (wr := [(mm, .inr (9, [.int 0, .ref nw, .ref cq, .ref hi, .int 0, .ref ko, .ref se, .int 0, .ref nf, .ref ns, .ref pi])), (pa, .inl (G.2.1, 4, .inl (upd (upd (upd (upd (fun _ => 0) 0 p0) 1 p1) 2 p2) 3 p3)))]) (va_runS (As := [.int 0]) (rest := [.int 0, .int p0]) ⟨hx, hb, hml, hown, hts⟩ (z_X9_values0 l G H.size) (va_cwS 1 hts gX9_isPacket_X9_values rfl rfl rfl (by decide +kernel) ⟨Nat.le_of_ble_eq_true rfl, Nat.le_of_ble_eq_true rfl⟩) (zPre (Wc := []) hP hD hE hS hA [] rfl (by decide)) rfl rfl hl.1 rfl (lv_room (Nat.le_of_ble_eq_true rfl)) dX9_isPacket_17 ⟨Nat.le_of_ble_eq_true rfl, Nat.le_of_ble_eq_true rfl⟩) hP hD hS hA [] [0, 1] rfl rfl (by decide) (by decide) (fun u1 H locs hP hD hS => ?_)
  have hP : va_P G.1 vwCl [(mm, .inr (9, [.int 0, .ref nw, .ref cq, .ref hi, .int 0, .ref ko, .ref se, .int 0, .ref nf, .ref ns, .ref pi])), (pa, .inl (G.2.1, 4, .inl (upd (upd (upd (upd (fun _ => 0) 0 p0) 1 p1) 2 p2) 3 p3)))] H := hP
  have hD : va_D A [(mm, .inr (9, [.int 0, .ref nw, .ref cq, .ref hi, .int 0, .ref ko, .ref se, .int 0, .ref nf, .ref ns, .ref pi])), (pa, .inl (G.2.1, 4, .inl (upd (upd (upd (upd (fun _ => 0) 0 p0) 1 p1) 2 p2) 3 p3)))] := hD
  refine W.eq (g2 := F0 m 20 ls [.int 256, .int 0, .int p0]) rfl ?_
  refine lv_iconst (v := 1) hx hb dX9_isPacket_20 (by decide) ?_
  refine lv_isub hx hb dX9_isPacket_21 ?_
  refine zti (v := 255) (by decide) ?_
  refine zcall (wr := [(mm, .inr (9, [.int 0, .ref nw, .ref cq, .ref hi, .int 0, .ref ko, .ref se, .int 0, .ref nf, .ref ns, .ref pi])), (pa, .inl (G.2.1, 4, .inl (upd (upd (upd (upd (fun _ => 0) 0 p0) 1 p1) 2 p2) 3 p3)))]) (va_runS (As := [.int p0, .int 0, .int 255]) (rest := []) ⟨hx, hb, hml, hown, hts⟩ (z_X9_isIn l G p0 0 255 hok.1.1.1 (zl255 hok.1.1.2) H.size) (va_cwS 3 hts gX9_isPacket_X9_isIn rfl rfl rfl (by decide +kernel) ⟨Nat.le_of_ble_eq_true rfl, Nat.le_of_ble_eq_true rfl⟩) (zPre (Wc := []) hP hD hE hS hA [] rfl (by decide)) rfl rfl hl.1 rfl (lv_room (Nat.le_of_ble_eq_true rfl)) dX9_isPacket_22 ⟨Nat.le_of_ble_eq_true rfl, Nat.le_of_ble_eq_true rfl⟩) hP hD hS hA [] [0, 1] rfl rfl (by decide) (by decide) (fun u2 H locs hP hD hS => ?_)
  have hP : va_P G.1 vwCl [(mm, .inr (9, [.int 0, .ref nw, .ref cq, .ref hi, .int 0, .ref ko, .ref se, .int 0, .ref nf, .ref ns, .ref pi])), (pa, .inl (G.2.1, 4, .inl (upd (upd (upd (upd (fun _ => 0) 0 p0) 1 p1) 2 p2) 3 p3)))] H := hP
  have hD : va_D A [(mm, .inr (9, [.int 0, .ref nw, .ref cq, .ref hi, .int 0, .ref ko, .ref se, .int 0, .ref nf, .ref ns, .ref pi])), (pa, .inl (G.2.1, 4, .inl (upd (upd (upd (upd (fun _ => 0) 0 p0) 1 p1) 2 p2) 3 p3)))] := hD
  refine W.eq (g2 := F0 m 25 ls [.int 1]) rfl ?_
  refine lv_if_ne (tgt := 33) hx hb dX9_isPacket_25 (by decide) (fun _ => ?_) (fun h9 => absurd h9 (by decide))
  refine lv_iinc (v := 1) (lv' := [(2, .int 1), (0, .ref mm), (1, .ref pa)]) hx hb dX9_isPacket_33 hl (k := 0) rfl (by decide) (by decide) rfl (fun ls hl => ?_)
  refine lv_goto (tgt := 7) hx hb dX9_isPacket_36 (by decide) ?_
  refine lv_iload_n hx hb dX9_isPacket_7 rfl (lv_at hl 0 rfl) ?_
  refine lv_iconst (v := 4) hx hb dX9_isPacket_8 (by decide) ?_
  refine lv_icmp_ge (tgt := 39) hx hb dX9_isPacket_9 (by decide) (fun h9 => absurd h9 (by decide)) (fun _ => ?_)
  refine lv_aload_n hx hb dX9_isPacket_12 rfl (lv_at hl 2 rfl) ?_
  refine lv_iload_n hx hb dX9_isPacket_13 rfl (lv_at hl 0 rfl) ?_
  refine va_iald hx hb hE.1 hP 1 0 rfl rfl (zin (by decide +kernel)) dX9_isPacket_14 ?_
  refine zti (v := p1) rfl ?_
  refine lv_iconst (v := 0) hx hb dX9_isPacket_15 (by decide) ?_
  refine lv_iload_n hx hb dX9_isPacket_16 rfl (lv_at hl 0 rfl) ?_
  refine zcall (wr := [(mm, .inr (9, [.int 0, .ref nw, .ref cq, .ref hi, .int 0, .ref ko, .ref se, .int 0, .ref nf, .ref ns, .ref pi])), (pa, .inl (G.2.1, 4, .inl (upd (upd (upd (upd (fun _ => 0) 0 p0) 1 p1) 2 p2) 3 p3)))]) (va_runS (As := [.int 1]) (rest := [.int 0, .int p1]) ⟨hx, hb, hml, hown, hts⟩ (z_X9_values1 l G H.size) (va_cwS 1 hts gX9_isPacket_X9_values rfl rfl rfl (by decide +kernel) ⟨Nat.le_of_ble_eq_true rfl, Nat.le_of_ble_eq_true rfl⟩) (zPre (Wc := []) hP hD hE hS hA [] rfl (by decide)) rfl rfl hl.1 rfl (lv_room (Nat.le_of_ble_eq_true rfl)) dX9_isPacket_17 ⟨Nat.le_of_ble_eq_true rfl, Nat.le_of_ble_eq_true rfl⟩) hP hD hS hA [] [0, 1] rfl rfl (by decide) (by decide) (fun u3 H locs hP hD hS => ?_)
  have hP : va_P G.1 vwCl [(mm, .inr (9, [.int 0, .ref nw, .ref cq, .ref hi, .int 0, .ref ko, .ref se, .int 0, .ref nf, .ref ns, .ref pi])), (pa, .inl (G.2.1, 4, .inl (upd (upd (upd (upd (fun _ => 0) 0 p0) 1 p1) 2 p2) 3 p3)))] H := hP
  have hD : va_D A [(mm, .inr (9, [.int 0, .ref nw, .ref cq, .ref hi, .int 0, .ref ko, .ref se, .int 0, .ref nf, .ref ns, .ref pi])), (pa, .inl (G.2.1, 4, .inl (upd (upd (upd (upd (fun _ => 0) 0 p0) 1 p1) 2 p2) 3 p3)))] := hD
  refine W.eq (g2 := F0 m 20 ls [.int 256, .int 0, .int p1]) rfl ?_
  refine lv_iconst (v := 1) hx hb dX9_isPacket_20 (by decide) ?_
  refine lv_isub hx hb dX9_isPacket_21 ?_
  refine zti (v := 255) (by decide) ?_
  refine zcall (wr := [(mm, .inr (9, [.int 0, .ref nw, .ref cq, .ref hi, .int 0, .ref ko, .ref se, .int 0, .ref nf, .ref ns, .ref pi])), (pa, .inl (G.2.1, 4, .inl (upd (upd (upd (upd (fun _ => 0) 0 p0) 1 p1) 2 p2) 3 p3)))]) (va_runS (As := [.int p1, .int 0, .int 255]) (rest := []) ⟨hx, hb, hml, hown, hts⟩ (z_X9_isIn l G p1 0 255 hok.1.2.1 (zl255 hok.1.2.2) H.size) (va_cwS 3 hts gX9_isPacket_X9_isIn rfl rfl rfl (by decide +kernel) ⟨Nat.le_of_ble_eq_true rfl, Nat.le_of_ble_eq_true rfl⟩) (zPre (Wc := []) hP hD hE hS hA [] rfl (by decide)) rfl rfl hl.1 rfl (lv_room (Nat.le_of_ble_eq_true rfl)) dX9_isPacket_22 ⟨Nat.le_of_ble_eq_true rfl, Nat.le_of_ble_eq_true rfl⟩) hP hD hS hA [] [0, 1] rfl rfl (by decide) (by decide) (fun u4 H locs hP hD hS => ?_)
  have hP : va_P G.1 vwCl [(mm, .inr (9, [.int 0, .ref nw, .ref cq, .ref hi, .int 0, .ref ko, .ref se, .int 0, .ref nf, .ref ns, .ref pi])), (pa, .inl (G.2.1, 4, .inl (upd (upd (upd (upd (fun _ => 0) 0 p0) 1 p1) 2 p2) 3 p3)))] H := hP
  have hD : va_D A [(mm, .inr (9, [.int 0, .ref nw, .ref cq, .ref hi, .int 0, .ref ko, .ref se, .int 0, .ref nf, .ref ns, .ref pi])), (pa, .inl (G.2.1, 4, .inl (upd (upd (upd (upd (fun _ => 0) 0 p0) 1 p1) 2 p2) 3 p3)))] := hD
  refine W.eq (g2 := F0 m 25 ls [.int 1]) rfl ?_
  refine lv_if_ne (tgt := 33) hx hb dX9_isPacket_25 (by decide) (fun _ => ?_) (fun h9 => absurd h9 (by decide))
  refine lv_iinc (v := 2) (lv' := [(2, .int 2), (0, .ref mm), (1, .ref pa)]) hx hb dX9_isPacket_33 hl (k := 0) rfl (by decide) (by decide) rfl (fun ls hl => ?_)
  refine lv_goto (tgt := 7) hx hb dX9_isPacket_36 (by decide) ?_
  refine lv_iload_n hx hb dX9_isPacket_7 rfl (lv_at hl 0 rfl) ?_
  refine lv_iconst (v := 4) hx hb dX9_isPacket_8 (by decide) ?_
  refine lv_icmp_ge (tgt := 39) hx hb dX9_isPacket_9 (by decide) (fun h9 => absurd h9 (by decide)) (fun _ => ?_)
  refine lv_aload_n hx hb dX9_isPacket_12 rfl (lv_at hl 2 rfl) ?_
  refine lv_iload_n hx hb dX9_isPacket_13 rfl (lv_at hl 0 rfl) ?_
  refine va_iald hx hb hE.1 hP 1 0 rfl rfl (zin (by decide +kernel)) dX9_isPacket_14 ?_
  refine zti (v := p2) rfl ?_
  refine lv_iconst (v := 0) hx hb dX9_isPacket_15 (by decide) ?_
  refine lv_iload_n hx hb dX9_isPacket_16 rfl (lv_at hl 0 rfl) ?_
  refine zcall (wr := [(mm, .inr (9, [.int 0, .ref nw, .ref cq, .ref hi, .int 0, .ref ko, .ref se, .int 0, .ref nf, .ref ns, .ref pi])), (pa, .inl (G.2.1, 4, .inl (upd (upd (upd (upd (fun _ => 0) 0 p0) 1 p1) 2 p2) 3 p3)))]) (va_runS (As := [.int 2]) (rest := [.int 0, .int p2]) ⟨hx, hb, hml, hown, hts⟩ (z_X9_values2 l G H.size) (va_cwS 1 hts gX9_isPacket_X9_values rfl rfl rfl (by decide +kernel) ⟨Nat.le_of_ble_eq_true rfl, Nat.le_of_ble_eq_true rfl⟩) (zPre (Wc := []) hP hD hE hS hA [] rfl (by decide)) rfl rfl hl.1 rfl (lv_room (Nat.le_of_ble_eq_true rfl)) dX9_isPacket_17 ⟨Nat.le_of_ble_eq_true rfl, Nat.le_of_ble_eq_true rfl⟩) hP hD hS hA [] [0, 1] rfl rfl (by decide) (by decide) (fun u5 H locs hP hD hS => ?_)
  have hP : va_P G.1 vwCl [(mm, .inr (9, [.int 0, .ref nw, .ref cq, .ref hi, .int 0, .ref ko, .ref se, .int 0, .ref nf, .ref ns, .ref pi])), (pa, .inl (G.2.1, 4, .inl (upd (upd (upd (upd (fun _ => 0) 0 p0) 1 p1) 2 p2) 3 p3)))] H := hP
  have hD : va_D A [(mm, .inr (9, [.int 0, .ref nw, .ref cq, .ref hi, .int 0, .ref ko, .ref se, .int 0, .ref nf, .ref ns, .ref pi])), (pa, .inl (G.2.1, 4, .inl (upd (upd (upd (upd (fun _ => 0) 0 p0) 1 p1) 2 p2) 3 p3)))] := hD
  refine W.eq (g2 := F0 m 20 ls [.int 1024, .int 0, .int p2]) rfl ?_
  refine lv_iconst (v := 1) hx hb dX9_isPacket_20 (by decide) ?_
  refine lv_isub hx hb dX9_isPacket_21 ?_
  refine zti (v := 1023) (by decide) ?_
  refine zcall (wr := [(mm, .inr (9, [.int 0, .ref nw, .ref cq, .ref hi, .int 0, .ref ko, .ref se, .int 0, .ref nf, .ref ns, .ref pi])), (pa, .inl (G.2.1, 4, .inl (upd (upd (upd (upd (fun _ => 0) 0 p0) 1 p1) 2 p2) 3 p3)))]) (va_runS (As := [.int p2, .int 0, .int 1023]) (rest := []) ⟨hx, hb, hml, hown, hts⟩ (z_X9_isIn l G p2 0 1023 hok.2.1.1 (zl1023 hok.2.1.2) H.size) (va_cwS 3 hts gX9_isPacket_X9_isIn rfl rfl rfl (by decide +kernel) ⟨Nat.le_of_ble_eq_true rfl, Nat.le_of_ble_eq_true rfl⟩) (zPre (Wc := []) hP hD hE hS hA [] rfl (by decide)) rfl rfl hl.1 rfl (lv_room (Nat.le_of_ble_eq_true rfl)) dX9_isPacket_22 ⟨Nat.le_of_ble_eq_true rfl, Nat.le_of_ble_eq_true rfl⟩) hP hD hS hA [] [0, 1] rfl rfl (by decide) (by decide) (fun u6 H locs hP hD hS => ?_)
  have hP : va_P G.1 vwCl [(mm, .inr (9, [.int 0, .ref nw, .ref cq, .ref hi, .int 0, .ref ko, .ref se, .int 0, .ref nf, .ref ns, .ref pi])), (pa, .inl (G.2.1, 4, .inl (upd (upd (upd (upd (fun _ => 0) 0 p0) 1 p1) 2 p2) 3 p3)))] H := hP
  have hD : va_D A [(mm, .inr (9, [.int 0, .ref nw, .ref cq, .ref hi, .int 0, .ref ko, .ref se, .int 0, .ref nf, .ref ns, .ref pi])), (pa, .inl (G.2.1, 4, .inl (upd (upd (upd (upd (fun _ => 0) 0 p0) 1 p1) 2 p2) 3 p3)))] := hD
  refine W.eq (g2 := F0 m 25 ls [.int 1]) rfl ?_
  refine lv_if_ne (tgt := 33) hx hb dX9_isPacket_25 (by decide) (fun _ => ?_) (fun h9 => absurd h9 (by decide))
  refine lv_iinc (v := 3) (lv' := [(2, .int 3), (0, .ref mm), (1, .ref pa)]) hx hb dX9_isPacket_33 hl (k := 0) rfl (by decide) (by decide) rfl (fun ls hl => ?_)
  refine lv_goto (tgt := 7) hx hb dX9_isPacket_36 (by decide) ?_
  refine lv_iload_n hx hb dX9_isPacket_7 rfl (lv_at hl 0 rfl) ?_
  refine lv_iconst (v := 4) hx hb dX9_isPacket_8 (by decide) ?_
  refine lv_icmp_ge (tgt := 39) hx hb dX9_isPacket_9 (by decide) (fun h9 => absurd h9 (by decide)) (fun _ => ?_)
  refine lv_aload_n hx hb dX9_isPacket_12 rfl (lv_at hl 2 rfl) ?_
  refine lv_iload_n hx hb dX9_isPacket_13 rfl (lv_at hl 0 rfl) ?_
  refine va_iald hx hb hE.1 hP 1 0 rfl rfl (zin (by decide +kernel)) dX9_isPacket_14 ?_
  refine zti (v := p3) rfl ?_
  refine lv_iconst (v := 0) hx hb dX9_isPacket_15 (by decide) ?_
  refine lv_iload_n hx hb dX9_isPacket_16 rfl (lv_at hl 0 rfl) ?_
  refine zcall (wr := [(mm, .inr (9, [.int 0, .ref nw, .ref cq, .ref hi, .int 0, .ref ko, .ref se, .int 0, .ref nf, .ref ns, .ref pi])), (pa, .inl (G.2.1, 4, .inl (upd (upd (upd (upd (fun _ => 0) 0 p0) 1 p1) 2 p2) 3 p3)))]) (va_runS (As := [.int 3]) (rest := [.int 0, .int p3]) ⟨hx, hb, hml, hown, hts⟩ (z_X9_values3 l G H.size) (va_cwS 1 hts gX9_isPacket_X9_values rfl rfl rfl (by decide +kernel) ⟨Nat.le_of_ble_eq_true rfl, Nat.le_of_ble_eq_true rfl⟩) (zPre (Wc := []) hP hD hE hS hA [] rfl (by decide)) rfl rfl hl.1 rfl (lv_room (Nat.le_of_ble_eq_true rfl)) dX9_isPacket_17 ⟨Nat.le_of_ble_eq_true rfl, Nat.le_of_ble_eq_true rfl⟩) hP hD hS hA [] [0, 1] rfl rfl (by decide) (by decide) (fun u7 H locs hP hD hS => ?_)
  have hP : va_P G.1 vwCl [(mm, .inr (9, [.int 0, .ref nw, .ref cq, .ref hi, .int 0, .ref ko, .ref se, .int 0, .ref nf, .ref ns, .ref pi])), (pa, .inl (G.2.1, 4, .inl (upd (upd (upd (upd (fun _ => 0) 0 p0) 1 p1) 2 p2) 3 p3)))] H := hP
  have hD : va_D A [(mm, .inr (9, [.int 0, .ref nw, .ref cq, .ref hi, .int 0, .ref ko, .ref se, .int 0, .ref nf, .ref ns, .ref pi])), (pa, .inl (G.2.1, 4, .inl (upd (upd (upd (upd (fun _ => 0) 0 p0) 1 p1) 2 p2) 3 p3)))] := hD
  refine W.eq (g2 := F0 m 20 ls [.int 4, .int 0, .int p3]) rfl ?_
  refine lv_iconst (v := 1) hx hb dX9_isPacket_20 (by decide) ?_
  refine lv_isub hx hb dX9_isPacket_21 ?_
  refine zti (v := 3) (by decide) ?_
  refine zcall (wr := [(mm, .inr (9, [.int 0, .ref nw, .ref cq, .ref hi, .int 0, .ref ko, .ref se, .int 0, .ref nf, .ref ns, .ref pi])), (pa, .inl (G.2.1, 4, .inl (upd (upd (upd (upd (fun _ => 0) 0 p0) 1 p1) 2 p2) 3 p3)))]) (va_runS (As := [.int p3, .int 0, .int 3]) (rest := []) ⟨hx, hb, hml, hown, hts⟩ (z_X9_isIn l G p3 0 3 hok.2.2.1 (zl3 hok.2.2.2) H.size) (va_cwS 3 hts gX9_isPacket_X9_isIn rfl rfl rfl (by decide +kernel) ⟨Nat.le_of_ble_eq_true rfl, Nat.le_of_ble_eq_true rfl⟩) (zPre (Wc := []) hP hD hE hS hA [] rfl (by decide)) rfl rfl hl.1 rfl (lv_room (Nat.le_of_ble_eq_true rfl)) dX9_isPacket_22 ⟨Nat.le_of_ble_eq_true rfl, Nat.le_of_ble_eq_true rfl⟩) hP hD hS hA [] [0, 1] rfl rfl (by decide) (by decide) (fun u8 H locs hP hD hS => ?_)
  have hP : va_P G.1 vwCl [(mm, .inr (9, [.int 0, .ref nw, .ref cq, .ref hi, .int 0, .ref ko, .ref se, .int 0, .ref nf, .ref ns, .ref pi])), (pa, .inl (G.2.1, 4, .inl (upd (upd (upd (upd (fun _ => 0) 0 p0) 1 p1) 2 p2) 3 p3)))] H := hP
  have hD : va_D A [(mm, .inr (9, [.int 0, .ref nw, .ref cq, .ref hi, .int 0, .ref ko, .ref se, .int 0, .ref nf, .ref ns, .ref pi])), (pa, .inl (G.2.1, 4, .inl (upd (upd (upd (upd (fun _ => 0) 0 p0) 1 p1) 2 p2) 3 p3)))] := hD
  refine W.eq (g2 := F0 m 25 ls [.int 1]) rfl ?_
  refine lv_if_ne (tgt := 33) hx hb dX9_isPacket_25 (by decide) (fun _ => ?_) (fun h9 => absurd h9 (by decide))
  refine lv_iinc (v := 4) (lv' := [(2, .int 4), (0, .ref mm), (1, .ref pa)]) hx hb dX9_isPacket_33 hl (k := 0) rfl (by decide) (by decide) rfl (fun ls hl => ?_)
  refine lv_goto (tgt := 7) hx hb dX9_isPacket_36 (by decide) ?_
  refine lv_iload_n hx hb dX9_isPacket_7 rfl (lv_at hl 0 rfl) ?_
  refine lv_iconst (v := 4) hx hb dX9_isPacket_8 (by decide) ?_
  refine lv_icmp_ge (tgt := 39) hx hb dX9_isPacket_9 (by decide) (fun _ => ?_) (fun h9 => absurd (by decide) h9)
  refine lv_aload_n hx hb dX9_isPacket_39 rfl (lv_at hl 1 rfl) ?_
  refine va_get (D := G.1) (ci := 9) (v := .int 0) (C := RX9) (T := TX9) (N := 11) hx hb hts hw9 hown hE.1 hP 0 rfl rfl 0 (by decide) hf40 (fun _ h9 => h9) rfl dX9_isPacket_40 ?_
  refine lv_if_ne (tgt := 50) hx hb dX9_isPacket_43 (by decide) (fun h9 => absurd (by decide) h9) (fun _ => ?_)
  refine lv_iconst (v := 1) hx hb dX9_isPacket_46 (by decide) ?_
  refine lv_goto (tgt := 51) hx hb dX9_isPacket_47 (by decide) ?_
  exact zend_z hx hb hr hlocks rfl (fun k => [].getD k 0) hP hD hS (Nat.le_of_ble_eq_true rfl) (Nat.le_of_ble_eq_true rfl) dX9_isPacket_51

set_option maxHeartbeats 4000000 in
set_option maxRecDepth 100000 in
/-- a packet that is none: thrown is 1 behind it, whichever value is bad -/
theorem z_X9_isPacketB (l : Launch) (G : zG) (mm : Nat) (nw : Nat) (cq : Nat) (hi : Nat) (ko : Nat) (se : Nat) (nf : Nat) (ns : Nat) (pi : Nat) (th : Int32) (pa : Nat) (p0 : Int32) (p1 : Int32) (p2 : Int32) (p3 : Int32) (hbad : zBad p0 p1 p2 p3) : zR l G yX9_isPacket wsX9_isPacket { frames := 1, cells := 0, slots := 0, locals := 22 } [(mm, .inr (9, [.int th, .ref nw, .ref cq, .ref hi, .int 0, .ref ko, .ref se, .int 0, .ref nf, .ref ns, .ref pi])), (pa, .inl (G.2.1, 4, .inl (upd (upd (upd (upd (fun _ => 0) 0 p0) 1 p1) 2 p2) 3 p3)))] [.ref mm, .ref pa] (some (.int 0)) (fun u => [(mm, .inr (9, [.int 1, .ref nw, .ref cq, .ref hi, .int 0, .ref ko, .ref se, .int 0, .ref nf, .ref ns, .ref pi])), (pa, .inl (G.2.1, 4, .inl (upd (upd (upd (upd (fun _ => 0) 0 p0) 1 p1) 2 p2) 3 p3)))]) 0 0 := by
  refine zR_of (cc := cX9_isPacket) (maxL := 3) (rt := (some .boolean)) (by decide) rfl (Nat.le_of_ble_eq_true rfl) ?_
  intro p e s m below meth c A ls hx hb hml hr hts hown hlocks hin hA hE hP hD hS hl
  have hl : lv_has ls 3 [(0, .ref mm), (1, .ref pa)] := hl
  have hown : s.vm.findClass RX9 = some m.cls := hown
  have hP : va_P G.1 vwCl [(mm, .inr (9, [.int th, .ref nw, .ref cq, .ref hi, .int 0, .ref ko, .ref se, .int 0, .ref nf, .ref ns, .ref pi])), (pa, .inl (G.2.1, 4, .inl (upd (upd (upd (upd (fun _ => 0) 0 p0) 1 p1) 2 p2) 3 p3)))] s.heap := hP
  have hw9 : ∀ w ∈ u_ws RX9 TX9 11, w ∈ wsX9_isPacket := by decide +kernel
  have hf40 := hts (.fieldLink RX9 40 "NettleModel" "thrown" "I") (by decide +kernel)
  have k4 : ∀ (t : Int32) (H : Heap) (locs : List Loc) (ls : Array Slot), (t = 1 ∨ (False)) → va_P G.1 vwCl [(mm, .inr (9, [.int t, .ref nw, .ref cq, .ref hi, .int 0, .ref ko, .ref se, .int 0, .ref nf, .ref ns, .ref pi])), (pa, .inl (G.2.1, 4, .inl (upd (upd (upd (upd (fun _ => 0) 0 p0) 1 p1) 2 p2) 3 p3)))] H → va_D A [(mm, .inr (9, [.int t, .ref nw, .ref cq, .ref hi, .int 0, .ref ko, .ref se, .int 0, .ref nf, .ref ns, .ref pi])), (pa, .inl (G.2.1, 4, .inl (upd (upd (upd (upd (fun _ => 0) 0 p0) 1 p1) 2 p2) 3 p3)))] → va_S A s.heap H locs → lv_has ls 3 [(2, .int 4), (1, .ref pa), (0, .ref mm)] → W p l e { frames := 1, cells := 0, slots := 0, locals := 22 } s m ([.ref mm, .ref pa] : List Value).toArray below meth c H locs 0 0 (MQ below (zQ G A (some (.int 0)) (fun u => [(mm, .inr (9, [.int 1, .ref nw, .ref cq, .ref hi, .int 0, .ref ko, .ref se, .int 0, .ref nf, .ref ns, .ref pi])), (pa, .inl (G.2.1, 4, .inl (upd (upd (upd (upd (fun _ => 0) 0 p0) 1 p1) 2 p2) 3 p3)))])) ([.ref mm, .ref pa] : List Value).toArray s 0 0 A) (F0 m 7 ls []) := by
    intro t H locs ls hb9 hP hD hS hl
    obtain rfl : t = 1 := hb9.elim id (fun q => q.elim)
    refine lv_iload_n hx hb dX9_isPacket_7 rfl (lv_at hl 0 rfl) ?_
    refine lv_iconst (v := 4) hx hb dX9_isPacket_8 (by decide) ?_
    refine lv_icmp_ge (tgt := 39) hx hb dX9_isPacket_9 (by decide) (fun _ => ?_) (fun h9 => absurd (by decide) h9)
    refine lv_aload_n hx hb dX9_isPacket_39 rfl (lv_at hl 2 rfl) ?_
    refine va_get (D := G.1) (ci := 9) (v := .int 1) (C := RX9) (T := TX9) (N := 11) hx hb hts hw9 hown hE.1 hP 0 rfl rfl 0 (by decide) hf40 (fun _ h9 => h9) rfl dX9_isPacket_40 ?_
    refine lv_if_ne (tgt := 50) hx hb dX9_isPacket_43 (by decide) (fun _ => ?_) (fun h9 => absurd h9 (by decide))
    refine lv_iconst (v := 0) hx hb dX9_isPacket_50 (by decide) ?_
    exact zend_z hx hb hr hlocks rfl (fun k => 0) hP hD hS (Nat.le_of_ble_eq_true rfl) (Nat.le_of_ble_eq_true rfl) dX9_isPacket_51
  have k3 : ∀ (t : Int32) (H : Heap) (locs : List Loc) (ls : Array Slot), (t = 1 ∨ (p3 < 0 ∨ (¬ p3 < 0 ∧ 4 ≤ p3))) → va_P G.1 vwCl [(mm, .inr (9, [.int t, .ref nw, .ref cq, .ref hi, .int 0, .ref ko, .ref se, .int 0, .ref nf, .ref ns, .ref pi])), (pa, .inl (G.2.1, 4, .inl (upd (upd (upd (upd (fun _ => 0) 0 p0) 1 p1) 2 p2) 3 p3)))] H → va_D A [(mm, .inr (9, [.int t, .ref nw, .ref cq, .ref hi, .int 0, .ref ko, .ref se, .int 0, .ref nf, .ref ns, .ref pi])), (pa, .inl (G.2.1, 4, .inl (upd (upd (upd (upd (fun _ => 0) 0 p0) 1 p1) 2 p2) 3 p3)))] → va_S A s.heap H locs → lv_has ls 3 [(2, .int 3), (1, .ref pa), (0, .ref mm)] → W p l e { frames := 1, cells := 0, slots := 0, locals := 22 } s m ([.ref mm, .ref pa] : List Value).toArray below meth c H locs 0 0 (MQ below (zQ G A (some (.int 0)) (fun u => [(mm, .inr (9, [.int 1, .ref nw, .ref cq, .ref hi, .int 0, .ref ko, .ref se, .int 0, .ref nf, .ref ns, .ref pi])), (pa, .inl (G.2.1, 4, .inl (upd (upd (upd (upd (fun _ => 0) 0 p0) 1 p1) 2 p2) 3 p3)))])) ([.ref mm, .ref pa] : List Value).toArray s 0 0 A) (F0 m 7 ls []) := by
    intro t H locs ls hb9 hP hD hS hl
    by_cases a : p3 < 0
    · have hz := True.intro
      refine lv_iload_n hx hb dX9_isPacket_7 rfl (lv_at hl 0 rfl) ?_
      refine lv_iconst (v := 4) hx hb dX9_isPacket_8 (by decide) ?_
      refine lv_icmp_ge (tgt := 39) hx hb dX9_isPacket_9 (by decide) (fun h9 => absurd h9 (by decide)) (fun _ => ?_)
      refine lv_aload_n hx hb dX9_isPacket_12 rfl (lv_at hl 1 rfl) ?_
      refine lv_iload_n hx hb dX9_isPacket_13 rfl (lv_at hl 0 rfl) ?_
      refine va_iald hx hb hE.1 hP 1 0 rfl rfl (zin (by decide +kernel)) dX9_isPacket_14 ?_
      refine zti (v := p3) rfl ?_
      refine lv_iconst (v := 0) hx hb dX9_isPacket_15 (by decide) ?_
      refine lv_iload_n hx hb dX9_isPacket_16 rfl (lv_at hl 0 rfl) ?_
      refine zcall (wr := [(mm, .inr (9, [.int t, .ref nw, .ref cq, .ref hi, .int 0, .ref ko, .ref se, .int 0, .ref nf, .ref ns, .ref pi])), (pa, .inl (G.2.1, 4, .inl (upd (upd (upd (upd (fun _ => 0) 0 p0) 1 p1) 2 p2) 3 p3)))]) (va_runS (As := [.int 3]) (rest := [.int 0, .int p3]) ⟨hx, hb, hml, hown, hts⟩ (z_X9_values3 l G H.size) (va_cwS 1 hts gX9_isPacket_X9_values rfl rfl rfl (by decide +kernel) ⟨Nat.le_of_ble_eq_true rfl, Nat.le_of_ble_eq_true rfl⟩) (zPre (Wc := []) hP hD hE hS hA [] rfl (by decide)) rfl rfl hl.1 rfl (lv_room (Nat.le_of_ble_eq_true rfl)) dX9_isPacket_17 ⟨Nat.le_of_ble_eq_true rfl, Nat.le_of_ble_eq_true rfl⟩) hP hD hS hA [] [0, 1] rfl rfl (by decide) (by decide) (fun u1 H locs hP hD hS => ?_)
      have hP : va_P G.1 vwCl [(mm, .inr (9, [.int t, .ref nw, .ref cq, .ref hi, .int 0, .ref ko, .ref se, .int 0, .ref nf, .ref ns, .ref pi])), (pa, .inl (G.2.1, 4, .inl (upd (upd (upd (upd (fun _ => 0) 0 p0) 1 p1) 2 p2) 3 p3)))] H := hP
      have hD : va_D A [(mm, .inr (9, [.int t, .ref nw, .ref cq, .ref hi, .int 0, .ref ko, .ref se, .int 0, .ref nf, .ref ns, .ref pi])), (pa, .inl (G.2.1, 4, .inl (upd (upd (upd (upd (fun _ => 0) 0 p0) 1 p1) 2 p2) 3 p3)))] := hD
      refine W.eq (g2 := F0 m 20 ls [.int 4, .int 0, .int p3]) rfl ?_
      refine lv_iconst (v := 1) hx hb dX9_isPacket_20 (by decide) ?_
      refine lv_isub hx hb dX9_isPacket_21 ?_
      refine zti (v := 3) (by decide) ?_
      refine zcall (wr := [(mm, .inr (9, [.int t, .ref nw, .ref cq, .ref hi, .int 0, .ref ko, .ref se, .int 0, .ref nf, .ref ns, .ref pi])), (pa, .inl (G.2.1, 4, .inl (upd (upd (upd (upd (fun _ => 0) 0 p0) 1 p1) 2 p2) 3 p3)))]) (va_runS (As := [.int p3, .int 0, .int 3]) (rest := []) ⟨hx, hb, hml, hown, hts⟩ (z_X9_isInL l G p3 0 3 a H.size) (va_cwS 3 hts gX9_isPacket_X9_isIn rfl rfl rfl (by decide +kernel) ⟨Nat.le_of_ble_eq_true rfl, Nat.le_of_ble_eq_true rfl⟩) (zPre (Wc := []) hP hD hE hS hA [] rfl (by decide)) rfl rfl hl.1 rfl (lv_room (Nat.le_of_ble_eq_true rfl)) dX9_isPacket_22 ⟨Nat.le_of_ble_eq_true rfl, Nat.le_of_ble_eq_true rfl⟩) hP hD hS hA [] [0, 1] rfl rfl (by decide) (by decide) (fun u2 H locs hP hD hS => ?_)
      have hP : va_P G.1 vwCl [(mm, .inr (9, [.int t, .ref nw, .ref cq, .ref hi, .int 0, .ref ko, .ref se, .int 0, .ref nf, .ref ns, .ref pi])), (pa, .inl (G.2.1, 4, .inl (upd (upd (upd (upd (fun _ => 0) 0 p0) 1 p1) 2 p2) 3 p3)))] H := hP
      have hD : va_D A [(mm, .inr (9, [.int t, .ref nw, .ref cq, .ref hi, .int 0, .ref ko, .ref se, .int 0, .ref nf, .ref ns, .ref pi])), (pa, .inl (G.2.1, 4, .inl (upd (upd (upd (upd (fun _ => 0) 0 p0) 1 p1) 2 p2) 3 p3)))] := hD
      refine W.eq (g2 := F0 m 25 ls [.int 0]) rfl ?_
      refine lv_if_ne (tgt := 33) hx hb dX9_isPacket_25 (by decide) (fun h9 => absurd (by decide) h9) (fun _ => ?_)
      refine lv_aload_n hx hb dX9_isPacket_28 rfl (lv_at hl 2 rfl) ?_
      refine lv_iconst (v := 1) hx hb dX9_isPacket_29 (by decide) ?_
      refine va_put (D := G.1) (ci := 9) (v := .int 1) (ty := tyX9 0) (C := RX9) (T := TX9) (N := 11) hx hb hts hw9 tyX9 tyX9_ok nmX9 hown hE.1 hP hD hS 0 rfl rfl 0 (by decide) hf40 (fun _ h9 => h9) rfl (by decide +kernel) rfl rfl (Nat.le_of_ble_eq_true rfl) dX9_isPacket_30 (fun H locs hP hD hS => ?_)
      have hP : va_P G.1 vwCl [(mm, .inr (9, [.int 1, .ref nw, .ref cq, .ref hi, .int 0, .ref ko, .ref se, .int 0, .ref nf, .ref ns, .ref pi])), (pa, .inl (G.2.1, 4, .inl (upd (upd (upd (upd (fun _ => 0) 0 p0) 1 p1) 2 p2) 3 p3)))] H := hP
      have hD : va_D A [(mm, .inr (9, [.int 1, .ref nw, .ref cq, .ref hi, .int 0, .ref ko, .ref se, .int 0, .ref nf, .ref ns, .ref pi])), (pa, .inl (G.2.1, 4, .inl (upd (upd (upd (upd (fun _ => 0) 0 p0) 1 p1) 2 p2) 3 p3)))] := hD
      refine lv_iinc (v := 4) (lv' := [(2, .int 4), (1, .ref pa), (0, .ref mm)]) hx hb dX9_isPacket_33 hl (k := 0) rfl (by decide) (by decide) rfl (fun ls hl => ?_)
      refine lv_goto (tgt := 7) hx hb dX9_isPacket_36 (by decide) ?_
      have hl := lv_sub hl (l' := [(2, .int 4), (1, .ref pa), (0, .ref mm)]) [0, 1, 2] rfl
      exact k4 1 _ _ ls (Or.inl rfl) hP hD hS hl
    · by_cases b : 4 ≤ p3
      · have hz := True.intro
        refine lv_iload_n hx hb dX9_isPacket_7 rfl (lv_at hl 0 rfl) ?_
        refine lv_iconst (v := 4) hx hb dX9_isPacket_8 (by decide) ?_
        refine lv_icmp_ge (tgt := 39) hx hb dX9_isPacket_9 (by decide) (fun h9 => absurd h9 (by decide)) (fun _ => ?_)
        refine lv_aload_n hx hb dX9_isPacket_12 rfl (lv_at hl 1 rfl) ?_
        refine lv_iload_n hx hb dX9_isPacket_13 rfl (lv_at hl 0 rfl) ?_
        refine va_iald hx hb hE.1 hP 1 0 rfl rfl (zin (by decide +kernel)) dX9_isPacket_14 ?_
        refine zti (v := p3) rfl ?_
        refine lv_iconst (v := 0) hx hb dX9_isPacket_15 (by decide) ?_
        refine lv_iload_n hx hb dX9_isPacket_16 rfl (lv_at hl 0 rfl) ?_
        refine zcall (wr := [(mm, .inr (9, [.int t, .ref nw, .ref cq, .ref hi, .int 0, .ref ko, .ref se, .int 0, .ref nf, .ref ns, .ref pi])), (pa, .inl (G.2.1, 4, .inl (upd (upd (upd (upd (fun _ => 0) 0 p0) 1 p1) 2 p2) 3 p3)))]) (va_runS (As := [.int 3]) (rest := [.int 0, .int p3]) ⟨hx, hb, hml, hown, hts⟩ (z_X9_values3 l G H.size) (va_cwS 1 hts gX9_isPacket_X9_values rfl rfl rfl (by decide +kernel) ⟨Nat.le_of_ble_eq_true rfl, Nat.le_of_ble_eq_true rfl⟩) (zPre (Wc := []) hP hD hE hS hA [] rfl (by decide)) rfl rfl hl.1 rfl (lv_room (Nat.le_of_ble_eq_true rfl)) dX9_isPacket_17 ⟨Nat.le_of_ble_eq_true rfl, Nat.le_of_ble_eq_true rfl⟩) hP hD hS hA [] [0, 1] rfl rfl (by decide) (by decide) (fun u1 H locs hP hD hS => ?_)
        have hP : va_P G.1 vwCl [(mm, .inr (9, [.int t, .ref nw, .ref cq, .ref hi, .int 0, .ref ko, .ref se, .int 0, .ref nf, .ref ns, .ref pi])), (pa, .inl (G.2.1, 4, .inl (upd (upd (upd (upd (fun _ => 0) 0 p0) 1 p1) 2 p2) 3 p3)))] H := hP
        have hD : va_D A [(mm, .inr (9, [.int t, .ref nw, .ref cq, .ref hi, .int 0, .ref ko, .ref se, .int 0, .ref nf, .ref ns, .ref pi])), (pa, .inl (G.2.1, 4, .inl (upd (upd (upd (upd (fun _ => 0) 0 p0) 1 p1) 2 p2) 3 p3)))] := hD
        refine W.eq (g2 := F0 m 20 ls [.int 4, .int 0, .int p3]) rfl ?_
        refine lv_iconst (v := 1) hx hb dX9_isPacket_20 (by decide) ?_
        refine lv_isub hx hb dX9_isPacket_21 ?_
        refine zti (v := 3) (by decide) ?_
        refine zcall (wr := [(mm, .inr (9, [.int t, .ref nw, .ref cq, .ref hi, .int 0, .ref ko, .ref se, .int 0, .ref nf, .ref ns, .ref pi])), (pa, .inl (G.2.1, 4, .inl (upd (upd (upd (upd (fun _ => 0) 0 p0) 1 p1) 2 p2) 3 p3)))]) (va_runS (As := [.int p3, .int 0, .int 3]) (rest := []) ⟨hx, hb, hml, hown, hts⟩ (z_X9_isInH l G p3 0 3 a (zg3 b) H.size) (va_cwS 3 hts gX9_isPacket_X9_isIn rfl rfl rfl (by decide +kernel) ⟨Nat.le_of_ble_eq_true rfl, Nat.le_of_ble_eq_true rfl⟩) (zPre (Wc := []) hP hD hE hS hA [] rfl (by decide)) rfl rfl hl.1 rfl (lv_room (Nat.le_of_ble_eq_true rfl)) dX9_isPacket_22 ⟨Nat.le_of_ble_eq_true rfl, Nat.le_of_ble_eq_true rfl⟩) hP hD hS hA [] [0, 1] rfl rfl (by decide) (by decide) (fun u2 H locs hP hD hS => ?_)
        have hP : va_P G.1 vwCl [(mm, .inr (9, [.int t, .ref nw, .ref cq, .ref hi, .int 0, .ref ko, .ref se, .int 0, .ref nf, .ref ns, .ref pi])), (pa, .inl (G.2.1, 4, .inl (upd (upd (upd (upd (fun _ => 0) 0 p0) 1 p1) 2 p2) 3 p3)))] H := hP
        have hD : va_D A [(mm, .inr (9, [.int t, .ref nw, .ref cq, .ref hi, .int 0, .ref ko, .ref se, .int 0, .ref nf, .ref ns, .ref pi])), (pa, .inl (G.2.1, 4, .inl (upd (upd (upd (upd (fun _ => 0) 0 p0) 1 p1) 2 p2) 3 p3)))] := hD
        refine W.eq (g2 := F0 m 25 ls [.int 0]) rfl ?_
        refine lv_if_ne (tgt := 33) hx hb dX9_isPacket_25 (by decide) (fun h9 => absurd (by decide) h9) (fun _ => ?_)
        refine lv_aload_n hx hb dX9_isPacket_28 rfl (lv_at hl 2 rfl) ?_
        refine lv_iconst (v := 1) hx hb dX9_isPacket_29 (by decide) ?_
        refine va_put (D := G.1) (ci := 9) (v := .int 1) (ty := tyX9 0) (C := RX9) (T := TX9) (N := 11) hx hb hts hw9 tyX9 tyX9_ok nmX9 hown hE.1 hP hD hS 0 rfl rfl 0 (by decide) hf40 (fun _ h9 => h9) rfl (by decide +kernel) rfl rfl (Nat.le_of_ble_eq_true rfl) dX9_isPacket_30 (fun H locs hP hD hS => ?_)
        have hP : va_P G.1 vwCl [(mm, .inr (9, [.int 1, .ref nw, .ref cq, .ref hi, .int 0, .ref ko, .ref se, .int 0, .ref nf, .ref ns, .ref pi])), (pa, .inl (G.2.1, 4, .inl (upd (upd (upd (upd (fun _ => 0) 0 p0) 1 p1) 2 p2) 3 p3)))] H := hP
        have hD : va_D A [(mm, .inr (9, [.int 1, .ref nw, .ref cq, .ref hi, .int 0, .ref ko, .ref se, .int 0, .ref nf, .ref ns, .ref pi])), (pa, .inl (G.2.1, 4, .inl (upd (upd (upd (upd (fun _ => 0) 0 p0) 1 p1) 2 p2) 3 p3)))] := hD
        refine lv_iinc (v := 4) (lv' := [(2, .int 4), (1, .ref pa), (0, .ref mm)]) hx hb dX9_isPacket_33 hl (k := 0) rfl (by decide) (by decide) rfl (fun ls hl => ?_)
        refine lv_goto (tgt := 7) hx hb dX9_isPacket_36 (by decide) ?_
        have hl := lv_sub hl (l' := [(2, .int 4), (1, .ref pa), (0, .ref mm)]) [0, 1, 2] rfl
        exact k4 1 _ _ ls (Or.inl rfl) hP hD hS hl
      · have hz := True.intro
        refine lv_iload_n hx hb dX9_isPacket_7 rfl (lv_at hl 0 rfl) ?_
        refine lv_iconst (v := 4) hx hb dX9_isPacket_8 (by decide) ?_
        refine lv_icmp_ge (tgt := 39) hx hb dX9_isPacket_9 (by decide) (fun h9 => absurd h9 (by decide)) (fun _ => ?_)
        refine lv_aload_n hx hb dX9_isPacket_12 rfl (lv_at hl 1 rfl) ?_
        refine lv_iload_n hx hb dX9_isPacket_13 rfl (lv_at hl 0 rfl) ?_
        refine va_iald hx hb hE.1 hP 1 0 rfl rfl (zin (by decide +kernel)) dX9_isPacket_14 ?_
        refine zti (v := p3) rfl ?_
        refine lv_iconst (v := 0) hx hb dX9_isPacket_15 (by decide) ?_
        refine lv_iload_n hx hb dX9_isPacket_16 rfl (lv_at hl 0 rfl) ?_
        refine zcall (wr := [(mm, .inr (9, [.int t, .ref nw, .ref cq, .ref hi, .int 0, .ref ko, .ref se, .int 0, .ref nf, .ref ns, .ref pi])), (pa, .inl (G.2.1, 4, .inl (upd (upd (upd (upd (fun _ => 0) 0 p0) 1 p1) 2 p2) 3 p3)))]) (va_runS (As := [.int 3]) (rest := [.int 0, .int p3]) ⟨hx, hb, hml, hown, hts⟩ (z_X9_values3 l G H.size) (va_cwS 1 hts gX9_isPacket_X9_values rfl rfl rfl (by decide +kernel) ⟨Nat.le_of_ble_eq_true rfl, Nat.le_of_ble_eq_true rfl⟩) (zPre (Wc := []) hP hD hE hS hA [] rfl (by decide)) rfl rfl hl.1 rfl (lv_room (Nat.le_of_ble_eq_true rfl)) dX9_isPacket_17 ⟨Nat.le_of_ble_eq_true rfl, Nat.le_of_ble_eq_true rfl⟩) hP hD hS hA [] [0, 1] rfl rfl (by decide) (by decide) (fun u1 H locs hP hD hS => ?_)
        have hP : va_P G.1 vwCl [(mm, .inr (9, [.int t, .ref nw, .ref cq, .ref hi, .int 0, .ref ko, .ref se, .int 0, .ref nf, .ref ns, .ref pi])), (pa, .inl (G.2.1, 4, .inl (upd (upd (upd (upd (fun _ => 0) 0 p0) 1 p1) 2 p2) 3 p3)))] H := hP
        have hD : va_D A [(mm, .inr (9, [.int t, .ref nw, .ref cq, .ref hi, .int 0, .ref ko, .ref se, .int 0, .ref nf, .ref ns, .ref pi])), (pa, .inl (G.2.1, 4, .inl (upd (upd (upd (upd (fun _ => 0) 0 p0) 1 p1) 2 p2) 3 p3)))] := hD
        refine W.eq (g2 := F0 m 20 ls [.int 4, .int 0, .int p3]) rfl ?_
        refine lv_iconst (v := 1) hx hb dX9_isPacket_20 (by decide) ?_
        refine lv_isub hx hb dX9_isPacket_21 ?_
        refine zti (v := 3) (by decide) ?_
        refine zcall (wr := [(mm, .inr (9, [.int t, .ref nw, .ref cq, .ref hi, .int 0, .ref ko, .ref se, .int 0, .ref nf, .ref ns, .ref pi])), (pa, .inl (G.2.1, 4, .inl (upd (upd (upd (upd (fun _ => 0) 0 p0) 1 p1) 2 p2) 3 p3)))]) (va_runS (As := [.int p3, .int 0, .int 3]) (rest := []) ⟨hx, hb, hml, hown, hts⟩ (z_X9_isIn l G p3 0 3 a (zl3 b) H.size) (va_cwS 3 hts gX9_isPacket_X9_isIn rfl rfl rfl (by decide +kernel) ⟨Nat.le_of_ble_eq_true rfl, Nat.le_of_ble_eq_true rfl⟩) (zPre (Wc := []) hP hD hE hS hA [] rfl (by decide)) rfl rfl hl.1 rfl (lv_room (Nat.le_of_ble_eq_true rfl)) dX9_isPacket_22 ⟨Nat.le_of_ble_eq_true rfl, Nat.le_of_ble_eq_true rfl⟩) hP hD hS hA [] [0, 1] rfl rfl (by decide) (by decide) (fun u2 H locs hP hD hS => ?_)
        have hP : va_P G.1 vwCl [(mm, .inr (9, [.int t, .ref nw, .ref cq, .ref hi, .int 0, .ref ko, .ref se, .int 0, .ref nf, .ref ns, .ref pi])), (pa, .inl (G.2.1, 4, .inl (upd (upd (upd (upd (fun _ => 0) 0 p0) 1 p1) 2 p2) 3 p3)))] H := hP
        have hD : va_D A [(mm, .inr (9, [.int t, .ref nw, .ref cq, .ref hi, .int 0, .ref ko, .ref se, .int 0, .ref nf, .ref ns, .ref pi])), (pa, .inl (G.2.1, 4, .inl (upd (upd (upd (upd (fun _ => 0) 0 p0) 1 p1) 2 p2) 3 p3)))] := hD
        refine W.eq (g2 := F0 m 25 ls [.int 1]) rfl ?_
        refine lv_if_ne (tgt := 33) hx hb dX9_isPacket_25 (by decide) (fun _ => ?_) (fun h9 => absurd h9 (by decide))
        refine lv_iinc (v := 4) (lv' := [(2, .int 4), (1, .ref pa), (0, .ref mm)]) hx hb dX9_isPacket_33 hl (k := 0) rfl (by decide) (by decide) rfl (fun ls hl => ?_)
        refine lv_goto (tgt := 7) hx hb dX9_isPacket_36 (by decide) ?_
        have hl := lv_sub hl (l' := [(2, .int 4), (1, .ref pa), (0, .ref mm)]) [0, 1, 2] rfl
        exact k4 t _ _ ls (hb9.imp id (fun q => q.elim (fun z => absurd z a) (fun z => absurd z.2 b))) hP hD hS hl
  have k2 : ∀ (t : Int32) (H : Heap) (locs : List Loc) (ls : Array Slot), (t = 1 ∨ (p2 < 0 ∨ (¬ p2 < 0 ∧ 1024 ≤ p2) ∨ ((¬ p2 < 0 ∧ ¬ 1024 ≤ p2) ∧ (p3 < 0 ∨ (¬ p3 < 0 ∧ 4 ≤ p3))))) → va_P G.1 vwCl [(mm, .inr (9, [.int t, .ref nw, .ref cq, .ref hi, .int 0, .ref ko, .ref se, .int 0, .ref nf, .ref ns, .ref pi])), (pa, .inl (G.2.1, 4, .inl (upd (upd (upd (upd (fun _ => 0) 0 p0) 1 p1) 2 p2) 3 p3)))] H → va_D A [(mm, .inr (9, [.int t, .ref nw, .ref cq, .ref hi, .int 0, .ref ko, .ref se, .int 0, .ref nf, .ref ns, .ref pi])), (pa, .inl (G.2.1, 4, .inl (upd (upd (upd (upd (fun _ => 0) 0 p0) 1 p1) 2 p2) 3 p3)))] → va_S A s.heap H locs → lv_has ls 3 [(2, .int 2), (1, .ref pa), (0, .ref mm)] → W p l e { frames := 1, cells := 0, slots := 0, locals := 22 } s m ([.ref mm, .ref pa] : List Value).toArray below meth c H locs 0 0 (MQ below (zQ G A (some (.int 0)) (fun u => [(mm, .inr (9, [.int 1, .ref nw, .ref cq, .ref hi, .int 0, .ref ko, .ref se, .int 0, .ref nf, .ref ns, .ref pi])), (pa, .inl (G.2.1, 4, .inl (upd (upd (upd (upd (fun _ => 0) 0 p0) 1 p1) 2 p2) 3 p3)))])) ([.ref mm, .ref pa] : List Value).toArray s 0 0 A) (F0 m 7 ls []) := by
    intro t H locs ls hb9 hP hD hS hl
    by_cases a : p2 < 0
    · have hz := True.intro
      refine lv_iload_n hx hb dX9_isPacket_7 rfl (lv_at hl 0 rfl) ?_
      refine lv_iconst (v := 4) hx hb dX9_isPacket_8 (by decide) ?_
      refine lv_icmp_ge (tgt := 39) hx hb dX9_isPacket_9 (by decide) (fun h9 => absurd h9 (by decide)) (fun _ => ?_)
      refine lv_aload_n hx hb dX9_isPacket_12 rfl (lv_at hl 1 rfl) ?_
      refine lv_iload_n hx hb dX9_isPacket_13 rfl (lv_at hl 0 rfl) ?_
      refine va_iald hx hb hE.1 hP 1 0 rfl rfl (zin (by decide +kernel)) dX9_isPacket_14 ?_
      refine zti (v := p2) rfl ?_
      refine lv_iconst (v := 0) hx hb dX9_isPacket_15 (by decide) ?_
      refine lv_iload_n hx hb dX9_isPacket_16 rfl (lv_at hl 0 rfl) ?_
      refine zcall (wr := [(mm, .inr (9, [.int t, .ref nw, .ref cq, .ref hi, .int 0, .ref ko, .ref se, .int 0, .ref nf, .ref ns, .ref pi])), (pa, .inl (G.2.1, 4, .inl (upd (upd (upd (upd (fun _ => 0) 0 p0) 1 p1) 2 p2) 3 p3)))]) (va_runS (As := [.int 2]) (rest := [.int 0, .int p2]) ⟨hx, hb, hml, hown, hts⟩ (z_X9_values2 l G H.size) (va_cwS 1 hts gX9_isPacket_X9_values rfl rfl rfl (by decide +kernel) ⟨Nat.le_of_ble_eq_true rfl, Nat.le_of_ble_eq_true rfl⟩) (zPre (Wc := []) hP hD hE hS hA [] rfl (by decide)) rfl rfl hl.1 rfl (lv_room (Nat.le_of_ble_eq_true rfl)) dX9_isPacket_17 ⟨Nat.le_of_ble_eq_true rfl, Nat.le_of_ble_eq_true rfl⟩) hP hD hS hA [] [0, 1] rfl rfl (by decide) (by decide) (fun u1 H locs hP hD hS => ?_)
      have hP : va_P G.1 vwCl [(mm, .inr (9, [.int t, .ref nw, .ref cq, .ref hi, .int 0, .ref ko, .ref se, .int 0, .ref nf, .ref ns, .ref pi])), (pa, .inl (G.2.1, 4, .inl (upd (upd (upd (upd (fun _ => 0) 0 p0) 1 p1) 2 p2) 3 p3)))] H := hP
      have hD : va_D A [(mm, .inr (9, [.int t, .ref nw, .ref cq, .ref hi, .int 0, .ref ko, .ref se, .int 0, .ref nf, .ref ns, .ref pi])), (pa, .inl (G.2.1, 4, .inl (upd (upd (upd (upd (fun _ => 0) 0 p0) 1 p1) 2 p2) 3 p3)))] := hD
      refine W.eq (g2 := F0 m 20 ls [.int 1024, .int 0, .int p2]) rfl ?_
      refine lv_iconst (v := 1) hx hb dX9_isPacket_20 (by decide) ?_
      refine lv_isub hx hb dX9_isPacket_21 ?_
      refine zti (v := 1023) (by decide) ?_
      refine zcall (wr := [(mm, .inr (9, [.int t, .ref nw, .ref cq, .ref hi, .int 0, .ref ko, .ref se, .int 0, .ref nf, .ref ns, .ref pi])), (pa, .inl (G.2.1, 4, .inl (upd (upd (upd (upd (fun _ => 0) 0 p0) 1 p1) 2 p2) 3 p3)))]) (va_runS (As := [.int p2, .int 0, .int 1023]) (rest := []) ⟨hx, hb, hml, hown, hts⟩ (z_X9_isInL l G p2 0 1023 a H.size) (va_cwS 3 hts gX9_isPacket_X9_isIn rfl rfl rfl (by decide +kernel) ⟨Nat.le_of_ble_eq_true rfl, Nat.le_of_ble_eq_true rfl⟩) (zPre (Wc := []) hP hD hE hS hA [] rfl (by decide)) rfl rfl hl.1 rfl (lv_room (Nat.le_of_ble_eq_true rfl)) dX9_isPacket_22 ⟨Nat.le_of_ble_eq_true rfl, Nat.le_of_ble_eq_true rfl⟩) hP hD hS hA [] [0, 1] rfl rfl (by decide) (by decide) (fun u2 H locs hP hD hS => ?_)
      have hP : va_P G.1 vwCl [(mm, .inr (9, [.int t, .ref nw, .ref cq, .ref hi, .int 0, .ref ko, .ref se, .int 0, .ref nf, .ref ns, .ref pi])), (pa, .inl (G.2.1, 4, .inl (upd (upd (upd (upd (fun _ => 0) 0 p0) 1 p1) 2 p2) 3 p3)))] H := hP
      have hD : va_D A [(mm, .inr (9, [.int t, .ref nw, .ref cq, .ref hi, .int 0, .ref ko, .ref se, .int 0, .ref nf, .ref ns, .ref pi])), (pa, .inl (G.2.1, 4, .inl (upd (upd (upd (upd (fun _ => 0) 0 p0) 1 p1) 2 p2) 3 p3)))] := hD
      refine W.eq (g2 := F0 m 25 ls [.int 0]) rfl ?_
      refine lv_if_ne (tgt := 33) hx hb dX9_isPacket_25 (by decide) (fun h9 => absurd (by decide) h9) (fun _ => ?_)
      refine lv_aload_n hx hb dX9_isPacket_28 rfl (lv_at hl 2 rfl) ?_
      refine lv_iconst (v := 1) hx hb dX9_isPacket_29 (by decide) ?_
      refine va_put (D := G.1) (ci := 9) (v := .int 1) (ty := tyX9 0) (C := RX9) (T := TX9) (N := 11) hx hb hts hw9 tyX9 tyX9_ok nmX9 hown hE.1 hP hD hS 0 rfl rfl 0 (by decide) hf40 (fun _ h9 => h9) rfl (by decide +kernel) rfl rfl (Nat.le_of_ble_eq_true rfl) dX9_isPacket_30 (fun H locs hP hD hS => ?_)
      have hP : va_P G.1 vwCl [(mm, .inr (9, [.int 1, .ref nw, .ref cq, .ref hi, .int 0, .ref ko, .ref se, .int 0, .ref nf, .ref ns, .ref pi])), (pa, .inl (G.2.1, 4, .inl (upd (upd (upd (upd (fun _ => 0) 0 p0) 1 p1) 2 p2) 3 p3)))] H := hP
      have hD : va_D A [(mm, .inr (9, [.int 1, .ref nw, .ref cq, .ref hi, .int 0, .ref ko, .ref se, .int 0, .ref nf, .ref ns, .ref pi])), (pa, .inl (G.2.1, 4, .inl (upd (upd (upd (upd (fun _ => 0) 0 p0) 1 p1) 2 p2) 3 p3)))] := hD
      refine lv_iinc (v := 3) (lv' := [(2, .int 3), (1, .ref pa), (0, .ref mm)]) hx hb dX9_isPacket_33 hl (k := 0) rfl (by decide) (by decide) rfl (fun ls hl => ?_)
      refine lv_goto (tgt := 7) hx hb dX9_isPacket_36 (by decide) ?_
      have hl := lv_sub hl (l' := [(2, .int 3), (1, .ref pa), (0, .ref mm)]) [0, 1, 2] rfl
      exact k3 1 _ _ ls (Or.inl rfl) hP hD hS hl
    · by_cases b : 1024 ≤ p2
      · have hz := True.intro
        refine lv_iload_n hx hb dX9_isPacket_7 rfl (lv_at hl 0 rfl) ?_
        refine lv_iconst (v := 4) hx hb dX9_isPacket_8 (by decide) ?_
        refine lv_icmp_ge (tgt := 39) hx hb dX9_isPacket_9 (by decide) (fun h9 => absurd h9 (by decide)) (fun _ => ?_)
        refine lv_aload_n hx hb dX9_isPacket_12 rfl (lv_at hl 1 rfl) ?_
        refine lv_iload_n hx hb dX9_isPacket_13 rfl (lv_at hl 0 rfl) ?_
        refine va_iald hx hb hE.1 hP 1 0 rfl rfl (zin (by decide +kernel)) dX9_isPacket_14 ?_
        refine zti (v := p2) rfl ?_
        refine lv_iconst (v := 0) hx hb dX9_isPacket_15 (by decide) ?_
        refine lv_iload_n hx hb dX9_isPacket_16 rfl (lv_at hl 0 rfl) ?_
        refine zcall (wr := [(mm, .inr (9, [.int t, .ref nw, .ref cq, .ref hi, .int 0, .ref ko, .ref se, .int 0, .ref nf, .ref ns, .ref pi])), (pa, .inl (G.2.1, 4, .inl (upd (upd (upd (upd (fun _ => 0) 0 p0) 1 p1) 2 p2) 3 p3)))]) (va_runS (As := [.int 2]) (rest := [.int 0, .int p2]) ⟨hx, hb, hml, hown, hts⟩ (z_X9_values2 l G H.size) (va_cwS 1 hts gX9_isPacket_X9_values rfl rfl rfl (by decide +kernel) ⟨Nat.le_of_ble_eq_true rfl, Nat.le_of_ble_eq_true rfl⟩) (zPre (Wc := []) hP hD hE hS hA [] rfl (by decide)) rfl rfl hl.1 rfl (lv_room (Nat.le_of_ble_eq_true rfl)) dX9_isPacket_17 ⟨Nat.le_of_ble_eq_true rfl, Nat.le_of_ble_eq_true rfl⟩) hP hD hS hA [] [0, 1] rfl rfl (by decide) (by decide) (fun u1 H locs hP hD hS => ?_)
        have hP : va_P G.1 vwCl [(mm, .inr (9, [.int t, .ref nw, .ref cq, .ref hi, .int 0, .ref ko, .ref se, .int 0, .ref nf, .ref ns, .ref pi])), (pa, .inl (G.2.1, 4, .inl (upd (upd (upd (upd (fun _ => 0) 0 p0) 1 p1) 2 p2) 3 p3)))] H := hP
        have hD : va_D A [(mm, .inr (9, [.int t, .ref nw, .ref cq, .ref hi, .int 0, .ref ko, .ref se, .int 0, .ref nf, .ref ns, .ref pi])), (pa, .inl (G.2.1, 4, .inl (upd (upd (upd (upd (fun _ => 0) 0 p0) 1 p1) 2 p2) 3 p3)))] := hD
        refine W.eq (g2 := F0 m 20 ls [.int 1024, .int 0, .int p2]) rfl ?_
        refine lv_iconst (v := 1) hx hb dX9_isPacket_20 (by decide) ?_
        refine lv_isub hx hb dX9_isPacket_21 ?_
        refine zti (v := 1023) (by decide) ?_
        refine zcall (wr := [(mm, .inr (9, [.int t, .ref nw, .ref cq, .ref hi, .int 0, .ref ko, .ref se, .int 0, .ref nf, .ref ns, .ref pi])), (pa, .inl (G.2.1, 4, .inl (upd (upd (upd (upd (fun _ => 0) 0 p0) 1 p1) 2 p2) 3 p3)))]) (va_runS (As := [.int p2, .int 0, .int 1023]) (rest := []) ⟨hx, hb, hml, hown, hts⟩ (z_X9_isInH l G p2 0 1023 a (zg1023 b) H.size) (va_cwS 3 hts gX9_isPacket_X9_isIn rfl rfl rfl (by decide +kernel) ⟨Nat.le_of_ble_eq_true rfl, Nat.le_of_ble_eq_true rfl⟩) (zPre (Wc := []) hP hD hE hS hA [] rfl (by decide)) rfl rfl hl.1 rfl (lv_room (Nat.le_of_ble_eq_true rfl)) dX9_isPacket_22 ⟨Nat.le_of_ble_eq_true rfl, Nat.le_of_ble_eq_true rfl⟩) hP hD hS hA [] [0, 1] rfl rfl (by decide) (by decide) (fun u2 H locs hP hD hS => ?_)
        have hP : va_P G.1 vwCl [(mm, .inr (9, [.int t, .ref nw, .ref cq, .ref hi, .int 0, .ref ko, .ref se, .int 0, .ref nf, .ref ns, .ref pi])), (pa, .inl (G.2.1, 4, .inl (upd (upd (upd (upd (fun _ => 0) 0 p0) 1 p1) 2 p2) 3 p3)))] H := hP
        have hD : va_D A [(mm, .inr (9, [.int t, .ref nw, .ref cq, .ref hi, .int 0, .ref ko, .ref se, .int 0, .ref nf, .ref ns, .ref pi])), (pa, .inl (G.2.1, 4, .inl (upd (upd (upd (upd (fun _ => 0) 0 p0) 1 p1) 2 p2) 3 p3)))] := hD
        refine W.eq (g2 := F0 m 25 ls [.int 0]) rfl ?_
        refine lv_if_ne (tgt := 33) hx hb dX9_isPacket_25 (by decide) (fun h9 => absurd (by decide) h9) (fun _ => ?_)
        refine lv_aload_n hx hb dX9_isPacket_28 rfl (lv_at hl 2 rfl) ?_
        refine lv_iconst (v := 1) hx hb dX9_isPacket_29 (by decide) ?_
        refine va_put (D := G.1) (ci := 9) (v := .int 1) (ty := tyX9 0) (C := RX9) (T := TX9) (N := 11) hx hb hts hw9 tyX9 tyX9_ok nmX9 hown hE.1 hP hD hS 0 rfl rfl 0 (by decide) hf40 (fun _ h9 => h9) rfl (by decide +kernel) rfl rfl (Nat.le_of_ble_eq_true rfl) dX9_isPacket_30 (fun H locs hP hD hS => ?_)
        have hP : va_P G.1 vwCl [(mm, .inr (9, [.int 1, .ref nw, .ref cq, .ref hi, .int 0, .ref ko, .ref se, .int 0, .ref nf, .ref ns, .ref pi])), (pa, .inl (G.2.1, 4, .inl (upd (upd (upd (upd (fun _ => 0) 0 p0) 1 p1) 2 p2) 3 p3)))] H := hP
        have hD : va_D A [(mm, .inr (9, [.int 1, .ref nw, .ref cq, .ref hi, .int 0, .ref ko, .ref se, .int 0, .ref nf, .ref ns, .ref pi])), (pa, .inl (G.2.1, 4, .inl (upd (upd (upd (upd (fun _ => 0) 0 p0) 1 p1) 2 p2) 3 p3)))] := hD
        refine lv_iinc (v := 3) (lv' := [(2, .int 3), (1, .ref pa), (0, .ref mm)]) hx hb dX9_isPacket_33 hl (k := 0) rfl (by decide) (by decide) rfl (fun ls hl => ?_)
        refine lv_goto (tgt := 7) hx hb dX9_isPacket_36 (by decide) ?_
        have hl := lv_sub hl (l' := [(2, .int 3), (1, .ref pa), (0, .ref mm)]) [0, 1, 2] rfl
        exact k3 1 _ _ ls (Or.inl rfl) hP hD hS hl
      · have hz := True.intro
        refine lv_iload_n hx hb dX9_isPacket_7 rfl (lv_at hl 0 rfl) ?_
        refine lv_iconst (v := 4) hx hb dX9_isPacket_8 (by decide) ?_
        refine lv_icmp_ge (tgt := 39) hx hb dX9_isPacket_9 (by decide) (fun h9 => absurd h9 (by decide)) (fun _ => ?_)
        refine lv_aload_n hx hb dX9_isPacket_12 rfl (lv_at hl 1 rfl) ?_
        refine lv_iload_n hx hb dX9_isPacket_13 rfl (lv_at hl 0 rfl) ?_
        refine va_iald hx hb hE.1 hP 1 0 rfl rfl (zin (by decide +kernel)) dX9_isPacket_14 ?_
        refine zti (v := p2) rfl ?_
        refine lv_iconst (v := 0) hx hb dX9_isPacket_15 (by decide) ?_
        refine lv_iload_n hx hb dX9_isPacket_16 rfl (lv_at hl 0 rfl) ?_
        refine zcall (wr := [(mm, .inr (9, [.int t, .ref nw, .ref cq, .ref hi, .int 0, .ref ko, .ref se, .int 0, .ref nf, .ref ns, .ref pi])), (pa, .inl (G.2.1, 4, .inl (upd (upd (upd (upd (fun _ => 0) 0 p0) 1 p1) 2 p2) 3 p3)))]) (va_runS (As := [.int 2]) (rest := [.int 0, .int p2]) ⟨hx, hb, hml, hown, hts⟩ (z_X9_values2 l G H.size) (va_cwS 1 hts gX9_isPacket_X9_values rfl rfl rfl (by decide +kernel) ⟨Nat.le_of_ble_eq_true rfl, Nat.le_of_ble_eq_true rfl⟩) (zPre (Wc := []) hP hD hE hS hA [] rfl (by decide)) rfl rfl hl.1 rfl (lv_room (Nat.le_of_ble_eq_true rfl)) dX9_isPacket_17 ⟨Nat.le_of_ble_eq_true rfl, Nat.le_of_ble_eq_true rfl⟩) hP hD hS hA [] [0, 1] rfl rfl (by decide) (by decide) (fun u1 H locs hP hD hS => ?_)
        have hP : va_P G.1 vwCl [(mm, .inr (9, [.int t, .ref nw, .ref cq, .ref hi, .int 0, .ref ko, .ref se, .int 0, .ref nf, .ref ns, .ref pi])), (pa, .inl (G.2.1, 4, .inl (upd (upd (upd (upd (fun _ => 0) 0 p0) 1 p1) 2 p2) 3 p3)))] H := hP
        have hD : va_D A [(mm, .inr (9, [.int t, .ref nw, .ref cq, .ref hi, .int 0, .ref ko, .ref se, .int 0, .ref nf, .ref ns, .ref pi])), (pa, .inl (G.2.1, 4, .inl (upd (upd (upd (upd (fun _ => 0) 0 p0) 1 p1) 2 p2) 3 p3)))] := hD
        refine W.eq (g2 := F0 m 20 ls [.int 1024, .int 0, .int p2]) rfl ?_
        refine lv_iconst (v := 1) hx hb dX9_isPacket_20 (by decide) ?_
        refine lv_isub hx hb dX9_isPacket_21 ?_
        refine zti (v := 1023) (by decide) ?_
        refine zcall (wr := [(mm, .inr (9, [.int t, .ref nw, .ref cq, .ref hi, .int 0, .ref ko, .ref se, .int 0, .ref nf, .ref ns, .ref pi])), (pa, .inl (G.2.1, 4, .inl (upd (upd (upd (upd (fun _ => 0) 0 p0) 1 p1) 2 p2) 3 p3)))]) (va_runS (As := [.int p2, .int 0, .int 1023]) (rest := []) ⟨hx, hb, hml, hown, hts⟩ (z_X9_isIn l G p2 0 1023 a (zl1023 b) H.size) (va_cwS 3 hts gX9_isPacket_X9_isIn rfl rfl rfl (by decide +kernel) ⟨Nat.le_of_ble_eq_true rfl, Nat.le_of_ble_eq_true rfl⟩) (zPre (Wc := []) hP hD hE hS hA [] rfl (by decide)) rfl rfl hl.1 rfl (lv_room (Nat.le_of_ble_eq_true rfl)) dX9_isPacket_22 ⟨Nat.le_of_ble_eq_true rfl, Nat.le_of_ble_eq_true rfl⟩) hP hD hS hA [] [0, 1] rfl rfl (by decide) (by decide) (fun u2 H locs hP hD hS => ?_)
        have hP : va_P G.1 vwCl [(mm, .inr (9, [.int t, .ref nw, .ref cq, .ref hi, .int 0, .ref ko, .ref se, .int 0, .ref nf, .ref ns, .ref pi])), (pa, .inl (G.2.1, 4, .inl (upd (upd (upd (upd (fun _ => 0) 0 p0) 1 p1) 2 p2) 3 p3)))] H := hP
        have hD : va_D A [(mm, .inr (9, [.int t, .ref nw, .ref cq, .ref hi, .int 0, .ref ko, .ref se, .int 0, .ref nf, .ref ns, .ref pi])), (pa, .inl (G.2.1, 4, .inl (upd (upd (upd (upd (fun _ => 0) 0 p0) 1 p1) 2 p2) 3 p3)))] := hD
        refine W.eq (g2 := F0 m 25 ls [.int 1]) rfl ?_
        refine lv_if_ne (tgt := 33) hx hb dX9_isPacket_25 (by decide) (fun _ => ?_) (fun h9 => absurd h9 (by decide))
        refine lv_iinc (v := 3) (lv' := [(2, .int 3), (1, .ref pa), (0, .ref mm)]) hx hb dX9_isPacket_33 hl (k := 0) rfl (by decide) (by decide) rfl (fun ls hl => ?_)
        refine lv_goto (tgt := 7) hx hb dX9_isPacket_36 (by decide) ?_
        have hl := lv_sub hl (l' := [(2, .int 3), (1, .ref pa), (0, .ref mm)]) [0, 1, 2] rfl
        exact k3 t _ _ ls (hb9.imp id (fun q => q.elim (fun z => absurd z a) (fun q => q.elim (fun z => absurd z.2 b) (fun z => z.2)))) hP hD hS hl
  have k1 : ∀ (t : Int32) (H : Heap) (locs : List Loc) (ls : Array Slot), (t = 1 ∨ (p1 < 0 ∨ (¬ p1 < 0 ∧ 256 ≤ p1) ∨ ((¬ p1 < 0 ∧ ¬ 256 ≤ p1) ∧ (p2 < 0 ∨ (¬ p2 < 0 ∧ 1024 ≤ p2) ∨ ((¬ p2 < 0 ∧ ¬ 1024 ≤ p2) ∧ (p3 < 0 ∨ (¬ p3 < 0 ∧ 4 ≤ p3))))))) → va_P G.1 vwCl [(mm, .inr (9, [.int t, .ref nw, .ref cq, .ref hi, .int 0, .ref ko, .ref se, .int 0, .ref nf, .ref ns, .ref pi])), (pa, .inl (G.2.1, 4, .inl (upd (upd (upd (upd (fun _ => 0) 0 p0) 1 p1) 2 p2) 3 p3)))] H → va_D A [(mm, .inr (9, [.int t, .ref nw, .ref cq, .ref hi, .int 0, .ref ko, .ref se, .int 0, .ref nf, .ref ns, .ref pi])), (pa, .inl (G.2.1, 4, .inl (upd (upd (upd (upd (fun _ => 0) 0 p0) 1 p1) 2 p2) 3 p3)))] → va_S A s.heap H locs → lv_has ls 3 [(2, .int 1), (1, .ref pa), (0, .ref mm)] → W p l e { frames := 1, cells := 0, slots := 0, locals := 22 } s m ([.ref mm, .ref pa] : List Value).toArray below meth c H locs 0 0 (MQ below (zQ G A (some (.int 0)) (fun u => [(mm, .inr (9, [.int 1, .ref nw, .ref cq, .ref hi, .int 0, .ref ko, .ref se, .int 0, .ref nf, .ref ns, .ref pi])), (pa, .inl (G.2.1, 4, .inl (upd (upd (upd (upd (fun _ => 0) 0 p0) 1 p1) 2 p2) 3 p3)))])) ([.ref mm, .ref pa] : List Value).toArray s 0 0 A) (F0 m 7 ls []) := by
    intro t H locs ls hb9 hP hD hS hl
    by_cases a : p1 < 0
    · have hz := True.intro
      refine lv_iload_n hx hb dX9_isPacket_7 rfl (lv_at hl 0 rfl) ?_
      refine lv_iconst (v := 4) hx hb dX9_isPacket_8 (by decide) ?_
      refine lv_icmp_ge (tgt := 39) hx hb dX9_isPacket_9 (by decide) (fun h9 => absurd h9 (by decide)) (fun _ => ?_)
      refine lv_aload_n hx hb dX9_isPacket_12 rfl (lv_at hl 1 rfl) ?_
      refine lv_iload_n hx hb dX9_isPacket_13 rfl (lv_at hl 0 rfl) ?_
      refine va_iald hx hb hE.1 hP 1 0 rfl rfl (zin (by decide +kernel)) dX9_isPacket_14 ?_
      refine zti (v := p1) rfl ?_
      refine lv_iconst (v := 0) hx hb dX9_isPacket_15 (by decide) ?_
      refine lv_iload_n hx hb dX9_isPacket_16 rfl (lv_at hl 0 rfl) ?_
      refine zcall (wr := [(mm, .inr (9, [.int t, .ref nw, .ref cq, .ref hi, .int 0, .ref ko, .ref se, .int 0, .ref nf, .ref ns, .ref pi])), (pa, .inl (G.2.1, 4, .inl (upd (upd (upd (upd (fun _ => 0) 0 p0) 1 p1) 2 p2) 3 p3)))]) (va_runS (As := [.int 1]) (rest := [.int 0, .int p1]) ⟨hx, hb, hml, hown, hts⟩ (z_X9_values1 l G H.size) (va_cwS 1 hts gX9_isPacket_X9_values rfl rfl rfl (by decide +kernel) ⟨Nat.le_of_ble_eq_true rfl, Nat.le_of_ble_eq_true rfl⟩) (zPre (Wc := []) hP hD hE hS hA [] rfl (by decide)) rfl rfl hl.1 rfl (lv_room (Nat.le_of_ble_eq_true rfl)) dX9_isPacket_17 ⟨Nat.le_of_ble_eq_true rfl, Nat.le_of_ble_eq_true rfl⟩) hP hD hS hA [] [0, 1] rfl rfl (by decide) (by decide) (fun u1 H locs hP hD hS => ?_)
      have hP : va_P G.1 vwCl [(mm, .inr (9, [.int t, .ref nw, .ref cq, .ref hi, .int 0, .ref ko, .ref se, .int 0, .ref nf, .ref ns, .ref pi])), (pa, .inl (G.2.1, 4, .inl (upd (upd (upd (upd (fun _ => 0) 0 p0) 1 p1) 2 p2) 3 p3)))] H := hP
      have hD : va_D A [(mm, .inr (9, [.int t, .ref nw, .ref cq, .ref hi, .int 0, .ref ko, .ref se, .int 0, .ref nf, .ref ns, .ref pi])), (pa, .inl (G.2.1, 4, .inl (upd (upd (upd (upd (fun _ => 0) 0 p0) 1 p1) 2 p2) 3 p3)))] := hD
      refine W.eq (g2 := F0 m 20 ls [.int 256, .int 0, .int p1]) rfl ?_
      refine lv_iconst (v := 1) hx hb dX9_isPacket_20 (by decide) ?_
      refine lv_isub hx hb dX9_isPacket_21 ?_
      refine zti (v := 255) (by decide) ?_
      refine zcall (wr := [(mm, .inr (9, [.int t, .ref nw, .ref cq, .ref hi, .int 0, .ref ko, .ref se, .int 0, .ref nf, .ref ns, .ref pi])), (pa, .inl (G.2.1, 4, .inl (upd (upd (upd (upd (fun _ => 0) 0 p0) 1 p1) 2 p2) 3 p3)))]) (va_runS (As := [.int p1, .int 0, .int 255]) (rest := []) ⟨hx, hb, hml, hown, hts⟩ (z_X9_isInL l G p1 0 255 a H.size) (va_cwS 3 hts gX9_isPacket_X9_isIn rfl rfl rfl (by decide +kernel) ⟨Nat.le_of_ble_eq_true rfl, Nat.le_of_ble_eq_true rfl⟩) (zPre (Wc := []) hP hD hE hS hA [] rfl (by decide)) rfl rfl hl.1 rfl (lv_room (Nat.le_of_ble_eq_true rfl)) dX9_isPacket_22 ⟨Nat.le_of_ble_eq_true rfl, Nat.le_of_ble_eq_true rfl⟩) hP hD hS hA [] [0, 1] rfl rfl (by decide) (by decide) (fun u2 H locs hP hD hS => ?_)
      have hP : va_P G.1 vwCl [(mm, .inr (9, [.int t, .ref nw, .ref cq, .ref hi, .int 0, .ref ko, .ref se, .int 0, .ref nf, .ref ns, .ref pi])), (pa, .inl (G.2.1, 4, .inl (upd (upd (upd (upd (fun _ => 0) 0 p0) 1 p1) 2 p2) 3 p3)))] H := hP
      have hD : va_D A [(mm, .inr (9, [.int t, .ref nw, .ref cq, .ref hi, .int 0, .ref ko, .ref se, .int 0, .ref nf, .ref ns, .ref pi])), (pa, .inl (G.2.1, 4, .inl (upd (upd (upd (upd (fun _ => 0) 0 p0) 1 p1) 2 p2) 3 p3)))] := hD
      refine W.eq (g2 := F0 m 25 ls [.int 0]) rfl ?_
      refine lv_if_ne (tgt := 33) hx hb dX9_isPacket_25 (by decide) (fun h9 => absurd (by decide) h9) (fun _ => ?_)
      refine lv_aload_n hx hb dX9_isPacket_28 rfl (lv_at hl 2 rfl) ?_
      refine lv_iconst (v := 1) hx hb dX9_isPacket_29 (by decide) ?_
      refine va_put (D := G.1) (ci := 9) (v := .int 1) (ty := tyX9 0) (C := RX9) (T := TX9) (N := 11) hx hb hts hw9 tyX9 tyX9_ok nmX9 hown hE.1 hP hD hS 0 rfl rfl 0 (by decide) hf40 (fun _ h9 => h9) rfl (by decide +kernel) rfl rfl (Nat.le_of_ble_eq_true rfl) dX9_isPacket_30 (fun H locs hP hD hS => ?_)
      have hP : va_P G.1 vwCl [(mm, .inr (9, [.int 1, .ref nw, .ref cq, .ref hi, .int 0, .ref ko, .ref se, .int 0, .ref nf, .ref ns, .ref pi])), (pa, .inl (G.2.1, 4, .inl (upd (upd (upd (upd (fun _ => 0) 0 p0) 1 p1) 2 p2) 3 p3)))] H := hP
      have hD : va_D A [(mm, .inr (9, [.int 1, .ref nw, .ref cq, .ref hi, .int 0, .ref ko, .ref se, .int 0, .ref nf, .ref ns, .ref pi])), (pa, .inl (G.2.1, 4, .inl (upd (upd (upd (upd (fun _ => 0) 0 p0) 1 p1) 2 p2) 3 p3)))] := hD
      refine lv_iinc (v := 2) (lv' := [(2, .int 2), (1, .ref pa), (0, .ref mm)]) hx hb dX9_isPacket_33 hl (k := 0) rfl (by decide) (by decide) rfl (fun ls hl => ?_)
      refine lv_goto (tgt := 7) hx hb dX9_isPacket_36 (by decide) ?_
      have hl := lv_sub hl (l' := [(2, .int 2), (1, .ref pa), (0, .ref mm)]) [0, 1, 2] rfl
      exact k2 1 _ _ ls (Or.inl rfl) hP hD hS hl
    · by_cases b : 256 ≤ p1
      · have hz := True.intro
        refine lv_iload_n hx hb dX9_isPacket_7 rfl (lv_at hl 0 rfl) ?_
        refine lv_iconst (v := 4) hx hb dX9_isPacket_8 (by decide) ?_
        refine lv_icmp_ge (tgt := 39) hx hb dX9_isPacket_9 (by decide) (fun h9 => absurd h9 (by decide)) (fun _ => ?_)
        refine lv_aload_n hx hb dX9_isPacket_12 rfl (lv_at hl 1 rfl) ?_
        refine lv_iload_n hx hb dX9_isPacket_13 rfl (lv_at hl 0 rfl) ?_
        refine va_iald hx hb hE.1 hP 1 0 rfl rfl (zin (by decide +kernel)) dX9_isPacket_14 ?_
        refine zti (v := p1) rfl ?_
        refine lv_iconst (v := 0) hx hb dX9_isPacket_15 (by decide) ?_
        refine lv_iload_n hx hb dX9_isPacket_16 rfl (lv_at hl 0 rfl) ?_
        refine zcall (wr := [(mm, .inr (9, [.int t, .ref nw, .ref cq, .ref hi, .int 0, .ref ko, .ref se, .int 0, .ref nf, .ref ns, .ref pi])), (pa, .inl (G.2.1, 4, .inl (upd (upd (upd (upd (fun _ => 0) 0 p0) 1 p1) 2 p2) 3 p3)))]) (va_runS (As := [.int 1]) (rest := [.int 0, .int p1]) ⟨hx, hb, hml, hown, hts⟩ (z_X9_values1 l G H.size) (va_cwS 1 hts gX9_isPacket_X9_values rfl rfl rfl (by decide +kernel) ⟨Nat.le_of_ble_eq_true rfl, Nat.le_of_ble_eq_true rfl⟩) (zPre (Wc := []) hP hD hE hS hA [] rfl (by decide)) rfl rfl hl.1 rfl (lv_room (Nat.le_of_ble_eq_true rfl)) dX9_isPacket_17 ⟨Nat.le_of_ble_eq_true rfl, Nat.le_of_ble_eq_true rfl⟩) hP hD hS hA [] [0, 1] rfl rfl (by decide) (by decide) (fun u1 H locs hP hD hS => ?_)
        have hP : va_P G.1 vwCl [(mm, .inr (9, [.int t, .ref nw, .ref cq, .ref hi, .int 0, .ref ko, .ref se, .int 0, .ref nf, .ref ns, .ref pi])), (pa, .inl (G.2.1, 4, .inl (upd (upd (upd (upd (fun _ => 0) 0 p0) 1 p1) 2 p2) 3 p3)))] H := hP
        have hD : va_D A [(mm, .inr (9, [.int t, .ref nw, .ref cq, .ref hi, .int 0, .ref ko, .ref se, .int 0, .ref nf, .ref ns, .ref pi])), (pa, .inl (G.2.1, 4, .inl (upd (upd (upd (upd (fun _ => 0) 0 p0) 1 p1) 2 p2) 3 p3)))] := hD
        refine W.eq (g2 := F0 m 20 ls [.int 256, .int 0, .int p1]) rfl ?_
        refine lv_iconst (v := 1) hx hb dX9_isPacket_20 (by decide) ?_
        refine lv_isub hx hb dX9_isPacket_21 ?_
        refine zti (v := 255) (by decide) ?_
        refine zcall (wr := [(mm, .inr (9, [.int t, .ref nw, .ref cq, .ref hi, .int 0, .ref ko, .ref se, .int 0, .ref nf, .ref ns, .ref pi])), (pa, .inl (G.2.1, 4, .inl (upd (upd (upd (upd (fun _ => 0) 0 p0) 1 p1) 2 p2) 3 p3)))]) (va_runS (As := [.int p1, .int 0, .int 255]) (rest := []) ⟨hx, hb, hml, hown, hts⟩ (z_X9_isInH l G p1 0 255 a (zg255 b) H.size) (va_cwS 3 hts gX9_isPacket_X9_isIn rfl rfl rfl (by decide +kernel) ⟨Nat.le_of_ble_eq_true rfl, Nat.le_of_ble_eq_true rfl⟩) (zPre (Wc := []) hP hD hE hS hA [] rfl (by decide)) rfl rfl hl.1 rfl (lv_room (Nat.le_of_ble_eq_true rfl)) dX9_isPacket_22 ⟨Nat.le_of_ble_eq_true rfl, Nat.le_of_ble_eq_true rfl⟩) hP hD hS hA [] [0, 1] rfl rfl (by decide) (by decide) (fun u2 H locs hP hD hS => ?_)
        have hP : va_P G.1 vwCl [(mm, .inr (9, [.int t, .ref nw, .ref cq, .ref hi, .int 0, .ref ko, .ref se, .int 0, .ref nf, .ref ns, .ref pi])), (pa, .inl (G.2.1, 4, .inl (upd (upd (upd (upd (fun _ => 0) 0 p0) 1 p1) 2 p2) 3 p3)))] H := hP
        have hD : va_D A [(mm, .inr (9, [.int t, .ref nw, .ref cq, .ref hi, .int 0, .ref ko, .ref se, .int 0, .ref nf, .ref ns, .ref pi])), (pa, .inl (G.2.1, 4, .inl (upd (upd (upd (upd (fun _ => 0) 0 p0) 1 p1) 2 p2) 3 p3)))] := hD
        refine W.eq (g2 := F0 m 25 ls [.int 0]) rfl ?_
        refine lv_if_ne (tgt := 33) hx hb dX9_isPacket_25 (by decide) (fun h9 => absurd (by decide) h9) (fun _ => ?_)
        refine lv_aload_n hx hb dX9_isPacket_28 rfl (lv_at hl 2 rfl) ?_
        refine lv_iconst (v := 1) hx hb dX9_isPacket_29 (by decide) ?_
        refine va_put (D := G.1) (ci := 9) (v := .int 1) (ty := tyX9 0) (C := RX9) (T := TX9) (N := 11) hx hb hts hw9 tyX9 tyX9_ok nmX9 hown hE.1 hP hD hS 0 rfl rfl 0 (by decide) hf40 (fun _ h9 => h9) rfl (by decide +kernel) rfl rfl (Nat.le_of_ble_eq_true rfl) dX9_isPacket_30 (fun H locs hP hD hS => ?_)
        have hP : va_P G.1 vwCl [(mm, .inr (9, [.int 1, .ref nw, .ref cq, .ref hi, .int 0, .ref ko, .ref se, .int 0, .ref nf, .ref ns, .ref pi])), (pa, .inl (G.2.1, 4, .inl (upd (upd (upd (upd (fun _ => 0) 0 p0) 1 p1) 2 p2) 3 p3)))] H := hP
        have hD : va_D A [(mm, .inr (9, [.int 1, .ref nw, .ref cq, .ref hi, .int 0, .ref ko, .ref se, .int 0, .ref nf, .ref ns, .ref pi])), (pa, .inl (G.2.1, 4, .inl (upd (upd (upd (upd (fun _ => 0) 0 p0) 1 p1) 2 p2) 3 p3)))] := hD
        refine lv_iinc (v := 2) (lv' := [(2, .int 2), (1, .ref pa), (0, .ref mm)]) hx hb dX9_isPacket_33 hl (k := 0) rfl (by decide) (by decide) rfl (fun ls hl => ?_)
        refine lv_goto (tgt := 7) hx hb dX9_isPacket_36 (by decide) ?_
        have hl := lv_sub hl (l' := [(2, .int 2), (1, .ref pa), (0, .ref mm)]) [0, 1, 2] rfl
        exact k2 1 _ _ ls (Or.inl rfl) hP hD hS hl
      · have hz := True.intro
        refine lv_iload_n hx hb dX9_isPacket_7 rfl (lv_at hl 0 rfl) ?_
        refine lv_iconst (v := 4) hx hb dX9_isPacket_8 (by decide) ?_
        refine lv_icmp_ge (tgt := 39) hx hb dX9_isPacket_9 (by decide) (fun h9 => absurd h9 (by decide)) (fun _ => ?_)
        refine lv_aload_n hx hb dX9_isPacket_12 rfl (lv_at hl 1 rfl) ?_
        refine lv_iload_n hx hb dX9_isPacket_13 rfl (lv_at hl 0 rfl) ?_
        refine va_iald hx hb hE.1 hP 1 0 rfl rfl (zin (by decide +kernel)) dX9_isPacket_14 ?_
        refine zti (v := p1) rfl ?_
        refine lv_iconst (v := 0) hx hb dX9_isPacket_15 (by decide) ?_
        refine lv_iload_n hx hb dX9_isPacket_16 rfl (lv_at hl 0 rfl) ?_
        refine zcall (wr := [(mm, .inr (9, [.int t, .ref nw, .ref cq, .ref hi, .int 0, .ref ko, .ref se, .int 0, .ref nf, .ref ns, .ref pi])), (pa, .inl (G.2.1, 4, .inl (upd (upd (upd (upd (fun _ => 0) 0 p0) 1 p1) 2 p2) 3 p3)))]) (va_runS (As := [.int 1]) (rest := [.int 0, .int p1]) ⟨hx, hb, hml, hown, hts⟩ (z_X9_values1 l G H.size) (va_cwS 1 hts gX9_isPacket_X9_values rfl rfl rfl (by decide +kernel) ⟨Nat.le_of_ble_eq_true rfl, Nat.le_of_ble_eq_true rfl⟩) (zPre (Wc := []) hP hD hE hS hA [] rfl (by decide)) rfl rfl hl.1 rfl (lv_room (Nat.le_of_ble_eq_true rfl)) dX9_isPacket_17 ⟨Nat.le_of_ble_eq_true rfl, Nat.le_of_ble_eq_true rfl⟩) hP hD hS hA [] [0, 1] rfl rfl (by decide) (by decide) (fun u1 H locs hP hD hS => ?_)
        have hP : va_P G.1 vwCl [(mm, .inr (9, [.int t, .ref nw, .ref cq, .ref hi, .int 0, .ref ko, .ref se, .int 0, .ref nf, .ref ns, .ref pi])), (pa, .inl (G.2.1, 4, .inl (upd (upd (upd (upd (fun _ => 0) 0 p0) 1 p1) 2 p2) 3 p3)))] H := hP
        have hD : va_D A [(mm, .inr (9, [.int t, .ref nw, .ref cq, .ref hi, .int 0, .ref ko, .ref se, .int 0, .ref nf, .ref ns, .ref pi])), (pa, .inl (G.2.1, 4, .inl (upd (upd (upd (upd (fun _ => 0) 0 p0) 1 p1) 2 p2) 3 p3)))] := hD
        refine W.eq (g2 := F0 m 20 ls [.int 256, .int 0, .int p1]) rfl ?_
        refine lv_iconst (v := 1) hx hb dX9_isPacket_20 (by decide) ?_
        refine lv_isub hx hb dX9_isPacket_21 ?_
        refine zti (v := 255) (by decide) ?_
        refine zcall (wr := [(mm, .inr (9, [.int t, .ref nw, .ref cq, .ref hi, .int 0, .ref ko, .ref se, .int 0, .ref nf, .ref ns, .ref pi])), (pa, .inl (G.2.1, 4, .inl (upd (upd (upd (upd (fun _ => 0) 0 p0) 1 p1) 2 p2) 3 p3)))]) (va_runS (As := [.int p1, .int 0, .int 255]) (rest := []) ⟨hx, hb, hml, hown, hts⟩ (z_X9_isIn l G p1 0 255 a (zl255 b) H.size) (va_cwS 3 hts gX9_isPacket_X9_isIn rfl rfl rfl (by decide +kernel) ⟨Nat.le_of_ble_eq_true rfl, Nat.le_of_ble_eq_true rfl⟩) (zPre (Wc := []) hP hD hE hS hA [] rfl (by decide)) rfl rfl hl.1 rfl (lv_room (Nat.le_of_ble_eq_true rfl)) dX9_isPacket_22 ⟨Nat.le_of_ble_eq_true rfl, Nat.le_of_ble_eq_true rfl⟩) hP hD hS hA [] [0, 1] rfl rfl (by decide) (by decide) (fun u2 H locs hP hD hS => ?_)
        have hP : va_P G.1 vwCl [(mm, .inr (9, [.int t, .ref nw, .ref cq, .ref hi, .int 0, .ref ko, .ref se, .int 0, .ref nf, .ref ns, .ref pi])), (pa, .inl (G.2.1, 4, .inl (upd (upd (upd (upd (fun _ => 0) 0 p0) 1 p1) 2 p2) 3 p3)))] H := hP
        have hD : va_D A [(mm, .inr (9, [.int t, .ref nw, .ref cq, .ref hi, .int 0, .ref ko, .ref se, .int 0, .ref nf, .ref ns, .ref pi])), (pa, .inl (G.2.1, 4, .inl (upd (upd (upd (upd (fun _ => 0) 0 p0) 1 p1) 2 p2) 3 p3)))] := hD
        refine W.eq (g2 := F0 m 25 ls [.int 1]) rfl ?_
        refine lv_if_ne (tgt := 33) hx hb dX9_isPacket_25 (by decide) (fun _ => ?_) (fun h9 => absurd h9 (by decide))
        refine lv_iinc (v := 2) (lv' := [(2, .int 2), (1, .ref pa), (0, .ref mm)]) hx hb dX9_isPacket_33 hl (k := 0) rfl (by decide) (by decide) rfl (fun ls hl => ?_)
        refine lv_goto (tgt := 7) hx hb dX9_isPacket_36 (by decide) ?_
        have hl := lv_sub hl (l' := [(2, .int 2), (1, .ref pa), (0, .ref mm)]) [0, 1, 2] rfl
        exact k2 t _ _ ls (hb9.imp id (fun q => q.elim (fun z => absurd z a) (fun q => q.elim (fun z => absurd z.2 b) (fun z => z.2)))) hP hD hS hl
  have k0 : ∀ (t : Int32) (H : Heap) (locs : List Loc) (ls : Array Slot), (t = 1 ∨ (p0 < 0 ∨ (¬ p0 < 0 ∧ 256 ≤ p0) ∨ ((¬ p0 < 0 ∧ ¬ 256 ≤ p0) ∧ (p1 < 0 ∨ (¬ p1 < 0 ∧ 256 ≤ p1) ∨ ((¬ p1 < 0 ∧ ¬ 256 ≤ p1) ∧ (p2 < 0 ∨ (¬ p2 < 0 ∧ 1024 ≤ p2) ∨ ((¬ p2 < 0 ∧ ¬ 1024 ≤ p2) ∧ (p3 < 0 ∨ (¬ p3 < 0 ∧ 4 ≤ p3))))))))) → va_P G.1 vwCl [(mm, .inr (9, [.int t, .ref nw, .ref cq, .ref hi, .int 0, .ref ko, .ref se, .int 0, .ref nf, .ref ns, .ref pi])), (pa, .inl (G.2.1, 4, .inl (upd (upd (upd (upd (fun _ => 0) 0 p0) 1 p1) 2 p2) 3 p3)))] H → va_D A [(mm, .inr (9, [.int t, .ref nw, .ref cq, .ref hi, .int 0, .ref ko, .ref se, .int 0, .ref nf, .ref ns, .ref pi])), (pa, .inl (G.2.1, 4, .inl (upd (upd (upd (upd (fun _ => 0) 0 p0) 1 p1) 2 p2) 3 p3)))] → va_S A s.heap H locs → lv_has ls 3 [(2, .int 0), (1, .ref pa), (0, .ref mm)] → W p l e { frames := 1, cells := 0, slots := 0, locals := 22 } s m ([.ref mm, .ref pa] : List Value).toArray below meth c H locs 0 0 (MQ below (zQ G A (some (.int 0)) (fun u => [(mm, .inr (9, [.int 1, .ref nw, .ref cq, .ref hi, .int 0, .ref ko, .ref se, .int 0, .ref nf, .ref ns, .ref pi])), (pa, .inl (G.2.1, 4, .inl (upd (upd (upd (upd (fun _ => 0) 0 p0) 1 p1) 2 p2) 3 p3)))])) ([.ref mm, .ref pa] : List Value).toArray s 0 0 A) (F0 m 7 ls []) := by
    intro t H locs ls hb9 hP hD hS hl
    by_cases a : p0 < 0
    · have hz := True.intro
      refine lv_iload_n hx hb dX9_isPacket_7 rfl (lv_at hl 0 rfl) ?_
      refine lv_iconst (v := 4) hx hb dX9_isPacket_8 (by decide) ?_
      refine lv_icmp_ge (tgt := 39) hx hb dX9_isPacket_9 (by decide) (fun h9 => absurd h9 (by decide)) (fun _ => ?_)
      refine lv_aload_n hx hb dX9_isPacket_12 rfl (lv_at hl 1 rfl) ?_
      refine lv_iload_n hx hb dX9_isPacket_13 rfl (lv_at hl 0 rfl) ?_
      refine va_iald hx hb hE.1 hP 1 0 rfl rfl (zin (by decide +kernel)) dX9_isPacket_14 ?_
      refine zti (v := p0) rfl ?_
      refine lv_iconst (v := 0) hx hb dX9_isPacket_15 (by decide) ?_
      refine lv_iload_n hx hb dX9_isPacket_16 rfl (lv_at hl 0 rfl) ?_
      refine zcall (wr := [(mm, .inr (9, [.int t, .ref nw, .ref cq, .ref hi, .int 0, .ref ko, .ref se, .int 0, .ref nf, .ref ns, .ref pi])), (pa, .inl (G.2.1, 4, .inl (upd (upd (upd (upd (fun _ => 0) 0 p0) 1 p1) 2 p2) 3 p3)))]) (va_runS (As := [.int 0]) (rest := [.int 0, .int p0]) ⟨hx, hb, hml, hown, hts⟩ (z_X9_values0 l G H.size) (va_cwS 1 hts gX9_isPacket_X9_values rfl rfl rfl (by decide +kernel) ⟨Nat.le_of_ble_eq_true rfl, Nat.le_of_ble_eq_true rfl⟩) (zPre (Wc := []) hP hD hE hS hA [] rfl (by decide)) rfl rfl hl.1 rfl (lv_room (Nat.le_of_ble_eq_true rfl)) dX9_isPacket_17 ⟨Nat.le_of_ble_eq_true rfl, Nat.le_of_ble_eq_true rfl⟩) hP hD hS hA [] [0, 1] rfl rfl (by decide) (by decide) (fun u1 H locs hP hD hS => ?_)
      have hP : va_P G.1 vwCl [(mm, .inr (9, [.int t, .ref nw, .ref cq, .ref hi, .int 0, .ref ko, .ref se, .int 0, .ref nf, .ref ns, .ref pi])), (pa, .inl (G.2.1, 4, .inl (upd (upd (upd (upd (fun _ => 0) 0 p0) 1 p1) 2 p2) 3 p3)))] H := hP
      have hD : va_D A [(mm, .inr (9, [.int t, .ref nw, .ref cq, .ref hi, .int 0, .ref ko, .ref se, .int 0, .ref nf, .ref ns, .ref pi])), (pa, .inl (G.2.1, 4, .inl (upd (upd (upd (upd (fun _ => 0) 0 p0) 1 p1) 2 p2) 3 p3)))] := hD
      refine W.eq (g2 := F0 m 20 ls [.int 256, .int 0, .int p0]) rfl ?_
      refine lv_iconst (v := 1) hx hb dX9_isPacket_20 (by decide) ?_
      refine lv_isub hx hb dX9_isPacket_21 ?_
      refine zti (v := 255) (by decide) ?_
      refine zcall (wr := [(mm, .inr (9, [.int t, .ref nw, .ref cq, .ref hi, .int 0, .ref ko, .ref se, .int 0, .ref nf, .ref ns, .ref pi])), (pa, .inl (G.2.1, 4, .inl (upd (upd (upd (upd (fun _ => 0) 0 p0) 1 p1) 2 p2) 3 p3)))]) (va_runS (As := [.int p0, .int 0, .int 255]) (rest := []) ⟨hx, hb, hml, hown, hts⟩ (z_X9_isInL l G p0 0 255 a H.size) (va_cwS 3 hts gX9_isPacket_X9_isIn rfl rfl rfl (by decide +kernel) ⟨Nat.le_of_ble_eq_true rfl, Nat.le_of_ble_eq_true rfl⟩) (zPre (Wc := []) hP hD hE hS hA [] rfl (by decide)) rfl rfl hl.1 rfl (lv_room (Nat.le_of_ble_eq_true rfl)) dX9_isPacket_22 ⟨Nat.le_of_ble_eq_true rfl, Nat.le_of_ble_eq_true rfl⟩) hP hD hS hA [] [0, 1] rfl rfl (by decide) (by decide) (fun u2 H locs hP hD hS => ?_)
      have hP : va_P G.1 vwCl [(mm, .inr (9, [.int t, .ref nw, .ref cq, .ref hi, .int 0, .ref ko, .ref se, .int 0, .ref nf, .ref ns, .ref pi])), (pa, .inl (G.2.1, 4, .inl (upd (upd (upd (upd (fun _ => 0) 0 p0) 1 p1) 2 p2) 3 p3)))] H := hP
      have hD : va_D A [(mm, .inr (9, [.int t, .ref nw, .ref cq, .ref hi, .int 0, .ref ko, .ref se, .int 0, .ref nf, .ref ns, .ref pi])), (pa, .inl (G.2.1, 4, .inl (upd (upd (upd (upd (fun _ => 0) 0 p0) 1 p1) 2 p2) 3 p3)))] := hD
      refine W.eq (g2 := F0 m 25 ls [.int 0]) rfl ?_
      refine lv_if_ne (tgt := 33) hx hb dX9_isPacket_25 (by decide) (fun h9 => absurd (by decide) h9) (fun _ => ?_)
      refine lv_aload_n hx hb dX9_isPacket_28 rfl (lv_at hl 2 rfl) ?_
      refine lv_iconst (v := 1) hx hb dX9_isPacket_29 (by decide) ?_
      refine va_put (D := G.1) (ci := 9) (v := .int 1) (ty := tyX9 0) (C := RX9) (T := TX9) (N := 11) hx hb hts hw9 tyX9 tyX9_ok nmX9 hown hE.1 hP hD hS 0 rfl rfl 0 (by decide) hf40 (fun _ h9 => h9) rfl (by decide +kernel) rfl rfl (Nat.le_of_ble_eq_true rfl) dX9_isPacket_30 (fun H locs hP hD hS => ?_)
      have hP : va_P G.1 vwCl [(mm, .inr (9, [.int 1, .ref nw, .ref cq, .ref hi, .int 0, .ref ko, .ref se, .int 0, .ref nf, .ref ns, .ref pi])), (pa, .inl (G.2.1, 4, .inl (upd (upd (upd (upd (fun _ => 0) 0 p0) 1 p1) 2 p2) 3 p3)))] H := hP
      have hD : va_D A [(mm, .inr (9, [.int 1, .ref nw, .ref cq, .ref hi, .int 0, .ref ko, .ref se, .int 0, .ref nf, .ref ns, .ref pi])), (pa, .inl (G.2.1, 4, .inl (upd (upd (upd (upd (fun _ => 0) 0 p0) 1 p1) 2 p2) 3 p3)))] := hD
      refine lv_iinc (v := 1) (lv' := [(2, .int 1), (1, .ref pa), (0, .ref mm)]) hx hb dX9_isPacket_33 hl (k := 0) rfl (by decide) (by decide) rfl (fun ls hl => ?_)
      refine lv_goto (tgt := 7) hx hb dX9_isPacket_36 (by decide) ?_
      have hl := lv_sub hl (l' := [(2, .int 1), (1, .ref pa), (0, .ref mm)]) [0, 1, 2] rfl
      exact k1 1 _ _ ls (Or.inl rfl) hP hD hS hl
    · by_cases b : 256 ≤ p0
      · have hz := True.intro
        refine lv_iload_n hx hb dX9_isPacket_7 rfl (lv_at hl 0 rfl) ?_
        refine lv_iconst (v := 4) hx hb dX9_isPacket_8 (by decide) ?_
        refine lv_icmp_ge (tgt := 39) hx hb dX9_isPacket_9 (by decide) (fun h9 => absurd h9 (by decide)) (fun _ => ?_)
        refine lv_aload_n hx hb dX9_isPacket_12 rfl (lv_at hl 1 rfl) ?_
        refine lv_iload_n hx hb dX9_isPacket_13 rfl (lv_at hl 0 rfl) ?_
        refine va_iald hx hb hE.1 hP 1 0 rfl rfl (zin (by decide +kernel)) dX9_isPacket_14 ?_
        refine zti (v := p0) rfl ?_
        refine lv_iconst (v := 0) hx hb dX9_isPacket_15 (by decide) ?_
        refine lv_iload_n hx hb dX9_isPacket_16 rfl (lv_at hl 0 rfl) ?_
        refine zcall (wr := [(mm, .inr (9, [.int t, .ref nw, .ref cq, .ref hi, .int 0, .ref ko, .ref se, .int 0, .ref nf, .ref ns, .ref pi])), (pa, .inl (G.2.1, 4, .inl (upd (upd (upd (upd (fun _ => 0) 0 p0) 1 p1) 2 p2) 3 p3)))]) (va_runS (As := [.int 0]) (rest := [.int 0, .int p0]) ⟨hx, hb, hml, hown, hts⟩ (z_X9_values0 l G H.size) (va_cwS 1 hts gX9_isPacket_X9_values rfl rfl rfl (by decide +kernel) ⟨Nat.le_of_ble_eq_true rfl, Nat.le_of_ble_eq_true rfl⟩) (zPre (Wc := []) hP hD hE hS hA [] rfl (by decide)) rfl rfl hl.1 rfl (lv_room (Nat.le_of_ble_eq_true rfl)) dX9_isPacket_17 ⟨Nat.le_of_ble_eq_true rfl, Nat.le_of_ble_eq_true rfl⟩) hP hD hS hA [] [0, 1] rfl rfl (by decide) (by decide) (fun u1 H locs hP hD hS => ?_)
        have hP : va_P G.1 vwCl [(mm, .inr (9, [.int t, .ref nw, .ref cq, .ref hi, .int 0, .ref ko, .ref se, .int 0, .ref nf, .ref ns, .ref pi])), (pa, .inl (G.2.1, 4, .inl (upd (upd (upd (upd (fun _ => 0) 0 p0) 1 p1) 2 p2) 3 p3)))] H := hP
        have hD : va_D A [(mm, .inr (9, [.int t, .ref nw, .ref cq, .ref hi, .int 0, .ref ko, .ref se, .int 0, .ref nf, .ref ns, .ref pi])), (pa, .inl (G.2.1, 4, .inl (upd (upd (upd (upd (fun _ => 0) 0 p0) 1 p1) 2 p2) 3 p3)))] := hD
        refine W.eq (g2 := F0 m 20 ls [.int 256, .int 0, .int p0]) rfl ?_
        refine lv_iconst (v := 1) hx hb dX9_isPacket_20 (by decide) ?_
        refine lv_isub hx hb dX9_isPacket_21 ?_
        refine zti (v := 255) (by decide) ?_
        refine zcall (wr := [(mm, .inr (9, [.int t, .ref nw, .ref cq, .ref hi, .int 0, .ref ko, .ref se, .int 0, .ref nf, .ref ns, .ref pi])), (pa, .inl (G.2.1, 4, .inl (upd (upd (upd (upd (fun _ => 0) 0 p0) 1 p1) 2 p2) 3 p3)))]) (va_runS (As := [.int p0, .int 0, .int 255]) (rest := []) ⟨hx, hb, hml, hown, hts⟩ (z_X9_isInH l G p0 0 255 a (zg255 b) H.size) (va_cwS 3 hts gX9_isPacket_X9_isIn rfl rfl rfl (by decide +kernel) ⟨Nat.le_of_ble_eq_true rfl, Nat.le_of_ble_eq_true rfl⟩) (zPre (Wc := []) hP hD hE hS hA [] rfl (by decide)) rfl rfl hl.1 rfl (lv_room (Nat.le_of_ble_eq_true rfl)) dX9_isPacket_22 ⟨Nat.le_of_ble_eq_true rfl, Nat.le_of_ble_eq_true rfl⟩) hP hD hS hA [] [0, 1] rfl rfl (by decide) (by decide) (fun u2 H locs hP hD hS => ?_)
        have hP : va_P G.1 vwCl [(mm, .inr (9, [.int t, .ref nw, .ref cq, .ref hi, .int 0, .ref ko, .ref se, .int 0, .ref nf, .ref ns, .ref pi])), (pa, .inl (G.2.1, 4, .inl (upd (upd (upd (upd (fun _ => 0) 0 p0) 1 p1) 2 p2) 3 p3)))] H := hP
        have hD : va_D A [(mm, .inr (9, [.int t, .ref nw, .ref cq, .ref hi, .int 0, .ref ko, .ref se, .int 0, .ref nf, .ref ns, .ref pi])), (pa, .inl (G.2.1, 4, .inl (upd (upd (upd (upd (fun _ => 0) 0 p0) 1 p1) 2 p2) 3 p3)))] := hD
        refine W.eq (g2 := F0 m 25 ls [.int 0]) rfl ?_
        refine lv_if_ne (tgt := 33) hx hb dX9_isPacket_25 (by decide) (fun h9 => absurd (by decide) h9) (fun _ => ?_)
        refine lv_aload_n hx hb dX9_isPacket_28 rfl (lv_at hl 2 rfl) ?_
        refine lv_iconst (v := 1) hx hb dX9_isPacket_29 (by decide) ?_
        refine va_put (D := G.1) (ci := 9) (v := .int 1) (ty := tyX9 0) (C := RX9) (T := TX9) (N := 11) hx hb hts hw9 tyX9 tyX9_ok nmX9 hown hE.1 hP hD hS 0 rfl rfl 0 (by decide) hf40 (fun _ h9 => h9) rfl (by decide +kernel) rfl rfl (Nat.le_of_ble_eq_true rfl) dX9_isPacket_30 (fun H locs hP hD hS => ?_)
        have hP : va_P G.1 vwCl [(mm, .inr (9, [.int 1, .ref nw, .ref cq, .ref hi, .int 0, .ref ko, .ref se, .int 0, .ref nf, .ref ns, .ref pi])), (pa, .inl (G.2.1, 4, .inl (upd (upd (upd (upd (fun _ => 0) 0 p0) 1 p1) 2 p2) 3 p3)))] H := hP
        have hD : va_D A [(mm, .inr (9, [.int 1, .ref nw, .ref cq, .ref hi, .int 0, .ref ko, .ref se, .int 0, .ref nf, .ref ns, .ref pi])), (pa, .inl (G.2.1, 4, .inl (upd (upd (upd (upd (fun _ => 0) 0 p0) 1 p1) 2 p2) 3 p3)))] := hD
        refine lv_iinc (v := 1) (lv' := [(2, .int 1), (1, .ref pa), (0, .ref mm)]) hx hb dX9_isPacket_33 hl (k := 0) rfl (by decide) (by decide) rfl (fun ls hl => ?_)
        refine lv_goto (tgt := 7) hx hb dX9_isPacket_36 (by decide) ?_
        have hl := lv_sub hl (l' := [(2, .int 1), (1, .ref pa), (0, .ref mm)]) [0, 1, 2] rfl
        exact k1 1 _ _ ls (Or.inl rfl) hP hD hS hl
      · have hz := True.intro
        refine lv_iload_n hx hb dX9_isPacket_7 rfl (lv_at hl 0 rfl) ?_
        refine lv_iconst (v := 4) hx hb dX9_isPacket_8 (by decide) ?_
        refine lv_icmp_ge (tgt := 39) hx hb dX9_isPacket_9 (by decide) (fun h9 => absurd h9 (by decide)) (fun _ => ?_)
        refine lv_aload_n hx hb dX9_isPacket_12 rfl (lv_at hl 1 rfl) ?_
        refine lv_iload_n hx hb dX9_isPacket_13 rfl (lv_at hl 0 rfl) ?_
        refine va_iald hx hb hE.1 hP 1 0 rfl rfl (zin (by decide +kernel)) dX9_isPacket_14 ?_
        refine zti (v := p0) rfl ?_
        refine lv_iconst (v := 0) hx hb dX9_isPacket_15 (by decide) ?_
        refine lv_iload_n hx hb dX9_isPacket_16 rfl (lv_at hl 0 rfl) ?_
        refine zcall (wr := [(mm, .inr (9, [.int t, .ref nw, .ref cq, .ref hi, .int 0, .ref ko, .ref se, .int 0, .ref nf, .ref ns, .ref pi])), (pa, .inl (G.2.1, 4, .inl (upd (upd (upd (upd (fun _ => 0) 0 p0) 1 p1) 2 p2) 3 p3)))]) (va_runS (As := [.int 0]) (rest := [.int 0, .int p0]) ⟨hx, hb, hml, hown, hts⟩ (z_X9_values0 l G H.size) (va_cwS 1 hts gX9_isPacket_X9_values rfl rfl rfl (by decide +kernel) ⟨Nat.le_of_ble_eq_true rfl, Nat.le_of_ble_eq_true rfl⟩) (zPre (Wc := []) hP hD hE hS hA [] rfl (by decide)) rfl rfl hl.1 rfl (lv_room (Nat.le_of_ble_eq_true rfl)) dX9_isPacket_17 ⟨Nat.le_of_ble_eq_true rfl, Nat.le_of_ble_eq_true rfl⟩) hP hD hS hA [] [0, 1] rfl rfl (by decide) (by decide) (fun u1 H locs hP hD hS => ?_)
        have hP : va_P G.1 vwCl [(mm, .inr (9, [.int t, .ref nw, .ref cq, .ref hi, .int 0, .ref ko, .ref se, .int 0, .ref nf, .ref ns, .ref pi])), (pa, .inl (G.2.1, 4, .inl (upd (upd (upd (upd (fun _ => 0) 0 p0) 1 p1) 2 p2) 3 p3)))] H := hP
        have hD : va_D A [(mm, .inr (9, [.int t, .ref nw, .ref cq, .ref hi, .int 0, .ref ko, .ref se, .int 0, .ref nf, .ref ns, .ref pi])), (pa, .inl (G.2.1, 4, .inl (upd (upd (upd (upd (fun _ => 0) 0 p0) 1 p1) 2 p2) 3 p3)))] := hD
        refine W.eq (g2 := F0 m 20 ls [.int 256, .int 0, .int p0]) rfl ?_
        refine lv_iconst (v := 1) hx hb dX9_isPacket_20 (by decide) ?_
        refine lv_isub hx hb dX9_isPacket_21 ?_
        refine zti (v := 255) (by decide) ?_
        refine zcall (wr := [(mm, .inr (9, [.int t, .ref nw, .ref cq, .ref hi, .int 0, .ref ko, .ref se, .int 0, .ref nf, .ref ns, .ref pi])), (pa, .inl (G.2.1, 4, .inl (upd (upd (upd (upd (fun _ => 0) 0 p0) 1 p1) 2 p2) 3 p3)))]) (va_runS (As := [.int p0, .int 0, .int 255]) (rest := []) ⟨hx, hb, hml, hown, hts⟩ (z_X9_isIn l G p0 0 255 a (zl255 b) H.size) (va_cwS 3 hts gX9_isPacket_X9_isIn rfl rfl rfl (by decide +kernel) ⟨Nat.le_of_ble_eq_true rfl, Nat.le_of_ble_eq_true rfl⟩) (zPre (Wc := []) hP hD hE hS hA [] rfl (by decide)) rfl rfl hl.1 rfl (lv_room (Nat.le_of_ble_eq_true rfl)) dX9_isPacket_22 ⟨Nat.le_of_ble_eq_true rfl, Nat.le_of_ble_eq_true rfl⟩) hP hD hS hA [] [0, 1] rfl rfl (by decide) (by decide) (fun u2 H locs hP hD hS => ?_)
        have hP : va_P G.1 vwCl [(mm, .inr (9, [.int t, .ref nw, .ref cq, .ref hi, .int 0, .ref ko, .ref se, .int 0, .ref nf, .ref ns, .ref pi])), (pa, .inl (G.2.1, 4, .inl (upd (upd (upd (upd (fun _ => 0) 0 p0) 1 p1) 2 p2) 3 p3)))] H := hP
        have hD : va_D A [(mm, .inr (9, [.int t, .ref nw, .ref cq, .ref hi, .int 0, .ref ko, .ref se, .int 0, .ref nf, .ref ns, .ref pi])), (pa, .inl (G.2.1, 4, .inl (upd (upd (upd (upd (fun _ => 0) 0 p0) 1 p1) 2 p2) 3 p3)))] := hD
        refine W.eq (g2 := F0 m 25 ls [.int 1]) rfl ?_
        refine lv_if_ne (tgt := 33) hx hb dX9_isPacket_25 (by decide) (fun _ => ?_) (fun h9 => absurd h9 (by decide))
        refine lv_iinc (v := 1) (lv' := [(2, .int 1), (1, .ref pa), (0, .ref mm)]) hx hb dX9_isPacket_33 hl (k := 0) rfl (by decide) (by decide) rfl (fun ls hl => ?_)
        refine lv_goto (tgt := 7) hx hb dX9_isPacket_36 (by decide) ?_
        have hl := lv_sub hl (l' := [(2, .int 1), (1, .ref pa), (0, .ref mm)]) [0, 1, 2] rfl
        exact k1 t _ _ ls (hb9.imp id (fun q => q.elim (fun z => absurd z a) (fun q => q.elim (fun z => absurd z.2 b) (fun z => z.2)))) hP hD hS hl
  refine lv_aload_n hx hb dX9_isPacket_0 rfl (lv_at hl 0 rfl) ?_
  refine lv_iconst (v := 0) hx hb dX9_isPacket_1 (by decide) ?_
  refine va_put (D := G.1) (ci := 9) (v := .int 0) (ty := tyX9 0) (C := RX9) (T := TX9) (N := 11) hx hb hts hw9 tyX9 tyX9_ok nmX9 hown hE.1 hP hD hS 0 rfl rfl 0 (by decide) hf40 (fun _ h9 => h9) rfl (by decide +kernel) rfl rfl (Nat.le_of_ble_eq_true rfl) dX9_isPacket_2 (fun H locs hP hD hS => ?_)
  have hP : va_P G.1 vwCl [(mm, .inr (9, [.int 0, .ref nw, .ref cq, .ref hi, .int 0, .ref ko, .ref se, .int 0, .ref nf, .ref ns, .ref pi])), (pa, .inl (G.2.1, 4, .inl (upd (upd (upd (upd (fun _ => 0) 0 p0) 1 p1) 2 p2) 3 p3)))] H := hP
  have hD : va_D A [(mm, .inr (9, [.int 0, .ref nw, .ref cq, .ref hi, .int 0, .ref ko, .ref se, .int 0, .ref nf, .ref ns, .ref pi])), (pa, .inl (G.2.1, 4, .inl (upd (upd (upd (upd (fun _ => 0) 0 p0) 1 p1) 2 p2) 3 p3)))] := hD
  refine lv_iconst (v := 0) hx hb dX9_isPacket_5 (by decide) ?_
  refine lv_istore_n (lv' := [(2, .int 0), (0, .ref mm), (1, .ref pa)]) hx hb dX9_isPacket_6 rfl hl (by decide) rfl (fun ls hl => ?_)
  have hl := lv_sub hl (l' := [(2, .int 0), (1, .ref pa), (0, .ref mm)]) [0, 2, 1] rfl
  exact k0 0 _ _ ls (Or.inr hbad) hP hD hS hl
