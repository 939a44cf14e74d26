/-! Tree -/
theorem dX5_find_0 : decode cX5_find 0 = .ok (.iload_n 1, 1) := by decide +kernel
theorem dX5_find_1 : decode cX5_find 1 = .ok (.iconst 4, 1) := by decide +kernel
theorem dX5_find_2 : decode cX5_find 2 = .ok (.if_icmp .ge 15, 3) := by decide +kernel
theorem dX5_find_5 : decode cX5_find 5 = .ok (.aload_n 0, 1) := by decide +kernel
theorem dX5_find_6 : decode cX5_find 6 = .ok (.getfield 21, 3) := by decide +kernel
theorem dX5_find_9 : decode cX5_find 9 = .ok (.iload_n 1, 1) := by decide +kernel
theorem dX5_find_10 : decode cX5_find 10 = .ok (.iload_n 2, 1) := by decide +kernel
set_option maxRecDepth 20000 in
theorem ggX5_find_X6_isSettled : GoodIn wsX5_find wsX6_isSettled := goodIn_r _ [12, 13, 14, 15, 16, 11, 17, 18, 19, 20, 21, 22, 23, 24, 25, 55, 56, 57, 58, 59, 60, 61] (by decide +kernel) (by decide +kernel)
set_option maxRecDepth 20000 in
theorem gX5_find_X6_isSettled : GoodIn wsX5_find (wsV RX5 47 RX6 yX6_isSettled wsX6_isSettled) := goodIn_app (goodIn_of _ (by decide +kernel)) ggX5_find_X6_isSettled
theorem dX5_find_11 : decode cX5_find 11 = .ok (.invokevirtual 47, 3) := by decide +kernel
theorem dX5_find_14 : decode cX5_find 14 = .ok (.ifCond .eq 15, 3) := by decide +kernel
theorem dX5_find_17 : decode cX5_find 17 = .ok (.bipush (-2), 2) := by decide +kernel
theorem dX5_find_19 : decode cX5_find 19 = .ok (.aload_n 0, 1) := by decide +kernel
theorem dX5_find_20 : decode cX5_find 20 = .ok (.getfield 21, 3) := by decide +kernel
theorem dX5_find_23 : decode cX5_find 23 = .ok (.iload_n 2, 1) := by decide +kernel
set_option maxRecDepth 20000 in
theorem ggX5_find_X6_firstOf : GoodIn wsX5_find wsX6_firstOf := goodIn_r _ [17, 18, 55, 56, 57] (by decide +kernel) (by decide +kernel)
set_option maxRecDepth 20000 in
theorem gX5_find_X6_firstOf : GoodIn wsX5_find (wsV RX5 51 RX6 yX6_firstOf wsX6_firstOf) := goodIn_app (goodIn_of _ (by decide +kernel)) ggX5_find_X6_firstOf
theorem dX5_find_24 : decode cX5_find 24 = .ok (.invokevirtual 51, 3) := by decide +kernel
theorem dX5_find_27 : decode cX5_find 27 = .ok (.isub, 1) := by decide +kernel
theorem dX5_find_28 : decode cX5_find 28 = .ok (.ireturn, 1) := by decide +kernel
theorem dX5_refresh_0 : decode cX5_refresh 0 = .ok (.aload_n 0, 1) := by decide +kernel
theorem dX5_refresh_1 : decode cX5_refresh 1 = .ok (.getfield 29, 3) := by decide +kernel
theorem dX5_refresh_4 : decode cX5_refresh 4 = .ok (.ifCond .eq 4, 3) := by decide +kernel
theorem dX5_refresh_7 : decode cX5_refresh 7 = .ok (.return_, 1) := by decide +kernel
theorem dX5_allSteps_0 : decode cX5_allSteps 0 = .ok (.aload_n 0, 1) := by decide +kernel
theorem dX5_allSteps_1 : decode cX5_allSteps 1 = .ok (.getfield 33, 3) := by decide +kernel
theorem dX5_allSteps_4 : decode cX5_allSteps 4 = .ok (.ifCond .ne 7, 3) := by decide +kernel
theorem dX5_allSteps_7 : decode cX5_allSteps 7 = .ok (.iconst 0, 1) := by decide +kernel
theorem dX5_allSteps_8 : decode cX5_allSteps 8 = .ok (.goto 9, 3) := by decide +kernel
theorem dX5_allSteps_17 : decode cX5_allSteps 17 = .ok (.ireturn, 1) := by decide +kernel
set_option maxHeartbeats 4000000 in
set_option maxRecDepth 100000 in
theorem z_X5_find (l : Launch) (G : zG) (tr : Nat) (wa : Nat) (cu : Nat) (ro : Nat) (tn : Nat) (tc : Nat) (ts : Nat) (fsh : Int32) : zR l G yX5_find wsX5_find { frames := 2, cells := 0, slots := 0, locals := 45 } [(tr, .inr (5, [.ref wa, .ref cu, .ref tn, .ref tc, .ref ts, .int 0, .int fsh])), (wa, .inr (6, [.ref ro, .int 0, .int 0]))] [.ref tr, .int 0, .int 0] (some (.int (-1))) (fun u => [(tr, .inr (5, [.ref wa, .ref cu, .ref tn, .ref tc, .ref ts, .int 0, .int fsh])), (wa, .inr (6, [.ref ro, .int 0, .int 0]))]) 0 0 := by
  refine zR_of (cc := cX5_find) (maxL := 9) (rt := (some .int)) (by decide) rfl (Nat.le_of_ble_eq_true rfl) ?_
  intro p e s m below meth c A ls hx hb hml hr hts hown hlocks hin hA hE hP hD hS hl
  have hl : lv_has ls 9 [(0, .ref tr), (1, .int 0), (2, .int 0)] := hl
  have hown : s.vm.findClass RX5 = some m.cls := hown
  have hP : va_P G.1 vwCl [(tr, .inr (5, [.ref wa, .ref cu, .ref tn, .ref tc, .ref ts, .int 0, .int fsh])), (wa, .inr (6, [.ref ro, .int 0, .int 0]))] s.heap := hP
  have hw5 : ∀ w ∈ u_ws RX5 TX5 7, w ∈ wsX5_find := by decide +kernel
  have hf21 := hts (.fieldLink RX5 21 "Nettle$Tree" "wall" "LNettle$Wall;") (by decide +kernel)
  refine lv_iload_n hx hb dX5_find_0 rfl (lv_at hl 1 rfl) ?_
  refine lv_iconst (v := 4) hx hb dX5_find_1 (by decide) ?_
  refine lv_icmp_ge (tgt := 17) hx hb dX5_find_2 (by decide) (fun h9 => absurd h9 (by decide)) (fun _ => ?_)
  refine lv_aload_n hx hb dX5_find_5 rfl (lv_at hl 0 rfl) ?_
  refine va_get (D := G.1) (ci := 5) (v := .ref wa) (C := RX5) (T := TX5) (N := 7) hx hb hts hw5 hown hE.1 hP 0 rfl rfl 0 (by decide) hf21 (fun _ h9 => h9) rfl dX5_find_6 ?_
  refine lv_iload_n hx hb dX5_find_9 rfl (lv_at hl 1 rfl) ?_
  refine lv_iload_n hx hb dX5_find_10 rfl (lv_at hl 2 rfl) ?_
  refine zcall (wr := [(tr, .inr (5, [.ref wa, .ref cu, .ref tn, .ref tc, .ref ts, .int 0, .int fsh]))]) (va_runV (As := [.int 0, .int 0]) (rest := []) ⟨hx, hb, hml, hown, hts⟩ (z_X6_isSettled l G wa ro 0 0 s.heap.size) (cwV 2 hts gX5_find_X6_isSettled rfl rfl rfl (by decide +kernel) ⟨Nat.le_of_ble_eq_true rfl, Nat.le_of_ble_eq_true rfl⟩) (zPreV (Wc := [(wa, .inr (6, [.ref ro, .int 0, .int 0]))]) (q0 := 1) (ci := 6) (q := (RX6, TX6, 3)) hP hD hE hS hA [1] rfl (by decide) rfl rfl) rfl rfl hl.1 rfl (lv_room (Nat.le_of_ble_eq_true rfl)) dX5_find_11 ⟨Nat.le_of_ble_eq_true rfl, Nat.le_of_ble_eq_true rfl⟩) hP hD hS hA [1] [0] rfl rfl (by decide) (by decide) (fun u1 H locs hP hD hS => ?_)
  have hP : va_P G.1 vwCl [(tr, .inr (5, [.ref wa, .ref cu, .ref tn, .ref tc, .ref ts, .int 0, .int fsh])), (wa, .inr (6, [.ref ro, .int 0, .int 0]))] H := hP
  have hD : va_D A [(tr, .inr (5, [.ref wa, .ref cu, .ref tn, .ref tc, .ref ts, .int 0, .int fsh])), (wa, .inr (6, [.ref ro, .int 0, .int 0]))] := hD
  refine W.eq (g2 := F0 m 14 ls [.int 1]) rfl ?_
  refine lv_if_eq (tgt := 29) hx hb dX5_find_14 (by decide) (fun h9 => absurd h9 (by decide)) (fun _ => ?_)
  refine lv_bipush (v := (-2)) hx hb dX5_find_17 (by decide) ?_
  refine lv_aload_n hx hb dX5_find_19 rfl (lv_at hl 0 rfl) ?_
  refine va_get (D := G.1) (ci := 5) (v := .ref wa) (C := RX5) (T := TX5) (N := 7) hx hb hts hw5 hown hE.1 hP 0 rfl rfl 0 (by decide) hf21 (fun _ h9 => h9) rfl dX5_find_20 ?_
  refine lv_iload_n hx hb dX5_find_23 rfl (lv_at hl 2 rfl) ?_
  refine zcall (wr := [(tr, .inr (5, [.ref wa, .ref cu, .ref tn, .ref tc, .ref ts, .int 0, .int fsh]))]) (va_runV (As := [.int 0]) (rest := [.int (-2)]) ⟨hx, hb, hml, hown, hts⟩ (z_X6_firstOf l G wa ro 0 H.size) (cwV 1 hts gX5_find_X6_firstOf rfl rfl rfl (by decide +kernel) ⟨Nat.le_of_ble_eq_true rfl, Nat.le_of_ble_eq_true rfl⟩) (zPreV (Wc := [(wa, .inr (6, [.ref ro, .int 0, .int 0]))]) (q0 := 1) (ci := 6) (q := (RX6, TX6, 3)) hP hD hE hS hA [1] rfl (by decide) rfl rfl) rfl rfl hl.1 rfl (lv_room (Nat.le_of_ble_eq_true rfl)) dX5_find_24 ⟨Nat.le_of_ble_eq_true rfl, Nat.le_of_ble_eq_true rfl⟩) hP hD hS hA [1] [0] rfl rfl (by decide) (by decide) (fun u2 H locs hP hD hS => ?_)
  have hP : va_P G.1 vwCl [(tr, .inr (5, [.ref wa, .ref cu, .ref tn, .ref tc, .ref ts, .int 0, .int fsh])), (wa, .inr (6, [.ref ro, .int 0, .int 0]))] H := hP
  have hD : va_D A [(tr, .inr (5, [.ref wa, .ref cu, .ref tn, .ref tc, .ref ts, .int 0, .int fsh])), (wa, .inr (6, [.ref ro, .int 0, .int 0]))] := hD
  refine W.eq (g2 := F0 m 27 ls [.int (-1), .int (-2)]) rfl ?_
  refine lv_isub hx hb dX5_find_27 ?_
  refine zti (v := (-1)) (by decide) ?_
  exact zend_i hx hb hr hlocks (fun k => [].getD k 0) hP hD hS (Nat.le_of_ble_eq_true rfl) (Nat.le_of_ble_eq_true rfl) dX5_find_28

set_option maxHeartbeats 4000000 in
set_option maxRecDepth 100000 in
theorem z_X5_refresh1 (l : Launch) (G : zG) (tr : Nat) (wa : Nat) (cu : Nat) (tn : Nat) (tc : Nat) (ts : Nat) : zR l G yX5_refresh wsX5_refresh { frames := 0, cells := 0, slots := 0, locals := 0 } [(tr, .inr (5, [.ref wa, .ref cu, .ref tn, .ref tc, .ref ts, .int 0, .int 1]))] [.ref tr] none (fun u => [(tr, .inr (5, [.ref wa, .ref cu, .ref tn, .ref tc, .ref ts, .int 0, .int 1]))]) 0 0 := by
  refine zR_of (cc := cX5_refresh) (maxL := 2) (rt := none) (by decide) rfl (Nat.le_of_ble_eq_true rfl) ?_
  intro p e s m below meth c A ls hx hb hml hr hts hown hlocks hin hA hE hP hD hS hl
  have hl : lv_has ls 2 [(0, .ref tr)] := hl
  have hown : s.vm.findClass RX5 = some m.cls := hown
  have hP : va_P G.1 vwCl [(tr, .inr (5, [.ref wa, .ref cu, .ref tn, .ref tc, .ref ts, .int 0, .int 1]))] s.heap := hP
  have hw5 : ∀ w ∈ u_ws RX5 TX5 7, w ∈ wsX5_refresh := by decide +kernel
  have hf29 := hts (.fieldLink RX5 29 "Nettle$Tree" "isFresh" "Z") (by decide +kernel)
  refine lv_aload_n hx hb dX5_refresh_0 rfl (lv_at hl 0 rfl) ?_
  refine va_get (D := G.1) (ci := 5) (v := .int 1) (C := RX5) (T := TX5) (N := 7) hx hb hts hw5 hown hE.1 hP 0 rfl rfl 6 (by decide) hf29 (fun _ h9 => h9) rfl dX5_refresh_1 ?_
  refine lv_if_eq (tgt := 8) hx hb dX5_refresh_4 (by decide) (fun h9 => absurd h9 (by decide)) (fun _ => ?_)
  exact zend_v hx hb hr hlocks (fun k => [].getD k 0) hP hD hS (Nat.le_of_ble_eq_true rfl) (Nat.le_of_ble_eq_true rfl) dX5_refresh_7

set_option maxHeartbeats 4000000 in
set_option maxRecDepth 100000 in
theorem z_X5_allSteps (l : Launch) (G : zG) (tr : Nat) (wa : Nat) (cu : Nat) (tn : Nat) (tc : Nat) (ts : Nat) (fsh : Int32) : zR l G yX5_allSteps wsX5_allSteps { frames := 0, cells := 0, slots := 0, locals := 0 } [(tr, .inr (5, [.ref wa, .ref cu, .ref tn, .ref tc, .ref ts, .int 0, .int fsh]))] [.ref tr] (some (.int 0)) (fun u => [(tr, .inr (5, [.ref wa, .ref cu, .ref tn, .ref tc, .ref ts, .int 0, .int fsh]))]) 0 0 := by
  refine zR_of (cc := cX5_allSteps) (maxL := 1) (rt := (some .int)) (by decide) rfl (Nat.le_of_ble_eq_true rfl) ?_
  intro p e s m below meth c A ls hx hb hml hr hts hown hlocks hin hA hE hP hD hS hl
  have hl : lv_has ls 1 [(0, .ref tr)] := hl
  have hown : s.vm.findClass RX5 = some m.cls := hown
  have hP : va_P G.1 vwCl [(tr, .inr (5, [.ref wa, .ref cu, .ref tn, .ref tc, .ref ts, .int 0, .int fsh]))] s.heap := hP
  have hw5 : ∀ w ∈ u_ws RX5 TX5 7, w ∈ wsX5_allSteps := by decide +kernel
  have hf33 := hts (.fieldLink RX5 33 "Nettle$Tree" "count" "I") (by decide +kernel)
  refine lv_aload_n hx hb dX5_allSteps_0 rfl (lv_at hl 0 rfl) ?_
  refine va_get (D := G.1) (ci := 5) (v := .int 0) (C := RX5) (T := TX5) (N := 7) hx hb hts hw5 hown hE.1 hP 0 rfl rfl 5 (by decide) hf33 (fun _ h9 => h9) rfl dX5_allSteps_1 ?_
  refine lv_if_ne (tgt := 11) hx hb dX5_allSteps_4 (by decide) (fun h9 => absurd (by decide) h9) (fun _ => ?_)
  refine lv_iconst (v := 0) hx hb dX5_allSteps_7 (by decide) ?_
  refine lv_goto (tgt := 17) hx hb dX5_allSteps_8 (by decide) ?_
  exact zend_i hx hb hr hlocks (fun k => [].getD k 0) hP hD hS (Nat.le_of_ble_eq_true rfl) (Nat.le_of_ble_eq_true rfl) dX5_allSteps_17
