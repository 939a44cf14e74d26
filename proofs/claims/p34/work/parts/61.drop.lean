/-! the Hedge: drop -/
theorem dX8_drop_0 : decode cX8_drop 0 = .ok (.aload_n 0, 1) := by decide +kernel
theorem dX8_drop_1 : decode cX8_drop 1 = .ok (.getfield 22, 3) := by decide +kernel
theorem dX8_drop_4 : decode cX8_drop 4 = .ok (.arraylength, 1) := by decide +kernel
theorem dX8_drop_5 : decode cX8_drop 5 = .ok (.ifCond .ne 5, 3) := by decide +kernel
theorem dX8_drop_10 : decode cX8_drop 10 = .ok (.aload_n 0, 1) := by decide +kernel
theorem dX8_drop_11 : decode cX8_drop 11 = .ok (.aload_n 0, 1) := by decide +kernel
theorem dX8_drop_12 : decode cX8_drop 12 = .ok (.getfield 22, 3) := by decide +kernel
theorem dX8_drop_15 : decode cX8_drop 15 = .ok (.arraylength, 1) := by decide +kernel
set_option maxRecDepth 20000 in
theorem ggX8_drop_X8_draw : GoodIn wsX8_drop wsX8_draw := goodIn_r _ [7, 8, 9, 10, 11, 12, 13, 14, 15, 16, 61, 62, 63, 64, 65, 66, 67, 68, 69, 70] (by decide +kernel) (by decide +kernel)
set_option maxRecDepth 20000 in
theorem gX8_drop_X8_draw : GoodIn wsX8_drop (wsV RX8 38 RX8 yX8_draw wsX8_draw) := goodIn_app (goodIn_of _ (by decide +kernel)) ggX8_drop_X8_draw
theorem dX8_drop_16 : decode cX8_drop 16 = .ok (.invokevirtual 38, 3) := by decide +kernel
theorem dX8_drop_19 : decode cX8_drop 19 = .ok (.istore_n 1, 1) := by decide +kernel
theorem dX8_drop_20 : decode cX8_drop 20 = .ok (.aload_n 0, 1) := by decide +kernel
theorem dX8_drop_21 : decode cX8_drop 21 = .ok (.aload_n 0, 1) := by decide +kernel
theorem dX8_drop_22 : decode cX8_drop 22 = .ok (.getfield 22, 3) := by decide +kernel
theorem dX8_drop_25 : decode cX8_drop 25 = .ok (.iload_n 1, 1) := by decide +kernel
set_option maxRecDepth 20000 in
theorem ggX8_drop_X8_without : GoodIn wsX8_drop wsX8_without := goodIn_r _ [19, 20, 21, 22, 23, 24] (by decide +kernel) (by decide +kernel)
set_option maxRecDepth 20000 in
theorem gX8_drop_X8_without : GoodIn wsX8_drop (va_wsS RX8 79 yX8_without wsX8_without) := goodIn_app (goodIn_of _ (by decide +kernel)) ggX8_drop_X8_without
theorem dX8_drop_26 : decode cX8_drop 26 = .ok (.invokestatic 79, 3) := by decide +kernel
theorem dX8_drop_29 : decode cX8_drop 29 = .ok (.putfield 22, 3) := by decide +kernel
theorem dX8_drop_32 : decode cX8_drop 32 = .ok (.aload_n 0, 1) := by decide +kernel
theorem dX8_drop_33 : decode cX8_drop 33 = .ok (.getfield 10, 3) := by decide +kernel
theorem dX8_drop_36 : decode cX8_drop 36 = .ok (.iload_n 1, 1) := by decide +kernel
set_option maxRecDepth 20000 in
theorem ggX8_drop_X7_drop : GoodIn wsX8_drop wsX7_drop := goodIn_ca (goodIn_r _ [29, 30, 31, 32, 33, 34, 28, 35, 36, 37, 38, 39, 40, 41, 42, 43, 44, 45, 46, 47, 48, 49, 50, 51, 52, 53, 54, 55, 56, 57, 58, 59, 60, 71, 72, 73, 74, 75, 76, 77, 78, 79, 80, 81, 82, 83, 84, 85, 86, 87, 88, 89, 90, 91, 92, 93, 94, 95, 96, 97, 98, 99, 100, 101, 102, 103, 104, 105, 106] (by decide +kernel) (by decide +kernel)) (goodIn_sub (fun _ h => List.mem_cons_of_mem _ (List.mem_append_right _ h)) (by decide +kernel))
set_option maxRecDepth 20000 in
theorem gX8_drop_X7_drop : GoodIn wsX8_drop (wsV RX8 83 RX7 yX7_drop wsX7_drop) := goodIn_app (goodIn_of _ (by decide +kernel)) ggX8_drop_X7_drop
theorem dX8_drop_37 : decode cX8_drop 37 = .ok (.invokevirtual 83, 3) := by decide +kernel
theorem dX8_drop_40 : decode cX8_drop 40 = .ok (.aload_n 0, 1) := by decide +kernel
theorem dX8_drop_41 : decode cX8_drop 41 = .ok (.getfield 22, 3) := by decide +kernel
theorem dX8_drop_44 : decode cX8_drop 44 = .ok (.arraylength, 1) := by decide +kernel
theorem dX8_drop_45 : decode cX8_drop 45 = .ok (.if_icmp .ne 7, 3) := by decide +kernel
theorem dX8_drop_48 : decode cX8_drop 48 = .ok (.iconst 1, 1) := by decide +kernel
theorem dX8_drop_49 : decode cX8_drop 49 = .ok (.goto 4, 3) := by decide +kernel
theorem dX8_drop_53 : decode cX8_drop 53 = .ok (.ireturn, 1) := by decide +kernel
theorem dX8_drop_8 : decode cX8_drop 8 = .ok (.iconst 1, 1) := by decide +kernel
theorem dX8_drop_9 : decode cX8_drop 9 = .ok (.ireturn, 1) := by decide +kernel
theorem zrw_get {G : zG} {hr : Nat → Nat} {R : Nat → Nat → Int} {n r : Nat} (h : r < n) : (zrw G hr R n)[r]? = some (hr r, .inl (zci G, 10, .inl (fun j => zi (R r j)))) := by
  unfold zrw
  rw [List.getElem?_map, List.getElem?_range h]
  rfl
theorem zrw_len {G : zG} {hr : Nat → Nat} {R : Nat → Nat → Int} {n : Nat} : (zrw G hr R n).length = n := by unfold zrw; rw [List.length_map, List.length_range]
theorem zrw_none {G : zG} {hr : Nat → Nat} {R : Nat → Nat → Int} {n r : Nat} (h : ¬ r < n) : (zrw G hr R n)[r]? = none := List.getElem?_eq_none (by rw [zrw_len]; omega)
theorem zrw_mapP {D : va_G} {cl : List vw_C} {H : Heap} {G : zG} {P T : va_W} {hr : Nat → Nat} {R : Nat → Nat → Int} {n : Nat} (σ : Nat → Nat) (n' : Nat) (hσ : ∀ i : Nat, i < n' → σ i < n) (h : va_P D cl (P ++ (zrw G hr R n ++ T)) H) : va_P D cl (P ++ (zrw G (fun i => hr (σ i)) (fun i => R (σ i)) n' ++ T)) H := by
  obtain ⟨h1, h2⟩ := zappP h
  obtain ⟨h3, h4⟩ := zappP h2
  refine h1.app (va_P.app (fun k q hk => ?_) h4)
  by_cases c : k < n'
  · rw [zrw_get c] at hk
    cases hk
    exact h3 (σ k) _ (zrw_get (hσ k c))
  · rw [zrw_none c] at hk
    cases hk
theorem zrw_mapD {A : Nat → Prop} {G : zG} {P T : va_W} {hr : Nat → Nat} {R : Nat → Nat → Int} {n : Nat} (σ : Nat → Nat) (n' : Nat) (hσ : ∀ i : Nat, i < n' → σ i < n) (hi : ∀ i j : Nat, i < n' → j < n' → σ i = σ j → i = j) (h : va_D A (P ++ (zrw G hr R n ++ T))) : va_D A (P ++ (zrw G (fun i => hr (σ i)) (fun i => R (σ i)) n' ++ T)) := by
  obtain ⟨d1, d2, d3⟩ := zappD h
  obtain ⟨d4, d5, d6⟩ := zappD d2
  have key : ∀ (k : Nat) (q : Nat × va_E), (zrw G (fun i => hr (σ i)) (fun i => R (σ i)) n')[k]? = some q → k < n' ∧ (zrw G hr R n)[σ k]? = some q := fun k q hk => by
    by_cases c : k < n'
    · rw [zrw_get c] at hk
      cases hk
      exact ⟨c, zrw_get (hσ k c)⟩
    · rw [zrw_none c] at hk
      cases hk
  refine d1.app (va_D.app ⟨fun i j p q hp hq e => ?_, fun k q hk => d4.2 _ q (key k q hk).2⟩ d5 (fun i j x y hx hy => d6 (σ i) j x y (key i x hx).2 hy)) (fun i j x y hx hy => ?_)
  · have k1 := key i p hp
    have k2 := key j q hq
    exact hi i j k1.1 k2.1 (d4.1 _ _ p q k1.2 k2.2 e)
  · by_cases c : j < n'
    · rw [List.getElem?_append_left (by rw [zrw_len]; exact c)] at hy
      have k2 := key j y hy
      exact d3 i (σ j) x y hx (by rw [List.getElem?_append_left (by rw [zrw_len]; exact hσ j c)]; exact k2.2)
    · rw [List.getElem?_append_right (by rw [zrw_len]; omega), zrw_len] at hy
      exact d3 i (n + (j - n')) x y hx (by rw [List.getElem?_append_right (by rw [zrw_len]; omega), zrw_len, Nat.add_sub_cancel_left]; exact hy)
theorem zrw_add {G : zG} {hr : Nat → Nat} {R : Nat → Nat → Int} {n q : Nat} {x : Nat → Int} : zrw G (fun i => if i = n then q else hr i) (fun i => if i = n then x else R i) (n + 1) = zrw G hr R n ++ [(q, .inl (zci G, 10, .inl (fun j => zi (x j))))] := by
  unfold zrw
  rw [List.range_succ, List.map_append]
  congr 1
  · apply List.map_congr_left
    intro i hi
    have := List.mem_range.mp hi
    have hne : ¬ i = n := by omega
    simp [hne]
  · simp
theorem zrw_growP {D : va_G} {cl : List vw_C} {H : Heap} {G : zG} {P T : va_W} {hr : Nat → Nat} {R : Nat → Nat → Int} {n q : Nat} {x : Nat → Int} (h : va_P D cl ((P ++ [(q, .inl (zci G, 10, .inl (fun j => zi (x j))))]) ++ (zrw G hr R n ++ T)) H) : va_P D cl (P ++ (zrw G (fun i => if i = n then q else hr i) (fun i => if i = n then x else R i) (n + 1) ++ T)) H := by
  have h1 := va_P.swap h
  rw [← List.append_assoc] at h1
  have h2 := va_P.swap h1
  rw [zrw_add]
  simpa [List.append_assoc] using h2
theorem zrw_growD {A : Nat → Prop} {G : zG} {P T : va_W} {hr : Nat → Nat} {R : Nat → Nat → Int} {n q : Nat} {x : Nat → Int} (h : va_D A ((P ++ [(q, .inl (zci G, 10, .inl (fun j => zi (x j))))]) ++ (zrw G hr R n ++ T))) : va_D A (P ++ (zrw G (fun i => if i = n then q else hr i) (fun i => if i = n then x else R i) (n + 1) ++ T)) := by
  have h1 := va_D.swap h
  rw [← List.append_assoc] at h1
  have h2 := va_D.swap h1
  rw [zrw_add]
  simpa [List.append_assoc] using h2

set_option maxHeartbeats 4000000 in
set_option maxRecDepth 100000 in
/-- drop -/
theorem k_X8_drop (l : Launch) (G : zG) (ad : Nat → Nat) (hd : Nat → Nat) (hr : Nat → Nat) (X : Nat → Nat → Int) (n : Nat) (dr : Nat) (la : Int) (cl : Int) (C : Nat → Nat → Int) (R : Nat → Nat → Int) (hsl : zsl G ≤ 100000) (hdr : dr ≤ 90000) (hv : zHv X n la C R) : zR l G yX8_drop wsX8_drop { frames := 3, cells := 1, slots := 10, locals := 82 } (zhW G ad X hd hr n dr la cl C R) [.ref (hd 0)] (zHr G ad (hd 0) (dr + 1) C) 1 10 := by
  refine zR_of (cc := cX8_drop) (maxL := 2) (rt := (some .boolean)) (by decide) rfl (Nat.le_of_ble_eq_true rfl) ?_
  intro p e s m below meth c A ls hx hb hml hr0 hts hown hlocks hin0 hA hE hP hD hS hl
  have hl : lv_has ls 2 [(0, .ref (hd 0))] := hl
  have hown : s.vm.findClass RX8 = some m.cls := hown
  have hn8 := hv.2.2.1
  have hN0 := hv.2.1
  have hI := hv.1
  have hn1 := (hI.1.n (Or.inl rfl : zIsW 0)).1
  have hw8 : ∀ w ∈ u_ws RX8 TX8 10, w ∈ wsX8_drop := by decide +kernel
  have hf22 := hts (.fieldLink RX8 22 "NettleLaw$Hedge" "rules" "[[I") (by decide +kernel)
  have hf10 := hts (.fieldLink RX8 10 "NettleLaw$Hedge" "m" "LNettle;") (by decide +kernel)
  refine lv_aload_n hx hb dX8_drop_0 rfl (lv_at hl 0 rfl) ?_
  refine va_get (D := G.1) (ci := 8) (v := .ref (hd 6)) (C := RX8) (T := TX8) (N := 10) hx hb hts hw8 hown hE.1 hP 0 rfl rfl 4 (by decide) hf22 (fun _ h9 => h9) rfl dX8_drop_1 ?_
  refine zalenA hx hb hE hP 6 rfl dX8_drop_4 ?_
  refine z0_ne (tgt := 10) hx hb dX8_drop_5 (by decide) (by omega) (fun h5 => ?_) (fun h5 => ?_)
  · refine lv_aload_n hx hb dX8_drop_10 rfl (lv_at hl 0 rfl) ?_
    refine lv_aload_n hx hb dX8_drop_11 rfl (lv_at hl 0 rfl) ?_
    refine va_get (D := G.1) (ci := 8) (v := .ref (hd 6)) (C := RX8) (T := TX8) (N := 10) hx hb hts hw8 hown hE.1 hP 0 rfl rfl 4 (by decide) hf22 (fun _ h9 => h9) rfl dX8_drop_12 ?_
    refine zalenA hx hb hE hP 6 rfl dX8_drop_15 ?_
    obtain ⟨nd1, hnd1⟩ : ∃ z : Nat, ((n : Int) : Int) = (z : Int) := ⟨((n : Int) : Int).toNat, by omega⟩
    refine zti (v := zi (nd1 : Int)) (congrArg zi hnd1) ?_
    refine zcall (wr := []) (wc := [((hd 0), .inr (8, [.ref (ad 52), .ref (zsb G), .int (zi (dr : Int)), .ref (hd 1), .ref (hd 6), .int (zi la), .ref (hd 7), .int (zi cl), .int (zi 0), .ref (hd 8)])), ((hd 1), .inl (zca G, 4, .inr (.inr (.inr (.inr (fun q => some (hd (2 + q)))))))), ((hd 2), .inl (zci G, 6, .inl (fun j => zi ((C 0) j)))), ((hd 3), .inl (zci G, 6, .inl (fun j => zi ((C 1) j)))), ((hd 4), .inl (zci G, 6, .inl (fun j => zi ((C 2) j)))), ((hd 5), .inl (zci G, 4, .inl (fun j => zi ((C 3) j)))), ((hd 6), .inl (zca G, n, .inr (.inr (.inr (.inr (fun q => some (hr q)))))))] ++ (zrw G hr R n ++ zpic G ad X)) (va_runV (As := [.int (zi (nd1 : Int))]) (rest := []) ⟨hx, hb, hml, hown, hts⟩ (k_X8_draw l G ([((hd 0), .inr (8, [.ref (ad 52), .ref (zsb G), .int (zi (dr : Int)), .ref (hd 1), .ref (hd 6), .int (zi la), .ref (hd 7), .int (zi cl), .int (zi 0), .ref (hd 8)])), ((hd 1), .inl (zca G, 4, .inr (.inr (.inr (.inr (fun q => some (hd (2 + q)))))))), ((hd 2), .inl (zci G, 6, .inl (fun j => zi ((C 0) j)))), ((hd 3), .inl (zci G, 6, .inl (fun j => zi ((C 1) j)))), ((hd 4), .inl (zci G, 6, .inl (fun j => zi ((C 2) j)))), ((hd 5), .inl (zci G, 4, .inl (fun j => zi ((C 3) j)))), ((hd 6), .inl (zca G, n, .inr (.inr (.inr (.inr (fun q => some (hr q)))))))] ++ (zrw G hr R n ++ zpic G ad X)) 0 (hd 0) (.ref (ad 52)) (dr) (.ref (hd 1)) (.ref (hd 6)) (.int (zi la)) (.ref (hd 7)) (.int (zi cl)) (.int (zi 0)) (.ref (hd 8)) nd1 rfl hsl (by omega) (by omega) s.heap.size) (cwV 1 hts gX8_drop_X8_draw rfl rfl rfl (by decide +kernel) ⟨Nat.le_of_ble_eq_true rfl, Nat.le_of_ble_eq_true rfl⟩) (zPreV (As := [.int (zi (nd1 : Int))]) (wr := []) (wc := [((hd 0), .inr (8, [.ref (ad 52), .ref (zsb G), .int (zi (dr : Int)), .ref (hd 1), .ref (hd 6), .int (zi la), .ref (hd 7), .int (zi cl), .int (zi 0), .ref (hd 8)])), ((hd 1), .inl (zca G, 4, .inr (.inr (.inr (.inr (fun q => some (hd (2 + q)))))))), ((hd 2), .inl (zci G, 6, .inl (fun j => zi ((C 0) j)))), ((hd 3), .inl (zci G, 6, .inl (fun j => zi ((C 1) j)))), ((hd 4), .inl (zci G, 6, .inl (fun j => zi ((C 2) j)))), ((hd 5), .inl (zci G, 4, .inl (fun j => zi ((C 3) j)))), ((hd 6), .inl (zca G, n, .inr (.inr (.inr (.inr (fun q => some (hr q)))))))] ++ (zrw G hr R n ++ zpic G ad X)) (q0 := 0) (ci := 8) (q := (RX8, TX8, 10)) hP hD hE hS hA rfl rfl) rfl rfl hl.1 rfl (lv_room (Nat.le_of_ble_eq_true rfl)) dX8_drop_16 ⟨Nat.le_of_ble_eq_true rfl, Nat.le_of_ble_eq_true rfl⟩) hP hD hS hA (fun _ _ H locs hf9 hP hD hS => ?_)
    obtain ⟨v1, rfl, hv1, hw9⟩ := hf9
    rw [hw9] at hP hD
    have hP : va_P G.1 vwCl ([((hd 0), .inr (8, [.ref (ad 52), .ref (zsb G), .int (zi ((dr + 1 : Nat) : Int)), .ref (hd 1), .ref (hd 6), .int (zi la), .ref (hd 7), .int (zi cl), .int (zi 0), .ref (hd 8)])), ((hd 1), .inl (zca G, 4, .inr (.inr (.inr (.inr (fun q => some (hd (2 + q)))))))), ((hd 2), .inl (zci G, 6, .inl (fun j => zi ((C 0) j)))), ((hd 3), .inl (zci G, 6, .inl (fun j => zi ((C 1) j)))), ((hd 4), .inl (zci G, 6, .inl (fun j => zi ((C 2) j)))), ((hd 5), .inl (zci G, 4, .inl (fun j => zi ((C 3) j)))), ((hd 6), .inl (zca G, n, .inr (.inr (.inr (.inr (fun q => some (hr q)))))))] ++ (zrw G hr R n ++ zpic G ad X)) H := hP
    have hD : va_D A ([((hd 0), .inr (8, [.ref (ad 52), .ref (zsb G), .int (zi ((dr + 1 : Nat) : Int)), .ref (hd 1), .ref (hd 6), .int (zi la), .ref (hd 7), .int (zi cl), .int (zi 0), .ref (hd 8)])), ((hd 1), .inl (zca G, 4, .inr (.inr (.inr (.inr (fun q => some (hd (2 + q)))))))), ((hd 2), .inl (zci G, 6, .inl (fun j => zi ((C 0) j)))), ((hd 3), .inl (zci G, 6, .inl (fun j => zi ((C 1) j)))), ((hd 4), .inl (zci G, 6, .inl (fun j => zi ((C 2) j)))), ((hd 5), .inl (zci G, 4, .inl (fun j => zi ((C 3) j)))), ((hd 6), .inl (zca G, n, .inr (.inr (.inr (.inr (fun q => some (hr q)))))))] ++ (zrw G hr R n ++ zpic G ad X)) := hD
    refine W.eq (g2 := F0 m 19 ls [.int (zi v1)]) rfl ?_
    obtain ⟨r, rfl⟩ : ∃ z : Nat, v1 = (z : Int) := ⟨(v1).toNat, by omega⟩
    refine lv_istore_n (lv' := [(1, .int (zi (r : Int))), (0, .ref (hd 0))]) hx hb dX8_drop_19 rfl hl (by decide) rfl (fun ls hl => ?_)
    refine lv_aload_n hx hb dX8_drop_20 rfl (lv_at hl 1 rfl) ?_
    refine lv_aload_n hx hb dX8_drop_21 rfl (lv_at hl 1 rfl) ?_
    refine va_get (D := G.1) (ci := 8) (v := .ref (hd 6)) (C := RX8) (T := TX8) (N := 10) hx hb hts hw8 hown hE.1 hP 0 rfl rfl 4 (by decide) hf22 (fun _ h9 => h9) rfl dX8_drop_22 ?_
    refine lv_iload_n hx hb dX8_drop_25 rfl (lv_at hl 0 rfl) ?_
    refine zcall (wr := []) (wc := [((hd 0), .inr (8, [.ref (ad 52), .ref (zsb G), .int (zi ((dr + 1 : Nat) : Int)), .ref (hd 1), .ref (hd 6), .int (zi la), .ref (hd 7), .int (zi cl), .int (zi 0), .ref (hd 8)])), ((hd 1), .inl (zca G, 4, .inr (.inr (.inr (.inr (fun q => some (hd (2 + q)))))))), ((hd 2), .inl (zci G, 6, .inl (fun j => zi ((C 0) j)))), ((hd 3), .inl (zci G, 6, .inl (fun j => zi ((C 1) j)))), ((hd 4), .inl (zci G, 6, .inl (fun j => zi ((C 2) j)))), ((hd 5), .inl (zci G, 4, .inl (fun j => zi ((C 3) j)))), ((hd 6), .inl (zca G, n, .inr (.inr (.inr (.inr (fun q => some (hr q)))))))] ++ (zrw G hr R n ++ zpic G ad X)) (va_runS (As := [.ref (hd 6), .int (zi (r : Int))]) (rest := [.ref (hd 0)]) ⟨hx, hb, hml, hown, hts⟩ (k_X8_without l G ([((hd 0), .inr (8, [.ref (ad 52), .ref (zsb G), .int (zi ((dr + 1 : Nat) : Int)), .ref (hd 1), .ref (hd 6), .int (zi la), .ref (hd 7), .int (zi cl), .int (zi 0), .ref (hd 8)])), ((hd 1), .inl (zca G, 4, .inr (.inr (.inr (.inr (fun q => some (hd (2 + q)))))))), ((hd 2), .inl (zci G, 6, .inl (fun j => zi ((C 0) j)))), ((hd 3), .inl (zci G, 6, .inl (fun j => zi ((C 1) j)))), ((hd 4), .inl (zci G, 6, .inl (fun j => zi ((C 2) j)))), ((hd 5), .inl (zci G, 4, .inl (fun j => zi ((C 3) j)))), ((hd 6), .inl (zca G, n, .inr (.inr (.inr (.inr (fun q => some (hr q)))))))] ++ (zrw G hr R n ++ zpic G ad X)) 6 (hd 6) n (fun q => some (hr q)) (hr) r rfl (by omega) (fun q _ => rfl) (fun q hq => ⟨7 + q, _, zplace rfl (zrw_at hq)⟩) (by omega) H.size) (va_cwS 2 hts gX8_drop_X8_without rfl rfl rfl (by decide +kernel) ⟨Nat.le_of_ble_eq_true rfl, Nat.le_of_ble_eq_true rfl⟩) (zPre (wr := []) (wc := [((hd 0), .inr (8, [.ref (ad 52), .ref (zsb G), .int (zi ((dr + 1 : Nat) : Int)), .ref (hd 1), .ref (hd 6), .int (zi la), .ref (hd 7), .int (zi cl), .int (zi 0), .ref (hd 8)])), ((hd 1), .inl (zca G, 4, .inr (.inr (.inr (.inr (fun q => some (hd (2 + q)))))))), ((hd 2), .inl (zci G, 6, .inl (fun j => zi ((C 0) j)))), ((hd 3), .inl (zci G, 6, .inl (fun j => zi ((C 1) j)))), ((hd 4), .inl (zci G, 6, .inl (fun j => zi ((C 2) j)))), ((hd 5), .inl (zci G, 4, .inl (fun j => zi ((C 3) j)))), ((hd 6), .inl (zca G, n, .inr (.inr (.inr (.inr (fun q => some (hr q)))))))] ++ (zrw G hr R n ++ zpic G ad X)) (As := [.ref (hd 6), .int (zi (r : Int))]) hP hD hE hS hA).1 rfl rfl hl.1 rfl (lv_room (Nat.le_of_ble_eq_true rfl)) dX8_drop_26 ⟨Nat.le_of_ble_eq_true rfl, Nat.le_of_ble_eq_true rfl⟩) hP hD hS hA (fun _ _ H locs hf9 hP hD hS => ?_)
    obtain ⟨q1, F1, rfl, hF1, hw9⟩ := hf9
    rw [hw9] at hP hD
    have hP := zlay hP
    have hD := zlayD hD
    have hP : va_P G.1 vwCl ([((hd 0), .inr (8, [.ref (ad 52), .ref (zsb G), .int (zi ((dr + 1 : Nat) : Int)), .ref (hd 1), .ref (hd 6), .int (zi la), .ref (hd 7), .int (zi cl), .int (zi 0), .ref (hd 8)])), ((hd 1), .inl (zca G, 4, .inr (.inr (.inr (.inr (fun q => some (hd (2 + q)))))))), ((hd 2), .inl (zci G, 6, .inl (fun j => zi ((C 0) j)))), ((hd 3), .inl (zci G, 6, .inl (fun j => zi ((C 1) j)))), ((hd 4), .inl (zci G, 6, .inl (fun j => zi ((C 2) j)))), ((hd 5), .inl (zci G, 4, .inl (fun j => zi ((C 3) j)))), ((hd 6), .inl (zca G, n, .inr (.inr (.inr (.inr (fun q => some (hr q))))))), (q1, .inl (zca G, (n - 1), .inr (.inr (.inr (.inr (F1))))))] ++ (zrw G hr R n ++ zpic G ad X)) H := hP
    have hD : va_D A ([((hd 0), .inr (8, [.ref (ad 52), .ref (zsb G), .int (zi ((dr + 1 : Nat) : Int)), .ref (hd 1), .ref (hd 6), .int (zi la), .ref (hd 7), .int (zi cl), .int (zi 0), .ref (hd 8)])), ((hd 1), .inl (zca G, 4, .inr (.inr (.inr (.inr (fun q => some (hd (2 + q)))))))), ((hd 2), .inl (zci G, 6, .inl (fun j => zi ((C 0) j)))), ((hd 3), .inl (zci G, 6, .inl (fun j => zi ((C 1) j)))), ((hd 4), .inl (zci G, 6, .inl (fun j => zi ((C 2) j)))), ((hd 5), .inl (zci G, 4, .inl (fun j => zi ((C 3) j)))), ((hd 6), .inl (zca G, n, .inr (.inr (.inr (.inr (fun q => some (hr q))))))), (q1, .inl (zca G, (n - 1), .inr (.inr (.inr (.inr (F1))))))] ++ (zrw G hr R n ++ zpic G ad X)) := hD
    refine W.eq (g2 := F0 m 29 ls [.ref q1, .ref (hd 0)]) rfl ?_
    refine va_put (D := G.1) (ci := 8) (v := .ref q1) (ty := tyX8 4) (C := RX8) (T := TX8) (N := 10) hx hb hts hw8 tyX8 tyX8_ok nmX8 hown hE.1 hP hD hS 0 rfl rfl 4 (by decide) hf22 (fun _ h9 => h9) rfl (by decide +kernel) rfl rfl (Nat.le_of_ble_eq_true rfl) dX8_drop_29 (fun H locs hP hD hS => ?_)
    have hP : va_P G.1 vwCl ([((hd 0), .inr (8, [.ref (ad 52), .ref (zsb G), .int (zi ((dr + 1 : Nat) : Int)), .ref (hd 1), .ref q1, .int (zi la), .ref (hd 7), .int (zi cl), .int (zi 0), .ref (hd 8)])), ((hd 1), .inl (zca G, 4, .inr (.inr (.inr (.inr (fun q => some (hd (2 + q)))))))), ((hd 2), .inl (zci G, 6, .inl (fun j => zi ((C 0) j)))), ((hd 3), .inl (zci G, 6, .inl (fun j => zi ((C 1) j)))), ((hd 4), .inl (zci G, 6, .inl (fun j => zi ((C 2) j)))), ((hd 5), .inl (zci G, 4, .inl (fun j => zi ((C 3) j)))), ((hd 6), .inl (zca G, n, .inr (.inr (.inr (.inr (fun q => some (hr q))))))), (q1, .inl (zca G, (n - 1), .inr (.inr (.inr (.inr (F1))))))] ++ (zrw G hr R n ++ zpic G ad X)) H := hP
    have hD : va_D A ([((hd 0), .inr (8, [.ref (ad 52), .ref (zsb G), .int (zi ((dr + 1 : Nat) : Int)), .ref (hd 1), .ref q1, .int (zi la), .ref (hd 7), .int (zi cl), .int (zi 0), .ref (hd 8)])), ((hd 1), .inl (zca G, 4, .inr (.inr (.inr (.inr (fun q => some (hd (2 + q)))))))), ((hd 2), .inl (zci G, 6, .inl (fun j => zi ((C 0) j)))), ((hd 3), .inl (zci G, 6, .inl (fun j => zi ((C 1) j)))), ((hd 4), .inl (zci G, 6, .inl (fun j => zi ((C 2) j)))), ((hd 5), .inl (zci G, 4, .inl (fun j => zi ((C 3) j)))), ((hd 6), .inl (zca G, n, .inr (.inr (.inr (.inr (fun q => some (hr q))))))), (q1, .inl (zca G, (n - 1), .inr (.inr (.inr (.inr (F1))))))] ++ (zrw G hr R n ++ zpic G ad X)) := hD
    refine lv_aload_n hx hb dX8_drop_32 rfl (lv_at hl 1 rfl) ?_
    refine va_get (D := G.1) (ci := 8) (v := .ref (ad 52)) (C := RX8) (T := TX8) (N := 10) hx hb hts hw8 hown hE.1 hP 0 rfl rfl 0 (by decide) hf10 (fun _ h9 => h9) rfl dX8_drop_33 ?_
    refine lv_iload_n hx hb dX8_drop_36 rfl (lv_at hl 0 rfl) ?_
    refine zcall (wr := ([((hd 0), .inr (8, [.ref (ad 52), .ref (zsb G), .int (zi ((dr + 1 : Nat) : Int)), .ref (hd 1), .ref q1, .int (zi la), .ref (hd 7), .int (zi cl), .int (zi 0), .ref (hd 8)])), ((hd 1), .inl (zca G, 4, .inr (.inr (.inr (.inr (fun q => some (hd (2 + q)))))))), ((hd 2), .inl (zci G, 6, .inl (fun j => zi ((C 0) j)))), ((hd 3), .inl (zci G, 6, .inl (fun j => zi ((C 1) j)))), ((hd 4), .inl (zci G, 6, .inl (fun j => zi ((C 2) j)))), ((hd 5), .inl (zci G, 4, .inl (fun j => zi ((C 3) j)))), ((hd 6), .inl (zca G, n, .inr (.inr (.inr (.inr (fun q => some (hr q))))))), (q1, .inl (zca G, (n - 1), .inr (.inr (.inr (.inr (F1))))))] ++ zrw G hr R n)) (wc := zpic G ad X) (va_runV (As := [.int (zi (r : Int))]) (rest := []) ⟨hx, hb, hml, hown, hts⟩ (c_X7_drop l G ad X r hI.1 (by omega) H.size) (cwV 1 hts gX8_drop_X7_drop rfl rfl rfl (by decide +kernel) ⟨Nat.le_of_ble_eq_true rfl, Nat.le_of_ble_eq_true rfl⟩) (zPreV (As := [.int (zi (r : Int))]) (wr := ([((hd 0), .inr (8, [.ref (ad 52), .ref (zsb G), .int (zi ((dr + 1 : Nat) : Int)), .ref (hd 1), .ref q1, .int (zi la), .ref (hd 7), .int (zi cl), .int (zi 0), .ref (hd 8)])), ((hd 1), .inl (zca G, 4, .inr (.inr (.inr (.inr (fun q => some (hd (2 + q)))))))), ((hd 2), .inl (zci G, 6, .inl (fun j => zi ((C 0) j)))), ((hd 3), .inl (zci G, 6, .inl (fun j => zi ((C 1) j)))), ((hd 4), .inl (zci G, 6, .inl (fun j => zi ((C 2) j)))), ((hd 5), .inl (zci G, 4, .inl (fun j => zi ((C 3) j)))), ((hd 6), .inl (zca G, n, .inr (.inr (.inr (.inr (fun q => some (hr q))))))), (q1, .inl (zca G, (n - 1), .inr (.inr (.inr (.inr (F1))))))] ++ zrw G hr R n)) (wc := zpic G ad X) (q0 := 52) (ci := 7) (q := (RX7, TX7, 8)) hP hD hE hS hA rfl p_52) rfl rfl hl.1 rfl (lv_room (Nat.le_of_ble_eq_true rfl)) dX8_drop_37 ⟨Nat.le_of_ble_eq_true rfl, Nat.le_of_ble_eq_true rfl⟩) hP hD hS hA (fun _ _ H locs hf9 hP hD hS => ?_)
    obtain ⟨v2, Y1, rfl, hv2, rfl⟩ := hf9
    have hP : va_P G.1 vwCl ([((hd 0), .inr (8, [.ref (ad 52), .ref (zsb G), .int (zi ((dr + 1 : Nat) : Int)), .ref (hd 1), .ref q1, .int (zi la), .ref (hd 7), .int (zi cl), .int (zi 0), .ref (hd 8)])), ((hd 1), .inl (zca G, 4, .inr (.inr (.inr (.inr (fun q => some (hd (2 + q)))))))), ((hd 2), .inl (zci G, 6, .inl (fun j => zi ((C 0) j)))), ((hd 3), .inl (zci G, 6, .inl (fun j => zi ((C 1) j)))), ((hd 4), .inl (zci G, 6, .inl (fun j => zi ((C 2) j)))), ((hd 5), .inl (zci G, 4, .inl (fun j => zi ((C 3) j)))), ((hd 6), .inl (zca G, n, .inr (.inr (.inr (.inr (fun q => some (hr q))))))), (q1, .inl (zca G, (n - 1), .inr (.inr (.inr (.inr (F1))))))] ++ (zrw G hr R n ++ zpic G ad Y1)) H := hP
    have hD : va_D A ([((hd 0), .inr (8, [.ref (ad 52), .ref (zsb G), .int (zi ((dr + 1 : Nat) : Int)), .ref (hd 1), .ref q1, .int (zi la), .ref (hd 7), .int (zi cl), .int (zi 0), .ref (hd 8)])), ((hd 1), .inl (zca G, 4, .inr (.inr (.inr (.inr (fun q => some (hd (2 + q)))))))), ((hd 2), .inl (zci G, 6, .inl (fun j => zi ((C 0) j)))), ((hd 3), .inl (zci G, 6, .inl (fun j => zi ((C 1) j)))), ((hd 4), .inl (zci G, 6, .inl (fun j => zi ((C 2) j)))), ((hd 5), .inl (zci G, 4, .inl (fun j => zi ((C 3) j)))), ((hd 6), .inl (zca G, n, .inr (.inr (.inr (.inr (fun q => some (hr q))))))), (q1, .inl (zca G, (n - 1), .inr (.inr (.inr (.inr (F1))))))] ++ (zrw G hr R n ++ zpic G ad Y1)) := hD
    refine W.eq (g2 := F0 m 40 ls [.int (zi v2)]) rfl ?_
    have hvn : v2 = (n : Int) - 1 := by rw [hv2.1]; omega
    refine lv_aload_n hx hb dX8_drop_40 rfl (lv_at hl 1 rfl) ?_
    refine va_get (D := G.1) (ci := 8) (v := .ref q1) (C := RX8) (T := TX8) (N := 10) hx hb hts hw8 hown hE.1 hP 0 rfl rfl 4 (by decide) hf22 (fun _ h9 => h9) rfl dX8_drop_41 ?_
    refine zalenA hx hb hE hP 7 rfl dX8_drop_44 ?_
    refine zc_ne (tgt := 52) hx hb dX8_drop_45 (by decide) (by omega) (by omega) (fun h9 => by exfalso; omega) (fun h45 => ?_)
    refine lv_iconst (v := zi 1) hx hb dX8_drop_48 rfl ?_
    refine lv_goto (tgt := 53) hx hb dX8_drop_49 (by decide) ?_
    have hP := zrw_mapP (fun i => if i < r then i else i + 1) (n - 1) (fun i hi => by show (if i < r then i else i + 1) < n; split <;> omega) hP
    have hD := zrw_mapD (fun i => if i < r then i else i + 1) (n - 1) (fun i hi => by show (if i < r then i else i + 1) < n; split <;> omega) (fun i j hi hj e => by have e : (if i < r then i else i + 1) = (if j < r then j else j + 1) := e; split at e <;> split at e <;> omega) hD
    have hP : va_P G.1 vwCl ([((hd 0), .inr (8, [.ref (ad 52), .ref (zsb G), .int (zi ((dr + 1 : Nat) : Int)), .ref (hd 1), .ref q1, .int (zi la), .ref (hd 7), .int (zi cl), .int (zi 0), .ref (hd 8)])), ((hd 1), .inl (zca G, 4, .inr (.inr (.inr (.inr (fun q => some (hd (2 + q)))))))), ((hd 2), .inl (zci G, 6, .inl (fun j => zi ((C 0) j)))), ((hd 3), .inl (zci G, 6, .inl (fun j => zi ((C 1) j)))), ((hd 4), .inl (zci G, 6, .inl (fun j => zi ((C 2) j)))), ((hd 5), .inl (zci G, 4, .inl (fun j => zi ((C 3) j)))), ((hd 6), .inl (zca G, n, .inr (.inr (.inr (.inr (fun q => some (hr q))))))), (q1, .inl (zca G, (n - 1), .inr (.inr (.inr (.inr (F1))))))] ++ (zrw G (fun i => hr ((fun i => if i < r then i else i + 1) i)) (fun i => R ((fun i => if i < r then i else i + 1) i)) (n - 1) ++ zpic G ad Y1)) H := hP
    have hD : va_D A ([((hd 0), .inr (8, [.ref (ad 52), .ref (zsb G), .int (zi ((dr + 1 : Nat) : Int)), .ref (hd 1), .ref q1, .int (zi la), .ref (hd 7), .int (zi cl), .int (zi 0), .ref (hd 8)])), ((hd 1), .inl (zca G, 4, .inr (.inr (.inr (.inr (fun q => some (hd (2 + q)))))))), ((hd 2), .inl (zci G, 6, .inl (fun j => zi ((C 0) j)))), ((hd 3), .inl (zci G, 6, .inl (fun j => zi ((C 1) j)))), ((hd 4), .inl (zci G, 6, .inl (fun j => zi ((C 2) j)))), ((hd 5), .inl (zci G, 4, .inl (fun j => zi ((C 3) j)))), ((hd 6), .inl (zca G, n, .inr (.inr (.inr (.inr (fun q => some (hr q))))))), (q1, .inl (zca G, (n - 1), .inr (.inr (.inr (.inr (F1))))))] ++ (zrw G (fun i => hr ((fun i => if i < r then i else i + 1) i)) (fun i => R ((fun i => if i < r then i else i + 1) i)) (n - 1) ++ zpic G ad Y1)) := hD
    have hP := zsubP (L' := [((hd 0), .inr (8, [.ref (ad 52), .ref (zsb G), .int (zi ((dr + 1 : Nat) : Int)), .ref (hd 1), .ref q1, .int (zi la), .ref (hd 7), .int (zi cl), .int (zi 0), .ref (hd 8)])), ((hd 1), .inl (zca G, 4, .inr (.inr (.inr (.inr (fun q => some (hd (2 + q)))))))), ((hd 2), .inl (zci G, 6, .inl (fun j => zi ((C 0) j)))), ((hd 3), .inl (zci G, 6, .inl (fun j => zi ((C 1) j)))), ((hd 4), .inl (zci G, 6, .inl (fun j => zi ((C 2) j)))), ((hd 5), .inl (zci G, 4, .inl (fun j => zi ((C 3) j)))), (q1, .inl (zca G, (n - 1), .inr (.inr (.inr (.inr (F1))))))]) hP [0, 1, 2, 3, 4, 5, 7] rfl
    have hD := zsubD (L' := [((hd 0), .inr (8, [.ref (ad 52), .ref (zsb G), .int (zi ((dr + 1 : Nat) : Int)), .ref (hd 1), .ref q1, .int (zi la), .ref (hd 7), .int (zi cl), .int (zi 0), .ref (hd 8)])), ((hd 1), .inl (zca G, 4, .inr (.inr (.inr (.inr (fun q => some (hd (2 + q)))))))), ((hd 2), .inl (zci G, 6, .inl (fun j => zi ((C 0) j)))), ((hd 3), .inl (zci G, 6, .inl (fun j => zi ((C 1) j)))), ((hd 4), .inl (zci G, 6, .inl (fun j => zi ((C 2) j)))), ((hd 5), .inl (zci G, 4, .inl (fun j => zi ((C 3) j)))), (q1, .inl (zca G, (n - 1), .inr (.inr (.inr (.inr (F1))))))]) hD [0, 1, 2, 3, 4, 5, 7] (by decide) rfl
    have hP : va_P G.1 vwCl ([((hd 0), .inr (8, [.ref (ad 52), .ref (zsb G), .int (zi ((dr + 1 : Nat) : Int)), .ref (hd 1), .ref q1, .int (zi la), .ref (hd 7), .int (zi cl), .int (zi 0), .ref (hd 8)])), ((hd 1), .inl (zca G, 4, .inr (.inr (.inr (.inr (fun q => some (hd (2 + q)))))))), ((hd 2), .inl (zci G, 6, .inl (fun j => zi ((C 0) j)))), ((hd 3), .inl (zci G, 6, .inl (fun j => zi ((C 1) j)))), ((hd 4), .inl (zci G, 6, .inl (fun j => zi ((C 2) j)))), ((hd 5), .inl (zci G, 4, .inl (fun j => zi ((C 3) j)))), (q1, .inl (zca G, (n - 1), .inr (.inr (.inr (.inr (F1))))))] ++ (zrw G (fun i => hr ((fun i => if i < r then i else i + 1) i)) (fun i => R ((fun i => if i < r then i else i + 1) i)) (n - 1) ++ zpic G ad Y1)) H := hP
    have hD : va_D A ([((hd 0), .inr (8, [.ref (ad 52), .ref (zsb G), .int (zi ((dr + 1 : Nat) : Int)), .ref (hd 1), .ref q1, .int (zi la), .ref (hd 7), .int (zi cl), .int (zi 0), .ref (hd 8)])), ((hd 1), .inl (zca G, 4, .inr (.inr (.inr (.inr (fun q => some (hd (2 + q)))))))), ((hd 2), .inl (zci G, 6, .inl (fun j => zi ((C 0) j)))), ((hd 3), .inl (zci G, 6, .inl (fun j => zi ((C 1) j)))), ((hd 4), .inl (zci G, 6, .inl (fun j => zi ((C 2) j)))), ((hd 5), .inl (zci G, 4, .inl (fun j => zi ((C 3) j)))), (q1, .inl (zca G, (n - 1), .inr (.inr (.inr (.inr (F1))))))] ++ (zrw G (fun i => hr ((fun i => if i < r then i else i + 1) i)) (fun i => R ((fun i => if i < r then i else i + 1) i)) (n - 1) ++ zpic G ad Y1)) := hD
    have hP := zreqL (k := 6) (g := fun i => some ((fun i => hr ((fun i => if i < r then i else i + 1) i)) i)) rfl hF1 hP
    have hD := zkeyD (L' := [((hd 0), .inr (8, [.ref (ad 52), .ref (zsb G), .int (zi ((dr + 1 : Nat) : Int)), .ref (hd 1), .ref q1, .int (zi la), .ref (hd 7), .int (zi cl), .int (zi 0), .ref (hd 8)])), ((hd 1), .inl (zca G, 4, .inr (.inr (.inr (.inr (fun q => some (hd (2 + q)))))))), ((hd 2), .inl (zci G, 6, .inl (fun j => zi ((C 0) j)))), ((hd 3), .inl (zci G, 6, .inl (fun j => zi ((C 1) j)))), ((hd 4), .inl (zci G, 6, .inl (fun j => zi ((C 2) j)))), ((hd 5), .inl (zci G, 4, .inl (fun j => zi ((C 3) j)))), (q1, .inl (zca G, (n - 1), .inr (.inr (.inr (.inr (fun q => some ((fun i => hr ((fun i => if i < r then i else i + 1) i)) q)))))))]) hD rfl
    have hP : va_P G.1 vwCl ([((hd 0), .inr (8, [.ref (ad 52), .ref (zsb G), .int (zi ((dr + 1 : Nat) : Int)), .ref (hd 1), .ref q1, .int (zi la), .ref (hd 7), .int (zi cl), .int (zi 0), .ref (hd 8)])), ((hd 1), .inl (zca G, 4, .inr (.inr (.inr (.inr (fun q => some (hd (2 + q)))))))), ((hd 2), .inl (zci G, 6, .inl (fun j => zi ((C 0) j)))), ((hd 3), .inl (zci G, 6, .inl (fun j => zi ((C 1) j)))), ((hd 4), .inl (zci G, 6, .inl (fun j => zi ((C 2) j)))), ((hd 5), .inl (zci G, 4, .inl (fun j => zi ((C 3) j)))), (q1, .inl (zca G, (n - 1), .inr (.inr (.inr (.inr (fun q => some ((fun i => hr ((fun i => if i < r then i else i + 1) i)) q)))))))] ++ (zrw G (fun i => hr ((fun i => if i < r then i else i + 1) i)) (fun i => R ((fun i => if i < r then i else i + 1) i)) (n - 1) ++ zpic G ad Y1)) H := hP
    have hD : va_D A ([((hd 0), .inr (8, [.ref (ad 52), .ref (zsb G), .int (zi ((dr + 1 : Nat) : Int)), .ref (hd 1), .ref q1, .int (zi la), .ref (hd 7), .int (zi cl), .int (zi 0), .ref (hd 8)])), ((hd 1), .inl (zca G, 4, .inr (.inr (.inr (.inr (fun q => some (hd (2 + q)))))))), ((hd 2), .inl (zci G, 6, .inl (fun j => zi ((C 0) j)))), ((hd 3), .inl (zci G, 6, .inl (fun j => zi ((C 1) j)))), ((hd 4), .inl (zci G, 6, .inl (fun j => zi ((C 2) j)))), ((hd 5), .inl (zci G, 4, .inl (fun j => zi ((C 3) j)))), (q1, .inl (zca G, (n - 1), .inr (.inr (.inr (.inr (fun q => some ((fun i => hr ((fun i => if i < r then i else i + 1) i)) q)))))))] ++ (zrw G (fun i => hr ((fun i => if i < r then i else i + 1) i)) (fun i => R ((fun i => if i < r then i else i + 1) i)) (n - 1) ++ zpic G ad Y1)) := hD
    obtain ⟨hd1, ehd1⟩ : ∃ f : Nat → Nat, f = fun k => if k = 6 then q1 else hd k := ⟨_, rfl⟩
    have hP := zreqL (k := 1) (g := fun i => some (hd1 (2 + i))) rfl (fun i hi => by rw [ehd1]; show _ = some (if 2 + i = 6 then q1 else hd (2 + i)); rw [if_neg (by omega)]) hP
    have hD := zkeyD (L' := [((hd 0), .inr (8, [.ref (ad 52), .ref (zsb G), .int (zi ((dr + 1 : Nat) : Int)), .ref (hd 1), .ref q1, .int (zi la), .ref (hd 7), .int (zi cl), .int (zi 0), .ref (hd 8)])), ((hd 1), .inl (zca G, 4, .inr (.inr (.inr (.inr (fun q => some (hd1 (2 + q)))))))), ((hd 2), .inl (zci G, 6, .inl (fun j => zi ((C 0) j)))), ((hd 3), .inl (zci G, 6, .inl (fun j => zi ((C 1) j)))), ((hd 4), .inl (zci G, 6, .inl (fun j => zi ((C 2) j)))), ((hd 5), .inl (zci G, 4, .inl (fun j => zi ((C 3) j)))), (q1, .inl (zca G, (n - 1), .inr (.inr (.inr (.inr (fun q => some ((fun i => hr ((fun i => if i < r then i else i + 1) i)) q)))))))]) hD rfl
    have hP : va_P G.1 vwCl ([((hd 0), .inr (8, [.ref (ad 52), .ref (zsb G), .int (zi ((dr + 1 : Nat) : Int)), .ref (hd 1), .ref q1, .int (zi la), .ref (hd 7), .int (zi cl), .int (zi 0), .ref (hd 8)])), ((hd 1), .inl (zca G, 4, .inr (.inr (.inr (.inr (fun q => some (hd1 (2 + q)))))))), ((hd 2), .inl (zci G, 6, .inl (fun j => zi ((C 0) j)))), ((hd 3), .inl (zci G, 6, .inl (fun j => zi ((C 1) j)))), ((hd 4), .inl (zci G, 6, .inl (fun j => zi ((C 2) j)))), ((hd 5), .inl (zci G, 4, .inl (fun j => zi ((C 3) j)))), (q1, .inl (zca G, (n - 1), .inr (.inr (.inr (.inr (fun q => some ((fun i => hr ((fun i => if i < r then i else i + 1) i)) q)))))))] ++ (zrw G (fun i => hr ((fun i => if i < r then i else i + 1) i)) (fun i => R ((fun i => if i < r then i else i + 1) i)) (n - 1) ++ zpic G ad Y1)) H := hP
    have hD : va_D A ([((hd 0), .inr (8, [.ref (ad 52), .ref (zsb G), .int (zi ((dr + 1 : Nat) : Int)), .ref (hd 1), .ref q1, .int (zi la), .ref (hd 7), .int (zi cl), .int (zi 0), .ref (hd 8)])), ((hd 1), .inl (zca G, 4, .inr (.inr (.inr (.inr (fun q => some (hd1 (2 + q)))))))), ((hd 2), .inl (zci G, 6, .inl (fun j => zi ((C 0) j)))), ((hd 3), .inl (zci G, 6, .inl (fun j => zi ((C 1) j)))), ((hd 4), .inl (zci G, 6, .inl (fun j => zi ((C 2) j)))), ((hd 5), .inl (zci G, 4, .inl (fun j => zi ((C 3) j)))), (q1, .inl (zca G, (n - 1), .inr (.inr (.inr (.inr (fun q => some ((fun i => hr ((fun i => if i < r then i else i + 1) i)) q)))))))] ++ (zrw G (fun i => hr ((fun i => if i < r then i else i + 1) i)) (fun i => R ((fun i => if i < r then i else i + 1) i)) (n - 1) ++ zpic G ad Y1)) := hD
    exact zend_z hx hb hr0 hlocks (by decide +kernel) hP hD hS (Nat.le_of_ble_eq_true rfl) (Nat.le_of_ble_eq_true rfl) dX8_drop_53 ⟨rfl, hd1, (fun i => hr ((fun i => if i < r then i else i + 1) i)), Y1, n - 1, dr + 1, la, cl, (fun i => R ((fun i => if i < r then i else i + 1) i)), by rw [ehd1]; rfl, by omega, by obtain ⟨-, Y9, hY9, hY8⟩ := hv2; rw [hY8]; exact hv.rem (r := r) (by omega) hY9 (fun q _ => rfl), by subst ehd1; rfl⟩
  · refine lv_iconst (v := zi 1) hx hb dX8_drop_8 rfl ?_
    exact zend_z hx hb hr0 hlocks (by decide +kernel) hP hD hS (Nat.le_of_ble_eq_true rfl) (Nat.le_of_ble_eq_true rfl) dX8_drop_9 ⟨rfl, hd, hr, X, n, dr, la, cl, R, rfl, by omega, hv, rfl⟩
