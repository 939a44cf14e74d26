/-! Nettle: decider -/
theorem dX7_decider_0 : decode cX7_decider 0 = .ok (.aload_n 0, 1) := by decide +kernel
theorem dX7_decider_1 : decode cX7_decider 1 = .ok (.iload_n 1, 1) := by decide +kernel
theorem dX7_decider_2 : decode cX7_decider 2 = .ok (.iload_n 2, 1) := by decide +kernel
theorem dX7_decider_3 : decode cX7_decider 3 = .ok (.iload_n 3, 1) := by decide +kernel
theorem dX7_decider_4 : decode cX7_decider 4 = .ok (.iload 4, 2) := by decide +kernel
set_option maxRecDepth 20000 in
theorem ggX7_decider_X7_takePacket : GoodIn wsX7_decider wsX7_takePacket := goodIn_ca (goodIn_r _ [9, 10, 11, 4, 12, 13, 8, 14, 15, 32, 33, 34, 35, 36, 37, 38, 39] (by decide +kernel) (by decide +kernel)) (goodIn_sub (fun _ h => List.mem_cons_of_mem _ (List.mem_append_right _ h)) (by decide +kernel))
set_option maxRecDepth 20000 in
theorem gX7_decider_X7_takePacket : GoodIn wsX7_decider (wsV RX7 177 RX7 yX7_takePacket wsX7_takePacket) := goodIn_app (goodIn_of _ (by decide +kernel)) ggX7_decider_X7_takePacket
theorem dX7_decider_6 : decode cX7_decider 6 = .ok (.invokevirtual 177, 3) := by decide +kernel
theorem dX7_decider_9 : decode cX7_decider 9 = .ok (.iconst 0, 1) := by decide +kernel
theorem dX7_decider_10 : decode cX7_decider 10 = .ok (.istore 5, 2) := by decide +kernel
theorem dX7_decider_12 : decode cX7_decider 12 = .ok (.iload 5, 2) := by decide +kernel
theorem dX7_decider_14 : decode cX7_decider 14 = .ok (.aload_n 0, 1) := by decide +kernel
theorem dX7_decider_15 : decode cX7_decider 15 = .ok (.getfield 10, 3) := by decide +kernel
theorem dX7_decider_18 : decode cX7_decider 18 = .ok (.getfield 70, 3) := by decide +kernel
theorem dX7_decider_21 : decode cX7_decider 21 = .ok (.if_icmp .ge 48, 3) := by decide +kernel
theorem dX7_decider_69 : decode cX7_decider 69 = .ok (.iconst (-1), 1) := by decide +kernel
theorem dX7_decider_70 : decode cX7_decider 70 = .ok (.ireturn, 1) := by decide +kernel
theorem dX7_decider_24 : decode cX7_decider 24 = .ok (.aload_n 0, 1) := by decide +kernel
theorem dX7_decider_25 : decode cX7_decider 25 = .ok (.getfield 10, 3) := by decide +kernel
theorem dX7_decider_28 : decode cX7_decider 28 = .ok (.getfield 104, 3) := by decide +kernel
theorem dX7_decider_31 : decode cX7_decider 31 = .ok (.iload 5, 2) := by decide +kernel
theorem dX7_decider_33 : decode cX7_decider 33 = .ok (.aaload, 1) := by decide +kernel
set_option maxRecDepth 20000 in
theorem ggX7_decider_X3_isNote : GoodIn wsX7_decider wsX3_isNote := goodIn_r _ [20, 21, 43, 44, 45, 46] (by decide +kernel) (by decide +kernel)
set_option maxRecDepth 20000 in
theorem gX7_decider_X3_isNote : GoodIn wsX7_decider (wsV RX7 181 RX3 yX3_isNote wsX3_isNote) := goodIn_app (goodIn_of _ (by decide +kernel)) ggX7_decider_X3_isNote
theorem dX7_decider_34 : decode cX7_decider 34 = .ok (.invokevirtual 181, 3) := by decide +kernel
theorem dX7_decider_37 : decode cX7_decider 37 = .ok (.ifCond .ne 26, 3) := by decide +kernel
theorem dX7_decider_63 : decode cX7_decider 63 = .ok (.iinc 5 1, 3) := by decide +kernel
theorem dX7_decider_66 : decode cX7_decider 66 = .ok (.goto (-54), 3) := by decide +kernel
theorem dX7_decider_40 : decode cX7_decider 40 = .ok (.aload_n 0, 1) := by decide +kernel
theorem dX7_decider_41 : decode cX7_decider 41 = .ok (.getfield 10, 3) := by decide +kernel
theorem dX7_decider_44 : decode cX7_decider 44 = .ok (.getfield 104, 3) := by decide +kernel
theorem dX7_decider_47 : decode cX7_decider 47 = .ok (.iload 5, 2) := by decide +kernel
theorem dX7_decider_49 : decode cX7_decider 49 = .ok (.aaload, 1) := by decide +kernel
theorem dX7_decider_50 : decode cX7_decider 50 = .ok (.aload_n 0, 1) := by decide +kernel
theorem dX7_decider_51 : decode cX7_decider 51 = .ok (.getfield 62, 3) := by decide +kernel
set_option maxRecDepth 20000 in
theorem ggX7_decider_X3_meets : GoodIn wsX7_decider wsX3_meets := goodIn_r _ [25, 26, 27, 28, 19, 29, 30, 31, 43, 44, 45, 46] (by decide +kernel) (by decide +kernel)
set_option maxRecDepth 20000 in
theorem gX7_decider_X3_meets : GoodIn wsX7_decider (wsV RX7 185 RX3 yX3_meets wsX3_meets) := goodIn_app (goodIn_of _ (by decide +kernel)) ggX7_decider_X3_meets
theorem dX7_decider_54 : decode cX7_decider 54 = .ok (.invokevirtual 185, 3) := by decide +kernel
theorem dX7_decider_57 : decode cX7_decider 57 = .ok (.ifCond .eq 6, 3) := by decide +kernel
theorem dX7_decider_60 : decode cX7_decider 60 = .ok (.iload 5, 2) := by decide +kernel
theorem dX7_decider_62 : decode cX7_decider 62 = .ok (.ireturn, 1) := by decide +kernel
/-- the RULE that decides the PACKET in the row 70 -/
def zDcd (X : Nat → Nat → Int) (w : Int) : Prop := (∃ k : Nat, k < zN X 0 ∧ w = (k : Int) ∧ (X (zr X 0 k) 0 ≠ 2 ∧ zMeets X (zr X 0 k)) ∧ ∀ j : Nat, j < k → ¬ (X (zr X 0 j) 0 ≠ 2 ∧ zMeets X (zr X 0 j))) ∨ (w = -1 ∧ ∀ j : Nat, j < zN X 0 → ¬ (X (zr X 0 j) 0 ≠ 2 ∧ zMeets X (zr X 0 j)))
theorem zPkt {X : Nat → Nat → Int} {p0 p1 p2 p3 : Int} (h0 : 0 ≤ p0 ∧ p0 < 256) (h1 : 0 ≤ p1 ∧ p1 < 256) (h2 : 0 ≤ p2 ∧ p2 < 1024) (h3 : 0 ≤ p3 ∧ p3 < 4) : zPk (zw (zw (zw (zw X 70 0 p0) 70 1 p1) 70 2 p2) 70 3 p3) := by
  intro g hg
  have h : g = 0 ∨ g = 1 ∨ g = 2 ∨ g = 3 := by omega
  rcases h with rfl | rfl | rfl | rfl <;> simp [zw_get, zS] <;> omega

set_option maxHeartbeats 4000000 in
set_option maxRecDepth 100000 in
/-- decider -/
theorem c_X7_decider (l : Launch) (G : zG) (ad : Nat → Nat) (X : Nat → Nat → Int) (p0 : Int) (p1 : Int) (p2 : Int) (p3 : Int) (hV : zV X) (hp0 : 0 ≤ p0 ∧ p0 < 256) (hp1 : 0 ≤ p1 ∧ p1 < 256) (hp2 : 0 ≤ p2 ∧ p2 < 1024) (hp3 : 0 ≤ p3 ∧ p3 < 4) : zR l G yX7_decider wsX7_decider { frames := 2, cells := 0, slots := 0, locals := 45 } (zpic G ad X) [.ref (ad 52), .int (zi p0), .int (zi p1), .int (zi p2), .int (zi p3)] (zu G ad (fun w Y => Y = zw (zw (zw (zw X 70 0 p0) 70 1 p1) 70 2 p2) 70 3 p3 ∧ zDcd Y w)) 0 0 := by
  refine zR_of (cc := cX7_decider) (maxL := 6) (rt := (some .int)) (by decide) rfl (Nat.le_of_ble_eq_true rfl) ?_
  intro p e s m below meth c A ls hx hb hml hr hts hown hlocks hin0 hA hE hP hD hS hl
  have hl : lv_has ls 6 [(0, .ref (ad 52)), (1, .int (zi p0)), (2, .int (zi p1)), (3, .int (zi p2)), (4, .int (zi p3))] := hl
  have hown : s.vm.findClass RX7 = some m.cls := hown
  have hw7 : ∀ w ∈ u_ws RX7 TX7 8, w ∈ wsX7_decider := by decide +kernel
  have hf10 := hts (.fieldLink RX7 10 "Nettle" "wall" "LNettle$Wall;") (by decide +kernel)
  have hw6 : ∀ w ∈ u_ws RX6 TX6 3, w ∈ wsX7_decider := by decide +kernel
  have hf70 := hts (.fieldLink RX7 70 "Nettle$Wall" "count" "I") (by decide +kernel)
  have hf104 := hts (.fieldLink RX7 104 "Nettle$Wall" "rows" "[LNettle$Rule;") (by decide +kernel)
  have hf62 := hts (.fieldLink RX7 62 "Nettle" "packet" "[I") (by decide +kernel)
  refine lv_aload_n hx hb dX7_decider_0 rfl (lv_at hl 0 rfl) ?_
  refine lv_iload_n hx hb dX7_decider_1 rfl (lv_at hl 1 rfl) ?_
  refine lv_iload_n hx hb dX7_decider_2 rfl (lv_at hl 2 rfl) ?_
  refine lv_iload_n hx hb dX7_decider_3 rfl (lv_at hl 3 rfl) ?_
  refine lv_iload hx hb dX7_decider_4 (lv_at hl 4 rfl) ?_
  refine zcall (wr := []) (va_runV (As := [.int (zi p0), .int (zi p1), .int (zi p2), .int (zi p3)]) (rest := []) ⟨hx, hb, hml, hown, hts⟩ (c_X7_takePacket l G ad X p0 p1 p2 p3 (by omega) (by omega) (by omega) (by omega) s.heap.size) (cwV 4 hts gX7_decider_X7_takePacket rfl rfl rfl (by decide +kernel) ⟨Nat.le_of_ble_eq_true rfl, Nat.le_of_ble_eq_true rfl⟩) (zPreV (wr := []) (wc := zpic G ad X) (q0 := 52) (ci := 7) (q := (RX7, TX7, 8)) hP hD hE hS hA rfl p_52) rfl rfl hl.1 rfl (lv_room (Nat.le_of_ble_eq_true rfl)) dX7_decider_6 ⟨Nat.le_of_ble_eq_true rfl, Nat.le_of_ble_eq_true rfl⟩) hP hD hS hA (fun _ _ H locs hf hP hD hS => ?_)
  obtain ⟨X1, rfl, hX1, rfl⟩ := hf
  have hP : va_P G.1 vwCl (zpic G ad X1) H := hP
  have hD : va_D A (zpic G ad X1) := hD
  refine W.eq (g2 := F0 m 9 ls []) rfl ?_
  have hV1 : zV X1 := hV.eq (fun k h9 => by rw [hX1, zw_cell (by omega), zw_cell (by omega), zw_cell (by omega), zw_cell (by omega)])
  have hp : zPk X1 := by rw [hX1]; exact zPkt hp0 hp1 hp2 hp3
  have hn := hV1.n (Or.inl rfl : zIsW 0)
  refine lv_iconst (v := zi 0) hx hb dX7_decider_9 rfl ?_
  refine lv_istore (lv' := [(5, .int (zi 0)), (0, .ref (ad 52)), (1, .int (zi p0)), (2, .int (zi p1)), (3, .int (zi p2)), (4, .int (zi p3))]) hx hb dX7_decider_10 hl (by decide) rfl (fun ls hl => ?_)
  refine zloop1 (fun (k : Nat) => 8 - k) (fun (k : Nat) (H : Heap) (locs : List Loc) (ls : Array Slot) => va_P G.1 vwCl (zpic G ad X1) H ∧ va_D A (zpic G ad X1) ∧ va_S A s.heap H locs ∧ lv_has ls 6 [(5, .int (zi (k : Int))), (0, .ref (ad 52))] ∧ (k ≤ zN X1 0) ∧ (∀ j : Nat, j < k → ¬ (X1 (zr X1 0 j) 0 ≠ 2 ∧ zMeets X1 (zr X1 0 j)))) ?_ 0 ⟨hP, hD, hS, lv_sub hl [0, 1] rfl, (by omega), (fun j h1 => by omega)⟩
  intro k ih H locs ls ⟨hP, hD, hS, hl, hk, hw⟩
  refine lv_iload hx hb dX7_decider_12 (lv_at hl 0 rfl) ?_
  refine lv_aload_n hx hb dX7_decider_14 rfl (lv_at hl 1 rfl) ?_
  refine va_get (D := G.1) (ci := 7) (v := .ref (ad 0)) (C := RX7) (T := TX7) (N := 8) hx hb hts hw7 hown hE.1 hP 52 p_52 rfl 0 (by decide) hf10 (fun _ h9 => h9) rfl dX7_decider_15 ?_
  refine va_get (D := G.1) (ci := 6) (v := .int (zi (X1 0 1))) (C := RX6) (T := TX6) (N := 3) hx hb hts hw6 hown hE.1 hP 0 (p_w (Or.inl rfl)) rfl 1 (by decide) hf70 (fun _ h9 => h9) rfl dX7_decider_18 ?_
  refine zc_ge (tgt := 69) hx hb dX7_decider_21 (by decide) (by omega) (by omega) (fun h21 => ?_) (fun h21 => ?_)
  · refine lv_iconst (v := zi (-1)) hx hb dX7_decider_69 rfl ?_
    exact zend_i hx hb hr hlocks hP hD hS (Nat.le_of_ble_eq_true rfl) (Nat.le_of_ble_eq_true rfl) dX7_decider_70 ⟨_, _, rfl, ⟨hX1, Or.inr ⟨rfl, fun j h => hw j (by omega)⟩⟩, rfl⟩
  · refine lv_aload_n hx hb dX7_decider_24 rfl (lv_at hl 1 rfl) ?_
    refine va_get (D := G.1) (ci := 7) (v := .ref (ad 0)) (C := RX7) (T := TX7) (N := 8) hx hb hts hw7 hown hE.1 hP 52 p_52 rfl 0 (by decide) hf10 (fun _ h9 => h9) rfl dX7_decider_25 ?_
    refine va_get (D := G.1) (ci := 6) (v := .ref (ad 1)) (C := RX6) (T := TX6) (N := 3) hx hb hts hw6 hown hE.1 hP 0 (p_w (Or.inl rfl)) rfl 0 (by decide) hf104 (fun _ h9 => h9) rfl dX7_decider_28 ?_
    refine lv_iload hx hb dX7_decider_31 (lv_at hl 0 rfl) ?_
    refine zqld hx hb hE hP (Or.inl rfl) k rfl (by omega) dX7_decider_33 ?_
    have hR1 : zIsR (zr X1 0 k) := hV1.isR (Or.inl rfl) (by omega)
    refine zcall (wr := []) (va_runV (As := []) (rest := []) ⟨hx, hb, hml, hown, hts⟩ (c_X3_isNote l G ad X1 (zr X1 0 k) hV1 hR1 H.size) (cwV 0 hts gX7_decider_X3_isNote rfl rfl rfl (by decide +kernel) ⟨Nat.le_of_ble_eq_true rfl, Nat.le_of_ble_eq_true rfl⟩) (zPreV (wr := []) (wc := zpic G ad X1) (q0 := (zr X1 0 k)) (ci := 3) (q := (RX3, TX3, 4)) hP hD hE hS hA rfl (p_r hR1)) rfl rfl hl.1 rfl (lv_room (Nat.le_of_ble_eq_true rfl)) dX7_decider_34 ⟨Nat.le_of_ble_eq_true rfl, Nat.le_of_ble_eq_true rfl⟩) hP hD hS hA (fun _ _ H locs hf hP hD hS => ?_)
    obtain ⟨v1, rfl, hv1, rfl⟩ := hf
    have hP : va_P G.1 vwCl (zpic G ad X1) H := hP
    have hD : va_D A (zpic G ad X1) := hD
    refine W.eq (g2 := F0 m 37 ls [.int (zi v1)]) rfl ?_
    refine z0_ne (tgt := 63) hx hb dX7_decider_37 (by decide) (by omega) (fun h37 => ?_) (fun h37 => ?_)
    · refine lv_iinc (v := zi ((k : Int) + 1)) (lv' := [(5, .int (zi ((k : Int) + 1))), (0, .ref (ad 52))]) hx hb dX7_decider_63 hl (k := 0) rfl (zi_add _ _) (by decide) rfl (fun ls hl => ?_)
      refine lv_goto (tgt := 12) hx hb dX7_decider_66 (by decide) ?_
      exact ih (k + 1) (by omega) H locs ls ⟨hP, hD, hS, lv_sub hl [0, 1] rfl, (by omega), (fun j h1 => by by_cases hk : j < k; exact hw j hk; have hjk : j = k := (by omega); rw [hjk]; exact fun z => by have := z.1; omega)⟩
    · refine lv_aload_n hx hb dX7_decider_40 rfl (lv_at hl 1 rfl) ?_
      refine va_get (D := G.1) (ci := 7) (v := .ref (ad 0)) (C := RX7) (T := TX7) (N := 8) hx hb hts hw7 hown hE.1 hP 52 p_52 rfl 0 (by decide) hf10 (fun _ h9 => h9) rfl dX7_decider_41 ?_
      refine va_get (D := G.1) (ci := 6) (v := .ref (ad 1)) (C := RX6) (T := TX6) (N := 3) hx hb hts hw6 hown hE.1 hP 0 (p_w (Or.inl rfl)) rfl 0 (by decide) hf104 (fun _ h9 => h9) rfl dX7_decider_44 ?_
      refine lv_iload hx hb dX7_decider_47 (lv_at hl 0 rfl) ?_
      refine zqld hx hb hE hP (Or.inl rfl) k rfl (by omega) dX7_decider_49 ?_
      refine lv_aload_n hx hb dX7_decider_50 rfl (lv_at hl 1 rfl) ?_
      refine va_get (D := G.1) (ci := 7) (v := .ref (ad 70)) (C := RX7) (T := TX7) (N := 8) hx hb hts hw7 hown hE.1 hP 52 p_52 rfl 7 (by decide) hf62 (fun _ h9 => h9) rfl dX7_decider_51 ?_
      refine zcall (wr := []) (va_runV (As := [.ref (ad 70)]) (rest := []) ⟨hx, hb, hml, hown, hts⟩ (c_X3_meets l G ad X1 (zr X1 0 k) hV1 hR1 hp H.size) (cwV 1 hts gX7_decider_X3_meets rfl rfl rfl (by decide +kernel) ⟨Nat.le_of_ble_eq_true rfl, Nat.le_of_ble_eq_true rfl⟩) (zPreV (wr := []) (wc := zpic G ad X1) (q0 := (zr X1 0 k)) (ci := 3) (q := (RX3, TX3, 4)) hP hD hE hS hA rfl (p_r hR1)) rfl rfl hl.1 rfl (lv_room (Nat.le_of_ble_eq_true rfl)) dX7_decider_54 ⟨Nat.le_of_ble_eq_true rfl, Nat.le_of_ble_eq_true rfl⟩) hP hD hS hA (fun _ _ H locs hf hP hD hS => ?_)
      obtain ⟨v2, rfl, hv2, rfl⟩ := hf
      have hP : va_P G.1 vwCl (zpic G ad X1) H := hP
      have hD : va_D A (zpic G ad X1) := hD
      refine W.eq (g2 := F0 m 57 ls [.int (zi v2)]) rfl ?_
      refine z0_eq (tgt := 63) hx hb dX7_decider_57 (by decide) (by omega) (fun h57 => ?_) (fun h57 => ?_)
      · refine lv_iinc (v := zi ((k : Int) + 1)) (lv' := [(5, .int (zi ((k : Int) + 1))), (0, .ref (ad 52))]) hx hb dX7_decider_63 hl (k := 0) rfl (zi_add _ _) (by decide) rfl (fun ls hl => ?_)
        refine lv_goto (tgt := 12) hx hb dX7_decider_66 (by decide) ?_
        exact ih (k + 1) (by omega) H locs ls ⟨hP, hD, hS, lv_sub hl [0, 1] rfl, (by omega), (fun j h1 => by by_cases hk : j < k; exact hw j hk; have hjk : j = k := (by omega); rw [hjk]; exact fun z => by rcases hv2 with h | h; omega; exact h.2 z.2)⟩
      · refine lv_iload hx hb dX7_decider_60 (lv_at hl 0 rfl) ?_
        exact zend_i hx hb hr hlocks hP hD hS (Nat.le_of_ble_eq_true rfl) (Nat.le_of_ble_eq_true rfl) dX7_decider_62 ⟨_, _, rfl, ⟨hX1, Or.inl ⟨k, by omega, rfl, ⟨by omega, by rcases hv2 with h | h; exact h.2; omega⟩, hw⟩⟩, rfl⟩
