/-! Nettle: ofRule -/
theorem dX7_ofRule_0 : decode cX7_ofRule 0 = .ok (.aload_n 0, 1) := by decide +kernel
theorem dX7_ofRule_1 : decode cX7_ofRule 1 = .ok (.iload_n 1, 1) := by decide +kernel
set_option maxRecDepth 20000 in
theorem ggX7_ofRule_X7_needRule : GoodIn wsX7_ofRule wsX7_needRule := goodIn_ca (goodIn_r _ [11, 12, 13, 1, 14, 20, 21, 22, 23, 24, 25, 26, 27, 28, 29, 30] (by decide +kernel) (by decide +kernel)) (goodIn_sub (fun _ h => List.mem_cons_of_mem _ (List.mem_append_left _ (List.mem_append_right _ h))) (by decide +kernel))
set_option maxRecDepth 20000 in
theorem gX7_ofRule_X7_needRule : GoodIn wsX7_ofRule (wsV RX7 87 RX7 yX7_needRule wsX7_needRule) := goodIn_app (goodIn_of _ (by decide +kernel)) ggX7_ofRule_X7_needRule
theorem dX7_ofRule_2 : decode cX7_ofRule 2 = .ok (.invokevirtual 87, 3) := by decide +kernel
theorem dX7_ofRule_5 : decode cX7_ofRule 5 = .ok (.iload_n 2, 1) := by decide +kernel
theorem dX7_ofRule_6 : decode cX7_ofRule 6 = .ok (.bipush 9, 2) := by decide +kernel
set_option maxRecDepth 20000 in
theorem ggX7_ofRule_X7_needWhat : GoodIn wsX7_ofRule wsX7_needWhat := goodIn_ca (goodIn_r _ [17, 18, 19] (by decide +kernel) (by decide +kernel)) (goodIn_sub (fun _ h => List.mem_cons_of_mem _ (List.mem_append_right _ h)) (by decide +kernel))
set_option maxRecDepth 20000 in
theorem gX7_ofRule_X7_needWhat : GoodIn wsX7_ofRule (va_wsS RX7 143 yX7_needWhat wsX7_needWhat) := goodIn_app (goodIn_of _ (by decide +kernel)) ggX7_ofRule_X7_needWhat
theorem dX7_ofRule_8 : decode cX7_ofRule 8 = .ok (.invokestatic 143, 3) := by decide +kernel
theorem dX7_ofRule_11 : decode cX7_ofRule 11 = .ok (.aload_n 0, 1) := by decide +kernel
theorem dX7_ofRule_12 : decode cX7_ofRule 12 = .ok (.getfield 10, 3) := by decide +kernel
theorem dX7_ofRule_15 : decode cX7_ofRule 15 = .ok (.getfield 104, 3) := by decide +kernel
theorem dX7_ofRule_18 : decode cX7_ofRule 18 = .ok (.iload_n 1, 1) := by decide +kernel
theorem dX7_ofRule_19 : decode cX7_ofRule 19 = .ok (.aaload, 1) := by decide +kernel
theorem dX7_ofRule_20 : decode cX7_ofRule 20 = .ok (.astore_n 3, 1) := by decide +kernel
theorem dX7_ofRule_21 : decode cX7_ofRule 21 = .ok (.iload_n 2, 1) := by decide +kernel
theorem dX7_ofRule_22 : decode cX7_ofRule 22 = .ok (.ifCond .ne 8, 3) := by decide +kernel
theorem dX7_ofRule_30 : decode cX7_ofRule 30 = .ok (.iload_n 2, 1) := by decide +kernel
theorem dX7_ofRule_31 : decode cX7_ofRule 31 = .ok (.bipush 9, 2) := by decide +kernel
theorem dX7_ofRule_33 : decode cX7_ofRule 33 = .ok (.if_icmp .ne 8, 3) := by decide +kernel
theorem dX7_ofRule_41 : decode cX7_ofRule 41 = .ok (.iload_n 2, 1) := by decide +kernel
theorem dX7_ofRule_42 : decode cX7_ofRule 42 = .ok (.iconst 1, 1) := by decide +kernel
theorem dX7_ofRule_43 : decode cX7_ofRule 43 = .ok (.isub, 1) := by decide +kernel
theorem dX7_ofRule_44 : decode cX7_ofRule 44 = .ok (.iconst 2, 1) := by decide +kernel
theorem dX7_ofRule_45 : decode cX7_ofRule 45 = .ok (.idiv, 1) := by decide +kernel
theorem dX7_ofRule_46 : decode cX7_ofRule 46 = .ok (.istore 4, 2) := by decide +kernel
theorem dX7_ofRule_48 : decode cX7_ofRule 48 = .ok (.iload_n 2, 1) := by decide +kernel
theorem dX7_ofRule_49 : decode cX7_ofRule 49 = .ok (.iconst 2, 1) := by decide +kernel
theorem dX7_ofRule_50 : decode cX7_ofRule 50 = .ok (.irem, 1) := by decide +kernel
theorem dX7_ofRule_51 : decode cX7_ofRule 51 = .ok (.iconst 1, 1) := by decide +kernel
theorem dX7_ofRule_52 : decode cX7_ofRule 52 = .ok (.if_icmp .ne 13, 3) := by decide +kernel
theorem dX7_ofRule_65 : decode cX7_ofRule 65 = .ok (.aload_n 3, 1) := by decide +kernel
theorem dX7_ofRule_66 : decode cX7_ofRule 66 = .ok (.getfield 117, 3) := by decide +kernel
theorem dX7_ofRule_69 : decode cX7_ofRule 69 = .ok (.iload 4, 2) := by decide +kernel
theorem dX7_ofRule_71 : decode cX7_ofRule 71 = .ok (.iaload, 1) := by decide +kernel
theorem dX7_ofRule_72 : decode cX7_ofRule 72 = .ok (.ireturn, 1) := by decide +kernel
theorem dX7_ofRule_55 : decode cX7_ofRule 55 = .ok (.aload_n 3, 1) := by decide +kernel
theorem dX7_ofRule_56 : decode cX7_ofRule 56 = .ok (.getfield 114, 3) := by decide +kernel
theorem dX7_ofRule_59 : decode cX7_ofRule 59 = .ok (.iload 4, 2) := by decide +kernel
theorem dX7_ofRule_61 : decode cX7_ofRule 61 = .ok (.iaload, 1) := by decide +kernel
theorem dX7_ofRule_62 : decode cX7_ofRule 62 = .ok (.goto 10, 3) := by decide +kernel
theorem dX7_ofRule_36 : decode cX7_ofRule 36 = .ok (.aload_n 3, 1) := by decide +kernel
theorem dX7_ofRule_37 : decode cX7_ofRule 37 = .ok (.getfield 146, 3) := by decide +kernel
theorem dX7_ofRule_40 : decode cX7_ofRule 40 = .ok (.ireturn, 1) := by decide +kernel
theorem dX7_ofRule_25 : decode cX7_ofRule 25 = .ok (.aload_n 3, 1) := by decide +kernel
theorem dX7_ofRule_26 : decode cX7_ofRule 26 = .ok (.getfield 120, 3) := by decide +kernel
theorem dX7_ofRule_29 : decode cX7_ofRule 29 = .ok (.ireturn, 1) := by decide +kernel
/-- what is asked of a RULE -/
def zOf (X : Nat → Nat → Int) (q t : Nat) : Int := if t = 0 then X (zr X 0 q) 0 else if t = 9 then X (zr X 0 q) 1 else if t % 2 = 1 then X (zr X 0 q + 1) ((t - 1) / 2) else X (zr X 0 q + 2) ((t - 1) / 2)

set_option maxHeartbeats 4000000 in
set_option maxRecDepth 100000 in
/-- ofRule -/
theorem c_X7_ofRule (l : Launch) (G : zG) (ad : Nat → Nat) (X : Nat → Nat → Int) (q : Nat) (t : Nat) (hV : zV X) (hq : q < zN X 0) (ht : t ≤ 9) : zR l G yX7_ofRule wsX7_ofRule { frames := 1, cells := 0, slots := 0, locals := 21 } (zpic G ad X) [.ref (ad 52), .int (zi (q : Int)), .int (zi (t : Int))] (zq G ad X (fun w => w = zOf X q t)) 0 0 := by
  refine zR_of (cc := cX7_ofRule) (maxL := 5) (rt := (some .int)) (by decide) rfl (Nat.le_of_ble_eq_true rfl) ?_
  intro p e s m below meth c A ls hx hb hml hr hts hown hlocks hin0 hA hE hP hD hS hl
  have hl : lv_has ls 5 [(0, .ref (ad 52)), (1, .int (zi (q : Int))), (2, .int (zi (t : Int)))] := hl
  have hown : s.vm.findClass RX7 = some m.cls := hown
  have hn := hV.n (Or.inl rfl : zIsW 0)
  have hw7 : ∀ w ∈ u_ws RX7 TX7 8, w ∈ wsX7_ofRule := by decide +kernel
  have hf10 := hts (.fieldLink RX7 10 "Nettle" "wall" "LNettle$Wall;") (by decide +kernel)
  have hw6 : ∀ w ∈ u_ws RX6 TX6 3, w ∈ wsX7_ofRule := by decide +kernel
  have hf104 := hts (.fieldLink RX7 104 "Nettle$Wall" "rows" "[LNettle$Rule;") (by decide +kernel)
  have hw3 : ∀ w ∈ u_ws RX3 TX3 4, w ∈ wsX7_ofRule := by decide +kernel
  have hf117 := hts (.fieldLink RX7 117 "Nettle$Rule" "highs" "[I") (by decide +kernel)
  have hf114 := hts (.fieldLink RX7 114 "Nettle$Rule" "lows" "[I") (by decide +kernel)
  have hf146 := hts (.fieldLink RX7 146 "Nettle$Rule" "hits" "I") (by decide +kernel)
  have hf120 := hts (.fieldLink RX7 120 "Nettle$Rule" "verdict" "I") (by decide +kernel)
  refine lv_aload_n hx hb dX7_ofRule_0 rfl (lv_at hl 0 rfl) ?_
  refine lv_iload_n hx hb dX7_ofRule_1 rfl (lv_at hl 1 rfl) ?_
  refine zcall (wr := []) (va_runV (As := [.int (zi (q : Int))]) (rest := []) ⟨hx, hb, hml, hown, hts⟩ (c_X7_needRule l G ad X q hV (by omega) s.heap.size) (cwV 1 hts gX7_ofRule_X7_needRule rfl rfl rfl (by decide +kernel) ⟨Nat.le_of_ble_eq_true rfl, Nat.le_of_ble_eq_true rfl⟩) (zPreV (wr := []) (wc := zpic G ad X) (q0 := 52) (ci := 7) (q := (RX7, TX7, 8)) hP hD hE hS hA rfl p_52) rfl rfl hl.1 rfl (lv_room (Nat.le_of_ble_eq_true rfl)) dX7_ofRule_2 ⟨Nat.le_of_ble_eq_true rfl, Nat.le_of_ble_eq_true rfl⟩) hP hD hS hA (fun _ _ H locs hf hP hD hS => ?_)
  obtain ⟨rfl, rfl⟩ := hf
  have hP : va_P G.1 vwCl (zpic G ad X) H := hP
  have hD : va_D A (zpic G ad X) := hD
  refine W.eq (g2 := F0 m 5 ls []) rfl ?_
  refine lv_iload_n hx hb dX7_ofRule_5 rfl (lv_at hl 2 rfl) ?_
  refine lv_bipush (v := zi 9) hx hb dX7_ofRule_6 (by decide +kernel) ?_
  refine zcall (wr := []) (va_runS (As := [.int (zi (t : Int)), .int (zi 9)]) (rest := []) ⟨hx, hb, hml, hown, hts⟩ (c_X7_needWhat l G ad X (t : Int) 9 (by omega) H.size) (va_cwS 2 hts gX7_ofRule_X7_needWhat rfl rfl rfl (by decide +kernel) ⟨Nat.le_of_ble_eq_true rfl, Nat.le_of_ble_eq_true rfl⟩) (zPre (wr := []) (wc := zpic G ad X) (As := [.int (zi (t : Int)), .int (zi 9)]) hP hD hE hS hA).1 rfl rfl hl.1 rfl (lv_room (Nat.le_of_ble_eq_true rfl)) dX7_ofRule_8 ⟨Nat.le_of_ble_eq_true rfl, Nat.le_of_ble_eq_true rfl⟩) hP hD hS hA (fun _ _ H locs hf hP hD hS => ?_)
  obtain ⟨rfl, rfl⟩ := hf
  have hP : va_P G.1 vwCl (zpic G ad X) H := hP
  have hD : va_D A (zpic G ad X) := hD
  refine W.eq (g2 := F0 m 11 ls []) rfl ?_
  refine lv_aload_n hx hb dX7_ofRule_11 rfl (lv_at hl 0 rfl) ?_
  refine va_get (D := G.1) (ci := 7) (v := .ref (ad 0)) (C := RX7) (T := TX7) (N := 8) hx hb hts hw7 hown hE.1 hP 52 p_52 rfl 0 (by decide) hf10 (fun _ h9 => h9) rfl dX7_ofRule_12 ?_
  refine va_get (D := G.1) (ci := 6) (v := .ref (ad 1)) (C := RX6) (T := TX6) (N := 3) hx hb hts hw6 hown hE.1 hP 0 (p_w (Or.inl rfl)) rfl 0 (by decide) hf104 (fun _ h9 => h9) rfl dX7_ofRule_15 ?_
  refine lv_iload_n hx hb dX7_ofRule_18 rfl (lv_at hl 1 rfl) ?_
  refine zqld hx hb hE hP (Or.inl rfl) q rfl (by omega) dX7_ofRule_19 ?_
  have hR1 : zIsR (zr X 0 q) := hV.isR (Or.inl rfl) (by omega)
  refine lv_astore_n (lv' := [(3, .ref (ad (zr X 0 q))), (0, .ref (ad 52)), (1, .int (zi (q : Int))), (2, .int (zi (t : Int)))]) hx hb dX7_ofRule_20 rfl hl (by decide) rfl (fun ls hl => ?_)
  refine lv_iload_n hx hb dX7_ofRule_21 rfl (lv_at hl 3 rfl) ?_
  refine z0_ne (tgt := 30) hx hb dX7_ofRule_22 (by decide) (by omega) (fun h22 => ?_) (fun h22 => ?_)
  · refine lv_iload_n hx hb dX7_ofRule_30 rfl (lv_at hl 3 rfl) ?_
    refine lv_bipush (v := zi 9) hx hb dX7_ofRule_31 (by decide +kernel) ?_
    refine zc_ne (tgt := 41) hx hb dX7_ofRule_33 (by decide) (by omega) (by decide) (fun h33 => ?_) (fun h33 => ?_)
    · refine lv_iload_n hx hb dX7_ofRule_41 rfl (lv_at hl 3 rfl) ?_
      refine lv_iconst (v := zi 1) hx hb dX7_ofRule_42 rfl ?_
      refine lv_isub hx hb dX7_ofRule_43 (zti (v := zi ((t : Int) - 1)) (zi_sub _ _) ?_)
      refine lv_iconst (v := zi 2) hx hb dX7_ofRule_44 rfl ?_
      refine lv_idiv hx hb dX7_ofRule_45 (by decide +kernel) (zti (v := zi (((t - 1) / 2 : Nat) : Int)) (by rw [show (t : Int) - 1 = ((t - 1 : Nat) : Int) by omega]; exact zi_div (a := t - 1) (b := 2) (by omega) (by omega) (by omega)) ?_)
      refine lv_istore (lv' := [(4, .int (zi (((t - 1) / 2 : Nat) : Int))), (3, .ref (ad (zr X 0 q))), (0, .ref (ad 52)), (1, .int (zi (q : Int))), (2, .int (zi (t : Int)))]) hx hb dX7_ofRule_46 hl (by decide) rfl (fun ls hl => ?_)
      refine lv_iload_n hx hb dX7_ofRule_48 rfl (lv_at hl 4 rfl) ?_
      refine lv_iconst (v := zi 2) hx hb dX7_ofRule_49 rfl ?_
      refine lv_irem hx hb dX7_ofRule_50 (by decide +kernel) (zti (v := zi ((t % 2 : Nat) : Int)) (zi_rem (a := t) (b := 2) (by omega) (by omega) (by omega)) ?_)
      refine lv_iconst (v := zi 1) hx hb dX7_ofRule_51 rfl ?_
      refine zc_ne (tgt := 65) hx hb dX7_ofRule_52 (by decide) (by omega) (by decide) (fun h52 => ?_) (fun h52 => ?_)
      · refine lv_aload_n hx hb dX7_ofRule_65 rfl (lv_at hl 1 rfl) ?_
        refine va_get (D := G.1) (ci := 3) (v := .ref (ad ((zr X 0 q) + 2))) (C := RX3) (T := TX3) (N := 4) hx hb hts hw3 hown hE.1 hP (zr X 0 q) (p_r hR1) rfl 3 (by decide) hf117 (fun _ h9 => h9) rfl dX7_ofRule_66 ?_
        refine lv_iload hx hb dX7_ofRule_69 (lv_at hl 0 rfl) ?_
        refine zild hx hb hE hP ((zr X 0 q) + 2) 4 (a_h hR1) (by have := hR1.lt; omega) ((t - 1) / 2) rfl (by omega) (by decide) dX7_ofRule_71 ?_
        exact zend_i hx hb hr hlocks hP hD hS (Nat.le_of_ble_eq_true rfl) (Nat.le_of_ble_eq_true rfl) dX7_ofRule_72 ⟨_, rfl, (by unfold zOf; split; (first | rfl | (exfalso; omega)); (split; (first | rfl | (exfalso; omega)); (split; (first | rfl | (exfalso; omega)); (first | rfl | (exfalso; omega))))), rfl⟩
      · refine lv_aload_n hx hb dX7_ofRule_55 rfl (lv_at hl 1 rfl) ?_
        refine va_get (D := G.1) (ci := 3) (v := .ref (ad ((zr X 0 q) + 1))) (C := RX3) (T := TX3) (N := 4) hx hb hts hw3 hown hE.1 hP (zr X 0 q) (p_r hR1) rfl 2 (by decide) hf114 (fun _ h9 => h9) rfl dX7_ofRule_56 ?_
        refine lv_iload hx hb dX7_ofRule_59 (lv_at hl 0 rfl) ?_
        refine zild hx hb hE hP ((zr X 0 q) + 1) 4 (a_l hR1) (by have := hR1.lt; omega) ((t - 1) / 2) rfl (by omega) (by decide) dX7_ofRule_61 ?_
        refine lv_goto (tgt := 72) hx hb dX7_ofRule_62 (by decide) ?_
        exact zend_i hx hb hr hlocks hP hD hS (Nat.le_of_ble_eq_true rfl) (Nat.le_of_ble_eq_true rfl) dX7_ofRule_72 ⟨_, rfl, (by unfold zOf; split; (first | rfl | (exfalso; omega)); (split; (first | rfl | (exfalso; omega)); (split; (first | rfl | (exfalso; omega)); (first | rfl | (exfalso; omega))))), rfl⟩
    · refine lv_aload_n hx hb dX7_ofRule_36 rfl (lv_at hl 0 rfl) ?_
      refine va_get (D := G.1) (ci := 3) (v := .int (zi (X (zr X 0 q) 1))) (C := RX3) (T := TX3) (N := 4) hx hb hts hw3 hown hE.1 hP (zr X 0 q) (p_r hR1) rfl 1 (by decide) hf146 (fun _ h9 => h9) rfl dX7_ofRule_37 ?_
      exact zend_i hx hb hr hlocks hP hD hS (Nat.le_of_ble_eq_true rfl) (Nat.le_of_ble_eq_true rfl) dX7_ofRule_40 ⟨_, rfl, (by unfold zOf; split; (first | rfl | (exfalso; omega)); (split; (first | rfl | (exfalso; omega)); (split; (first | rfl | (exfalso; omega)); (first | rfl | (exfalso; omega))))), rfl⟩
  · refine lv_aload_n hx hb dX7_ofRule_25 rfl (lv_at hl 0 rfl) ?_
    refine va_get (D := G.1) (ci := 3) (v := .int (zi (X (zr X 0 q) 0))) (C := RX3) (T := TX3) (N := 4) hx hb hts hw3 hown hE.1 hP (zr X 0 q) (p_r hR1) rfl 0 (by decide) hf120 (fun _ h9 => h9) rfl dX7_ofRule_26 ?_
    exact zend_i hx hb hr hlocks hP hD hS (Nat.le_of_ble_eq_true rfl) (Nat.le_of_ble_eq_true rfl) dX7_ofRule_29 ⟨_, rfl, (by unfold zOf; split; (first | rfl | (exfalso; omega)); (split; (first | rfl | (exfalso; omega)); (split; (first | rfl | (exfalso; omega)); (first | rfl | (exfalso; omega))))), rfl⟩
