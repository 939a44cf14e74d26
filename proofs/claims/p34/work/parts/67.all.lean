/-! the Hedge: all -/
theorem dX8_all_0 : decode cX8_all 0 = .ok (.iconst 0, 1) := by decide +kernel
theorem dX8_all_1 : decode cX8_all 1 = .ok (.istore_n 1, 1) := by decide +kernel
theorem dX8_all_2 : decode cX8_all 2 = .ok (.iconst 0, 1) := by decide +kernel
theorem dX8_all_3 : decode cX8_all 3 = .ok (.istore_n 2, 1) := by decide +kernel
theorem dX8_all_4 : decode cX8_all 4 = .ok (.iload_n 2, 1) := by decide +kernel
theorem dX8_all_5 : decode cX8_all 5 = .ok (.aload_n 0, 1) := by decide +kernel
theorem dX8_all_6 : decode cX8_all 6 = .ok (.getfield 22, 3) := by decide +kernel
theorem dX8_all_9 : decode cX8_all 9 = .ok (.arraylength, 1) := by decide +kernel
theorem dX8_all_10 : decode cX8_all 10 = .ok (.if_icmp .ge 31, 3) := by decide +kernel
theorem dX8_all_41 : decode cX8_all 41 = .ok (.iload_n 1, 1) := by decide +kernel
theorem dX8_all_42 : decode cX8_all 42 = .ok (.ireturn, 1) := by decide +kernel
theorem dX8_all_13 : decode cX8_all 13 = .ok (.iload_n 1, 1) := by decide +kernel
theorem dX8_all_14 : decode cX8_all 14 = .ok (.aload_n 0, 1) := by decide +kernel
theorem dX8_all_15 : decode cX8_all 15 = .ok (.getfield 22, 3) := by decide +kernel
theorem dX8_all_18 : decode cX8_all 18 = .ok (.iload_n 2, 1) := by decide +kernel
theorem dX8_all_19 : decode cX8_all 19 = .ok (.aaload, 1) := by decide +kernel
theorem dX8_all_20 : decode cX8_all 20 = .ok (.iconst 0, 1) := by decide +kernel
theorem dX8_all_21 : decode cX8_all 21 = .ok (.iaload, 1) := by decide +kernel
theorem dX8_all_22 : decode cX8_all 22 = .ok (.iconst 2, 1) := by decide +kernel
theorem dX8_all_23 : decode cX8_all 23 = .ok (.if_icmp .ge 9, 3) := by decide +kernel
theorem dX8_all_32 : decode cX8_all 32 = .ok (.iconst 0, 1) := by decide +kernel
theorem dX8_all_33 : decode cX8_all 33 = .ok (.ior, 1) := by decide +kernel
theorem dX8_all_34 : decode cX8_all 34 = .ok (.istore_n 1, 1) := by decide +kernel
theorem dX8_all_35 : decode cX8_all 35 = .ok (.iinc 2 1, 3) := by decide +kernel
theorem dX8_all_38 : decode cX8_all 38 = .ok (.goto (-34), 3) := by decide +kernel
theorem dX8_all_26 : decode cX8_all 26 = .ok (.iconst 1, 1) := by decide +kernel
theorem dX8_all_27 : decode cX8_all 27 = .ok (.iload_n 2, 1) := by decide +kernel
theorem dX8_all_28 : decode cX8_all 28 = .ok (.ishl, 1) := by decide +kernel
theorem dX8_all_29 : decode cX8_all 29 = .ok (.goto 4, 3) := by decide +kernel
set_option maxHeartbeats 4000000 in
set_option maxRecDepth 100000 in
/-- all -/
theorem k_X8_all (l : Launch) (G : zG) (ad : Nat → Nat) (hd : Nat → Nat) (hr : Nat → Nat) (X : Nat → Nat → Int) (n : Nat) (dr : Nat) (la : Int) (cl : Int) (C : Nat → Nat → Int) (R : Nat → Nat → Int) (hsl : zsl G ≤ 100000) (hdr : dr ≤ 100000) (hv : zHv X n la C R) : zR l G yX8_all wsX8_all { frames := 0, cells := 0, slots := 0, locals := 0 } (zhW G ad X hd hr n dr la cl C R) [.ref (hd 0)] (zis (zhW G ad X hd hr n dr la cl C R) ((zDec X 0 : Nat) : Int)) 0 0 := by
  refine zR_of (cc := cX8_all) (maxL := 3) (rt := (some .int)) (by decide) rfl (Nat.le_of_ble_eq_true rfl) ?_
  intro p e s m below meth c A ls hx hb hml hr0 hts hown hlocks hin0 hA hE hP hD hS hl
  have hl : lv_has ls 3 [(0, .ref (hd 0))] := hl
  have hown : s.vm.findClass RX8 = some m.cls := hown
  have hn8 := hv.2.2.1
  have hN0 := hv.2.1
  have hI := hv.1
  have hn1 := (hI.1.n (Or.inl rfl : zIsW 0)).1
  have hw8 : ∀ w ∈ u_ws RX8 TX8 10, w ∈ wsX8_all := by decide +kernel
  have hf22 := hts (.fieldLink RX8 22 "NettleLaw$Hedge" "rules" "[[I") (by decide +kernel)
  refine lv_iconst (v := zi 0) hx hb dX8_all_0 rfl ?_
  refine lv_istore_n (lv' := [(1, .int (zi 0)), (0, .ref (hd 0))]) hx hb dX8_all_1 rfl hl (by decide) rfl (fun ls hl => ?_)
  refine lv_iconst (v := zi 0) hx hb dX8_all_2 rfl ?_
  refine lv_istore_n (lv' := [(2, .int (zi 0)), (1, .int (zi 0)), (0, .ref (hd 0))]) hx hb dX8_all_3 rfl hl (by decide) rfl (fun ls hl => ?_)
  refine zloop1 (fun (k : Nat) => n - k) (fun (k : Nat) (H : Heap) (locs : List Loc) (ls : Array Slot) => va_P G.1 vwCl ([((hd 0), .inr (8, [.ref (ad 52), .ref (zsb G), .int (zi (dr : Int)), .ref (hd 1), .ref (hd 6), .int (zi la), .ref (hd 7), .int (zi cl), .int (zi 0), .ref (hd 8)])), ((hd 1), .inl (zca G, 4, .inr (.inr (.inr (.inr (fun q => some (hd (2 + q)))))))), ((hd 2), .inl (zci G, 6, .inl (fun j => zi ((C 0) j)))), ((hd 3), .inl (zci G, 6, .inl (fun j => zi ((C 1) j)))), ((hd 4), .inl (zci G, 6, .inl (fun j => zi ((C 2) j)))), ((hd 5), .inl (zci G, 4, .inl (fun j => zi ((C 3) j)))), ((hd 6), .inl (zca G, n, .inr (.inr (.inr (.inr (fun q => some (hr q)))))))] ++ (zrw G hr R n ++ zpic G ad X)) H ∧ va_D A ([((hd 0), .inr (8, [.ref (ad 52), .ref (zsb G), .int (zi (dr : Int)), .ref (hd 1), .ref (hd 6), .int (zi la), .ref (hd 7), .int (zi cl), .int (zi 0), .ref (hd 8)])), ((hd 1), .inl (zca G, 4, .inr (.inr (.inr (.inr (fun q => some (hd (2 + q)))))))), ((hd 2), .inl (zci G, 6, .inl (fun j => zi ((C 0) j)))), ((hd 3), .inl (zci G, 6, .inl (fun j => zi ((C 1) j)))), ((hd 4), .inl (zci G, 6, .inl (fun j => zi ((C 2) j)))), ((hd 5), .inl (zci G, 4, .inl (fun j => zi ((C 3) j)))), ((hd 6), .inl (zca G, n, .inr (.inr (.inr (.inr (fun q => some (hr q)))))))] ++ (zrw G hr R n ++ zpic G ad X)) ∧ va_S A s.heap H locs ∧ lv_has ls 3 [(0, .ref (hd 0)), (1, .int (zi ((zSet k (zPd X 0) : Nat) : Int))), (2, .int (zi (k : Int)))] ∧ k ≤ n) ?_ 0 ⟨hP, hD, hS, lv_sub hl [2, 1, 0] rfl, by omega⟩
  intro k ih H locs ls ⟨hP, hD, hS, hl, hk⟩
  have hP : va_P G.1 vwCl ([((hd 0), .inr (8, [.ref (ad 52), .ref (zsb G), .int (zi (dr : Int)), .ref (hd 1), .ref (hd 6), .int (zi la), .ref (hd 7), .int (zi cl), .int (zi 0), .ref (hd 8)])), ((hd 1), .inl (zca G, 4, .inr (.inr (.inr (.inr (fun q => some (hd (2 + q)))))))), ((hd 2), .inl (zci G, 6, .inl (fun j => zi ((C 0) j)))), ((hd 3), .inl (zci G, 6, .inl (fun j => zi ((C 1) j)))), ((hd 4), .inl (zci G, 6, .inl (fun j => zi ((C 2) j)))), ((hd 5), .inl (zci G, 4, .inl (fun j => zi ((C 3) j)))), ((hd 6), .inl (zca G, n, .inr (.inr (.inr (.inr (fun q => some (hr q)))))))] ++ (zrw G hr R n ++ zpic G ad X)) H := hP
  have hD : va_D A ([((hd 0), .inr (8, [.ref (ad 52), .ref (zsb G), .int (zi (dr : Int)), .ref (hd 1), .ref (hd 6), .int (zi la), .ref (hd 7), .int (zi cl), .int (zi 0), .ref (hd 8)])), ((hd 1), .inl (zca G, 4, .inr (.inr (.inr (.inr (fun q => some (hd (2 + q)))))))), ((hd 2), .inl (zci G, 6, .inl (fun j => zi ((C 0) j)))), ((hd 3), .inl (zci G, 6, .inl (fun j => zi ((C 1) j)))), ((hd 4), .inl (zci G, 6, .inl (fun j => zi ((C 2) j)))), ((hd 5), .inl (zci G, 4, .inl (fun j => zi ((C 3) j)))), ((hd 6), .inl (zca G, n, .inr (.inr (.inr (.inr (fun q => some (hr q)))))))] ++ (zrw G hr R n ++ zpic G ad X)) := hD
  refine lv_iload_n hx hb dX8_all_4 rfl (lv_at hl 2 rfl) ?_
  refine lv_aload_n hx hb dX8_all_5 rfl (lv_at hl 0 rfl) ?_
  refine va_get (D := G.1) (ci := 8) (v := .ref (hd 6)) (C := RX8) (T := TX8) (N := 10) hx hb hts hw8 hown hE.1 hP 0 rfl rfl 4 (by decide) hf22 (fun _ h9 => h9) rfl dX8_all_6 ?_
  refine zalenA hx hb hE hP 6 rfl dX8_all_9 ?_
  refine zc_ge (tgt := 41) hx hb dX8_all_10 (by decide) (by omega) (by omega) (fun h10 => ?_) (fun h10 => ?_)
  · refine lv_iload_n hx hb dX8_all_41 rfl (lv_at hl 1 rfl) ?_
    exact zend_i hx hb hr0 hlocks hP hD hS (Nat.le_of_ble_eq_true rfl) (Nat.le_of_ble_eq_true rfl) dX8_all_42 ⟨by have hkn : k = n := (by omega); rw [hkn, ← hv.2.1]; rfl, rfl⟩
  · refine lv_iload_n hx hb dX8_all_13 rfl (lv_at hl 1 rfl) ?_
    refine lv_aload_n hx hb dX8_all_14 rfl (lv_at hl 0 rfl) ?_
    refine va_get (D := G.1) (ci := 8) (v := .ref (hd 6)) (C := RX8) (T := TX8) (N := 10) hx hb hts hw8 hown hE.1 hP 0 rfl rfl 4 (by decide) hf22 (fun _ h9 => h9) rfl dX8_all_15 ?_
    refine lv_iload_n hx hb dX8_all_18 rfl (lv_at hl 2 rfl) ?_
    refine zaldA hx hb hE hP 6 rfl (r := (hr k)) k rfl (by omega) (by omega) rfl dX8_all_19 ?_
    refine lv_iconst (v := zi 0) hx hb dX8_all_20 rfl ?_
    refine zildL hx hb hE hP (7 + k) (zplace rfl (zrw_at (by omega))) 0 rfl (by omega) (by omega) dX8_all_21 ?_
    have hr9 := (hv.2.2.2.2.2.2 k (by omega)).1
    have hok := (hI.1.rok (hI.1.isR (Or.inl rfl : zIsW 0) (show k < 8 by omega))).1
    refine lv_iconst (v := zi 2) hx hb dX8_all_22 rfl ?_
    refine zc_ge (tgt := 32) hx hb dX8_all_23 (by decide) (by omega) (by decide) (fun h23 => ?_) (fun h23 => ?_)
    · refine lv_iconst (v := zi 0) hx hb dX8_all_32 rfl ?_
      refine lv_ior hx hb dX8_all_33 (zti (v := zi ((zSet k (zPd X 0) ||| 0 : Nat) : Int)) (zi_or _ 0) ?_)
      refine lv_istore_n (lv' := [(1, .int (zi ((zSet k (zPd X 0) ||| 0 : Nat) : Int))), (0, .ref (hd 0)), (2, .int (zi (k : Int)))]) hx hb dX8_all_34 rfl hl (by decide) rfl (fun ls hl => ?_)
      refine lv_iinc (v := zi ((k : Int) + 1)) (lv' := [(2, .int (zi ((k : Int) + 1))), (1, .int (zi ((zSet k (zPd X 0) ||| 0 : Nat) : Int))), (0, .ref (hd 0))]) hx hb dX8_all_35 hl (k := 2) rfl (zi_add _ _) (by decide) rfl (fun ls hl => ?_)
      refine lv_goto (tgt := 4) hx hb dX8_all_38 (by decide) ?_
      have e9 : zSet (k + 1) (zPd X 0) = zSet k (zPd X 0) := zSet_no (by unfold zPd; rw [decide_eq_true_iff]; omega)
      rw [Nat.or_zero, ← e9] at hl
      exact ih (k + 1) (by omega) H locs ls ⟨hP, hD, hS, lv_sub hl [2, 1, 0] rfl, by omega⟩
    · refine lv_iconst (v := zi 1) hx hb dX8_all_26 rfl ?_
      refine lv_iload_n hx hb dX8_all_27 rfl (lv_at hl 2 rfl) ?_
      refine lv_ishl hx hb dX8_all_28 (zti (v := zi ((2 ^ k : Nat) : Int)) (zi_shl1 (by omega)) ?_)
      refine lv_goto (tgt := 33) hx hb dX8_all_29 (by decide) ?_
      refine lv_ior hx hb dX8_all_33 (zti (v := zi ((zSet k (zPd X 0) ||| 2 ^ k : Nat) : Int)) (zi_or _ _) ?_)
      refine lv_istore_n (lv' := [(1, .int (zi ((zSet k (zPd X 0) ||| 2 ^ k : Nat) : Int))), (0, .ref (hd 0)), (2, .int (zi (k : Int)))]) hx hb dX8_all_34 rfl hl (by decide) rfl (fun ls hl => ?_)
      refine lv_iinc (v := zi ((k : Int) + 1)) (lv' := [(2, .int (zi ((k : Int) + 1))), (1, .int (zi ((zSet k (zPd X 0) ||| 2 ^ k : Nat) : Int))), (0, .ref (hd 0))]) hx hb dX8_all_35 hl (k := 2) rfl (zi_add _ _) (by decide) rfl (fun ls hl => ?_)
      refine lv_goto (tgt := 4) hx hb dX8_all_38 (by decide) ?_
      have e9 : zSet (k + 1) (zPd X 0) = zSet k (zPd X 0) ||| 2 ^ k := zSet_yes (by unfold zPd; rw [decide_eq_true_iff]; omega)
      rw [← e9] at hl
      exact ih (k + 1) (by omega) H locs ls ⟨hP, hD, hS, lv_sub hl [2, 1, 0] rfl, by omega⟩
