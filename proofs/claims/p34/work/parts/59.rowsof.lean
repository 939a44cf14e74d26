/-! the Hedge: rows of rows -/
theorem dX8_without_0 : decode cX8_without 0 = .ok (.aload_n 0, 1) := by decide +kernel
theorem dX8_without_1 : decode cX8_without 1 = .ok (.arraylength, 1) := by decide +kernel
theorem dX8_without_2 : decode cX8_without 2 = .ok (.iconst 1, 1) := by decide +kernel
theorem dX8_without_3 : decode cX8_without 3 = .ok (.isub, 1) := by decide +kernel
theorem dX8_without_4 : decode cX8_without 4 = .ok (.anewarray 16, 3) := by decide +kernel
theorem dX8_without_7 : decode cX8_without 7 = .ok (.astore_n 2, 1) := by decide +kernel
theorem dX8_without_8 : decode cX8_without 8 = .ok (.aload_n 0, 1) := by decide +kernel
theorem dX8_without_9 : decode cX8_without 9 = .ok (.iconst 0, 1) := by decide +kernel
theorem dX8_without_10 : decode cX8_without 10 = .ok (.aload_n 2, 1) := by decide +kernel
theorem dX8_without_11 : decode cX8_without 11 = .ok (.iconst 0, 1) := by decide +kernel
theorem dX8_without_12 : decode cX8_without 12 = .ok (.iload_n 1, 1) := by decide +kernel
theorem dX8_without_13 : decode cX8_without 13 = .ok (.invokestatic 52, 3) := by decide +kernel
theorem dX8_without_16 : decode cX8_without 16 = .ok (.aload_n 0, 1) := by decide +kernel
theorem dX8_without_17 : decode cX8_without 17 = .ok (.iload_n 1, 1) := by decide +kernel
theorem dX8_without_18 : decode cX8_without 18 = .ok (.iconst 1, 1) := by decide +kernel
theorem dX8_without_19 : decode cX8_without 19 = .ok (.iadd, 1) := by decide +kernel
theorem dX8_without_20 : decode cX8_without 20 = .ok (.aload_n 2, 1) := by decide +kernel
theorem dX8_without_21 : decode cX8_without 21 = .ok (.iload_n 1, 1) := by decide +kernel
theorem dX8_without_22 : decode cX8_without 22 = .ok (.aload_n 2, 1) := by decide +kernel
theorem dX8_without_23 : decode cX8_without 23 = .ok (.arraylength, 1) := by decide +kernel
theorem dX8_without_24 : decode cX8_without 24 = .ok (.iload_n 1, 1) := by decide +kernel
theorem dX8_without_25 : decode cX8_without 25 = .ok (.isub, 1) := by decide +kernel
theorem dX8_without_26 : decode cX8_without 26 = .ok (.invokestatic 52, 3) := by decide +kernel
theorem dX8_without_29 : decode cX8_without 29 = .ok (.aload_n 2, 1) := by decide +kernel
theorem dX8_without_30 : decode cX8_without 30 = .ok (.areturn, 1) := by decide +kernel
theorem dX8_with_0 : decode cX8_with 0 = .ok (.aload_n 0, 1) := by decide +kernel
theorem dX8_with_1 : decode cX8_with 1 = .ok (.arraylength, 1) := by decide +kernel
theorem dX8_with_2 : decode cX8_with 2 = .ok (.iconst 1, 1) := by decide +kernel
theorem dX8_with_3 : decode cX8_with 3 = .ok (.iadd, 1) := by decide +kernel
theorem dX8_with_4 : decode cX8_with 4 = .ok (.anewarray 16, 3) := by decide +kernel
theorem dX8_with_7 : decode cX8_with 7 = .ok (.astore_n 3, 1) := by decide +kernel
theorem dX8_with_8 : decode cX8_with 8 = .ok (.aload_n 0, 1) := by decide +kernel
theorem dX8_with_9 : decode cX8_with 9 = .ok (.iconst 0, 1) := by decide +kernel
theorem dX8_with_10 : decode cX8_with 10 = .ok (.aload_n 3, 1) := by decide +kernel
theorem dX8_with_11 : decode cX8_with 11 = .ok (.iconst 0, 1) := by decide +kernel
theorem dX8_with_12 : decode cX8_with 12 = .ok (.iload_n 1, 1) := by decide +kernel
theorem dX8_with_13 : decode cX8_with 13 = .ok (.invokestatic 52, 3) := by decide +kernel
theorem dX8_with_16 : decode cX8_with 16 = .ok (.aload_n 3, 1) := by decide +kernel
theorem dX8_with_17 : decode cX8_with 17 = .ok (.iload_n 1, 1) := by decide +kernel
theorem dX8_with_18 : decode cX8_with 18 = .ok (.aload_n 2, 1) := by decide +kernel
theorem dX8_with_19 : decode cX8_with 19 = .ok (.aastore, 1) := by decide +kernel
theorem dX8_with_20 : decode cX8_with 20 = .ok (.aload_n 0, 1) := by decide +kernel
theorem dX8_with_21 : decode cX8_with 21 = .ok (.iload_n 1, 1) := by decide +kernel
theorem dX8_with_22 : decode cX8_with 22 = .ok (.aload_n 3, 1) := by decide +kernel
theorem dX8_with_23 : decode cX8_with 23 = .ok (.iload_n 1, 1) := by decide +kernel
theorem dX8_with_24 : decode cX8_with 24 = .ok (.iconst 1, 1) := by decide +kernel
theorem dX8_with_25 : decode cX8_with 25 = .ok (.iadd, 1) := by decide +kernel
theorem dX8_with_26 : decode cX8_with 26 = .ok (.aload_n 0, 1) := by decide +kernel
theorem dX8_with_27 : decode cX8_with 27 = .ok (.arraylength, 1) := by decide +kernel
theorem dX8_with_28 : decode cX8_with 28 = .ok (.iload_n 1, 1) := by decide +kernel
theorem dX8_with_29 : decode cX8_with 29 = .ok (.isub, 1) := by decide +kernel
theorem dX8_with_30 : decode cX8_with 30 = .ok (.invokestatic 52, 3) := by decide +kernel
theorem dX8_with_33 : decode cX8_with 33 = .ok (.aload_n 3, 1) := by decide +kernel
theorem dX8_with_34 : decode cX8_with 34 = .ok (.areturn, 1) := by decide +kernel
theorem dX8_pieces_0 : decode cX8_pieces 0 = .ok (.aload_n 0, 1) := by decide +kernel
theorem dX8_pieces_1 : decode cX8_pieces 1 = .ok (.getfield 18, 3) := by decide +kernel
theorem dX8_pieces_4 : decode cX8_pieces 4 = .ok (.iload_n 1, 1) := by decide +kernel
theorem dX8_pieces_5 : decode cX8_pieces 5 = .ok (.aaload, 1) := by decide +kernel
theorem dX8_pieces_6 : decode cX8_pieces 6 = .ok (.arraylength, 1) := by decide +kernel
theorem dX8_pieces_7 : decode cX8_pieces 7 = .ok (.iconst 1, 1) := by decide +kernel
theorem dX8_pieces_8 : decode cX8_pieces 8 = .ok (.isub, 1) := by decide +kernel
theorem dX8_pieces_9 : decode cX8_pieces 9 = .ok (.ireturn, 1) := by decide +kernel
/-- a new row of rows -/
def zra (G : zG) (W0 : va_W) (n : Nat) (g : Nat → Nat) : Option Value → va_W → Prop := fun r w => ∃ (q : Nat) (F : Nat → Option Nat), r = some (.ref q) ∧ (∀ i : Nat, i < n → F i = some (g i)) ∧ w = W0 ++ [(q, .inl (zca G, n, .inr (.inr (.inr (.inr F)))))]
/-- a number, nothing changed -/
def zis (W0 : va_W) (n : Int) : Option Value → va_W → Prop := fun r w => r = some (.int (zi n)) ∧ w = W0
theorem zcpy_at {α : Type} (f g : Nat → α) (sp dp n k : Nat) : va_cpy f g sp dp n k = if dp ≤ k ∧ k < dp + n then f (sp + (k - dp)) else g k := rfl

set_option maxHeartbeats 4000000 in
set_option maxRecDepth 100000 in
/-- without -/
theorem k_X8_without (l : Launch) (G : zG) (W0 : va_W) (k0 : Nat) (a : Nat) (n : Nat) (f : Nat → Option Nat) (hr : Nat → Nat) (r : Nat) (he : W0[k0]? = some (a, .inl (zca G, n, .inr (.inr (.inr (.inr f)))))) (hn : n ≤ 9) (hf : ∀ q : Nat, q < n → f q = some (hr q)) (hrow : ∀ q : Nat, q < n → ∃ (k : Nat) (x : vp_A), W0[k]? = some (hr q, .inl (zci G, x))) (hr1 : r < n) : zR l G yX8_without wsX8_without { frames := 1, cells := 1, slots := 10, locals := 60 } W0 [.ref a, .int (zi (r : Int))] (zra G W0 (n - 1) (fun i => hr (if i < r then i else i + 1))) 1 10 := by
  refine zR_of (cc := cX8_without) (maxL := 3) (rt := (some (.array (.array .int)))) (by decide) rfl (Nat.le_of_ble_eq_true rfl) ?_
  intro p e s m below meth c A ls hx hb hml hr0 hts hown hlocks hin0 hA hE hP hD hS hl
  have hl : lv_has ls 3 [(0, .ref a), (1, .int (zi (r : Int)))] := hl
  have hown : s.vm.findClass RX8 = some m.cls := hown
  have hcl16 := hts (.classLink RX8 16 "[I") (by decide +kernel)
  have hml52 := hts (.methodLink RX8 52 arraycopyName) (by decide +kernel)
  have hnat := hts (.native arraycopyName) (by decide +kernel)
  have hsta := hts (.static arraycopyName) (by decide +kernel)
  have hiniS := hts (.initialized "java/lang/System") (by decide +kernel)
  refine lv_aload_n hx hb dX8_without_0 rfl (lv_at hl 0 rfl) ?_
  refine zalenA hx hb hE hP k0 (by first | exact he | exact zget_old he) dX8_without_1 ?_
  refine lv_iconst (v := zi 1) hx hb dX8_without_2 rfl ?_
  refine lv_isub hx hb dX8_without_3 (zti (v := zi (((n : Nat) : Int) - 1)) (zi_sub _ _) ?_)
  refine znewA hx hb hown hcl16 hE hP hD hS hA (n - 1) (by omega) (by omega) (Nat.le_of_ble_eq_true rfl) (by show _ ≤ 10; omega) dX8_without_4 (fun q H hP hD hS => ?_)
  have hP : va_P G.1 vwCl (W0 ++ [(q, .inl (zca G, n - 1, .inr (.inr (.inr (.inr (fun _ => none))))))]) H := hP
  have hD : va_D A (W0 ++ [(q, .inl (zca G, n - 1, .inr (.inr (.inr (.inr (fun _ => none))))))]) := hD
  refine lv_astore_n (lv' := [(2, .ref q), (0, .ref a), (1, .int (zi (r : Int)))]) hx hb dX8_without_7 rfl hl (by decide) rfl (fun ls hl => ?_)
  refine lv_aload_n hx hb dX8_without_8 rfl (lv_at hl 1 rfl) ?_
  refine lv_iconst (v := zi 0) hx hb dX8_without_9 rfl ?_
  refine lv_aload_n hx hb dX8_without_10 rfl (lv_at hl 0 rfl) ?_
  refine lv_iconst (v := zi 0) hx hb dX8_without_11 rfl ?_
  refine lv_iload_n hx hb dX8_without_12 rfl (lv_at hl 2 rfl) ?_
  refine zcpyA hx hb (hml.trans hl.1.symm) hown hml52 hnat hsta hiniS hE hP hD hS k0 W0.length (zget_old he) zget_last (0) (0) (r) (by omega) (by omega) (by omega) (by omega) (by omega) (by omega) (by omega) (fun i hi y hy => by obtain ⟨k, x, hk⟩ := hrow (0 + i) (by omega); rw [hf (0 + i) (by omega)] at hy; cases hy; exact ⟨k, x, zget_old hk⟩) (Nat.le_of_ble_eq_true rfl) (Nat.le_of_ble_eq_true rfl) dX8_without_13 (fun H locs hP hD hS => ?_)
  rw [zset_last] at hP hD
  have hP : va_P G.1 vwCl (W0 ++ [(q, .inl (zca G, n - 1, .inr (.inr (.inr (.inr (va_cpy f (fun _ => none) (0) (0) (r)))))))]) H := hP
  have hD : va_D A (W0 ++ [(q, .inl (zca G, n - 1, .inr (.inr (.inr (.inr (va_cpy f (fun _ => none) (0) (0) (r)))))))]) := hD
  refine lv_aload_n hx hb dX8_without_16 rfl (lv_at hl 1 rfl) ?_
  refine lv_iload_n hx hb dX8_without_17 rfl (lv_at hl 2 rfl) ?_
  refine lv_iconst (v := zi 1) hx hb dX8_without_18 rfl ?_
  refine lv_iadd hx hb dX8_without_19 (zti (v := zi ((r : Int) + 1)) (zi_add _ _) ?_)
  refine lv_aload_n hx hb dX8_without_20 rfl (lv_at hl 0 rfl) ?_
  refine lv_iload_n hx hb dX8_without_21 rfl (lv_at hl 2 rfl) ?_
  refine lv_aload_n hx hb dX8_without_22 rfl (lv_at hl 0 rfl) ?_
  refine zalenA hx hb hE hP W0.length zget_last dX8_without_23 ?_
  refine lv_iload_n hx hb dX8_without_24 rfl (lv_at hl 2 rfl) ?_
  refine lv_isub hx hb dX8_without_25 (zti (v := zi (((n - 1 : Nat) : Int) - (r : Int))) (zi_sub _ _) ?_)
  refine zcpyA hx hb (hml.trans hl.1.symm) hown hml52 hnat hsta hiniS hE hP hD hS k0 W0.length (zget_old he) zget_last (r + 1) (r) (n - 1 - r) (by omega) (by omega) (by omega) (by omega) (by omega) (by omega) (by omega) (fun i hi y hy => by obtain ⟨k, x, hk⟩ := hrow (r + 1 + i) (by omega); rw [hf (r + 1 + i) (by omega)] at hy; cases hy; exact ⟨k, x, zget_old hk⟩) (Nat.le_of_ble_eq_true rfl) (Nat.le_of_ble_eq_true rfl) dX8_without_26 (fun H locs hP hD hS => ?_)
  rw [zset_last] at hP hD
  have hP : va_P G.1 vwCl (W0 ++ [(q, .inl (zca G, n - 1, .inr (.inr (.inr (.inr (va_cpy f (va_cpy f (fun _ => none) (0) (0) (r)) (r + 1) (r) (n - 1 - r)))))))]) H := hP
  have hD : va_D A (W0 ++ [(q, .inl (zca G, n - 1, .inr (.inr (.inr (.inr (va_cpy f (va_cpy f (fun _ => none) (0) (0) (r)) (r + 1) (r) (n - 1 - r)))))))]) := hD
  refine lv_aload_n hx hb dX8_without_29 rfl (lv_at hl 0 rfl) ?_
  exact zend_a hx hb hr0 hlocks (Or.inr ⟨_, rfl⟩) hP hD hS (Nat.le_of_ble_eq_true rfl) (by show _ ≤ 10; omega) dX8_without_30 ⟨q, _, rfl, (fun i hi => by show _ = some (hr (if i < r then i else i + 1)); rw [zcpy_at, zcpy_at]; by_cases c9 : i < r; (rw [if_neg (by omega), if_pos (by omega), if_pos c9, show 0 + (i - 0) = i by omega]; exact hf i (by omega)); (rw [if_pos (by omega), if_neg c9, show r + 1 + (i - r) = i + 1 by omega]; exact hf (i + 1) (by omega))), rfl⟩

set_option maxHeartbeats 4000000 in
set_option maxRecDepth 100000 in
/-- with -/
theorem k_X8_with (l : Launch) (G : zG) (W0 : va_W) (k0 : Nat) (a : Nat) (n : Nat) (f : Nat → Option Nat) (hr : Nat → Nat) (r : Nat) (km : Nat) (mo : Nat) (xm : vp_A) (he : W0[k0]? = some (a, .inl (zca G, n, .inr (.inr (.inr (.inr f)))))) (hn : n ≤ 9) (hf : ∀ q : Nat, q < n → f q = some (hr q)) (hrow : ∀ q : Nat, q < n → ∃ (k : Nat) (x : vp_A), W0[k]? = some (hr q, .inl (zci G, x))) (hr1 : r ≤ n) (hm : W0[km]? = some (mo, .inl (zci G, xm))) : zR l G yX8_with wsX8_with { frames := 1, cells := 1, slots := 10, locals := 60 } W0 [.ref a, .int (zi (r : Int)), .ref mo] (zra G W0 (n + 1) (fun i => if i < r then hr i else if i = r then mo else hr (i - 1))) 1 10 := by
  refine zR_of (cc := cX8_with) (maxL := 4) (rt := (some (.array (.array .int)))) (by decide) rfl (Nat.le_of_ble_eq_true rfl) ?_
  intro p e s m below meth c A ls hx hb hml hr0 hts hown hlocks hin0 hA hE hP hD hS hl
  have hl : lv_has ls 4 [(0, .ref a), (1, .int (zi (r : Int))), (2, .ref mo)] := hl
  have hown : s.vm.findClass RX8 = some m.cls := hown
  have hcl16 := hts (.classLink RX8 16 "[I") (by decide +kernel)
  have hml52 := hts (.methodLink RX8 52 arraycopyName) (by decide +kernel)
  have hnat := hts (.native arraycopyName) (by decide +kernel)
  have hsta := hts (.static arraycopyName) (by decide +kernel)
  have hiniS := hts (.initialized "java/lang/System") (by decide +kernel)
  refine lv_aload_n hx hb dX8_with_0 rfl (lv_at hl 0 rfl) ?_
  refine zalenA hx hb hE hP k0 (by first | exact he | exact zget_old he) dX8_with_1 ?_
  refine lv_iconst (v := zi 1) hx hb dX8_with_2 rfl ?_
  refine lv_iadd hx hb dX8_with_3 (zti (v := zi (((n : Nat) : Int) + 1)) (zi_add _ _) ?_)
  refine znewA hx hb hown hcl16 hE hP hD hS hA (n + 1) (by omega) (by omega) (Nat.le_of_ble_eq_true rfl) (by show _ ≤ 10; omega) dX8_with_4 (fun q H hP hD hS => ?_)
  have hP : va_P G.1 vwCl (W0 ++ [(q, .inl (zca G, n + 1, .inr (.inr (.inr (.inr (fun _ => none))))))]) H := hP
  have hD : va_D A (W0 ++ [(q, .inl (zca G, n + 1, .inr (.inr (.inr (.inr (fun _ => none))))))]) := hD
  refine lv_astore_n (lv' := [(3, .ref q), (0, .ref a), (1, .int (zi (r : Int))), (2, .ref mo)]) hx hb dX8_with_7 rfl hl (by decide) rfl (fun ls hl => ?_)
  refine lv_aload_n hx hb dX8_with_8 rfl (lv_at hl 1 rfl) ?_
  refine lv_iconst (v := zi 0) hx hb dX8_with_9 rfl ?_
  refine lv_aload_n hx hb dX8_with_10 rfl (lv_at hl 0 rfl) ?_
  refine lv_iconst (v := zi 0) hx hb dX8_with_11 rfl ?_
  refine lv_iload_n hx hb dX8_with_12 rfl (lv_at hl 2 rfl) ?_
  refine zcpyA hx hb (hml.trans hl.1.symm) hown hml52 hnat hsta hiniS hE hP hD hS k0 W0.length (zget_old he) zget_last (0) (0) (r) (by omega) (by omega) (by omega) (by omega) (by omega) (by omega) (by omega) (fun i hi y hy => by obtain ⟨k, x, hk⟩ := hrow (0 + i) (by omega); rw [hf (0 + i) (by omega)] at hy; cases hy; exact ⟨k, x, zget_old hk⟩) (Nat.le_of_ble_eq_true rfl) (Nat.le_of_ble_eq_true rfl) dX8_with_13 (fun H locs hP hD hS => ?_)
  rw [zset_last] at hP hD
  have hP : va_P G.1 vwCl (W0 ++ [(q, .inl (zca G, n + 1, .inr (.inr (.inr (.inr (va_cpy f (fun _ => none) (0) (0) (r)))))))]) H := hP
  have hD : va_D A (W0 ++ [(q, .inl (zca G, n + 1, .inr (.inr (.inr (.inr (va_cpy f (fun _ => none) (0) (0) (r)))))))]) := hD
  refine lv_aload_n hx hb dX8_with_16 rfl (lv_at hl 0 rfl) ?_
  refine lv_iload_n hx hb dX8_with_17 rfl (lv_at hl 2 rfl) ?_
  refine lv_aload_n hx hb dX8_with_18 rfl (lv_at hl 3 rfl) ?_
  refine zastA hx hb hE hP hD hS W0.length km zget_last (zget_old hm) r (by omega) (by omega) (by omega) dX8_with_19 (fun H locs hP hD hS => ?_)
  rw [zset_last] at hP hD
  have hP : va_P G.1 vwCl (W0 ++ [(q, .inl (zca G, n + 1, .inr (.inr (.inr (.inr (va_up (va_cpy f (fun _ => none) (0) (0) (r)) r (some mo)))))))]) H := hP
  have hD : va_D A (W0 ++ [(q, .inl (zca G, n + 1, .inr (.inr (.inr (.inr (va_up (va_cpy f (fun _ => none) (0) (0) (r)) r (some mo)))))))]) := hD
  refine lv_aload_n hx hb dX8_with_20 rfl (lv_at hl 1 rfl) ?_
  refine lv_iload_n hx hb dX8_with_21 rfl (lv_at hl 2 rfl) ?_
  refine lv_aload_n hx hb dX8_with_22 rfl (lv_at hl 0 rfl) ?_
  refine lv_iload_n hx hb dX8_with_23 rfl (lv_at hl 2 rfl) ?_
  refine lv_iconst (v := zi 1) hx hb dX8_with_24 rfl ?_
  refine lv_iadd hx hb dX8_with_25 (zti (v := zi ((r : Int) + 1)) (zi_add _ _) ?_)
  refine lv_aload_n hx hb dX8_with_26 rfl (lv_at hl 1 rfl) ?_
  refine zalenA hx hb hE hP k0 (by first | exact he | exact zget_old he) dX8_with_27 ?_
  refine lv_iload_n hx hb dX8_with_28 rfl (lv_at hl 2 rfl) ?_
  refine lv_isub hx hb dX8_with_29 (zti (v := zi (((n : Nat) : Int) - (r : Int))) (zi_sub _ _) ?_)
  refine zcpyA hx hb (hml.trans hl.1.symm) hown hml52 hnat hsta hiniS hE hP hD hS k0 W0.length (zget_old he) zget_last (r) (r + 1) (n - r) (by omega) (by omega) (by omega) (by omega) (by omega) (by omega) (by omega) (fun i hi y hy => by obtain ⟨k, x, hk⟩ := hrow (r + i) (by omega); rw [hf (r + i) (by omega)] at hy; cases hy; exact ⟨k, x, zget_old hk⟩) (Nat.le_of_ble_eq_true rfl) (Nat.le_of_ble_eq_true rfl) dX8_with_30 (fun H locs hP hD hS => ?_)
  rw [zset_last] at hP hD
  have hP : va_P G.1 vwCl (W0 ++ [(q, .inl (zca G, n + 1, .inr (.inr (.inr (.inr (va_cpy f (va_up (va_cpy f (fun _ => none) (0) (0) (r)) r (some mo)) (r) (r + 1) (n - r)))))))]) H := hP
  have hD : va_D A (W0 ++ [(q, .inl (zca G, n + 1, .inr (.inr (.inr (.inr (va_cpy f (va_up (va_cpy f (fun _ => none) (0) (0) (r)) r (some mo)) (r) (r + 1) (n - r)))))))]) := hD
  refine lv_aload_n hx hb dX8_with_33 rfl (lv_at hl 0 rfl) ?_
  exact zend_a hx hb hr0 hlocks (Or.inr ⟨_, rfl⟩) hP hD hS (Nat.le_of_ble_eq_true rfl) (by show _ ≤ 10; omega) dX8_with_34 ⟨q, _, rfl, (fun i hi => by show _ = some (if i < r then hr i else if i = r then mo else hr (i - 1)); rw [zcpy_at]; by_cases c9 : i < r; (rw [if_neg (by omega), if_pos c9]; unfold va_up; rw [if_neg (by omega), zcpy_at, if_pos (by omega), show 0 + (i - 0) = i by omega]; exact hf i (by omega)); (by_cases c8 : i = r; (rw [if_neg (by omega), if_neg c9, if_pos c8]; unfold va_up; rw [if_pos c8]); (rw [if_pos (by omega), if_neg c9, if_neg c8, show r + (i - (r + 1)) = i - 1 by omega]; exact hf (i - 1) (by omega)))), rfl⟩

set_option maxHeartbeats 4000000 in
set_option maxRecDepth 100000 in
/-- pieces -/
theorem k_X8_pieces (l : Launch) (G : zG) (W0 : va_W) (k0 : Nat) (a0 : Nat) (f0 : Value) (f1 : Value) (f2 : Value) (ca : Nat) (f4 : Value) (f5 : Value) (f6 : Value) (f7 : Value) (f8 : Value) (f9 : Value) (k1 : Nat) (fc : Nat → Option Nat) (f : Nat) (rw0 : Nat) (k2 : Nat) (N : Nat) (x : Nat → Int) (he : W0[k0]? = some (a0, .inr (8, [f0, f1, f2, .ref ca, f4, f5, f6, f7, f8, f9]))) (hf4 : f < 4) (hc : W0[k1]? = some (ca, .inl (zca G, 4, .inr (.inr (.inr (.inr fc)))))) (hfc : fc f = some rw0) (hw : W0[k2]? = some (rw0, .inl (zci G, N + 1, .inl (fun j => zi (x j))))) : zR l G yX8_pieces wsX8_pieces { frames := 0, cells := 0, slots := 0, locals := 0 } W0 [.ref a0, .int (zi (f : Int))] (zis W0 (N : Int)) 0 0 := by
  refine zR_of (cc := cX8_pieces) (maxL := 2) (rt := (some .int)) (by decide) rfl (Nat.le_of_ble_eq_true rfl) ?_
  intro p e s m below meth c A ls hx hb hml hr0 hts hown hlocks hin0 hA hE hP hD hS hl
  have hl : lv_has ls 2 [(0, .ref a0), (1, .int (zi (f : Int)))] := hl
  have hown : s.vm.findClass RX8 = some m.cls := hown
  have hw8 : ∀ w ∈ u_ws RX8 TX8 10, w ∈ wsX8_pieces := by decide +kernel
  have hf18 := hts (.fieldLink RX8 18 "NettleLaw$Hedge" "cut" "[[I") (by decide +kernel)
  refine lv_aload_n hx hb dX8_pieces_0 rfl (lv_at hl 0 rfl) ?_
  refine va_get (D := G.1) (ci := 8) (v := .ref ca) (C := RX8) (T := TX8) (N := 10) hx hb hts hw8 hown hE.1 hP k0 he rfl 3 (by decide) hf18 (fun _ h9 => h9) rfl dX8_pieces_1 ?_
  refine lv_iload_n hx hb dX8_pieces_4 rfl (lv_at hl 1 rfl) ?_
  refine zaldA hx hb hE hP k1 hc f rfl hf4 (by decide) hfc dX8_pieces_5 ?_
  refine zalenI hx hb hE hP k2 hw dX8_pieces_6 ?_
  refine lv_iconst (v := zi 1) hx hb dX8_pieces_7 rfl ?_
  refine lv_isub hx hb dX8_pieces_8 (zti (v := zi (((N + 1 : Nat) : Int) - 1)) (zi_sub _ _) ?_)
  exact zend_i hx hb hr0 hlocks hP hD hS (Nat.le_of_ble_eq_true rfl) (Nat.le_of_ble_eq_true rfl) dX8_pieces_9 ⟨by rw [show ((N + 1 : Nat) : Int) - 1 = (N : Int) by omega], rfl⟩
