/-! the tree compiled anew -/
theorem dX5_refresh_15 : decode cX5_refresh 15 = .ok (.iload_n 1, 1) := by decide +kernel
theorem dX5_refresh_16 : decode cX5_refresh 16 = .ok (.sipush 1024, 3) := by decide +kernel
theorem dX5_refresh_19 : decode cX5_refresh 19 = .ok (.if_icmp .ge 16, 3) := by decide +kernel
theorem dX5_refresh_22 : decode cX5_refresh 22 = .ok (.aload_n 0, 1) := by decide +kernel
theorem dX5_refresh_23 : decode cX5_refresh 23 = .ok (.getfield 9, 3) := by decide +kernel
theorem dX5_refresh_26 : decode cX5_refresh 26 = .ok (.iload_n 1, 1) := by decide +kernel
theorem dX5_refresh_27 : decode cX5_refresh 27 = .ok (.iconst (-1), 1) := by decide +kernel
theorem dX5_refresh_28 : decode cX5_refresh 28 = .ok (.iastore, 1) := by decide +kernel
theorem dX5_refresh_29 : decode cX5_refresh 29 = .ok (.iinc 1 1, 3) := by decide +kernel
theorem dX5_refresh_32 : decode cX5_refresh 32 = .ok (.goto (-17), 3) := by decide +kernel
theorem dX5_refresh_8 : decode cX5_refresh 8 = .ok (.aload_n 0, 1) := by decide +kernel
theorem dX5_refresh_9 : decode cX5_refresh 9 = .ok (.iconst 0, 1) := by decide +kernel
theorem dX5_refresh_10 : decode cX5_refresh 10 = .ok (.putfield 33, 3) := by decide +kernel
theorem dX5_refresh_13 : decode cX5_refresh 13 = .ok (.iconst 0, 1) := by decide +kernel
theorem dX5_refresh_14 : decode cX5_refresh 14 = .ok (.istore_n 1, 1) := by decide +kernel
theorem dX5_refresh_35 : decode cX5_refresh 35 = .ok (.aload_n 0, 1) := by decide +kernel
theorem dX5_refresh_36 : decode cX5_refresh 36 = .ok (.iconst 0, 1) := by decide +kernel
theorem dX5_refresh_37 : decode cX5_refresh 37 = .ok (.aload_n 0, 1) := by decide +kernel
theorem dX5_refresh_38 : decode cX5_refresh 38 = .ok (.getfield 21, 3) := by decide +kernel
set_option maxRecDepth 20000 in
theorem ggX5_refresh_X6_deciders : GoodIn wsX5_refresh wsX6_deciders := goodIn_r _ [9, 10, 11, 12, 13, 14, 15, 16, 17, 60, 61, 62, 63, 64, 65, 66] (by decide +kernel) (by decide +kernel)
set_option maxRecDepth 20000 in
theorem gX5_refresh_X6_deciders : GoodIn wsX5_refresh (wsV RX5 37 RX6 yX6_deciders wsX6_deciders) := goodIn_app (goodIn_of _ (by decide +kernel)) ggX5_refresh_X6_deciders
theorem dX5_refresh_41 : decode cX5_refresh 41 = .ok (.invokevirtual 37, 3) := by decide +kernel
set_option maxRecDepth 20000 in
theorem ggX5_refresh_X5_find : GoodIn wsX5_refresh wsX5_find := goodIn_r _ [21, 4, 3, 2, 22, 23, 24, 25, 26, 27, 28, 8, 29, 11, 30, 31, 32, 33, 10, 34, 35, 36, 15, 37, 38, 39, 40, 41, 42, 43, 44, 45, 46, 18, 19, 20, 47, 48, 49, 50, 51, 52, 53, 54, 55, 56, 57, 58, 59, 67, 68, 69, 70, 71, 72, 60, 61, 62, 63, 64, 65, 66] (by decide +kernel) (by decide +kernel)
set_option maxRecDepth 20000 in
theorem gX5_refresh_X5_find : GoodIn wsX5_refresh (va_wsS RX5 43 yX5_find wsX5_find) := goodIn_app (goodIn_of _ (by decide +kernel)) ggX5_refresh_X5_find
theorem dX5_refresh_44 : decode cX5_refresh 44 = .ok (.invokestatic 43, 3) := by decide +kernel
theorem dX5_refresh_47 : decode cX5_refresh 47 = .ok (.pop, 1) := by decide +kernel
theorem dX5_refresh_48 : decode cX5_refresh 48 = .ok (.aload_n 0, 1) := by decide +kernel
theorem dX5_refresh_49 : decode cX5_refresh 49 = .ok (.iconst 1, 1) := by decide +kernel
theorem dX5_refresh_50 : decode cX5_refresh 50 = .ok (.putfield 29, 3) := by decide +kernel
theorem dX5_refresh_53 : decode cX5_refresh 53 = .ok (.return_, 1) := by decide +kernel
/-- a row filled with -1, place by place -/
def zfill : Nat → (Nat → Int32) → (Nat → Int32)
  | 0, f => f
  | n + 1, f => upd (zfill n f) n (-1)
set_option maxHeartbeats 4000000 in
set_option maxRecDepth 100000 in
/-- the tree's numbers are forgotten: a loop of 1024 rounds -/
theorem z_fill {p : Program} {l : Launch} {e : Env} {R : Room} {s : State} {m : MethodId} {args : Array Value} {below : List Frame} {meth : Method} {c : Code} {cells slots : Nat} {Q : State → Prop} {G : zG} {A : Nat → Prop} {tr wa cu ro tn tc ts : Nat} {ft : Nat → Int32} {fsh : Int32}
    (hx : p.tables.exec = Jvm.exec) (hb : c.code = cX5_refresh) (hown : s.vm.findClass RX5 = some m.cls) (hts : ∀ w ∈ wsX5_refresh, w.before args s = true) (hE : zZ G A s s.heap)
    (k : ∀ (H : Heap) (locs : List Loc) (ls : Array Slot), va_P G.1 vwCl [(tr, .inr (5, [.ref wa, .ref cu, .ref tn, .ref tc, .ref ts, .int 0, .int fsh])), (wa, .inr (6, [.ref ro, .int 0, .int 0])), (tn, .inl (G.2.1, 1024, .inl (zfill 1024 ft)))] H → va_D A [(tr, .inr (5, [.ref wa, .ref cu, .ref tn, .ref tc, .ref ts, .int 0, .int fsh])), (wa, .inr (6, [.ref ro, .int 0, .int 0])), (tn, .inl (G.2.1, 1024, .inl (zfill 1024 ft)))] → va_S A s.heap H locs → lv_has ls 2 [(1, .int 1024), (0, .ref tr)] → W p l e R s m args below meth c H locs cells slots Q (F0 m 35 ls [])) :
    ∀ (n i : Nat), i ≤ 1024 → 1024 < i + n → ∀ (H : Heap) (locs : List Loc) (ls : Array Slot), va_P G.1 vwCl [(tr, .inr (5, [.ref wa, .ref cu, .ref tn, .ref tc, .ref ts, .int 0, .int fsh])), (wa, .inr (6, [.ref ro, .int 0, .int 0])), (tn, .inl (G.2.1, 1024, .inl (zfill i ft)))] H → va_D A [(tr, .inr (5, [.ref wa, .ref cu, .ref tn, .ref tc, .ref ts, .int 0, .int fsh])), (wa, .inr (6, [.ref ro, .int 0, .int 0])), (tn, .inl (G.2.1, 1024, .inl (zfill i ft)))] → va_S A s.heap H locs → lv_has ls 2 [(1, .int (nI i)), (0, .ref tr)] → W p l e R s m args below meth c H locs cells slots Q (F0 m 15 ls []) := by
  have hw5 : ∀ w ∈ u_ws RX5 TX5 7, w ∈ wsX5_refresh := by decide +kernel
  have hf9 := hts (.fieldLink RX5 9 "Nettle$Tree" "numbers" "[I") (by decide +kernel)
  intro n
  induction n with
  | zero => intro i h1 h2; exact absurd h2 (by omega)
  | succ n ih =>
    intro i h1 h2 H locs ls hP hD hS hl
    refine lv_iload_n hx hb dX5_refresh_15 rfl (lv_at hl 0 rfl) ?_
    refine lv_sipush (v := 1024) hx hb dX5_refresh_16 (by decide) ?_
    refine lv_icmp_ge (tgt := 35) hx hb dX5_refresh_19 (by decide) (fun c1 => ?_) (fun c1 => ?_)
    · have e1 : i = 1024 := by
        have c2 : nI 1024 ≤ nI i := c1
        have c3 := (nI_leI (by decide) (by omega)).mp c2
        omega
      subst e1
      exact k H locs ls hP hD hS hl
    · have hlt : i < 1024 := by
        rcases Nat.lt_or_ge i 1024 with q | q
        · exact q
        · exact absurd (show nI 1024 ≤ nI i from (nI_leI (by decide) (by omega)).mpr q) c1
      refine lv_aload_n hx hb dX5_refresh_22 rfl (lv_at hl 1 rfl) ?_
      refine va_get (D := G.1) (ci := 5) (v := .ref tn) (C := RX5) (T := TX5) (N := 7) hx hb hts hw5 hown hE.1 hP 0 rfl rfl 2 (by decide) hf9 (fun _ h9 => h9) rfl dX5_refresh_23 ?_
      refine lv_iload_n hx hb dX5_refresh_26 rfl (lv_at hl 0 rfl) ?_
      refine lv_iconst (v := (-1)) hx hb dX5_refresh_27 (by decide) ?_
      refine va_iast hx hb hE.1 hP hD hS 2 0 rfl rfl (vp_in_nI hlt (by decide)) dX5_refresh_28 (fun H locs hP hD hS => ?_)
      have e2 : upd (zfill i ft) (nI i).toNatClampNeg (-1) = zfill (i + 1) ft := by rw [nI_clamp (by omega)]; rfl
      rw [e2] at hP hD
      refine lv_iinc (v := nI (i + 1)) (lv' := [(1, .int (nI (i + 1))), (0, .ref tr)]) hx hb dX5_refresh_29 hl (k := 0) rfl (by rw [← nI_1]; rfl) (by decide) rfl (fun ls hl => ?_)
      refine lv_goto (tgt := 15) hx hb dX5_refresh_32 (by decide) ?_
      exact ih (i + 1) (by omega) (by omega) H locs ls hP hD hS hl

set_option maxHeartbeats 4000000 in
set_option maxRecDepth 100000 in
theorem z_X5_refresh0 (l : Launch) (G : zG) (tr : Nat) (wa : Nat) (cu : Nat) (ro : Nat) (tn : Nat) (tc : Nat) (ts : Nat) (ft : Nat → Int32) : zR l G yX5_refresh wsX5_refresh { frames := 3, cells := 0, slots := 0, locals := 73 } [(tr, .inr (5, [.ref wa, .ref cu, .ref tn, .ref tc, .ref ts, .int 0, .int 0])), (wa, .inr (6, [.ref ro, .int 0, .int 0])), (tn, .inl (G.2.1, 1024, .inl (ft)))] [.ref tr] none (fun u => [(tn, .inl (G.2.1, 1024, .inl (zfill 1024 ft))), (tr, .inr (5, [.ref wa, .ref cu, .ref tn, .ref tc, .ref ts, .int 0, .int 1])), (wa, .inr (6, [.ref ro, .int 0, .int 0]))]) 0 0 := by
  refine zR_of (cc := cX5_refresh) (maxL := 2) (rt := none) (by decide) rfl (Nat.le_of_ble_eq_true rfl) ?_
  intro p e s m below meth c A ls hx hb hml hr hts hown hlocks hin hA hE hP hD hS hl
  have hl : lv_has ls 2 [(0, .ref tr)] := hl
  have hown : s.vm.findClass RX5 = some m.cls := hown
  have hP : va_P G.1 vwCl [(tr, .inr (5, [.ref wa, .ref cu, .ref tn, .ref tc, .ref ts, .int 0, .int 0])), (wa, .inr (6, [.ref ro, .int 0, .int 0])), (tn, .inl (G.2.1, 1024, .inl (ft)))] s.heap := hP
  have hw5 : ∀ w ∈ u_ws RX5 TX5 7, w ∈ wsX5_refresh := by decide +kernel
  have hf29 := hts (.fieldLink RX5 29 "Nettle$Tree" "isFresh" "Z") (by decide +kernel)
  have hf33 := hts (.fieldLink RX5 33 "Nettle$Tree" "count" "I") (by decide +kernel)
  have hf21 := hts (.fieldLink RX5 21 "Nettle$Tree" "wall" "LNettle$Wall;") (by decide +kernel)
  refine lv_aload_n hx hb dX5_refresh_0 rfl (lv_at hl 0 rfl) ?_
  refine va_get (D := G.1) (ci := 5) (v := .int 0) (C := RX5) (T := TX5) (N := 7) hx hb hts hw5 hown hE.1 hP 0 rfl rfl 6 (by decide) hf29 (fun _ h9 => h9) rfl dX5_refresh_1 ?_
  refine lv_if_eq (tgt := 8) hx hb dX5_refresh_4 (by decide) (fun _ => ?_) (fun h9 => absurd (by decide) h9)
  refine lv_aload_n hx hb dX5_refresh_8 rfl (lv_at hl 0 rfl) ?_
  refine lv_iconst (v := 0) hx hb dX5_refresh_9 (by decide) ?_
  refine va_put (D := G.1) (ci := 5) (v := .int 0) (ty := tyX5 5) (C := RX5) (T := TX5) (N := 7) hx hb hts hw5 tyX5 tyX5_ok nmX5 hown hE.1 hP hD hS 0 rfl rfl 5 (by decide) hf33 (fun _ h9 => h9) rfl (by decide +kernel) rfl rfl (Nat.le_of_ble_eq_true rfl) dX5_refresh_10 (fun H locs hP hD hS => ?_)
  have hP : va_P G.1 vwCl [(tr, .inr (5, [.ref wa, .ref cu, .ref tn, .ref tc, .ref ts, .int 0, .int 0])), (wa, .inr (6, [.ref ro, .int 0, .int 0])), (tn, .inl (G.2.1, 1024, .inl (ft)))] H := hP
  have hD : va_D A [(tr, .inr (5, [.ref wa, .ref cu, .ref tn, .ref tc, .ref ts, .int 0, .int 0])), (wa, .inr (6, [.ref ro, .int 0, .int 0])), (tn, .inl (G.2.1, 1024, .inl (ft)))] := hD
  refine lv_iconst (v := 0) hx hb dX5_refresh_13 (by decide) ?_
  refine lv_istore_n (lv' := [(1, .int 0), (0, .ref tr)]) hx hb dX5_refresh_14 rfl hl (by decide) rfl (fun ls hl => ?_)
  have hl : lv_has ls 2 [(1, .int (nI 0)), (0, .ref tr)] := hl
  refine z_fill (ft := ft) hx hb hown hts hE (fun H locs ls hP hD hS hl => ?_) 1025 0 (Nat.zero_le _) (by decide) _ _ _ hP hD hS hl
  refine lv_aload_n hx hb dX5_refresh_35 rfl (lv_at hl 1 rfl) ?_
  refine lv_iconst (v := 0) hx hb dX5_refresh_36 (by decide) ?_
  refine lv_aload_n hx hb dX5_refresh_37 rfl (lv_at hl 1 rfl) ?_
  refine va_get (D := G.1) (ci := 5) (v := .ref wa) (C := RX5) (T := TX5) (N := 7) hx hb hts hw5 hown hE.1 hP 0 rfl rfl 0 (by decide) hf21 (fun _ h9 => h9) rfl dX5_refresh_38 ?_
  refine zcall (wr := [(tr, .inr (5, [.ref wa, .ref cu, .ref tn, .ref tc, .ref ts, .int 0, .int 0])), (tn, .inl (G.2.1, 1024, .inl (zfill 1024 ft)))]) (va_runV (As := []) (rest := [.int 0, .ref tr]) ⟨hx, hb, hml, hown, hts⟩ (z_X6_deciders l G wa ro H.size) (cwV 0 hts gX5_refresh_X6_deciders rfl rfl rfl (by decide +kernel) ⟨Nat.le_of_ble_eq_true rfl, Nat.le_of_ble_eq_true rfl⟩) (zPreV (Wc := [(wa, .inr (6, [.ref ro, .int 0, .int 0]))]) (q0 := 1) (ci := 6) (q := (RX6, TX6, 3)) hP hD hE hS hA [1] rfl (by decide) rfl rfl) rfl rfl hl.1 rfl (lv_room (Nat.le_of_ble_eq_true rfl)) dX5_refresh_41 ⟨Nat.le_of_ble_eq_true rfl, Nat.le_of_ble_eq_true rfl⟩) hP hD hS hA [1] [0, 2] rfl rfl (by decide) (by decide) (fun u1 H locs hP hD hS => ?_)
  have hP : va_P G.1 vwCl [(tr, .inr (5, [.ref wa, .ref cu, .ref tn, .ref tc, .ref ts, .int 0, .int 0])), (tn, .inl (G.2.1, 1024, .inl (zfill 1024 ft))), (wa, .inr (6, [.ref ro, .int 0, .int 0]))] H := hP
  have hD : va_D A [(tr, .inr (5, [.ref wa, .ref cu, .ref tn, .ref tc, .ref ts, .int 0, .int 0])), (tn, .inl (G.2.1, 1024, .inl (zfill 1024 ft))), (wa, .inr (6, [.ref ro, .int 0, .int 0]))] := hD
  refine W.eq (g2 := F0 m 44 ls [.int 0, .int 0, .ref tr]) rfl ?_
  refine zcall (wr := [(tn, .inl (G.2.1, 1024, .inl (zfill 1024 ft)))]) (va_runS (As := [.ref tr, .int 0, .int 0]) (rest := []) ⟨hx, hb, hml, hown, hts⟩ (z_X5_find l G tr wa cu ro tn tc ts 0 H.size) (va_cwS 3 hts gX5_refresh_X5_find rfl rfl rfl (by decide +kernel) ⟨Nat.le_of_ble_eq_true rfl, Nat.le_of_ble_eq_true rfl⟩) (zPre (Wc := [(tr, .inr (5, [.ref wa, .ref cu, .ref tn, .ref tc, .ref ts, .int 0, .int 0])), (wa, .inr (6, [.ref ro, .int 0, .int 0]))]) hP hD hE hS hA [0, 2] rfl (by decide)) rfl rfl hl.1 rfl (lv_room (Nat.le_of_ble_eq_true rfl)) dX5_refresh_44 ⟨Nat.le_of_ble_eq_true rfl, Nat.le_of_ble_eq_true rfl⟩) hP hD hS hA [0, 2] [1] rfl rfl (by decide) (by decide) (fun u2 H locs hP hD hS => ?_)
  have hP : va_P G.1 vwCl [(tn, .inl (G.2.1, 1024, .inl (zfill 1024 ft))), (tr, .inr (5, [.ref wa, .ref cu, .ref tn, .ref tc, .ref ts, .int 0, .int 0])), (wa, .inr (6, [.ref ro, .int 0, .int 0]))] H := hP
  have hD : va_D A [(tn, .inl (G.2.1, 1024, .inl (zfill 1024 ft))), (tr, .inr (5, [.ref wa, .ref cu, .ref tn, .ref tc, .ref ts, .int 0, .int 0])), (wa, .inr (6, [.ref ro, .int 0, .int 0]))] := hD
  refine W.eq (g2 := F0 m 47 ls [.int (-1)]) rfl ?_
  refine lv_pop hx hb dX5_refresh_47 rfl ?_
  refine lv_aload_n hx hb dX5_refresh_48 rfl (lv_at hl 1 rfl) ?_
  refine lv_iconst (v := 1) hx hb dX5_refresh_49 (by decide) ?_
  refine va_put (D := G.1) (ci := 5) (v := .int 1) (ty := tyX5 6) (C := RX5) (T := TX5) (N := 7) hx hb hts hw5 tyX5 tyX5_ok nmX5 hown hE.1 hP hD hS 1 rfl rfl 6 (by decide) hf29 (fun _ h9 => h9) rfl (by decide +kernel) rfl rfl (Nat.le_of_ble_eq_true rfl) dX5_refresh_50 (fun H locs hP hD hS => ?_)
  have hP : va_P G.1 vwCl [(tn, .inl (G.2.1, 1024, .inl (zfill 1024 ft))), (tr, .inr (5, [.ref wa, .ref cu, .ref tn, .ref tc, .ref ts, .int 0, .int 1])), (wa, .inr (6, [.ref ro, .int 0, .int 0]))] H := hP
  have hD : va_D A [(tn, .inl (G.2.1, 1024, .inl (zfill 1024 ft))), (tr, .inr (5, [.ref wa, .ref cu, .ref tn, .ref tc, .ref ts, .int 0, .int 1])), (wa, .inr (6, [.ref ro, .int 0, .int 0]))] := hD
  exact zend_v hx hb hr hlocks (fun k => [].getD k 0) hP hD hS (Nat.le_of_ble_eq_true rfl) (Nat.le_of_ble_eq_true rfl) dX5_refresh_53
