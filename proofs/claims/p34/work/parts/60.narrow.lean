/-! the Hedge narrows -/
theorem dX8_narrow_0 : decode cX8_narrow 0 = .ok (.aload_n 0, 1) := by decide +kernel
theorem dX8_narrow_1 : decode cX8_narrow 1 = .ok (.getfield 22, 3) := by decide +kernel
theorem dX8_narrow_4 : decode cX8_narrow 4 = .ok (.iload_n 1, 1) := by decide +kernel
theorem dX8_narrow_5 : decode cX8_narrow 5 = .ok (.aaload, 1) := by decide +kernel
theorem dX8_narrow_6 : decode cX8_narrow 6 = .ok (.astore_n 3, 1) := by decide +kernel
theorem dX8_narrow_7 : decode cX8_narrow 7 = .ok (.aload_n 0, 1) := by decide +kernel
theorem dX8_narrow_8 : decode cX8_narrow 8 = .ok (.getfield 18, 3) := by decide +kernel
theorem dX8_narrow_11 : decode cX8_narrow 11 = .ok (.iload_n 2, 1) := by decide +kernel
theorem dX8_narrow_12 : decode cX8_narrow 12 = .ok (.aaload, 1) := by decide +kernel
theorem dX8_narrow_13 : decode cX8_narrow 13 = .ok (.aload_n 3, 1) := by decide +kernel
theorem dX8_narrow_14 : decode cX8_narrow 14 = .ok (.iconst 3, 1) := by decide +kernel
theorem dX8_narrow_15 : decode cX8_narrow 15 = .ok (.iconst 2, 1) := by decide +kernel
theorem dX8_narrow_16 : decode cX8_narrow 16 = .ok (.iload_n 2, 1) := by decide +kernel
theorem dX8_narrow_17 : decode cX8_narrow 17 = .ok (.imul, 1) := by decide +kernel
theorem dX8_narrow_18 : decode cX8_narrow 18 = .ok (.iadd, 1) := by decide +kernel
theorem dX8_narrow_19 : decode cX8_narrow 19 = .ok (.iaload, 1) := by decide +kernel
theorem dX8_narrow_20 : decode cX8_narrow 20 = .ok (.iaload, 1) := by decide +kernel
theorem dX8_narrow_21 : decode cX8_narrow 21 = .ok (.aload_n 0, 1) := by decide +kernel
theorem dX8_narrow_22 : decode cX8_narrow 22 = .ok (.getfield 18, 3) := by decide +kernel
theorem dX8_narrow_25 : decode cX8_narrow 25 = .ok (.iload_n 2, 1) := by decide +kernel
theorem dX8_narrow_26 : decode cX8_narrow 26 = .ok (.aaload, 1) := by decide +kernel
theorem dX8_narrow_27 : decode cX8_narrow 27 = .ok (.aload_n 3, 1) := by decide +kernel
theorem dX8_narrow_28 : decode cX8_narrow 28 = .ok (.iconst 2, 1) := by decide +kernel
theorem dX8_narrow_29 : decode cX8_narrow 29 = .ok (.iconst 2, 1) := by decide +kernel
theorem dX8_narrow_30 : decode cX8_narrow 30 = .ok (.iload_n 2, 1) := by decide +kernel
theorem dX8_narrow_31 : decode cX8_narrow 31 = .ok (.imul, 1) := by decide +kernel
theorem dX8_narrow_32 : decode cX8_narrow 32 = .ok (.iadd, 1) := by decide +kernel
theorem dX8_narrow_33 : decode cX8_narrow 33 = .ok (.iaload, 1) := by decide +kernel
theorem dX8_narrow_34 : decode cX8_narrow 34 = .ok (.iaload, 1) := by decide +kernel
theorem dX8_narrow_35 : decode cX8_narrow 35 = .ok (.isub, 1) := by decide +kernel
theorem dX8_narrow_36 : decode cX8_narrow 36 = .ok (.istore 4, 2) := by decide +kernel
theorem dX8_narrow_38 : decode cX8_narrow 38 = .ok (.aload_n 3, 1) := by decide +kernel
theorem dX8_narrow_39 : decode cX8_narrow 39 = .ok (.iconst 2, 1) := by decide +kernel
theorem dX8_narrow_40 : decode cX8_narrow 40 = .ok (.iconst 2, 1) := by decide +kernel
theorem dX8_narrow_41 : decode cX8_narrow 41 = .ok (.iload_n 2, 1) := by decide +kernel
theorem dX8_narrow_42 : decode cX8_narrow 42 = .ok (.imul, 1) := by decide +kernel
theorem dX8_narrow_43 : decode cX8_narrow 43 = .ok (.iadd, 1) := by decide +kernel
theorem dX8_narrow_44 : decode cX8_narrow 44 = .ok (.aload_n 0, 1) := by decide +kernel
theorem dX8_narrow_45 : decode cX8_narrow 45 = .ok (.aload_n 0, 1) := by decide +kernel
theorem dX8_narrow_46 : decode cX8_narrow 46 = .ok (.iload_n 2, 1) := by decide +kernel
set_option maxRecDepth 20000 in
theorem ggX8_narrow_X8_pieces : GoodIn wsX8_narrow wsX8_pieces := goodIn_r _ [8, 2, 63, 64, 65, 66, 67, 68, 69, 70, 71, 72] (by decide +kernel) (by decide +kernel)
set_option maxRecDepth 20000 in
theorem gX8_narrow_X8_pieces : GoodIn wsX8_narrow (wsV RX8 62 RX8 yX8_pieces wsX8_pieces) := goodIn_app (goodIn_of _ (by decide +kernel)) ggX8_narrow_X8_pieces
theorem dX8_narrow_47 : decode cX8_narrow 47 = .ok (.invokevirtual 62, 3) := by decide +kernel
set_option maxRecDepth 20000 in
theorem ggX8_narrow_X8_draw : GoodIn wsX8_narrow wsX8_draw := goodIn_r _ [12, 13, 14, 15, 16, 17, 18, 19, 20, 21, 63, 64, 65, 66, 67, 68, 69, 70, 71, 72] (by decide +kernel) (by decide +kernel)
set_option maxRecDepth 20000 in
theorem gX8_narrow_X8_draw : GoodIn wsX8_narrow (wsV RX8 38 RX8 yX8_draw wsX8_draw) := goodIn_app (goodIn_of _ (by decide +kernel)) ggX8_narrow_X8_draw
theorem dX8_narrow_50 : decode cX8_narrow 50 = .ok (.invokevirtual 38, 3) := by decide +kernel
theorem dX8_narrow_53 : decode cX8_narrow 53 = .ok (.iastore, 1) := by decide +kernel
theorem dX8_narrow_54 : decode cX8_narrow 54 = .ok (.aload_n 3, 1) := by decide +kernel
theorem dX8_narrow_55 : decode cX8_narrow 55 = .ok (.iconst 3, 1) := by decide +kernel
theorem dX8_narrow_56 : decode cX8_narrow 56 = .ok (.iconst 2, 1) := by decide +kernel
theorem dX8_narrow_57 : decode cX8_narrow 57 = .ok (.iload_n 2, 1) := by decide +kernel
theorem dX8_narrow_58 : decode cX8_narrow 58 = .ok (.imul, 1) := by decide +kernel
theorem dX8_narrow_59 : decode cX8_narrow 59 = .ok (.iadd, 1) := by decide +kernel
theorem dX8_narrow_60 : decode cX8_narrow 60 = .ok (.aload_n 3, 1) := by decide +kernel
theorem dX8_narrow_61 : decode cX8_narrow 61 = .ok (.iconst 2, 1) := by decide +kernel
theorem dX8_narrow_62 : decode cX8_narrow 62 = .ok (.iconst 2, 1) := by decide +kernel
theorem dX8_narrow_63 : decode cX8_narrow 63 = .ok (.iload_n 2, 1) := by decide +kernel
theorem dX8_narrow_64 : decode cX8_narrow 64 = .ok (.imul, 1) := by decide +kernel
theorem dX8_narrow_65 : decode cX8_narrow 65 = .ok (.iadd, 1) := by decide +kernel
theorem dX8_narrow_66 : decode cX8_narrow 66 = .ok (.iaload, 1) := by decide +kernel
theorem dX8_narrow_67 : decode cX8_narrow 67 = .ok (.iconst 1, 1) := by decide +kernel
theorem dX8_narrow_68 : decode cX8_narrow 68 = .ok (.iadd, 1) := by decide +kernel
theorem dX8_narrow_69 : decode cX8_narrow 69 = .ok (.aload_n 0, 1) := by decide +kernel
theorem dX8_narrow_70 : decode cX8_narrow 70 = .ok (.aload_n 0, 1) := by decide +kernel
theorem dX8_narrow_71 : decode cX8_narrow 71 = .ok (.iload_n 2, 1) := by decide +kernel
theorem dX8_narrow_72 : decode cX8_narrow 72 = .ok (.invokevirtual 62, 3) := by decide +kernel
theorem dX8_narrow_75 : decode cX8_narrow 75 = .ok (.aload_n 3, 1) := by decide +kernel
theorem dX8_narrow_76 : decode cX8_narrow 76 = .ok (.iconst 2, 1) := by decide +kernel
theorem dX8_narrow_77 : decode cX8_narrow 77 = .ok (.iconst 2, 1) := by decide +kernel
theorem dX8_narrow_78 : decode cX8_narrow 78 = .ok (.iload_n 2, 1) := by decide +kernel
theorem dX8_narrow_79 : decode cX8_narrow 79 = .ok (.imul, 1) := by decide +kernel
theorem dX8_narrow_80 : decode cX8_narrow 80 = .ok (.iadd, 1) := by decide +kernel
theorem dX8_narrow_81 : decode cX8_narrow 81 = .ok (.iaload, 1) := by decide +kernel
theorem dX8_narrow_82 : decode cX8_narrow 82 = .ok (.isub, 1) := by decide +kernel
theorem dX8_narrow_83 : decode cX8_narrow 83 = .ok (.invokevirtual 38, 3) := by decide +kernel
theorem dX8_narrow_86 : decode cX8_narrow 86 = .ok (.iadd, 1) := by decide +kernel
theorem dX8_narrow_87 : decode cX8_narrow 87 = .ok (.iastore, 1) := by decide +kernel
theorem dX8_narrow_88 : decode cX8_narrow 88 = .ok (.aload_n 0, 1) := by decide +kernel
theorem dX8_narrow_89 : decode cX8_narrow 89 = .ok (.getfield 10, 3) := by decide +kernel
theorem dX8_narrow_92 : decode cX8_narrow 92 = .ok (.iload_n 1, 1) := by decide +kernel
theorem dX8_narrow_93 : decode cX8_narrow 93 = .ok (.iload_n 2, 1) := by decide +kernel
theorem dX8_narrow_94 : decode cX8_narrow 94 = .ok (.aload_n 0, 1) := by decide +kernel
theorem dX8_narrow_95 : decode cX8_narrow 95 = .ok (.getfield 18, 3) := by decide +kernel
theorem dX8_narrow_98 : decode cX8_narrow 98 = .ok (.iload_n 2, 1) := by decide +kernel
theorem dX8_narrow_99 : decode cX8_narrow 99 = .ok (.aaload, 1) := by decide +kernel
theorem dX8_narrow_100 : decode cX8_narrow 100 = .ok (.aload_n 3, 1) := by decide +kernel
theorem dX8_narrow_101 : decode cX8_narrow 101 = .ok (.iconst 2, 1) := by decide +kernel
theorem dX8_narrow_102 : decode cX8_narrow 102 = .ok (.iconst 2, 1) := by decide +kernel
theorem dX8_narrow_103 : decode cX8_narrow 103 = .ok (.iload_n 2, 1) := by decide +kernel
theorem dX8_narrow_104 : decode cX8_narrow 104 = .ok (.imul, 1) := by decide +kernel
theorem dX8_narrow_105 : decode cX8_narrow 105 = .ok (.iadd, 1) := by decide +kernel
theorem dX8_narrow_106 : decode cX8_narrow 106 = .ok (.iaload, 1) := by decide +kernel
theorem dX8_narrow_107 : decode cX8_narrow 107 = .ok (.iaload, 1) := by decide +kernel
theorem dX8_narrow_108 : decode cX8_narrow 108 = .ok (.aload_n 0, 1) := by decide +kernel
theorem dX8_narrow_109 : decode cX8_narrow 109 = .ok (.getfield 18, 3) := by decide +kernel
theorem dX8_narrow_112 : decode cX8_narrow 112 = .ok (.iload_n 2, 1) := by decide +kernel
theorem dX8_narrow_113 : decode cX8_narrow 113 = .ok (.aaload, 1) := by decide +kernel
theorem dX8_narrow_114 : decode cX8_narrow 114 = .ok (.aload_n 3, 1) := by decide +kernel
theorem dX8_narrow_115 : decode cX8_narrow 115 = .ok (.iconst 3, 1) := by decide +kernel
theorem dX8_narrow_116 : decode cX8_narrow 116 = .ok (.iconst 2, 1) := by decide +kernel
theorem dX8_narrow_117 : decode cX8_narrow 117 = .ok (.iload_n 2, 1) := by decide +kernel
theorem dX8_narrow_118 : decode cX8_narrow 118 = .ok (.imul, 1) := by decide +kernel
theorem dX8_narrow_119 : decode cX8_narrow 119 = .ok (.iadd, 1) := by decide +kernel
theorem dX8_narrow_120 : decode cX8_narrow 120 = .ok (.iaload, 1) := by decide +kernel
theorem dX8_narrow_121 : decode cX8_narrow 121 = .ok (.iaload, 1) := by decide +kernel
theorem dX8_narrow_122 : decode cX8_narrow 122 = .ok (.iconst 1, 1) := by decide +kernel
theorem dX8_narrow_123 : decode cX8_narrow 123 = .ok (.isub, 1) := by decide +kernel
set_option maxRecDepth 20000 in
theorem ggX8_narrow_X7_narrow : GoodIn wsX8_narrow wsX7_narrow := goodIn_ca (goodIn_ca (goodIn_r _ [26, 27, 28, 29, 30, 31, 32, 33, 34, 35, 36, 37, 25, 38, 39, 40, 41, 42, 43, 44, 45, 46, 47, 48, 49, 50, 51, 52, 53, 54, 55, 56, 57, 58, 59, 60, 61, 62, 73, 74, 75, 76, 77, 78, 79, 80, 81, 82, 83, 84, 85, 86, 87, 88, 89, 90, 91, 92, 93, 94, 95, 96, 97, 98, 99, 100, 101, 102, 103, 104, 105, 106, 107, 108, 109, 110, 111, 112] (by decide +kernel) (by decide +kernel)) (goodIn_sub (fun _ h => List.mem_cons_of_mem _ (List.mem_append_left _ (List.mem_append_right _ h))) (by decide +kernel))) (goodIn_sub (fun _ h => List.mem_cons_of_mem _ (List.mem_append_right _ h)) (by decide +kernel))
set_option maxRecDepth 20000 in
theorem gX8_narrow_X7_narrow : GoodIn wsX8_narrow (wsV RX8 76 RX7 yX7_narrow wsX7_narrow) := goodIn_app (goodIn_of _ (by decide +kernel)) ggX8_narrow_X7_narrow
theorem dX8_narrow_124 : decode cX8_narrow 124 = .ok (.invokevirtual 76, 3) := by decide +kernel
theorem dX8_narrow_127 : decode cX8_narrow 127 = .ok (.iload 4, 2) := by decide +kernel
theorem dX8_narrow_129 : decode cX8_narrow 129 = .ok (.if_icmp .ne 7, 3) := by decide +kernel
theorem dX8_narrow_132 : decode cX8_narrow 132 = .ok (.iconst 1, 1) := by decide +kernel
theorem dX8_narrow_133 : decode cX8_narrow 133 = .ok (.goto 4, 3) := by decide +kernel
theorem dX8_narrow_137 : decode cX8_narrow 137 = .ok (.ireturn, 1) := by decide +kernel
def zupR (R : Nat → Nat → Int) (r j : Nat) (v : Int) : Nat → Nat → Int := fun q => if q = r then zup (R r) j v else R q
theorem zupR_get (R : Nat → Nat → Int) (r j : Nat) (v : Int) (q g : Nat) : zupR R r j v q g = if q = r ∧ g = j then v else R q g := by
  unfold zupR zup
  by_cases e : q = r
  · by_cases e2 : g = j
    · rw [if_pos e, if_pos e2, if_pos ⟨e, e2⟩]
    · rw [if_pos e, if_neg e2, if_neg (fun z => e2 z.2), e]
  · rw [if_neg e, if_neg (fun z => e z.1)]
theorem zplace {P L : va_W} {k r : Nat} {x : Nat × va_E} (hk : P.length = k) (h : L[r]? = some x) : (P ++ L)[k + r]? = some x := by
  rw [List.getElem?_append_right (by omega), hk, Nat.add_sub_cancel_left]
  exact h
theorem zrw_at {G : zG} {hr : Nat → Nat} {R : Nat → Nat → Int} {n r : Nat} {T : va_W} (h : r < n) : (zrw G hr R n ++ T)[r]? = some (hr r, .inl (zci G, 10, .inl (fun j => zi (R r j)))) := by
  rw [List.getElem?_append_left (by unfold zrw; rw [List.length_map, List.length_range]; exact h)]
  unfold zrw
  rw [List.getElem?_map, List.getElem?_range h]
  rfl
theorem zpcut {G : zG} {hd : Nat → Nat} {C : Nat → Nat → Int} {x0 x1 : Nat × va_E} {t : va_W} {f : Nat} (hf : f < 4) : (x0 :: x1 :: (hd 2, .inl (zci G, 6, .inl (fun j => zi (C 0 j)))) :: (hd 3, .inl (zci G, 6, .inl (fun j => zi (C 1 j)))) :: (hd 4, .inl (zci G, 6, .inl (fun j => zi (C 2 j)))) :: (hd 5, .inl (zci G, 4, .inl (fun j => zi (C 3 j)))) :: t)[2 + f]? = some (hd (2 + f), .inl (zci G, zPn f + 1, .inl (fun j => zi (C f j)))) := by
  have h : f = 0 ∨ f = 1 ∨ f = 2 ∨ f = 3 := by omega
  rcases h with rfl | rfl | rfl | rfl <;> rfl
theorem zrw_set {G : zG} {hr : Nat → Nat} {R : Nat → Nat → Int} {n r j : Nat} {v : Int} {P T : va_W} {k : Nat} (hk : P.length = k) (h : r < n) : (P ++ (zrw G hr R n ++ T)).set (k + r) (hr r, .inl (zci G, 10, .inl (fun q => zi (zup (R r) j v q)))) = P ++ (zrw G hr (zupR R r j v) n ++ T) := by
  have hl : (zrw G hr R n).length = n := by unfold zrw; rw [List.length_map, List.length_range]
  rw [List.set_append_right _ _ (by omega), hk, Nat.add_sub_cancel_left, List.set_append_left _ _ (by omega)]
  congr 2
  apply List.ext_getElem?
  intro i
  rw [List.getElem?_set]
  by_cases e : r = i
  · subst e
    rw [if_pos rfl, if_pos (by omega)]
    unfold zrw zupR
    rw [List.getElem?_map, List.getElem?_range h]
    simp
  · rw [if_neg e]
    unfold zrw zupR
    rw [List.getElem?_map, List.getElem?_map]
    by_cases hi : i < n
    · rw [List.getElem?_range hi]
      simp [show ¬ i = r from fun q => e q.symm]
    · rw [List.getElem?_eq_none (by rw [List.length_range]; omega)]
      rfl
section ZRR
variable {p : Program} {l : Launch} {e : Env} {R0 : Room} {s : State} {m : MethodId} {args : Array Value} {below : List Frame} {meth : Method} {c : Code} {H : Heap} {locs : List Loc} {cells slots : Nat} {Q : State → Prop}
variable {cc : ByteArray} {pc : Nat} {ls : Array Slot} {rest st0 : List Value} {G : zG} {A : Nat → Prop}
theorem zistR (hx : p.tables.exec = Jvm.exec) (hb : c.code = cc) (hE : zZ G A s s.heap) {P T : va_W} {hr : Nat → Nat} {R : Nat → Nat → Int} {n r k : Nat} (hP : va_P G.1 vwCl (P ++ (zrw G hr R n ++ T)) H) (hD : va_D A (P ++ (zrw G hr R n ++ T))) (hS : va_S A s.heap H locs) (hk : P.length = k) (h : r < n) {z v : Int} (j : Nat) (hz : z = (j : Int)) (hj : j < 10) (hdg : decode cc pc = .ok (.iastore, 1))
    (kk : ∀ (H1 : Heap) (locs1 : List Loc), va_P G.1 vwCl (P ++ (zrw G hr (zupR R r j v) n ++ T)) H1 → va_D A (P ++ (zrw G hr (zupR R r j v) n ++ T)) → va_S A s.heap H1 locs1 → W p l e R0 s m args below meth c H1 locs1 cells slots Q (F0 m (pc + 1) ls rest)) : W p l e R0 s m args below meth c H locs cells slots Q (F0 m pc ls (.int (zi v) :: .int (zi z) :: .ref (hr r) :: rest)) := by
  refine zistL hx hb hE hP hD hS (k + r) (zplace hk (zrw_at h)) j hz hj (by omega) hdg (fun H1 l1 hP1 hD1 hS1 => ?_)
  rw [zrw_set hk h] at hP1 hD1
  exact kk H1 l1 hP1 hD1 hS1
end ZRR
/-- the Hedge's methods: true, a valid state again -/
def zHr (G : zG) (ad : Nat → Nat) (a0 D : Nat) (C : Nat → Nat → Int) : Option Value → va_W → Prop := fun r w => r = some (.int (zi 1)) ∧ ∃ (hd hr : Nat → Nat) (X : Nat → Nat → Int) (n dr : Nat) (la cl : Int) (R : Nat → Nat → Int), hd 0 = a0 ∧ dr ≤ D ∧ zHv X n la C R ∧ w = zhW G ad X hd hr n dr la cl C R
/-- the same, as many rows -/
def zHs (G : zG) (ad : Nat → Nat) (a0 D n : Nat) (C : Nat → Nat → Int) : Option Value → va_W → Prop := fun r w => r = some (.int (zi 1)) ∧ ∃ (hd hr : Nat → Nat) (X : Nat → Nat → Int) (dr : Nat) (la cl : Int) (R : Nat → Nat → Int), hd 0 = a0 ∧ dr ≤ D ∧ zHv X n la C R ∧ w = zhW G ad X hd hr n dr la cl C R

set_option maxHeartbeats 4000000 in
set_option maxRecDepth 100000 in
/-- narrow -/
theorem k_X8_narrow (l : Launch) (G : zG) (ad : Nat → Nat) (hd : Nat → Nat) (hr : Nat → Nat) (X : Nat → Nat → Int) (n : Nat) (dr : Nat) (la : Int) (cl : Int) (C : Nat → Nat → Int) (R : Nat → Nat → Int) (r : Nat) (f : Nat) (hsl : zsl G ≤ 100000) (hdr : dr ≤ 90000) (hv : zHv X n la C R) (hr1 : r < n) (hf : f < 4) : zR l G yX8_narrow wsX8_narrow { frames := 2, cells := 0, slots := 0, locals := 46 } (zhW G ad X hd hr n dr la cl C R) [.ref (hd 0), .int (zi (r : Int)), .int (zi (f : Int))] (zHs G ad (hd 0) (dr + 2) n C) 0 0 := by
  refine zR_of (cc := cX8_narrow) (maxL := 5) (rt := (some .boolean)) (by decide) rfl (Nat.le_of_ble_eq_true rfl) ?_
  intro p e s m below meth c A ls hx hb hml hr0 hts hown hlocks hin0 hA hE hP hD hS hl
  have hl : lv_has ls 5 [(0, .ref (hd 0)), (1, .int (zi (r : Int))), (2, .int (zi (f : Int)))] := hl
  have hown : s.vm.findClass RX8 = some m.cls := hown
  have hn8 := hv.2.2.1
  have hN0 := hv.2.1
  have hI := hv.1
  have hw8 : ∀ w ∈ u_ws RX8 TX8 10, w ∈ wsX8_narrow := by decide +kernel
  have hf22 := hts (.fieldLink RX8 22 "NettleLaw$Hedge" "rules" "[[I") (by decide +kernel)
  have hf18 := hts (.fieldLink RX8 18 "NettleLaw$Hedge" "cut" "[[I") (by decide +kernel)
  have hf10 := hts (.fieldLink RX8 10 "NettleLaw$Hedge" "m" "LNettle;") (by decide +kernel)
  refine lv_aload_n hx hb dX8_narrow_0 rfl (lv_at hl 0 rfl) ?_
  refine va_get (D := G.1) (ci := 8) (v := .ref (hd 6)) (C := RX8) (T := TX8) (N := 10) hx hb hts hw8 hown hE.1 hP 0 rfl rfl 4 (by decide) hf22 (fun _ h9 => h9) rfl dX8_narrow_1 ?_
  refine lv_iload_n hx hb dX8_narrow_4 rfl (lv_at hl 1 rfl) ?_
  refine zaldA hx hb hE hP 6 rfl (r := (hr r)) r rfl (by omega) (by omega) rfl dX8_narrow_5 ?_
  refine lv_astore_n (lv' := [(3, .ref (hr r)), (0, .ref (hd 0)), (1, .int (zi (r : Int))), (2, .int (zi (f : Int)))]) hx hb dX8_narrow_6 rfl hl (by decide) rfl (fun ls hl => ?_)
  refine lv_aload_n hx hb dX8_narrow_7 rfl (lv_at hl 1 rfl) ?_
  refine va_get (D := G.1) (ci := 8) (v := .ref (hd 1)) (C := RX8) (T := TX8) (N := 10) hx hb hts hw8 hown hE.1 hP 0 rfl rfl 3 (by decide) hf18 (fun _ h9 => h9) rfl dX8_narrow_8 ?_
  refine lv_iload_n hx hb dX8_narrow_11 rfl (lv_at hl 3 rfl) ?_
  refine zaldA hx hb hE hP 1 rfl (r := (hd (2 + f))) f rfl (by omega) (by omega) rfl dX8_narrow_12 ?_
  refine lv_aload_n hx hb dX8_narrow_13 rfl (lv_at hl 0 rfl) ?_
  have hrf := (hv.2.2.2.2.2.2 r hr1).2 f hf
  have hpn := zPn_bd f
  refine lv_iconst (v := zi 3) hx hb dX8_narrow_14 rfl ?_
  refine lv_iconst (v := zi 2) hx hb dX8_narrow_15 rfl ?_
  refine lv_iload_n hx hb dX8_narrow_16 rfl (lv_at hl 3 rfl) ?_
  refine lv_imul hx hb dX8_narrow_17 (zti (v := zi (2 * (f : Int))) (zi_mul _ _) ?_)
  refine lv_iadd hx hb dX8_narrow_18 (zti (v := zi (3 + (2 * (f : Int)))) (zi_add _ _) ?_)
  refine zildL hx hb hE hP (7 + r) (zplace rfl (zrw_at hr1)) (3 + 2 * f) (by omega) (by omega) (by omega) dX8_narrow_19 ?_
  refine zildL hx hb hE hP (2 + f) (zpcut hf) ((R r (3 + 2 * f)).toNat) (by omega) (by omega) (by omega) dX8_narrow_20 ?_
  refine lv_aload_n hx hb dX8_narrow_21 rfl (lv_at hl 1 rfl) ?_
  refine va_get (D := G.1) (ci := 8) (v := .ref (hd 1)) (C := RX8) (T := TX8) (N := 10) hx hb hts hw8 hown hE.1 hP 0 rfl rfl 3 (by decide) hf18 (fun _ h9 => h9) rfl dX8_narrow_22 ?_
  refine lv_iload_n hx hb dX8_narrow_25 rfl (lv_at hl 3 rfl) ?_
  refine zaldA hx hb hE hP 1 rfl (r := (hd (2 + f))) f rfl (by omega) (by omega) rfl dX8_narrow_26 ?_
  refine lv_aload_n hx hb dX8_narrow_27 rfl (lv_at hl 0 rfl) ?_
  refine lv_iconst (v := zi 2) hx hb dX8_narrow_28 rfl ?_
  refine lv_iconst (v := zi 2) hx hb dX8_narrow_29 rfl ?_
  refine lv_iload_n hx hb dX8_narrow_30 rfl (lv_at hl 3 rfl) ?_
  refine lv_imul hx hb dX8_narrow_31 (zti (v := zi (2 * (f : Int))) (zi_mul _ _) ?_)
  refine lv_iadd hx hb dX8_narrow_32 (zti (v := zi (2 + (2 * (f : Int)))) (zi_add _ _) ?_)
  refine zildL hx hb hE hP (7 + r) (zplace rfl (zrw_at hr1)) (2 + 2 * f) (by omega) (by omega) (by omega) dX8_narrow_33 ?_
  refine zildL hx hb hE hP (2 + f) (zpcut hf) ((R r (2 + 2 * f)).toNat) (by omega) (by omega) (by omega) dX8_narrow_34 ?_
  refine lv_isub hx hb dX8_narrow_35 (zti (v := zi ((C f ((R r (3 + 2 * f)).toNat)) - (C f ((R r (2 + 2 * f)).toNat)))) (zi_sub _ _) ?_)
  refine lv_istore (lv' := [(4, .int (zi ((C f ((R r (3 + 2 * f)).toNat)) - (C f ((R r (2 + 2 * f)).toNat))))), (3, .ref (hr r)), (0, .ref (hd 0)), (1, .int (zi (r : Int))), (2, .int (zi (f : Int)))]) hx hb dX8_narrow_36 hl (by decide) rfl (fun ls hl => ?_)
  refine lv_aload_n hx hb dX8_narrow_38 rfl (lv_at hl 1 rfl) ?_
  refine lv_iconst (v := zi 2) hx hb dX8_narrow_39 rfl ?_
  refine lv_iconst (v := zi 2) hx hb dX8_narrow_40 rfl ?_
  refine lv_iload_n hx hb dX8_narrow_41 rfl (lv_at hl 4 rfl) ?_
  refine lv_imul hx hb dX8_narrow_42 (zti (v := zi (2 * (f : Int))) (zi_mul _ _) ?_)
  refine lv_iadd hx hb dX8_narrow_43 (zti (v := zi (2 + (2 * (f : Int)))) (zi_add _ _) ?_)
  refine lv_aload_n hx hb dX8_narrow_44 rfl (lv_at hl 2 rfl) ?_
  refine lv_aload_n hx hb dX8_narrow_45 rfl (lv_at hl 2 rfl) ?_
  refine lv_iload_n hx hb dX8_narrow_46 rfl (lv_at hl 4 rfl) ?_
  refine zcall (wr := []) (wc := [((hd 0), .inr (8, [.ref (ad 52), .ref (zsb G), .int (zi (dr : Int)), .ref (hd 1), .ref (hd 6), .int (zi la), .ref (hd 7), .int (zi cl), .int (zi 0), .ref (hd 8)])), ((hd 1), .inl (zca G, 4, .inr (.inr (.inr (.inr (fun q => some (hd (2 + q)))))))), ((hd 2), .inl (zci G, 6, .inl (fun j => zi ((C 0) j)))), ((hd 3), .inl (zci G, 6, .inl (fun j => zi ((C 1) j)))), ((hd 4), .inl (zci G, 6, .inl (fun j => zi ((C 2) j)))), ((hd 5), .inl (zci G, 4, .inl (fun j => zi ((C 3) j)))), ((hd 6), .inl (zca G, n, .inr (.inr (.inr (.inr (fun q => some (hr q)))))))] ++ (zrw G hr R n ++ zpic G ad X)) (va_runV (As := [.int (zi (f : Int))]) (rest := [.ref (hd 0), .int (zi (2 + (2 * (f : Int)))), .ref (hr r)]) ⟨hx, hb, hml, hown, hts⟩ (k_X8_pieces l G ([((hd 0), .inr (8, [.ref (ad 52), .ref (zsb G), .int (zi (dr : Int)), .ref (hd 1), .ref (hd 6), .int (zi la), .ref (hd 7), .int (zi cl), .int (zi 0), .ref (hd 8)])), ((hd 1), .inl (zca G, 4, .inr (.inr (.inr (.inr (fun q => some (hd (2 + q)))))))), ((hd 2), .inl (zci G, 6, .inl (fun j => zi ((C 0) j)))), ((hd 3), .inl (zci G, 6, .inl (fun j => zi ((C 1) j)))), ((hd 4), .inl (zci G, 6, .inl (fun j => zi ((C 2) j)))), ((hd 5), .inl (zci G, 4, .inl (fun j => zi ((C 3) j)))), ((hd 6), .inl (zca G, n, .inr (.inr (.inr (.inr (fun q => some (hr q)))))))] ++ (zrw G hr R n ++ zpic G ad X)) 0 (hd 0) (.ref (ad 52)) (.ref (zsb G)) (.int (zi (dr : Int))) (hd 1) (.ref (hd 6)) (.int (zi la)) (.ref (hd 7)) (.int (zi cl)) (.int (zi 0)) (.ref (hd 8)) 1 (fun q => some (hd (2 + q))) f (hd (2 + f)) (2 + f) (zPn f) (C f) rfl hf rfl rfl (zpcut hf) s.heap.size) (cwV 1 hts gX8_narrow_X8_pieces rfl rfl rfl (by decide +kernel) ⟨Nat.le_of_ble_eq_true rfl, Nat.le_of_ble_eq_true rfl⟩) (zPreV (As := [.int (zi (f : Int))]) (wr := []) (wc := [((hd 0), .inr (8, [.ref (ad 52), .ref (zsb G), .int (zi (dr : Int)), .ref (hd 1), .ref (hd 6), .int (zi la), .ref (hd 7), .int (zi cl), .int (zi 0), .ref (hd 8)])), ((hd 1), .inl (zca G, 4, .inr (.inr (.inr (.inr (fun q => some (hd (2 + q)))))))), ((hd 2), .inl (zci G, 6, .inl (fun j => zi ((C 0) j)))), ((hd 3), .inl (zci G, 6, .inl (fun j => zi ((C 1) j)))), ((hd 4), .inl (zci G, 6, .inl (fun j => zi ((C 2) j)))), ((hd 5), .inl (zci G, 4, .inl (fun j => zi ((C 3) j)))), ((hd 6), .inl (zca G, n, .inr (.inr (.inr (.inr (fun q => some (hr q)))))))] ++ (zrw G hr R n ++ zpic G ad X)) (q0 := 0) (ci := 8) (q := (RX8, TX8, 10)) hP hD hE hS hA rfl rfl) rfl rfl hl.1 rfl (lv_room (Nat.le_of_ble_eq_true rfl)) dX8_narrow_47 ⟨Nat.le_of_ble_eq_true rfl, Nat.le_of_ble_eq_true rfl⟩) hP hD hS hA (fun _ _ H locs hf9 hP hD hS => ?_)
  obtain ⟨rfl, hw9⟩ := hf9
  rw [hw9] at hP hD
  have hP : va_P G.1 vwCl ([((hd 0), .inr (8, [.ref (ad 52), .ref (zsb G), .int (zi (dr : Int)), .ref (hd 1), .ref (hd 6), .int (zi la), .ref (hd 7), .int (zi cl), .int (zi 0), .ref (hd 8)])), ((hd 1), .inl (zca G, 4, .inr (.inr (.inr (.inr (fun q => some (hd (2 + q)))))))), ((hd 2), .inl (zci G, 6, .inl (fun j => zi ((C 0) j)))), ((hd 3), .inl (zci G, 6, .inl (fun j => zi ((C 1) j)))), ((hd 4), .inl (zci G, 6, .inl (fun j => zi ((C 2) j)))), ((hd 5), .inl (zci G, 4, .inl (fun j => zi ((C 3) j)))), ((hd 6), .inl (zca G, n, .inr (.inr (.inr (.inr (fun q => some (hr q)))))))] ++ (zrw G hr R n ++ zpic G ad X)) H := hP
  have hD : va_D A ([((hd 0), .inr (8, [.ref (ad 52), .ref (zsb G), .int (zi (dr : Int)), .ref (hd 1), .ref (hd 6), .int (zi la), .ref (hd 7), .int (zi cl), .int (zi 0), .ref (hd 8)])), ((hd 1), .inl (zca G, 4, .inr (.inr (.inr (.inr (fun q => some (hd (2 + q)))))))), ((hd 2), .inl (zci G, 6, .inl (fun j => zi ((C 0) j)))), ((hd 3), .inl (zci G, 6, .inl (fun j => zi ((C 1) j)))), ((hd 4), .inl (zci G, 6, .inl (fun j => zi ((C 2) j)))), ((hd 5), .inl (zci G, 4, .inl (fun j => zi ((C 3) j)))), ((hd 6), .inl (zca G, n, .inr (.inr (.inr (.inr (fun q => some (hr q)))))))] ++ (zrw G hr R n ++ zpic G ad X)) := hD
  refine W.eq (g2 := F0 m 50 ls [.int (zi (zPn f : Int)), .ref (hd 0), .int (zi (2 + (2 * (f : Int)))), .ref (hr r)]) rfl ?_
  obtain ⟨nd1, hnd1⟩ : ∃ z : Nat, ((zPn f : Int) : Int) = (z : Int) := ⟨((zPn f : Int) : Int).toNat, by omega⟩
  refine zti (v := zi (nd1 : Int)) (congrArg zi hnd1) ?_
  refine zcall (wr := []) (wc := [((hd 0), .inr (8, [.ref (ad 52), .ref (zsb G), .int (zi (dr : Int)), .ref (hd 1), .ref (hd 6), .int (zi la), .ref (hd 7), .int (zi cl), .int (zi 0), .ref (hd 8)])), ((hd 1), .inl (zca G, 4, .inr (.inr (.inr (.inr (fun q => some (hd (2 + q)))))))), ((hd 2), .inl (zci G, 6, .inl (fun j => zi ((C 0) j)))), ((hd 3), .inl (zci G, 6, .inl (fun j => zi ((C 1) j)))), ((hd 4), .inl (zci G, 6, .inl (fun j => zi ((C 2) j)))), ((hd 5), .inl (zci G, 4, .inl (fun j => zi ((C 3) j)))), ((hd 6), .inl (zca G, n, .inr (.inr (.inr (.inr (fun q => some (hr q)))))))] ++ (zrw G hr R n ++ zpic G ad X)) (va_runV (As := [.int (zi (nd1 : Int))]) (rest := [.int (zi (2 + (2 * (f : Int)))), .ref (hr r)]) ⟨hx, hb, hml, hown, hts⟩ (k_X8_draw l G ([((hd 0), .inr (8, [.ref (ad 52), .ref (zsb G), .int (zi (dr : Int)), .ref (hd 1), .ref (hd 6), .int (zi la), .ref (hd 7), .int (zi cl), .int (zi 0), .ref (hd 8)])), ((hd 1), .inl (zca G, 4, .inr (.inr (.inr (.inr (fun q => some (hd (2 + q)))))))), ((hd 2), .inl (zci G, 6, .inl (fun j => zi ((C 0) j)))), ((hd 3), .inl (zci G, 6, .inl (fun j => zi ((C 1) j)))), ((hd 4), .inl (zci G, 6, .inl (fun j => zi ((C 2) j)))), ((hd 5), .inl (zci G, 4, .inl (fun j => zi ((C 3) j)))), ((hd 6), .inl (zca G, n, .inr (.inr (.inr (.inr (fun q => some (hr q)))))))] ++ (zrw G hr R n ++ zpic G ad X)) 0 (hd 0) (.ref (ad 52)) (dr) (.ref (hd 1)) (.ref (hd 6)) (.int (zi la)) (.ref (hd 7)) (.int (zi cl)) (.int (zi 0)) (.ref (hd 8)) nd1 rfl hsl (by omega) (by omega) H.size) (cwV 1 hts gX8_narrow_X8_draw rfl rfl rfl (by decide +kernel) ⟨Nat.le_of_ble_eq_true rfl, Nat.le_of_ble_eq_true rfl⟩) (zPreV (As := [.int (zi (nd1 : Int))]) (wr := []) (wc := [((hd 0), .inr (8, [.ref (ad 52), .ref (zsb G), .int (zi (dr : Int)), .ref (hd 1), .ref (hd 6), .int (zi la), .ref (hd 7), .int (zi cl), .int (zi 0), .ref (hd 8)])), ((hd 1), .inl (zca G, 4, .inr (.inr (.inr (.inr (fun q => some (hd (2 + q)))))))), ((hd 2), .inl (zci G, 6, .inl (fun j => zi ((C 0) j)))), ((hd 3), .inl (zci G, 6, .inl (fun j => zi ((C 1) j)))), ((hd 4), .inl (zci G, 6, .inl (fun j => zi ((C 2) j)))), ((hd 5), .inl (zci G, 4, .inl (fun j => zi ((C 3) j)))), ((hd 6), .inl (zca G, n, .inr (.inr (.inr (.inr (fun q => some (hr q)))))))] ++ (zrw G hr R n ++ zpic G ad X)) (q0 := 0) (ci := 8) (q := (RX8, TX8, 10)) hP hD hE hS hA rfl rfl) rfl rfl hl.1 rfl (lv_room (Nat.le_of_ble_eq_true rfl)) dX8_narrow_50 ⟨Nat.le_of_ble_eq_true rfl, Nat.le_of_ble_eq_true rfl⟩) hP hD hS hA (fun _ _ H locs hf9 hP hD hS => ?_)
  obtain ⟨v1, rfl, hv1, hw9⟩ := hf9
  rw [hw9] at hP hD
  have hP : va_P G.1 vwCl ([((hd 0), .inr (8, [.ref (ad 52), .ref (zsb G), .int (zi ((dr + 1 : Nat) : Int)), .ref (hd 1), .ref (hd 6), .int (zi la), .ref (hd 7), .int (zi cl), .int (zi 0), .ref (hd 8)])), ((hd 1), .inl (zca G, 4, .inr (.inr (.inr (.inr (fun q => some (hd (2 + q)))))))), ((hd 2), .inl (zci G, 6, .inl (fun j => zi ((C 0) j)))), ((hd 3), .inl (zci G, 6, .inl (fun j => zi ((C 1) j)))), ((hd 4), .inl (zci G, 6, .inl (fun j => zi ((C 2) j)))), ((hd 5), .inl (zci G, 4, .inl (fun j => zi ((C 3) j)))), ((hd 6), .inl (zca G, n, .inr (.inr (.inr (.inr (fun q => some (hr q)))))))] ++ (zrw G hr R n ++ zpic G ad X)) H := hP
  have hD : va_D A ([((hd 0), .inr (8, [.ref (ad 52), .ref (zsb G), .int (zi ((dr + 1 : Nat) : Int)), .ref (hd 1), .ref (hd 6), .int (zi la), .ref (hd 7), .int (zi cl), .int (zi 0), .ref (hd 8)])), ((hd 1), .inl (zca G, 4, .inr (.inr (.inr (.inr (fun q => some (hd (2 + q)))))))), ((hd 2), .inl (zci G, 6, .inl (fun j => zi ((C 0) j)))), ((hd 3), .inl (zci G, 6, .inl (fun j => zi ((C 1) j)))), ((hd 4), .inl (zci G, 6, .inl (fun j => zi ((C 2) j)))), ((hd 5), .inl (zci G, 4, .inl (fun j => zi ((C 3) j)))), ((hd 6), .inl (zca G, n, .inr (.inr (.inr (.inr (fun q => some (hr q)))))))] ++ (zrw G hr R n ++ zpic G ad X)) := hD
  refine W.eq (g2 := F0 m 53 ls [.int (zi v1), .int (zi (2 + (2 * (f : Int)))), .ref (hr r)]) rfl ?_
  refine zistR hx hb hE hP hD hS rfl hr1 (2 + 2 * f) (by omega) (by omega) dX8_narrow_53 (fun H locs hP hD hS => ?_)
  have hP : va_P G.1 vwCl ([((hd 0), .inr (8, [.ref (ad 52), .ref (zsb G), .int (zi ((dr + 1 : Nat) : Int)), .ref (hd 1), .ref (hd 6), .int (zi la), .ref (hd 7), .int (zi cl), .int (zi 0), .ref (hd 8)])), ((hd 1), .inl (zca G, 4, .inr (.inr (.inr (.inr (fun q => some (hd (2 + q)))))))), ((hd 2), .inl (zci G, 6, .inl (fun j => zi ((C 0) j)))), ((hd 3), .inl (zci G, 6, .inl (fun j => zi ((C 1) j)))), ((hd 4), .inl (zci G, 6, .inl (fun j => zi ((C 2) j)))), ((hd 5), .inl (zci G, 4, .inl (fun j => zi ((C 3) j)))), ((hd 6), .inl (zca G, n, .inr (.inr (.inr (.inr (fun q => some (hr q)))))))] ++ (zrw G hr (zupR R r (2 + 2 * f) v1) n ++ zpic G ad X)) H := hP
  have hD : va_D A ([((hd 0), .inr (8, [.ref (ad 52), .ref (zsb G), .int (zi ((dr + 1 : Nat) : Int)), .ref (hd 1), .ref (hd 6), .int (zi la), .ref (hd 7), .int (zi cl), .int (zi 0), .ref (hd 8)])), ((hd 1), .inl (zca G, 4, .inr (.inr (.inr (.inr (fun q => some (hd (2 + q)))))))), ((hd 2), .inl (zci G, 6, .inl (fun j => zi ((C 0) j)))), ((hd 3), .inl (zci G, 6, .inl (fun j => zi ((C 1) j)))), ((hd 4), .inl (zci G, 6, .inl (fun j => zi ((C 2) j)))), ((hd 5), .inl (zci G, 4, .inl (fun j => zi ((C 3) j)))), ((hd 6), .inl (zca G, n, .inr (.inr (.inr (.inr (fun q => some (hr q)))))))] ++ (zrw G hr (zupR R r (2 + 2 * f) v1) n ++ zpic G ad X)) := hD
  refine lv_aload_n hx hb dX8_narrow_54 rfl (lv_at hl 1 rfl) ?_
  refine lv_iconst (v := zi 3) hx hb dX8_narrow_55 rfl ?_
  refine lv_iconst (v := zi 2) hx hb dX8_narrow_56 rfl ?_
  refine lv_iload_n hx hb dX8_narrow_57 rfl (lv_at hl 4 rfl) ?_
  refine lv_imul hx hb dX8_narrow_58 (zti (v := zi (2 * (f : Int))) (zi_mul _ _) ?_)
  refine lv_iadd hx hb dX8_narrow_59 (zti (v := zi (3 + (2 * (f : Int)))) (zi_add _ _) ?_)
  refine lv_aload_n hx hb dX8_narrow_60 rfl (lv_at hl 1 rfl) ?_
  refine lv_iconst (v := zi 2) hx hb dX8_narrow_61 rfl ?_
  refine lv_iconst (v := zi 2) hx hb dX8_narrow_62 rfl ?_
  refine lv_iload_n hx hb dX8_narrow_63 rfl (lv_at hl 4 rfl) ?_
  refine lv_imul hx hb dX8_narrow_64 (zti (v := zi (2 * (f : Int))) (zi_mul _ _) ?_)
  refine lv_iadd hx hb dX8_narrow_65 (zti (v := zi (2 + (2 * (f : Int)))) (zi_add _ _) ?_)
  refine zildL hx hb hE hP (7 + r) (zplace rfl (zrw_at hr1)) (2 + 2 * f) (by omega) (by omega) (by omega) dX8_narrow_66 ?_
  refine zti (v := zi v1) (congrArg zi (by simp [zupR, zup])) ?_
  refine lv_iconst (v := zi 1) hx hb dX8_narrow_67 rfl ?_
  refine lv_iadd hx hb dX8_narrow_68 (zti (v := zi (v1 + 1)) (zi_add _ _) ?_)
  refine lv_aload_n hx hb dX8_narrow_69 rfl (lv_at hl 2 rfl) ?_
  refine lv_aload_n hx hb dX8_narrow_70 rfl (lv_at hl 2 rfl) ?_
  refine lv_iload_n hx hb dX8_narrow_71 rfl (lv_at hl 4 rfl) ?_
  refine zcall (wr := []) (wc := [((hd 0), .inr (8, [.ref (ad 52), .ref (zsb G), .int (zi ((dr + 1 : Nat) : Int)), .ref (hd 1), .ref (hd 6), .int (zi la), .ref (hd 7), .int (zi cl), .int (zi 0), .ref (hd 8)])), ((hd 1), .inl (zca G, 4, .inr (.inr (.inr (.inr (fun q => some (hd (2 + q)))))))), ((hd 2), .inl (zci G, 6, .inl (fun j => zi ((C 0) j)))), ((hd 3), .inl (zci G, 6, .inl (fun j => zi ((C 1) j)))), ((hd 4), .inl (zci G, 6, .inl (fun j => zi ((C 2) j)))), ((hd 5), .inl (zci G, 4, .inl (fun j => zi ((C 3) j)))), ((hd 6), .inl (zca G, n, .inr (.inr (.inr (.inr (fun q => some (hr q)))))))] ++ (zrw G hr (zupR R r (2 + 2 * f) v1) n ++ zpic G ad X)) (va_runV (As := [.int (zi (f : Int))]) (rest := [.ref (hd 0), .int (zi (v1 + 1)), .int (zi (3 + (2 * (f : Int)))), .ref (hr r)]) ⟨hx, hb, hml, hown, hts⟩ (k_X8_pieces l G ([((hd 0), .inr (8, [.ref (ad 52), .ref (zsb G), .int (zi ((dr + 1 : Nat) : Int)), .ref (hd 1), .ref (hd 6), .int (zi la), .ref (hd 7), .int (zi cl), .int (zi 0), .ref (hd 8)])), ((hd 1), .inl (zca G, 4, .inr (.inr (.inr (.inr (fun q => some (hd (2 + q)))))))), ((hd 2), .inl (zci G, 6, .inl (fun j => zi ((C 0) j)))), ((hd 3), .inl (zci G, 6, .inl (fun j => zi ((C 1) j)))), ((hd 4), .inl (zci G, 6, .inl (fun j => zi ((C 2) j)))), ((hd 5), .inl (zci G, 4, .inl (fun j => zi ((C 3) j)))), ((hd 6), .inl (zca G, n, .inr (.inr (.inr (.inr (fun q => some (hr q)))))))] ++ (zrw G hr (zupR R r (2 + 2 * f) v1) n ++ zpic G ad X)) 0 (hd 0) (.ref (ad 52)) (.ref (zsb G)) (.int (zi ((dr + 1 : Nat) : Int))) (hd 1) (.ref (hd 6)) (.int (zi la)) (.ref (hd 7)) (.int (zi cl)) (.int (zi 0)) (.ref (hd 8)) 1 (fun q => some (hd (2 + q))) f (hd (2 + f)) (2 + f) (zPn f) (C f) rfl hf rfl rfl (zpcut hf) H.size) (cwV 1 hts gX8_narrow_X8_pieces rfl rfl rfl (by decide +kernel) ⟨Nat.le_of_ble_eq_true rfl, Nat.le_of_ble_eq_true rfl⟩) (zPreV (As := [.int (zi (f : Int))]) (wr := []) (wc := [((hd 0), .inr (8, [.ref (ad 52), .ref (zsb G), .int (zi ((dr + 1 : Nat) : Int)), .ref (hd 1), .ref (hd 6), .int (zi la), .ref (hd 7), .int (zi cl), .int (zi 0), .ref (hd 8)])), ((hd 1), .inl (zca G, 4, .inr (.inr (.inr (.inr (fun q => some (hd (2 + q)))))))), ((hd 2), .inl (zci G, 6, .inl (fun j => zi ((C 0) j)))), ((hd 3), .inl (zci G, 6, .inl (fun j => zi ((C 1) j)))), ((hd 4), .inl (zci G, 6, .inl (fun j => zi ((C 2) j)))), ((hd 5), .inl (zci G, 4, .inl (fun j => zi ((C 3) j)))), ((hd 6), .inl (zca G, n, .inr (.inr (.inr (.inr (fun q => some (hr q)))))))] ++ (zrw G hr (zupR R r (2 + 2 * f) v1) n ++ zpic G ad X)) (q0 := 0) (ci := 8) (q := (RX8, TX8, 10)) hP hD hE hS hA rfl rfl) rfl rfl hl.1 rfl (lv_room (Nat.le_of_ble_eq_true rfl)) dX8_narrow_72 ⟨Nat.le_of_ble_eq_true rfl, Nat.le_of_ble_eq_true rfl⟩) hP hD hS hA (fun _ _ H locs hf9 hP hD hS => ?_)
  obtain ⟨rfl, hw9⟩ := hf9
  rw [hw9] at hP hD
  have hP : va_P G.1 vwCl ([((hd 0), .inr (8, [.ref (ad 52), .ref (zsb G), .int (zi ((dr + 1 : Nat) : Int)), .ref (hd 1), .ref (hd 6), .int (zi la), .ref (hd 7), .int (zi cl), .int (zi 0), .ref (hd 8)])), ((hd 1), .inl (zca G, 4, .inr (.inr (.inr (.inr (fun q => some (hd (2 + q)))))))), ((hd 2), .inl (zci G, 6, .inl (fun j => zi ((C 0) j)))), ((hd 3), .inl (zci G, 6, .inl (fun j => zi ((C 1) j)))), ((hd 4), .inl (zci G, 6, .inl (fun j => zi ((C 2) j)))), ((hd 5), .inl (zci G, 4, .inl (fun j => zi ((C 3) j)))), ((hd 6), .inl (zca G, n, .inr (.inr (.inr (.inr (fun q => some (hr q)))))))] ++ (zrw G hr (zupR R r (2 + 2 * f) v1) n ++ zpic G ad X)) H := hP
  have hD : va_D A ([((hd 0), .inr (8, [.ref (ad 52), .ref (zsb G), .int (zi ((dr + 1 : Nat) : Int)), .ref (hd 1), .ref (hd 6), .int (zi la), .ref (hd 7), .int (zi cl), .int (zi 0), .ref (hd 8)])), ((hd 1), .inl (zca G, 4, .inr (.inr (.inr (.inr (fun q => some (hd (2 + q)))))))), ((hd 2), .inl (zci G, 6, .inl (fun j => zi ((C 0) j)))), ((hd 3), .inl (zci G, 6, .inl (fun j => zi ((C 1) j)))), ((hd 4), .inl (zci G, 6, .inl (fun j => zi ((C 2) j)))), ((hd 5), .inl (zci G, 4, .inl (fun j => zi ((C 3) j)))), ((hd 6), .inl (zca G, n, .inr (.inr (.inr (.inr (fun q => some (hr q)))))))] ++ (zrw G hr (zupR R r (2 + 2 * f) v1) n ++ zpic G ad X)) := hD
  refine W.eq (g2 := F0 m 75 ls [.int (zi (zPn f : Int)), .ref (hd 0), .int (zi (v1 + 1)), .int (zi (3 + (2 * (f : Int)))), .ref (hr r)]) rfl ?_
  refine lv_aload_n hx hb dX8_narrow_75 rfl (lv_at hl 1 rfl) ?_
  refine lv_iconst (v := zi 2) hx hb dX8_narrow_76 rfl ?_
  refine lv_iconst (v := zi 2) hx hb dX8_narrow_77 rfl ?_
  refine lv_iload_n hx hb dX8_narrow_78 rfl (lv_at hl 4 rfl) ?_
  refine lv_imul hx hb dX8_narrow_79 (zti (v := zi (2 * (f : Int))) (zi_mul _ _) ?_)
  refine lv_iadd hx hb dX8_narrow_80 (zti (v := zi (2 + (2 * (f : Int)))) (zi_add _ _) ?_)
  refine zildL hx hb hE hP (7 + r) (zplace rfl (zrw_at hr1)) (2 + 2 * f) (by omega) (by omega) (by omega) dX8_narrow_81 ?_
  refine zti (v := zi v1) (congrArg zi (by simp [zupR, zup])) ?_
  refine lv_isub hx hb dX8_narrow_82 (zti (v := zi ((zPn f : Int) - v1)) (zi_sub _ _) ?_)
  obtain ⟨nd2, hnd2⟩ : ∃ z : Nat, ((zPn f : Int) - v1 : Int) = (z : Int) := ⟨((zPn f : Int) - v1 : Int).toNat, by omega⟩
  refine zti (v := zi (nd2 : Int)) (congrArg zi hnd2) ?_
  refine zcall (wr := []) (wc := [((hd 0), .inr (8, [.ref (ad 52), .ref (zsb G), .int (zi ((dr + 1 : Nat) : Int)), .ref (hd 1), .ref (hd 6), .int (zi la), .ref (hd 7), .int (zi cl), .int (zi 0), .ref (hd 8)])), ((hd 1), .inl (zca G, 4, .inr (.inr (.inr (.inr (fun q => some (hd (2 + q)))))))), ((hd 2), .inl (zci G, 6, .inl (fun j => zi ((C 0) j)))), ((hd 3), .inl (zci G, 6, .inl (fun j => zi ((C 1) j)))), ((hd 4), .inl (zci G, 6, .inl (fun j => zi ((C 2) j)))), ((hd 5), .inl (zci G, 4, .inl (fun j => zi ((C 3) j)))), ((hd 6), .inl (zca G, n, .inr (.inr (.inr (.inr (fun q => some (hr q)))))))] ++ (zrw G hr (zupR R r (2 + 2 * f) v1) n ++ zpic G ad X)) (va_runV (As := [.int (zi (nd2 : Int))]) (rest := [.int (zi (v1 + 1)), .int (zi (3 + (2 * (f : Int)))), .ref (hr r)]) ⟨hx, hb, hml, hown, hts⟩ (k_X8_draw l G ([((hd 0), .inr (8, [.ref (ad 52), .ref (zsb G), .int (zi ((dr + 1 : Nat) : Int)), .ref (hd 1), .ref (hd 6), .int (zi la), .ref (hd 7), .int (zi cl), .int (zi 0), .ref (hd 8)])), ((hd 1), .inl (zca G, 4, .inr (.inr (.inr (.inr (fun q => some (hd (2 + q)))))))), ((hd 2), .inl (zci G, 6, .inl (fun j => zi ((C 0) j)))), ((hd 3), .inl (zci G, 6, .inl (fun j => zi ((C 1) j)))), ((hd 4), .inl (zci G, 6, .inl (fun j => zi ((C 2) j)))), ((hd 5), .inl (zci G, 4, .inl (fun j => zi ((C 3) j)))), ((hd 6), .inl (zca G, n, .inr (.inr (.inr (.inr (fun q => some (hr q)))))))] ++ (zrw G hr (zupR R r (2 + 2 * f) v1) n ++ zpic G ad X)) 0 (hd 0) (.ref (ad 52)) ((dr + 1 : Nat)) (.ref (hd 1)) (.ref (hd 6)) (.int (zi la)) (.ref (hd 7)) (.int (zi cl)) (.int (zi 0)) (.ref (hd 8)) nd2 rfl hsl (by omega) (by omega) H.size) (cwV 1 hts gX8_narrow_X8_draw rfl rfl rfl (by decide +kernel) ⟨Nat.le_of_ble_eq_true rfl, Nat.le_of_ble_eq_true rfl⟩) (zPreV (As := [.int (zi (nd2 : Int))]) (wr := []) (wc := [((hd 0), .inr (8, [.ref (ad 52), .ref (zsb G), .int (zi ((dr + 1 : Nat) : Int)), .ref (hd 1), .ref (hd 6), .int (zi la), .ref (hd 7), .int (zi cl), .int (zi 0), .ref (hd 8)])), ((hd 1), .inl (zca G, 4, .inr (.inr (.inr (.inr (fun q => some (hd (2 + q)))))))), ((hd 2), .inl (zci G, 6, .inl (fun j => zi ((C 0) j)))), ((hd 3), .inl (zci G, 6, .inl (fun j => zi ((C 1) j)))), ((hd 4), .inl (zci G, 6, .inl (fun j => zi ((C 2) j)))), ((hd 5), .inl (zci G, 4, .inl (fun j => zi ((C 3) j)))), ((hd 6), .inl (zca G, n, .inr (.inr (.inr (.inr (fun q => some (hr q)))))))] ++ (zrw G hr (zupR R r (2 + 2 * f) v1) n ++ zpic G ad X)) (q0 := 0) (ci := 8) (q := (RX8, TX8, 10)) hP hD hE hS hA rfl rfl) rfl rfl hl.1 rfl (lv_room (Nat.le_of_ble_eq_true rfl)) dX8_narrow_83 ⟨Nat.le_of_ble_eq_true rfl, Nat.le_of_ble_eq_true rfl⟩) hP hD hS hA (fun _ _ H locs hf9 hP hD hS => ?_)
  obtain ⟨v2, rfl, hv2, hw9⟩ := hf9
  rw [hw9] at hP hD
  have hP : va_P G.1 vwCl ([((hd 0), .inr (8, [.ref (ad 52), .ref (zsb G), .int (zi ((dr + 2 : Nat) : Int)), .ref (hd 1), .ref (hd 6), .int (zi la), .ref (hd 7), .int (zi cl), .int (zi 0), .ref (hd 8)])), ((hd 1), .inl (zca G, 4, .inr (.inr (.inr (.inr (fun q => some (hd (2 + q)))))))), ((hd 2), .inl (zci G, 6, .inl (fun j => zi ((C 0) j)))), ((hd 3), .inl (zci G, 6, .inl (fun j => zi ((C 1) j)))), ((hd 4), .inl (zci G, 6, .inl (fun j => zi ((C 2) j)))), ((hd 5), .inl (zci G, 4, .inl (fun j => zi ((C 3) j)))), ((hd 6), .inl (zca G, n, .inr (.inr (.inr (.inr (fun q => some (hr q)))))))] ++ (zrw G hr (zupR R r (2 + 2 * f) v1) n ++ zpic G ad X)) H := hP
  have hD : va_D A ([((hd 0), .inr (8, [.ref (ad 52), .ref (zsb G), .int (zi ((dr + 2 : Nat) : Int)), .ref (hd 1), .ref (hd 6), .int (zi la), .ref (hd 7), .int (zi cl), .int (zi 0), .ref (hd 8)])), ((hd 1), .inl (zca G, 4, .inr (.inr (.inr (.inr (fun q => some (hd (2 + q)))))))), ((hd 2), .inl (zci G, 6, .inl (fun j => zi ((C 0) j)))), ((hd 3), .inl (zci G, 6, .inl (fun j => zi ((C 1) j)))), ((hd 4), .inl (zci G, 6, .inl (fun j => zi ((C 2) j)))), ((hd 5), .inl (zci G, 4, .inl (fun j => zi ((C 3) j)))), ((hd 6), .inl (zca G, n, .inr (.inr (.inr (.inr (fun q => some (hr q)))))))] ++ (zrw G hr (zupR R r (2 + 2 * f) v1) n ++ zpic G ad X)) := hD
  refine W.eq (g2 := F0 m 86 ls [.int (zi v2), .int (zi (v1 + 1)), .int (zi (3 + (2 * (f : Int)))), .ref (hr r)]) rfl ?_
  refine lv_iadd hx hb dX8_narrow_86 (zti (v := zi ((v1 + 1) + v2)) (zi_add _ _) ?_)
  refine zistR hx hb hE hP hD hS rfl hr1 (3 + 2 * f) (by omega) (by omega) dX8_narrow_87 (fun H locs hP hD hS => ?_)
  have hP : va_P G.1 vwCl ([((hd 0), .inr (8, [.ref (ad 52), .ref (zsb G), .int (zi ((dr + 2 : Nat) : Int)), .ref (hd 1), .ref (hd 6), .int (zi la), .ref (hd 7), .int (zi cl), .int (zi 0), .ref (hd 8)])), ((hd 1), .inl (zca G, 4, .inr (.inr (.inr (.inr (fun q => some (hd (2 + q)))))))), ((hd 2), .inl (zci G, 6, .inl (fun j => zi ((C 0) j)))), ((hd 3), .inl (zci G, 6, .inl (fun j => zi ((C 1) j)))), ((hd 4), .inl (zci G, 6, .inl (fun j => zi ((C 2) j)))), ((hd 5), .inl (zci G, 4, .inl (fun j => zi ((C 3) j)))), ((hd 6), .inl (zca G, n, .inr (.inr (.inr (.inr (fun q => some (hr q)))))))] ++ (zrw G hr (zupR (zupR R r (2 + 2 * f) v1) r (3 + 2 * f) ((v1 + 1) + v2)) n ++ zpic G ad X)) H := hP
  have hD : va_D A ([((hd 0), .inr (8, [.ref (ad 52), .ref (zsb G), .int (zi ((dr + 2 : Nat) : Int)), .ref (hd 1), .ref (hd 6), .int (zi la), .ref (hd 7), .int (zi cl), .int (zi 0), .ref (hd 8)])), ((hd 1), .inl (zca G, 4, .inr (.inr (.inr (.inr (fun q => some (hd (2 + q)))))))), ((hd 2), .inl (zci G, 6, .inl (fun j => zi ((C 0) j)))), ((hd 3), .inl (zci G, 6, .inl (fun j => zi ((C 1) j)))), ((hd 4), .inl (zci G, 6, .inl (fun j => zi ((C 2) j)))), ((hd 5), .inl (zci G, 4, .inl (fun j => zi ((C 3) j)))), ((hd 6), .inl (zca G, n, .inr (.inr (.inr (.inr (fun q => some (hr q)))))))] ++ (zrw G hr (zupR (zupR R r (2 + 2 * f) v1) r (3 + 2 * f) ((v1 + 1) + v2)) n ++ zpic G ad X)) := hD
  refine lv_aload_n hx hb dX8_narrow_88 rfl (lv_at hl 2 rfl) ?_
  refine va_get (D := G.1) (ci := 8) (v := .ref (ad 52)) (C := RX8) (T := TX8) (N := 10) hx hb hts hw8 hown hE.1 hP 0 rfl rfl 0 (by decide) hf10 (fun _ h9 => h9) rfl dX8_narrow_89 ?_
  refine lv_iload_n hx hb dX8_narrow_92 rfl (lv_at hl 3 rfl) ?_
  refine lv_iload_n hx hb dX8_narrow_93 rfl (lv_at hl 4 rfl) ?_
  refine lv_aload_n hx hb dX8_narrow_94 rfl (lv_at hl 2 rfl) ?_
  refine va_get (D := G.1) (ci := 8) (v := .ref (hd 1)) (C := RX8) (T := TX8) (N := 10) hx hb hts hw8 hown hE.1 hP 0 rfl rfl 3 (by decide) hf18 (fun _ h9 => h9) rfl dX8_narrow_95 ?_
  refine lv_iload_n hx hb dX8_narrow_98 rfl (lv_at hl 4 rfl) ?_
  refine zaldA hx hb hE hP 1 rfl (r := (hd (2 + f))) f rfl (by omega) (by omega) rfl dX8_narrow_99 ?_
  refine lv_aload_n hx hb dX8_narrow_100 rfl (lv_at hl 1 rfl) ?_
  refine lv_iconst (v := zi 2) hx hb dX8_narrow_101 rfl ?_
  refine lv_iconst (v := zi 2) hx hb dX8_narrow_102 rfl ?_
  refine lv_iload_n hx hb dX8_narrow_103 rfl (lv_at hl 4 rfl) ?_
  refine lv_imul hx hb dX8_narrow_104 (zti (v := zi (2 * (f : Int))) (zi_mul _ _) ?_)
  refine lv_iadd hx hb dX8_narrow_105 (zti (v := zi (2 + (2 * (f : Int)))) (zi_add _ _) ?_)
  refine zildL hx hb hE hP (7 + r) (zplace rfl (zrw_at hr1)) (2 + 2 * f) (by omega) (by omega) (by omega) dX8_narrow_106 ?_
  refine zti (v := zi v1) (congrArg zi (by simp [zupR, zup])) ?_
  refine zildL hx hb hE hP (2 + f) (zpcut hf) ((v1).toNat) (by omega) (by omega) (by omega) dX8_narrow_107 ?_
  refine lv_aload_n hx hb dX8_narrow_108 rfl (lv_at hl 2 rfl) ?_
  refine va_get (D := G.1) (ci := 8) (v := .ref (hd 1)) (C := RX8) (T := TX8) (N := 10) hx hb hts hw8 hown hE.1 hP 0 rfl rfl 3 (by decide) hf18 (fun _ h9 => h9) rfl dX8_narrow_109 ?_
  refine lv_iload_n hx hb dX8_narrow_112 rfl (lv_at hl 4 rfl) ?_
  refine zaldA hx hb hE hP 1 rfl (r := (hd (2 + f))) f rfl (by omega) (by omega) rfl dX8_narrow_113 ?_
  refine lv_aload_n hx hb dX8_narrow_114 rfl (lv_at hl 1 rfl) ?_
  refine lv_iconst (v := zi 3) hx hb dX8_narrow_115 rfl ?_
  refine lv_iconst (v := zi 2) hx hb dX8_narrow_116 rfl ?_
  refine lv_iload_n hx hb dX8_narrow_117 rfl (lv_at hl 4 rfl) ?_
  refine lv_imul hx hb dX8_narrow_118 (zti (v := zi (2 * (f : Int))) (zi_mul _ _) ?_)
  refine lv_iadd hx hb dX8_narrow_119 (zti (v := zi (3 + (2 * (f : Int)))) (zi_add _ _) ?_)
  refine zildL hx hb hE hP (7 + r) (zplace rfl (zrw_at hr1)) (3 + 2 * f) (by omega) (by omega) (by omega) dX8_narrow_120 ?_
  refine zti (v := zi ((v1 + 1) + v2)) (congrArg zi (by simp [zupR, zup])) ?_
  refine zildL hx hb hE hP (2 + f) (zpcut hf) (((v1 + 1) + v2).toNat) (by omega) (by omega) (by omega) dX8_narrow_121 ?_
  refine lv_iconst (v := zi 1) hx hb dX8_narrow_122 rfl ?_
  refine lv_isub hx hb dX8_narrow_123 (zti (v := zi ((C f (((v1 + 1) + v2).toNat)) - 1)) (zi_sub _ _) ?_)
  refine zcall (wr := ([((hd 0), .inr (8, [.ref (ad 52), .ref (zsb G), .int (zi ((dr + 2 : Nat) : Int)), .ref (hd 1), .ref (hd 6), .int (zi la), .ref (hd 7), .int (zi cl), .int (zi 0), .ref (hd 8)])), ((hd 1), .inl (zca G, 4, .inr (.inr (.inr (.inr (fun q => some (hd (2 + q)))))))), ((hd 2), .inl (zci G, 6, .inl (fun j => zi ((C 0) j)))), ((hd 3), .inl (zci G, 6, .inl (fun j => zi ((C 1) j)))), ((hd 4), .inl (zci G, 6, .inl (fun j => zi ((C 2) j)))), ((hd 5), .inl (zci G, 4, .inl (fun j => zi ((C 3) j)))), ((hd 6), .inl (zca G, n, .inr (.inr (.inr (.inr (fun q => some (hr q)))))))] ++ zrw G hr (zupR (zupR R r (2 + 2 * f) v1) r (3 + 2 * f) ((v1 + 1) + v2)) n)) (wc := zpic G ad X) (va_runV (As := [.int (zi (r : Int)), .int (zi (f : Int)), .int (zi (C f ((v1).toNat))), .int (zi ((C f (((v1 + 1) + v2).toNat)) - 1))]) (rest := []) ⟨hx, hb, hml, hown, hts⟩ (c_X7_narrow l G ad X r f (C f ((v1).toNat)) ((C f (((v1 + 1) + v2).toNat)) - 1) hI.1 (by omega) hf (by have b1 := hv.2.2.2.2.2.1.bd hf (v1).toNat (by omega); have b2 := hv.2.2.2.2.2.1.bd hf ((v1 + 1) + v2).toNat (by omega); have b3 := hv.2.2.2.2.2.1.mono hf (v1).toNat ((v1 + 1) + v2).toNat (by omega) (by omega); omega) H.size) (cwV 4 hts gX8_narrow_X7_narrow rfl rfl rfl (by decide +kernel) ⟨Nat.le_of_ble_eq_true rfl, Nat.le_of_ble_eq_true rfl⟩) (zPreV (As := [.int (zi (r : Int)), .int (zi (f : Int)), .int (zi (C f ((v1).toNat))), .int (zi ((C f (((v1 + 1) + v2).toNat)) - 1))]) (wr := ([((hd 0), .inr (8, [.ref (ad 52), .ref (zsb G), .int (zi ((dr + 2 : Nat) : Int)), .ref (hd 1), .ref (hd 6), .int (zi la), .ref (hd 7), .int (zi cl), .int (zi 0), .ref (hd 8)])), ((hd 1), .inl (zca G, 4, .inr (.inr (.inr (.inr (fun q => some (hd (2 + q)))))))), ((hd 2), .inl (zci G, 6, .inl (fun j => zi ((C 0) j)))), ((hd 3), .inl (zci G, 6, .inl (fun j => zi ((C 1) j)))), ((hd 4), .inl (zci G, 6, .inl (fun j => zi ((C 2) j)))), ((hd 5), .inl (zci G, 4, .inl (fun j => zi ((C 3) j)))), ((hd 6), .inl (zca G, n, .inr (.inr (.inr (.inr (fun q => some (hr q)))))))] ++ zrw G hr (zupR (zupR R r (2 + 2 * f) v1) r (3 + 2 * f) ((v1 + 1) + v2)) n)) (wc := zpic G ad X) (q0 := 52) (ci := 7) (q := (RX7, TX7, 8)) hP hD hE hS hA rfl p_52) rfl rfl hl.1 rfl (lv_room (Nat.le_of_ble_eq_true rfl)) dX8_narrow_124 ⟨Nat.le_of_ble_eq_true rfl, Nat.le_of_ble_eq_true rfl⟩) hP hD hS hA (fun _ _ H locs hf9 hP hD hS => ?_)
  obtain ⟨v3, Y1, rfl, hv3, rfl⟩ := hf9
  have hP : va_P G.1 vwCl ([((hd 0), .inr (8, [.ref (ad 52), .ref (zsb G), .int (zi ((dr + 2 : Nat) : Int)), .ref (hd 1), .ref (hd 6), .int (zi la), .ref (hd 7), .int (zi cl), .int (zi 0), .ref (hd 8)])), ((hd 1), .inl (zca G, 4, .inr (.inr (.inr (.inr (fun q => some (hd (2 + q)))))))), ((hd 2), .inl (zci G, 6, .inl (fun j => zi ((C 0) j)))), ((hd 3), .inl (zci G, 6, .inl (fun j => zi ((C 1) j)))), ((hd 4), .inl (zci G, 6, .inl (fun j => zi ((C 2) j)))), ((hd 5), .inl (zci G, 4, .inl (fun j => zi ((C 3) j)))), ((hd 6), .inl (zca G, n, .inr (.inr (.inr (.inr (fun q => some (hr q)))))))] ++ (zrw G hr (zupR (zupR R r (2 + 2 * f) v1) r (3 + 2 * f) ((v1 + 1) + v2)) n ++ zpic G ad Y1)) H := hP
  have hD : va_D A ([((hd 0), .inr (8, [.ref (ad 52), .ref (zsb G), .int (zi ((dr + 2 : Nat) : Int)), .ref (hd 1), .ref (hd 6), .int (zi la), .ref (hd 7), .int (zi cl), .int (zi 0), .ref (hd 8)])), ((hd 1), .inl (zca G, 4, .inr (.inr (.inr (.inr (fun q => some (hd (2 + q)))))))), ((hd 2), .inl (zci G, 6, .inl (fun j => zi ((C 0) j)))), ((hd 3), .inl (zci G, 6, .inl (fun j => zi ((C 1) j)))), ((hd 4), .inl (zci G, 6, .inl (fun j => zi ((C 2) j)))), ((hd 5), .inl (zci G, 4, .inl (fun j => zi ((C 3) j)))), ((hd 6), .inl (zca G, n, .inr (.inr (.inr (.inr (fun q => some (hr q)))))))] ++ (zrw G hr (zupR (zupR R r (2 + 2 * f) v1) r (3 + 2 * f) ((v1 + 1) + v2)) n ++ zpic G ad Y1)) := hD
  refine W.eq (g2 := F0 m 127 ls [.int (zi v3)]) rfl ?_
  have hwas : v3 = C f (R r (3 + 2 * f)).toNat - C f (R r (2 + 2 * f)).toNat := by rw [hv3.1, hrf.2.2.2.2, hrf.2.2.2.1]; omega
  have hb1 := hv.2.2.2.2.2.1.bd hf (R r (3 + 2 * f)).toNat (by omega)
  have hb2 := hv.2.2.2.2.2.1.bd hf (R r (2 + 2 * f)).toNat (by omega)
  have hsf := zS_le f
  refine lv_iload hx hb dX8_narrow_127 (lv_at hl 0 rfl) ?_
  refine zc_ne (tgt := 136) hx hb dX8_narrow_129 (by decide) (by omega) (by omega) (fun h9 => by exfalso; omega) (fun h129 => ?_)
  refine lv_iconst (v := zi 1) hx hb dX8_narrow_132 rfl ?_
  refine lv_goto (tgt := 137) hx hb dX8_narrow_133 (by decide) ?_
  exact zend_z hx hb hr0 hlocks (by decide +kernel) hP hD hS (Nat.le_of_ble_eq_true rfl) (Nat.le_of_ble_eq_true rfl) dX8_narrow_137 ⟨rfl, hd, hr, Y1, dr + 2, la, cl, (zupR (zupR R r (2 + 2 * f) v1) r (3 + 2 * f) ((v1 + 1) + v2)), rfl, by omega, by rw [hv3.2]; exact hv.nar hr1 hf (i := v1) (j := (v1 + 1) + v2) (by omega) (by omega) (by omega) (fun q g => by rw [zupR_get, zupR_get]), rfl⟩
