/-! the law: one RULE, dead, covered -/
theorem dL_law_147 : decode cL_law 147 = .ok (.iload 15, 2) := by decide +kernel
theorem dL_law_149 : decode cL_law 149 = .ok (.aload_n 3, 1) := by decide +kernel
theorem dL_law_150 : decode cL_law 150 = .ok (.iload 13, 2) := by decide +kernel
theorem dL_law_152 : decode cL_law 152 = .ok (.iload 13, 2) := by decide +kernel
set_option maxRecDepth 20000 in
theorem ggL_law_X7_shared : GoodIn wsL_law wsX7_shared := goodIn_ca (goodIn_r _ [569, 36, 205, 146, 147, 148, 20, 149, 150, 151, 145, 570, 389, 390, 66, 391, 70, 392, 311, 9, 312, 71, 393, 8, 10, 637, 638, 639, 640, 641, 642, 643, 644, 645, 646, 647, 679, 680, 681, 682] (by decide +kernel) (by decide +kernel)) (goodIn_sub (fun _ h => List.mem_append_left _ (List.mem_append_left _ (List.mem_append_right _ h))) (by decide +kernel))
set_option maxRecDepth 20000 in
theorem gL_law_X7_shared : GoodIn wsL_law (wsV RL 46 RX7 yX7_shared wsX7_shared) := goodIn_app (goodIn_of _ (by decide +kernel)) ggL_law_X7_shared
theorem dL_law_154 : decode cL_law 154 = .ok (.invokevirtual 46, 3) := by decide +kernel
theorem dL_law_157 : decode cL_law 157 = .ok (.if_icmp .gt 87, 3) := by decide +kernel
theorem dL_law_160 : decode cL_law 160 = .ok (.iload 15, 2) := by decide +kernel
theorem dL_law_162 : decode cL_law 162 = .ok (.ifCond .ne 7, 3) := by decide +kernel
theorem dL_law_165 : decode cL_law 165 = .ok (.iconst 1, 1) := by decide +kernel
theorem dL_law_166 : decode cL_law 166 = .ok (.goto 4, 3) := by decide +kernel
theorem dL_law_170 : decode cL_law 170 = .ok (.iload 16, 2) := by decide +kernel
theorem dL_law_172 : decode cL_law 172 = .ok (.ifCond .le 13, 3) := by decide +kernel
theorem dL_law_175 : decode cL_law 175 = .ok (.iload 16, 2) := by decide +kernel
theorem dL_law_177 : decode cL_law 177 = .ok (.iconst 4, 1) := by decide +kernel
theorem dL_law_178 : decode cL_law 178 = .ok (.if_icmp .ge 7, 3) := by decide +kernel
theorem dL_law_181 : decode cL_law 181 = .ok (.iconst 1, 1) := by decide +kernel
theorem dL_law_182 : decode cL_law 182 = .ok (.goto 4, 3) := by decide +kernel
theorem dL_law_186 : decode cL_law 186 = .ok (.if_icmp .ne 58, 3) := by decide +kernel
theorem dL_law_169 : decode cL_law 169 = .ok (.iconst 0, 1) := by decide +kernel
theorem dL_law_185 : decode cL_law 185 = .ok (.iconst 0, 1) := by decide +kernel
theorem dL_law_189 : decode cL_law 189 = .ok (.aload_n 3, 1) := by decide +kernel
theorem dL_law_190 : decode cL_law 190 = .ok (.iload 13, 2) := by decide +kernel
set_option maxRecDepth 20000 in
theorem ggL_law_X7_coveredBy : GoodIn wsL_law wsX7_coveredBy := goodIn_ca (goodIn_r _ [366, 36, 146, 147, 148, 20, 149, 150, 151, 145, 355, 356, 357, 35, 358, 64, 331, 332, 333, 66, 334, 195, 359, 360, 361, 362, 70, 71, 637, 638, 639, 640, 641, 642, 643, 644, 645, 646, 647, 679, 680, 681, 682] (by decide +kernel) (by decide +kernel)) (goodIn_sub (fun _ h => List.mem_append_left _ (List.mem_append_left _ (List.mem_append_right _ h))) (by decide +kernel))
set_option maxRecDepth 20000 in
theorem gL_law_X7_coveredBy : GoodIn wsL_law (wsV RL 49 RX7 yX7_coveredBy wsX7_coveredBy) := goodIn_app (goodIn_of _ (by decide +kernel)) ggL_law_X7_coveredBy
theorem dL_law_192 : decode cL_law 192 = .ok (.invokevirtual 49, 3) := by decide +kernel
theorem dL_law_195 : decode cL_law 195 = .ok (.iload 13, 2) := by decide +kernel
theorem dL_law_197 : decode cL_law 197 = .ok (.if_icmp .ge 47, 3) := by decide +kernel
theorem dL_law_200 : decode cL_law 200 = .ok (.aload_n 3, 1) := by decide +kernel
theorem dL_law_201 : decode cL_law 201 = .ok (.iload 13, 2) := by decide +kernel
theorem dL_law_203 : decode cL_law 203 = .ok (.invokevirtual 49, 3) := by decide +kernel
theorem dL_law_206 : decode cL_law 206 = .ok (.ifCond .lt 15, 3) := by decide +kernel
theorem dL_law_209 : decode cL_law 209 = .ok (.iload 16, 2) := by decide +kernel
theorem dL_law_211 : decode cL_law 211 = .ok (.iconst 1, 1) := by decide +kernel
theorem dL_law_212 : decode cL_law 212 = .ok (.if_icmp .eq 9, 3) := by decide +kernel
theorem dL_law_215 : decode cL_law 215 = .ok (.iload 16, 2) := by decide +kernel
theorem dL_law_217 : decode cL_law 217 = .ok (.iconst 2, 1) := by decide +kernel
theorem dL_law_218 : decode cL_law 218 = .ok (.if_icmp .ne 26, 3) := by decide +kernel
/-- an equation that omega doesn't look into (what stands there counts PACKETS) -/
def zIs (a b : Int) : Prop := a = b
theorem zIs.eq {a b : Int} (h : zIs a b) : a = b := h
theorem zIs.ex (a : Int) : ∃ z : Int, zIs z a := ⟨a, Eq.refl a⟩
theorem zSt_c2 {X : Nat → Nat → Int} {a : Nat} {dd stt : Int} (hdd : zIs dd (zDc X a)) (hst : zIs stt (zSt X a)) : (dd = 0 ∧ stt = 1) ∨ (dd = 0 ∧ stt = 2) ∨ (dd = 0 ∧ stt = 3) ∨ (dd ≠ 0 ∧ stt = 4 ∧ zNm X a) ∨ (dd ≠ 0 ∧ stt = 0) := by
  rw [hdd.eq, hst.eq]
  rcases zSt_cases (X := X) a with ⟨a1, a2 | a2 | a2, -⟩ | ⟨a1, ⟨a2, a3⟩ | a2⟩
  · exact Or.inl ⟨a1, a2⟩
  · exact Or.inr (Or.inl ⟨a1, a2⟩)
  · exact Or.inr (Or.inr (Or.inl ⟨a1, a2⟩))
  · exact Or.inr (Or.inr (Or.inr (Or.inl ⟨a1, a2, a3⟩)))
  · exact Or.inr (Or.inr (Or.inr (Or.inr ⟨a1, a2⟩)))
theorem zSt_c3 {X : Nat → Nat → Int} {a : Nat} {stt v : Int} (hst : zIs stt (zSt X a)) (hV : zV X) (ha : a < zN X 0) (hw : v < (a : Int)) (h : zIsC X 0 a v) (h0 : 0 ≤ v) : stt = 1 ∨ stt = 2 := by
  have hd := zCvF_dead hV ha hw h h0
  have hf := h.f hw
  rw [hst.eq]
  rcases zSt_cases (X := X) a with ⟨-, -, a3⟩ | ⟨a1, -⟩
  · exact a3 (by rw [← hf]; exact h0)
  · exact absurd hd a1
theorem zDc_b2 {X : Nat → Nat → Int} {a : Nat} {dd : Int} (hdd : zIs dd (zDc X a)) : 0 ≤ dd ∧ dd ≤ 268435456 := by
  rw [hdd.eq]
  exact zDc_bd (X := X) a
theorem zDc_l2 {X : Nat → Nat → Int} {a : Nat} {dd v : Int} (hdd : zIs dd (zDc X a)) (hV : zV X) (ha : a < zN X 0) (hv : v = zAW X (zr X 0 a) (zr X 0 a)) : dd ≤ v := by
  rw [hdd.eq, hv]
  exact zDc_le hV ha
theorem zAll_b2 {X : Nat → Nat → Int} {r : Nat} {w : Int} (h : zIs w (zAll X r)) : 0 ≤ w ∧ w ≤ 268435456 := by
  rw [h.eq]
  exact ⟨zm_nn, zm_top⟩
theorem zAll_s2 {X : Nat → Nat → Int} {a : Nat} {stt w1 w2 : Int} (hst : zIs stt (zSt X a)) (hV : zV X) (ha : a < zN X 0) (h1 : zIs w1 (zAll X 255)) (h2 : zIs w2 (zAll X (255 - 2 ^ a))) (h : 0 < stt) : w2 = w1 := by
  rw [h1.eq, h2.eq]
  exact zAll_st hV ha (by rw [← hst.eq]; exact h)
theorem zAll_n2 {X : Nat → Nat → Int} {a : Nat} {vd w1 w2 : Int} (hV : zV X) (ha : a < 8) (hvd : vd = X (zr X 0 a) 0) (h1 : zIs w1 (zAll X 255)) (h2 : zIs w2 (zAll X (255 - 2 ^ a))) (h : vd = 2) : w2 = w1 := by
  rw [h1.eq, h2.eq]
  exact zAll_note hV ha (hvd.symm.trans h)

set_option maxHeartbeats 4000000 in
set_option maxRecDepth 100000 in
/-- decides and state -/
theorem law_rule2 {p : Program} {l : Launch} {e : Env} {s : State} {m : MethodId} {below : List Frame} {meth : Method} {c : Code} {A : Nat → Prop} {G : zG} {b : Nat} {Q : State → Prop} {cells slots : Nat} {H : Heap} {locs : List Loc} {ls : Array Slot} {wr : va_W} {ad : Nat → Nat} {X : Nat → Nat → Int} {tm st : Int} {g0 : Nat} {dg : Int64} {qu vd dd stt : Int} {a : Nat} (hx : p.tables.exec = Jvm.exec) (hb : c.code = cL_law) (hml : c.maxLocals = 19) (hown : s.vm.findClass RL = some m.cls) (hts : ∀ w ∈ wsL_law, w.before #[Value.ref b] s = true) (hA : ∀ q : Nat, s.heap.size ≤ q → A q) (hE : zZ G A s s.heap) (hc : cells ≤ 500000) (hn : slots ≤ 6000000) (hI : zI X) (hFr : zFr X) (ha : a < zN X 0) (hvd : vd = X (zr X 0 a) 0) (hdd : zIs dd (zDc X a)) (hst : zIs stt (zSt X a)) (hP : va_P G.1 vwCl (wr ++ zpic G ad X) H) (hD : va_D A (wr ++ zpic G ad X)) (hS : va_S A s.heap H locs) (hl : lv_has ls 19 [(0, .ref b), (1, .int (zi tm)), (2, .ref g0), (3, .ref (ad 52)), (4, .int (zi st)), (5, .long dg), (7, .long (zln (zSA X (a + 1)))), (9, .int (zi (zN X 0 : Int))), (10, .int (zi qu)), (11, .long (zln (zSW X (a + 1)))), (13, .int (zi (a : Int))), (14, .int (zi vd)), (15, .int (zi dd)), (16, .int (zi stt))])
    (kk : ∀ (H : Heap) (locs : List Loc) (ls : Array Slot), va_P G.1 vwCl (wr ++ zpic G ad X) H → va_D A (wr ++ zpic G ad X) → va_S A s.heap H locs → lv_has ls 19 [(0, .ref b), (1, .int (zi tm)), (2, .ref g0), (3, .ref (ad 52)), (4, .int (zi st)), (5, .long dg), (7, .long (zln (zSA X (a + 1)))), (9, .int (zi (zN X 0 : Int))), (10, .int (zi qu)), (11, .long (zln (zSW X (a + 1)))), (13, .int (zi (a : Int))), (14, .int (zi vd)), (15, .int (zi dd)), (16, .int (zi stt))] → W p l e room_1 s m #[Value.ref b] below meth c H locs cells slots Q (F0 m 189 ls [])) : W p l e room_1 s m #[Value.ref b] below meth c H locs cells slots Q (F0 m 147 ls []) := by
  have hn8 := hI.1.n (Or.inl rfl : zIsW 0)
  have hwa := hn8.1
  have hok := (hI.1.rok (hI.1.isR (Or.inl rfl : zIsW 0) (show a < 8 by omega))).1
  have hdb := zDc_b2 hdd
  have hdj := zSt_c2 hdd hst
  have hsb : 0 ≤ stt ∧ stt ≤ 4 := by rcases hdj with ⟨-, e⟩ | ⟨-, e⟩ | ⟨-, e⟩ | ⟨-, e, -⟩ | ⟨-, e⟩ <;> (rw [e]; decide)
  refine lv_iload hx hb dL_law_147 (lv_at hl 12 rfl) ?_
  refine lv_aload_n hx hb dL_law_149 rfl (lv_at hl 3 rfl) ?_
  refine lv_iload hx hb dL_law_150 (lv_at hl 10 rfl) ?_
  refine lv_iload hx hb dL_law_152 (lv_at hl 10 rfl) ?_
  refine zcall (wr := wr) (wc := zpic G ad X) (va_runV (As := [.int (zi (a : Int)), .int (zi (a : Int))]) (rest := [.int (zi dd)]) ⟨hx, hb, hml, hown, hts⟩ (c_X7_shared l G ad X a a hI.1 (by omega) (by omega) H.size) (cwV 2 hts gL_law_X7_shared rfl rfl rfl (by decide +kernel) ⟨Nat.le_of_ble_eq_true rfl, Nat.le_of_ble_eq_true rfl⟩) (zPreV (As := [.int (zi (a : Int)), .int (zi (a : Int))]) (wr := wr) (wc := zpic G ad X) (q0 := 52) (ci := 7) (q := (RX7, TX7, 8)) hP hD hE hS hA rfl p_52) rfl rfl hl.1 rfl (lv_room (Nat.le_of_ble_eq_true rfl)) dL_law_154 ⟨(by show _ ≤ 600104; omega), (by show _ ≤ 7301314; omega)⟩) hP hD hS hA (fun _ _ H locs hf9 hP hD hS => ?_)
  obtain ⟨v1, rfl, hv1, rfl⟩ := hf9
  have hP : va_P G.1 vwCl (wr ++ zpic G ad X) H := hP
  have hD : va_D A (wr ++ zpic G ad X) := hD
  refine W.eq (g2 := F0 m 157 ls [.int (zi v1), .int (zi dd)]) rfl ?_
  have kv := zDc_l2 hdd hI.1 ha hv1.1
  have kb := hv1.2
  clear hv1
  refine zc_gt (tgt := 244) hx hb dL_law_157 (by decide) (by omega) (by omega) (fun h9 => by exfalso; omega) (fun h157 => ?_)
  clear hsb hok
  rcases hdj with ⟨rfl, rfl⟩ | ⟨rfl, rfl⟩ | ⟨rfl, rfl⟩ | ⟨hz, rfl, -⟩ | ⟨hz, rfl⟩
  · refine lv_iload hx hb dL_law_160 (lv_at hl 12 rfl) ?_
    refine z0_ne (tgt := 169) hx hb dL_law_162 (by decide) (by decide) (fun h9 => absurd h9 (by decide)) (fun h162 => ?_)
    refine lv_iconst (v := zi 1) hx hb dL_law_165 rfl ?_
    refine lv_goto (tgt := 170) hx hb dL_law_166 (by decide) ?_
    refine lv_iload hx hb dL_law_170 (lv_at hl 13 rfl) ?_
    refine z0_le (tgt := 185) hx hb dL_law_172 (by decide) (by decide) (fun h9 => absurd h9 (by decide)) (fun h172 => ?_)
    refine lv_iload hx hb dL_law_175 (lv_at hl 13 rfl) ?_
    refine lv_iconst (v := zi 4) hx hb dL_law_177 rfl ?_
    refine zc_ge (tgt := 185) hx hb dL_law_178 (by decide) (by decide) (by decide) (fun h9 => absurd h9 (by decide)) (fun h178 => ?_)
    refine lv_iconst (v := zi 1) hx hb dL_law_181 rfl ?_
    refine lv_goto (tgt := 186) hx hb dL_law_182 (by decide) ?_
    refine zc_ne (tgt := 244) hx hb dL_law_186 (by decide) (by decide) (by decide) (fun h9 => absurd h9 (by decide)) (fun h186 => ?_)
    exact kk  H locs ls hP hD hS (lv_sub hl [0, 1, 2, 3, 4, 5, 6, 7, 8, 9, 10, 11, 12, 13] rfl)
  · refine lv_iload hx hb dL_law_160 (lv_at hl 12 rfl) ?_
    refine z0_ne (tgt := 169) hx hb dL_law_162 (by decide) (by decide) (fun h9 => absurd h9 (by decide)) (fun h162 => ?_)
    refine lv_iconst (v := zi 1) hx hb dL_law_165 rfl ?_
    refine lv_goto (tgt := 170) hx hb dL_law_166 (by decide) ?_
    refine lv_iload hx hb dL_law_170 (lv_at hl 13 rfl) ?_
    refine z0_le (tgt := 185) hx hb dL_law_172 (by decide) (by decide) (fun h9 => absurd h9 (by decide)) (fun h172 => ?_)
    refine lv_iload hx hb dL_law_175 (lv_at hl 13 rfl) ?_
    refine lv_iconst (v := zi 4) hx hb dL_law_177 rfl ?_
    refine zc_ge (tgt := 185) hx hb dL_law_178 (by decide) (by decide) (by decide) (fun h9 => absurd h9 (by decide)) (fun h178 => ?_)
    refine lv_iconst (v := zi 1) hx hb dL_law_181 rfl ?_
    refine lv_goto (tgt := 186) hx hb dL_law_182 (by decide) ?_
    refine zc_ne (tgt := 244) hx hb dL_law_186 (by decide) (by decide) (by decide) (fun h9 => absurd h9 (by decide)) (fun h186 => ?_)
    exact kk  H locs ls hP hD hS (lv_sub hl [0, 1, 2, 3, 4, 5, 6, 7, 8, 9, 10, 11, 12, 13] rfl)
  · refine lv_iload hx hb dL_law_160 (lv_at hl 12 rfl) ?_
    refine z0_ne (tgt := 169) hx hb dL_law_162 (by decide) (by decide) (fun h9 => absurd h9 (by decide)) (fun h162 => ?_)
    refine lv_iconst (v := zi 1) hx hb dL_law_165 rfl ?_
    refine lv_goto (tgt := 170) hx hb dL_law_166 (by decide) ?_
    refine lv_iload hx hb dL_law_170 (lv_at hl 13 rfl) ?_
    refine z0_le (tgt := 185) hx hb dL_law_172 (by decide) (by decide) (fun h9 => absurd h9 (by decide)) (fun h172 => ?_)
    refine lv_iload hx hb dL_law_175 (lv_at hl 13 rfl) ?_
    refine lv_iconst (v := zi 4) hx hb dL_law_177 rfl ?_
    refine zc_ge (tgt := 185) hx hb dL_law_178 (by decide) (by decide) (by decide) (fun h9 => absurd h9 (by decide)) (fun h178 => ?_)
    refine lv_iconst (v := zi 1) hx hb dL_law_181 rfl ?_
    refine lv_goto (tgt := 186) hx hb dL_law_182 (by decide) ?_
    refine zc_ne (tgt := 244) hx hb dL_law_186 (by decide) (by decide) (by decide) (fun h9 => absurd h9 (by decide)) (fun h186 => ?_)
    exact kk  H locs ls hP hD hS (lv_sub hl [0, 1, 2, 3, 4, 5, 6, 7, 8, 9, 10, 11, 12, 13] rfl)
  · refine lv_iload hx hb dL_law_160 (lv_at hl 12 rfl) ?_
    refine z0_ne (tgt := 169) hx hb dL_law_162 (by decide) (by omega) (fun h162 => ?_) (fun h9 => by exfalso; omega)
    refine lv_iconst (v := zi 0) hx hb dL_law_169 rfl ?_
    refine lv_iload hx hb dL_law_170 (lv_at hl 13 rfl) ?_
    refine z0_le (tgt := 185) hx hb dL_law_172 (by decide) (by decide) (fun h9 => absurd h9 (by decide)) (fun h172 => ?_)
    refine lv_iload hx hb dL_law_175 (lv_at hl 13 rfl) ?_
    refine lv_iconst (v := zi 4) hx hb dL_law_177 rfl ?_
    refine zc_ge (tgt := 185) hx hb dL_law_178 (by decide) (by decide) (by decide) (fun h178 => ?_) (fun h9 => absurd h9 (by decide))
    refine lv_iconst (v := zi 0) hx hb dL_law_185 rfl ?_
    refine zc_ne (tgt := 244) hx hb dL_law_186 (by decide) (by decide) (by decide) (fun h9 => absurd h9 (by decide)) (fun h186 => ?_)
    exact kk  H locs ls hP hD hS (lv_sub hl [0, 1, 2, 3, 4, 5, 6, 7, 8, 9, 10, 11, 12, 13] rfl)
  · refine lv_iload hx hb dL_law_160 (lv_at hl 12 rfl) ?_
    refine z0_ne (tgt := 169) hx hb dL_law_162 (by decide) (by omega) (fun h162 => ?_) (fun h9 => by exfalso; omega)
    refine lv_iconst (v := zi 0) hx hb dL_law_169 rfl ?_
    refine lv_iload hx hb dL_law_170 (lv_at hl 13 rfl) ?_
    refine z0_le (tgt := 185) hx hb dL_law_172 (by decide) (by decide) (fun h172 => ?_) (fun h9 => absurd h9 (by decide))
    refine lv_iconst (v := zi 0) hx hb dL_law_185 rfl ?_
    refine zc_ne (tgt := 244) hx hb dL_law_186 (by decide) (by decide) (by decide) (fun h9 => absurd h9 (by decide)) (fun h186 => ?_)
    exact kk  H locs ls hP hD hS (lv_sub hl [0, 1, 2, 3, 4, 5, 6, 7, 8, 9, 10, 11, 12, 13] rfl)

set_option maxHeartbeats 4000000 in
set_option maxRecDepth 100000 in
/-- covered -/
theorem law_rule3 {p : Program} {l : Launch} {e : Env} {s : State} {m : MethodId} {below : List Frame} {meth : Method} {c : Code} {A : Nat → Prop} {G : zG} {b : Nat} {Q : State → Prop} {cells slots : Nat} {H : Heap} {locs : List Loc} {ls : Array Slot} {wr : va_W} {ad : Nat → Nat} {X : Nat → Nat → Int} {tm st : Int} {g0 : Nat} {dg : Int64} {qu vd dd stt : Int} {a : Nat} (hx : p.tables.exec = Jvm.exec) (hb : c.code = cL_law) (hml : c.maxLocals = 19) (hown : s.vm.findClass RL = some m.cls) (hts : ∀ w ∈ wsL_law, w.before #[Value.ref b] s = true) (hA : ∀ q : Nat, s.heap.size ≤ q → A q) (hE : zZ G A s s.heap) (hc : cells ≤ 500000) (hn : slots ≤ 6000000) (hI : zI X) (hFr : zFr X) (ha : a < zN X 0) (hvd : vd = X (zr X 0 a) 0) (hdd : zIs dd (zDc X a)) (hst : zIs stt (zSt X a)) (hP : va_P G.1 vwCl (wr ++ zpic G ad X) H) (hD : va_D A (wr ++ zpic G ad X)) (hS : va_S A s.heap H locs) (hl : lv_has ls 19 [(0, .ref b), (1, .int (zi tm)), (2, .ref g0), (3, .ref (ad 52)), (4, .int (zi st)), (5, .long dg), (7, .long (zln (zSA X (a + 1)))), (9, .int (zi (zN X 0 : Int))), (10, .int (zi qu)), (11, .long (zln (zSW X (a + 1)))), (13, .int (zi (a : Int))), (14, .int (zi vd)), (15, .int (zi dd)), (16, .int (zi stt))])
    (kk : ∀ (H : Heap) (locs : List Loc) (ls : Array Slot), va_P G.1 vwCl (wr ++ zpic G ad X) H → va_D A (wr ++ zpic G ad X) → va_S A s.heap H locs → lv_has ls 19 [(0, .ref b), (1, .int (zi tm)), (2, .ref g0), (3, .ref (ad 52)), (4, .int (zi st)), (5, .long dg), (7, .long (zln (zSA X (a + 1)))), (9, .int (zi (zN X 0 : Int))), (10, .int (zi qu)), (11, .long (zln (zSW X (a + 1)))), (13, .int (zi (a : Int))), (14, .int (zi vd)), (15, .int (zi dd)), (16, .int (zi stt))] → W p l e room_1 s m #[Value.ref b] below meth c H locs cells slots Q (F0 m 221 ls [])) : W p l e room_1 s m #[Value.ref b] below meth c H locs cells slots Q (F0 m 189 ls []) := by
  have hn8 := hI.1.n (Or.inl rfl : zIsW 0)
  have hwa := hn8.1
  have hok := (hI.1.rok (hI.1.isR (Or.inl rfl : zIsW 0) (show a < 8 by omega))).1
  have hdb := zDc_b2 hdd
  have hdj := zSt_c2 hdd hst
  have hsb : 0 ≤ stt ∧ stt ≤ 4 := by rcases hdj with ⟨-, e⟩ | ⟨-, e⟩ | ⟨-, e⟩ | ⟨-, e, -⟩ | ⟨-, e⟩ <;> (rw [e]; decide)
  refine lv_aload_n hx hb dL_law_189 rfl (lv_at hl 3 rfl) ?_
  refine lv_iload hx hb dL_law_190 (lv_at hl 10 rfl) ?_
  refine zcall (wr := wr) (wc := zpic G ad X) (va_runV (As := [.int (zi (a : Int))]) (rest := []) ⟨hx, hb, hml, hown, hts⟩ (c_X7_coveredBy l G ad X a hI.1 (by omega) H.size) (cwV 1 hts gL_law_X7_coveredBy rfl rfl rfl (by decide +kernel) ⟨Nat.le_of_ble_eq_true rfl, Nat.le_of_ble_eq_true rfl⟩) (zPreV (As := [.int (zi (a : Int))]) (wr := wr) (wc := zpic G ad X) (q0 := 52) (ci := 7) (q := (RX7, TX7, 8)) hP hD hE hS hA rfl p_52) rfl rfl hl.1 rfl (lv_room (Nat.le_of_ble_eq_true rfl)) dL_law_192 ⟨(by show _ ≤ 600104; omega), (by show _ ≤ 7301314; omega)⟩) hP hD hS hA (fun _ _ H locs hf9 hP hD hS => ?_)
  obtain ⟨v1, rfl, hv1, rfl⟩ := hf9
  have hP : va_P G.1 vwCl (wr ++ zpic G ad X) H := hP
  have hD : va_D A (wr ++ zpic G ad X) := hD
  refine W.eq (g2 := F0 m 195 ls [.int (zi v1)]) rfl ?_
  refine lv_iload hx hb dL_law_195 (lv_at hl 10 rfl) ?_
  refine zc_ge (tgt := 244) hx hb dL_law_197 (by decide) (by omega) (by omega) (fun h9 => by exfalso; omega) (fun h197 => ?_)
  refine lv_aload_n hx hb dL_law_200 rfl (lv_at hl 3 rfl) ?_
  refine lv_iload hx hb dL_law_201 (lv_at hl 10 rfl) ?_
  refine zcall (wr := wr) (wc := zpic G ad X) (va_runV (As := [.int (zi (a : Int))]) (rest := []) ⟨hx, hb, hml, hown, hts⟩ (c_X7_coveredBy l G ad X a hI.1 (by omega) H.size) (cwV 1 hts gL_law_X7_coveredBy rfl rfl rfl (by decide +kernel) ⟨Nat.le_of_ble_eq_true rfl, Nat.le_of_ble_eq_true rfl⟩) (zPreV (As := [.int (zi (a : Int))]) (wr := wr) (wc := zpic G ad X) (q0 := 52) (ci := 7) (q := (RX7, TX7, 8)) hP hD hE hS hA rfl p_52) rfl rfl hl.1 rfl (lv_room (Nat.le_of_ble_eq_true rfl)) dL_law_203 ⟨(by show _ ≤ 600104; omega), (by show _ ≤ 7301314; omega)⟩) hP hD hS hA (fun _ _ H locs hf9 hP hD hS => ?_)
  obtain ⟨v2, rfl, hv2, rfl⟩ := hf9
  have hP : va_P G.1 vwCl (wr ++ zpic G ad X) H := hP
  have hD : va_D A (wr ++ zpic G ad X) := hD
  refine W.eq (g2 := F0 m 206 ls [.int (zi v2)]) rfl ?_
  have hs2 : 0 ≤ v2 → stt = 1 ∨ stt = 2 := zSt_c3 hst hI.1 ha hv2.2.1 hv2.2.2
  clear hdj
  refine z0_lt (tgt := 221) hx hb dL_law_206 (by decide) (by omega) (fun h206 => ?_) (fun h206 => ?_)
  · exact kk  H locs ls hP hD hS (lv_sub hl [0, 1, 2, 3, 4, 5, 6, 7, 8, 9, 10, 11, 12, 13] rfl)
  · refine lv_iload hx hb dL_law_209 (lv_at hl 13 rfl) ?_
    refine lv_iconst (v := zi 1) hx hb dL_law_211 rfl ?_
    refine zc_eq (tgt := 221) hx hb dL_law_212 (by decide) (by omega) (by decide) (fun h212 => ?_) (fun h212 => ?_)
    · exact kk  H locs ls hP hD hS (lv_sub hl [0, 1, 2, 3, 4, 5, 6, 7, 8, 9, 10, 11, 12, 13] rfl)
    · refine lv_iload hx hb dL_law_215 (lv_at hl 13 rfl) ?_
      refine lv_iconst (v := zi 2) hx hb dL_law_217 rfl ?_
      refine zc_ne (tgt := 244) hx hb dL_law_218 (by decide) (by omega) (by decide) (fun h9 => by exfalso; omega) (fun h218 => ?_)
      exact kk  H locs ls hP hD hS (lv_sub hl [0, 1, 2, 3, 4, 5, 6, 7, 8, 9, 10, 11, 12, 13] rfl)
