/-! the end of the law -/
theorem dL_law_1748 : decode cL_law 1748 = .ok (.iinc 4 5, 3) := by decide +kernel
theorem dL_law_1751 : decode cL_law 1751 = .ok (.goto (-1728), 3) := by decide +kernel
theorem dL_law_23 : decode cL_law 23 = .ok (.iload 4, 2) := by decide +kernel
theorem dL_law_25 : decode cL_law 25 = .ok (.aload_n 0, 1) := by decide +kernel
theorem dL_law_26 : decode cL_law 26 = .ok (.arraylength, 1) := by decide +kernel
theorem dL_law_27 : decode cL_law 27 = .ok (.iconst 5, 1) := by decide +kernel
theorem dL_law_28 : decode cL_law 28 = .ok (.isub, 1) := by decide +kernel
theorem dL_law_29 : decode cL_law 29 = .ok (.if_icmp .gt 1725, 3) := by decide +kernel
theorem dL_law_1754 : decode cL_law 1754 = .ok (.iconst 1, 1) := by decide +kernel
theorem dL_law_1755 : decode cL_law 1755 = .ok (.ireturn, 1) := by decide +kernel
set_option maxHeartbeats 4000000 in
set_option maxRecDepth 100000 in
/-- behind a call of the law's only round: it ends, and answers 1 -/
theorem z_lawend {p : Program} {l : Launch} {e : Env} {s : State} {m : MethodId} {below : List Frame} {meth : Method} {c : Code} {A : Nat → Prop} {H : Heap} {locs : List Loc} {ls : Array Slot} {G : zG} {b : Nat} {xs : Nat → Int32} (hx : p.tables.exec = Jvm.exec) (hb : c.code = code) (hr : meth.sig.returnType = ret) (hml : c.maxLocals = 9) (hown : s.vm.findClass RL = some m.cls) (hts : ∀ w ∈ wsL_law, w.before #[Value.ref b] s = true) (hX : va_X b 5 xs s s.heap) (hbl : b < s.heap.size) (hlocks : meth.locks = false) (hl0 : l.stackTraces = false) (hA : ∀ q : Nat, s.heap.size ≤ q → A q) (hA2 : ∀ q : Nat, A q → s.heap.size ≤ q) (hbA : ¬ A b) (hE : zZ G A s s.heap) {cells slots : Nat} (hc : cells ≤ 600002) (hs2 : slots ≤ 7302232) (hS : va_S A s.heap H locs) (hl : lv_has ls 9 [(4, .int 0), (0, .ref b)]) : W p l e room_1 s m #[Value.ref b] below meth c H locs cells slots (lw_Z below #[Value.ref b] s) (F0 m 1748 ls []) := by
  refine lv_iinc (v := 5) (lv' := [(4, .int 5), (0, .ref b)]) hx hb dL_law_1748 hl (k := 0) rfl (by decide) (by decide) rfl (fun ls hl => ?_)
  refine lv_goto (tgt := 23) hx hb dL_law_1751 (by decide) ?_
  refine lv_iload hx hb dL_law_23 (lv_at hl 0 rfl) ?_
  refine lv_aload_n hx hb dL_law_25 rfl (lv_at hl 1 rfl) ?_
  refine va_slen hx hb hX hbl hbA hS dL_law_26 ?_
  refine zti (v := 5) (by decide) ?_
  refine lv_iconst (v := 5) hx hb dL_law_27 (by decide) ?_
  refine lv_isub hx hb dL_law_28 ?_
  refine zti (v := 0) (by decide) ?_
  refine lv_icmp_gt (tgt := 1754) hx hb dL_law_29 (by decide) (fun _ => ?_) (fun h9 => absurd (by decide) h9)
  refine lv_iconst (v := 1) hx hb dL_law_1754 (by decide) ?_
  refine va_forget (fun q hq => hA2 _ (hS.2.2 q hq)) ?_
  refine W.widen (k := 600002) (n := 7302232) hc hs2 ?_
  exact lw_ret (d0 := s.drawn) (Drawn.sameBut.refl s.drawn lw_cs) hx hb hr hlocks dL_law_1755

theorem zV3 (v : Int32) : v < 0 ∨ (¬ v < 0 ∧ ¬ v ≤ 2) ∨ (¬ v < 0 ∧ v ≤ 2) := by
  by_cases h : v < 0
  · exact Or.inl h
  · by_cases h2 : v ≤ 2
    · exact Or.inr (Or.inr ⟨h, h2⟩)
    · exact Or.inr (Or.inl ⟨h, h2⟩)
theorem zgt {v k : Int32} (h : ¬ v ≤ k) : k < v := Int32.not_le.mp h
theorem zng {v k : Int32} (h : v ≤ k) : ¬ k < v := fun q => absurd h (Int32.not_le.mpr q)
theorem zW5 (v : Int32) : v < 0 ∨ (¬ v < 0 ∧ ¬ v ≤ 4) ∨ v = 0 ∨ v = 1 ∨ v = 2 ∨ v = 3 ∨ v = 4 := by
  by_cases h : v < 0
  · exact Or.inl h
  · by_cases h2 : v ≤ 4
    · obtain ⟨j, hj, rfl⟩ := nI_of2 (n := 4) (by decide) h h2
      have hj5 : j = 0 ∨ j = 1 ∨ j = 2 ∨ j = 3 ∨ j = 4 := by omega
      rcases hj5 with rfl | rfl | rfl | rfl | rfl
      · exact Or.inr (Or.inr (Or.inl rfl))
      · exact Or.inr (Or.inr (Or.inr (Or.inl rfl)))
      · exact Or.inr (Or.inr (Or.inr (Or.inr (Or.inl rfl))))
      · exact Or.inr (Or.inr (Or.inr (Or.inr (Or.inr (Or.inl rfl)))))
      · exact Or.inr (Or.inr (Or.inr (Or.inr (Or.inr (Or.inr rfl)))))
    · exact Or.inr (Or.inl ⟨h, h2⟩)
theorem zW4 (v : Int32) : v < 0 ∨ (¬ v < 0 ∧ ¬ v < 4) ∨ v = 0 ∨ v = 1 ∨ v = 2 ∨ v = 3 := by
  by_cases h : v < 0
  · exact Or.inl h
  · by_cases h2 : v < 4
    · have h3 : v ≤ 4 := Int32.le_of_lt h2
      obtain ⟨j, hj, rfl⟩ := nI_of2 (n := 4) (by decide) h h3
      have hj5 : j = 0 ∨ j = 1 ∨ j = 2 ∨ j = 3 ∨ j = 4 := by omega
      rcases hj5 with rfl | rfl | rfl | rfl | rfl
      · exact Or.inr (Or.inr (Or.inl rfl))
      · exact Or.inr (Or.inr (Or.inr (Or.inl rfl)))
      · exact Or.inr (Or.inr (Or.inr (Or.inr (Or.inl rfl))))
      · exact Or.inr (Or.inr (Or.inr (Or.inr (Or.inr rfl))))
      · exact absurd h2 (by decide)
    · exact Or.inr (Or.inl ⟨h, h2⟩)
theorem zg34 {v : Int32} (h : ¬ v < 4) : 3 < v := by
  rw [Int32.lt_iff_toInt_lt] at h ⊢
  have e0 : (4 : Int32).toInt = 4 := by decide
  have e1 : (3 : Int32).toInt = 3 := by decide
  omega
