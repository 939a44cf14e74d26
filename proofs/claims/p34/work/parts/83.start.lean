/-! the law, from its entry -/
theorem dL_law_0 : decode cL_law 0 = .ok (.iconst 0, 1) := by decide +kernel
theorem dL_law_1 : decode cL_law 1 = .ok (.istore_n 1, 1) := by decide +kernel
theorem dL_law_902 : decode cL_law 902 = .ok (.iconst 1, 1) := by decide +kernel
theorem dL_law_903 : decode cL_law 903 = .ok (.ireturn, 1) := by decide +kernel
set_option maxHeartbeats 4000000 in
set_option maxRecDepth 100000 in
/-- THE LAW, from its entry -/
theorem whole_start {p : Program} {e : Env} {s : State} {m : MethodId} {below : List Frame} {meth : Method} {c : Code} (l : Launch) (hflags : l.flags = flags0) {b L : Nat} {xs : Nat → Int32} (hL : L ≤ 260) (C0 : lw_At p s m meth c b L xs) : W p l e room_1 s m #[Value.ref b] below meth c s.heap [] 0 0 (lw_Z below #[Value.ref b] s) (entryFrame m ([Value.ref b] : List Value).toArray 19) := by
  obtain ⟨hx, hb, hr, hml, hown0, hts0, hX, hbl, hlocks, hgv⟩ := id C0
  have hown : s.vm.findClass RL = some m.cls := hown0
  have hts : ∀ w ∈ wsL_law, w.before #[Value.ref b] s = true := fun w h => hts0 w (wsL_law_in w h)
  obtain ⟨G, ⟨hGb, hGl⟩, hE⟩ := z_start hts0 hgv hX hbl
  obtain ⟨A, hAe⟩ : ∃ A : Nat → Prop, A = (fun q : Nat => s.heap.size ≤ q) := ⟨_, rfl⟩
  rw [← hAe] at hE
  have hA : ∀ q : Nat, s.heap.size ≤ q → A q := fun q h => by rw [hAe]; exact h
  have hA2 : ∀ q : Nat, A q → s.heap.size ≤ q := fun q h => by rw [hAe] at h; exact h
  have hsl : zsl G ≤ 100000 := by rw [hGl]; omega
  have hS : va_S A s.heap s.heap [] := va_S.rf
  have hl := lv_entry ([.ref b]) (n := 19) (Nat.le_of_ble_eq_true rfl)
  rw [lg_entry_eq]
  generalize (lg_sl ([.ref b]) ++ List.replicate (19 - (lg_sl ([.ref b])).length) Slot.unset).toArray = ls at hl ⊢
  have hl : lv_has ls 19 [(0, .ref b)] := hl
  refine lv_iconst (v := zi 0) hx hb dL_law_0 rfl ?_
  refine lv_istore_n (lv' := [(1, .int (zi 0)), (0, .ref b)]) hx hb dL_law_1 rfl hl (by decide) rfl (fun ls hl => ?_)
  refine law_time (k := 0) hx hb hml hown hts hA hE (by decide) (by decide) hsl hGb (by decide) hS (lv_sub hl [1, 0] rfl) (fun H locs ls hS hl => ?_)
  refine law_time (k := 1) hx hb hml hown hts hA hE (by decide) (by decide) hsl hGb (by decide) hS hl (fun H locs ls hS hl => ?_)
  refine law_time (k := 2) hx hb hml hown hts hA hE (by decide) (by decide) hsl hGb (by decide) hS hl (fun H locs ls hS hl => ?_)
  refine lv_iload_n hx hb dL_law_2 rfl (lv_at hl 1 rfl) ?_
  refine lv_iconst (v := zi 3) hx hb dL_law_3 rfl ?_
  refine zc_ge (x := (((2 : Nat) : Int) + 1)) (tgt := 902) hx hb dL_law_4 (by decide) (by decide) (by decide) (fun h4 => ?_) (fun h9 => absurd (show (3 : Int) ≤ ((2 : Nat) : Int) + 1 by decide) (by omega))
  refine lv_iconst (v := 1) hx hb dL_law_902 rfl ?_
  refine va_forget (fun q hq => hA2 _ (hS.2.2 q hq)) ?_
  refine W.widen (k := 600104) (n := 7301314) (Nat.le_of_ble_eq_true rfl) (Nat.le_of_ble_eq_true rfl) ?_
  exact lw_ret (d0 := s.drawn) (Drawn.sameBut.refl s.drawn lw_cs) hx hb hr hlocks dL_law_903
