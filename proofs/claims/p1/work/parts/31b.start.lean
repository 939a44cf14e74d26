/-! the entry -/
theorem zt {s : State} {a : Array Value} (hts : ∀ w ∈ lw_tbl, w.before a s = true) (i : Nat) {w : Cond} (h : tables_1[i]? = some w) : w.before a s = true := hts w (List.mem_append_right _ (List.mem_of_getElem? h))
theorem zf {s : State} {a : Array Value} (hgv : (Jvm.Cond.and given_1 narrow_1).before a s = true) (i : Nat) {w : Cond} (h : (flatC (Jvm.Cond.and given_1 narrow_1))[i]? = some w) : w.before a s = true := flat_of_before _ hgv w (List.mem_of_getElem? h)

set_option maxHeartbeats 4000000 in
set_option maxRecDepth 100000 in
/-- the tables and the static rows, as the Statement gives them at the law's entry -/
theorem z_start {s : State} {b : Nat} (hts : ∀ w ∈ lw_tbl, w.before #[Value.ref b] s = true) (hgv : (Jvm.Cond.and given_1 narrow_1).before #[Value.ref b] s = true) : ∃ G : zG, zZ G (fun q : Nat => s.heap.size ≤ q) s s.heap := by
  have hA0 : ∀ a : Nat, a < s.heap.size → ¬ (fun q : Nat => s.heap.size ≤ q) a := fun a h => Nat.not_le.mpr h
  obtain ⟨c0, i0, k0⟩ := u_known (C := RX0) (T := TX0) (N := 7) (n := 7) hts inX0 (zt hts 161 (by decide +kernel))
  obtain ⟨c1, i1, k1⟩ := u_known (C := RX1) (T := TX1) (N := 6) (n := 6) hts inX1 (zt hts 103 (by decide +kernel))
  obtain ⟨c2, i2, k2⟩ := u_known (C := RX2) (T := TX2) (N := 6) (n := 6) hts inX2 (zt hts 192 (by decide +kernel))
  obtain ⟨c3, i3, k3⟩ := u_known (C := RX3) (T := TX3) (N := 4) (n := 4) hts inX3 (zt hts 35 (by decide +kernel))
  obtain ⟨c4, i4, k4⟩ := u_known (C := RX4) (T := TX4) (N := 5) (n := 5) hts inX4 (zt hts 80 (by decide +kernel))
  obtain ⟨c5, i5, k5⟩ := u_known (C := RX5) (T := TX5) (N := 7) (n := 7) hts inX5 (zt hts 131 (by decide +kernel))
  obtain ⟨c6, i6, k6⟩ := u_known (C := RX6) (T := TX6) (N := 3) (n := 3) hts inX6 (zt hts 28 (by decide +kernel))
  obtain ⟨c7, i7, k7⟩ := u_known (C := RX7) (T := TX7) (N := 8) (n := 8) hts inX7 (zt hts 20 (by decide +kernel))
  obtain ⟨c8, i8, k8⟩ := u_known (C := RX8) (T := TX8) (N := 6) (n := 6) hts inX8 (zt hts 892 (by decide +kernel))
  obtain ⟨c9, i9, k9⟩ := u_known (C := RX9) (T := TX9) (N := 11) (n := 11) hts inX9 (zt hts 886 (by decide +kernel))
  obtain ⟨dC, dI, hKc⟩ : ∃ (dC : Nat → ClassId) (dI : Nat → Nat → Nat), ∀ (k : Nat) (q : vw_C), vwCl[k]? = some q → u_Kn s q.1 q.2.1 q.2.2 (dC k) (dI k) := by
    refine ⟨fun k => if k = 0 then c0 else if k = 1 then c1 else if k = 2 then c2 else if k = 3 then c3 else if k = 4 then c4 else if k = 5 then c5 else if k = 6 then c6 else if k = 7 then c7 else if k = 8 then c8 else c9, fun k => if k = 0 then i0 else if k = 1 then i1 else if k = 2 then i2 else if k = 3 then i3 else if k = 4 then i4 else if k = 5 then i5 else if k = 6 then i6 else if k = 7 then i7 else if k = 8 then i8 else i9, ?_⟩
    intro k q hq
    match k, hq with
    | 0, hq => cases hq; exact k0
    | 1, hq => cases hq; exact k1
    | 2, hq => cases hq; exact k2
    | 3, hq => cases hq; exact k3
    | 4, hq => cases hq; exact k4
    | 5, hq => cases hq; exact k5
    | 6, hq => cases hq; exact k6
    | 7, hq => cases hq; exact k7
    | 8, hq => cases hq; exact k8
    | 9, hq => cases hq; exact k9
    | k + 10, hq => simp [vwCl] at hq
  obtain ⟨tI, kI, coI, a1, a2, a3⟩ := Cond.arrayClass_spec (type := .int) (args := #[Value.ref b]) (first := s) (o := none) (s := s) (idx := []) (zt hts 63 (by decide +kernel))
  obtain ⟨tL, kL, coL, b1, b2, b3⟩ := Cond.arrayClass_spec (type := .long) (args := #[Value.ref b]) (first := s) (o := none) (s := s) (idx := []) (zt hts 1279 (by decide +kernel))
  have hAO : (Cond.arrayOver (.object "Nettle$Rule")).before #[Value.ref b] s = true := zt hts 34 (by decide +kernel)
  have hAA : (Cond.arrayOver (.array .int)).before #[Value.ref b] s = true := zt hts 922 (by decide +kernel)
  obtain ⟨coO, tO, kO, o1, o2, o3, o4, o5⟩ := Cond.arrayOver_spec hAO
  have hlS : (Cond.laysStatic "Nettle" "SIZES" "[I").before #[Value.ref b] s = true := zt hts 272 (by decide +kernel)
  have hlA : (Cond.laysStatic "Nettle" "AMOUNTS" "[I").before #[Value.ref b] s = true := zt hts 274 (by decide +kernel)
  have hiN : (Cond.initialized "Nettle").before #[Value.ref b] s = true := zt hts 1 (by decide +kernel)
  have hiT : (Cond.initialized "java/lang/Throwable").before #[Value.ref b] s = true := zt hts 11 (by decide +kernel)
  have hsz : ∀ (nm : String) (N : Nat) (f : Nat → Int32), N < 2 ^ 31 → (Cond.arrayOf (.static "Nettle" nm "[I") .int).before #[Value.ref b] s = true → (Cond.eq (.length (.static "Nettle" nm "[I")) (.int (Int32.ofNat N))).before #[Value.ref b] s = true → (∀ j : Nat, j < N → (Cond.eq (.elem (.static "Nettle" nm "[I") (.int (Int32.ofNat j))) (.int (f j))).before #[Value.ref b] s = true) →
      ∃ t : Nat, (Term.static "Nettle" nm "[I").eval #[Value.ref b] s none [] s = some (.ref t) ∧ va_T .int t N (fun j => .int (f j)) (fun q : Nat => s.heap.size ≤ q) s s.heap := fun nm N f hN h1 h2 h3 => va_Tof hN h1 (va_eqt h2) (fun j hj => va_eqt (h3 j hj)) hA0
  obtain ⟨tS, eS, hTS⟩ := hsz "SIZES" 4 (fun j => match j with | 0 => 256 | 1 => 256 | 2 => 1024 | _ => 4) (by decide) (zf hgv 5 (by decide +kernel)) (zf hgv 6 (by decide +kernel)) (fun j hj => by
    match j, hj with
    | 0, _ => exact zf hgv 7 (by decide +kernel)
    | 1, _ => exact zf hgv 8 (by decide +kernel)
    | 2, _ => exact zf hgv 9 (by decide +kernel)
    | 3, _ => exact zf hgv 10 (by decide +kernel)
    | j + 4, h => exact absurd h (by omega))
  obtain ⟨tM, eM, hTM⟩ := hsz "AMOUNTS" 5 (fun j => match j with | 0 => 268435456 | 1 => 1048576 | 2 => 4096 | 3 => 4 | _ => 1) (by decide) (zf hgv 12 (by decide +kernel)) (zf hgv 13 (by decide +kernel)) (fun j hj => by
    match j, hj with
    | 0, _ => exact zf hgv 14 (by decide +kernel)
    | 1, _ => exact zf hgv 15 (by decide +kernel)
    | 2, _ => exact zf hgv 16 (by decide +kernel)
    | 3, _ => exact zf hgv 17 (by decide +kernel)
    | 4, _ => exact zf hgv 18 (by decide +kernel)
    | j + 5, h => exact absurd h (by omega))
  have eS2 : (fun j : Nat => (Value.int (match j with | 0 => 256 | 1 => 256 | 2 => 1024 | _ => 4))) = zSz := by
    funext j
    match j with
    | 0 => rfl
    | 1 => rfl
    | 2 => rfl
    | j + 3 => rfl
  have eM2 : (fun j : Nat => (Value.int (match j with | 0 => 268435456 | 1 => 1048576 | 2 => 4096 | 3 => 4 | _ => 1))) = zAm := by
    funext j
    match j with
    | 0 => rfl
    | 1 => rfl
    | 2 => rfl
    | 3 => rfl
    | j + 4 => rfl
  rw [eS2] at hTS
  rw [eM2] at hTM
  refine ⟨((dC, dI), tI, tO, tL, tS, tM), ⟨hKc, fun k q hq => ?_⟩, ⟨va_Zref hlS hiN eS hA0, hTS⟩, ⟨va_Zref hlA hiN eM hA0, hTM⟩, ⟨vx_Zqof (zt hts 531 (by decide +kernel)) hiT (zf hgv 19 (by decide +kernel)) hA0, vx_Zqof (zt hts 533 (by decide +kernel)) hiT (zf hgv 20 (by decide +kernel)) hA0⟩, ?_, ?_, va_AO.of hAO, hAA, ?_, ?_⟩
  · match k, hq with
    | 0, hq => cases hq; exact ⟨fun N z => ⟨(fun k h => by cases h), kI, a2, coI, a3⟩, a1⟩
    | 1, hq => cases hq; exact ⟨fun N z => ⟨(fun k h => by cases h), kO, o3, coO, o4⟩, kO, coO, o3, o4, o1, o5⟩
    | 2, hq => cases hq; exact ⟨fun N z => ⟨(fun k h => by cases h), kL, b2, coL, b3⟩, b1⟩
    | k + 3, hq => simp at hq
  · exact ⟨va_Nw.of rfl (zt hts 36 (by decide +kernel)), va_Nw.of rfl (zt hts 193 (by decide +kernel)), va_Nw.of rfl (zt hts 271 (by decide +kernel)), va_Nw.of rfl (zt hts 273 (by decide +kernel)), va_Nw.of rfl (zt hts 374 (by decide +kernel)), va_Nw.of rfl (zt hts 387 (by decide +kernel)), va_Nw.of rfl (zt hts 406 (by decide +kernel)), va_Nw.of rfl (zt hts 408 (by decide +kernel)), va_Nw.of rfl (zt hts 468 (by decide +kernel)), va_Nw.of rfl (zt hts 893 (by decide +kernel)), va_Nw.of rfl (zt hts 1057 (by decide +kernel)), va_Nw.of rfl (zt hts 1061 (by decide +kernel)), va_Nw.of rfl (zt hts 1075 (by decide +kernel))⟩
  · have hst : ∀ (k : Nat) (tx : String), (Cond.stringRef "Nettle" k tx).before #[Value.ref b] s = true → (Cond.exactly (.string "Nettle" k) "java/lang/String").before #[Value.ref b] s = true → ∃ sa : Nat, vk_R "Nettle" k tx sa s := fun k tx h1 h2 => by
      obtain ⟨a, c, cA, kA, q1, -⟩ := Cond.exactly_spec (args := #[Value.ref b]) (first := s) (o := none) (s := s) (idx := []) (t := .string "Nettle" k) (cls := "java/lang/String") h2
      exact ⟨a, vk_R.of h1 q1⟩
    intro q hq
    simp only [List.mem_cons, List.not_mem_nil, or_false] at hq
    rcases hq with rfl | rfl | rfl | rfl | rfl | rfl | rfl | rfl | rfl | rfl | rfl
    · exact hst 358 "no such rule" (zt hts 545 (by decide +kernel)) (zf hgv 57 (by decide +kernel))
    · exact hst 364 "nothing with this number can be asked" (zt hts 584 (by decide +kernel)) (zf hgv 73 (by decide +kernel))
    · exact hst 360 "no such node" (zt hts 631 (by decide +kernel)) (zf hgv 115 (by decide +kernel))
    · exact hst 211 "no such piece" (zt hts 655 (by decide +kernel)) (zf hgv 133 (by decide +kernel))
    · exact hst 270 "no such place" (zt hts 674 (by decide +kernel)) (zf hgv 153 (by decide +kernel))
    · exact hst 272 "no such field of those kept" (zt hts 675 (by decide +kernel)) (zf hgv 174 (by decide +kernel))
    · exact hst 92 "no such field" (zt hts 681 (by decide +kernel)) (zf hgv 210 (by decide +kernel))
    · exact hst 362 "no such verdict" (zt hts 694 (by decide +kernel)) (zf hgv 233 (by decide +kernel))
    · exact hst 76 "there are 8 rules" (zt hts 704 (by decide +kernel)) (zf hgv 259 (by decide +kernel))
    · exact hst 101 "no such range" (zt hts 731 (by decide +kernel)) (zf hgv 288 (by decide +kernel))
    · exact hst 369 "no such packet" (zt hts 796 (by decide +kernel)) (zf hgv 314 (by decide +kernel))
  · exact ⟨va_Nw.of rfl (zt hts 508 (by decide +kernel)), va_Nw.of rfl (zt hts 510 (by decide +kernel)), va_Nw.of rfl (zt hts 512 (by decide +kernel))⟩
  · exact ⟨va_Nw.of rfl (zt hts 506 (by decide +kernel)), va_Nw.of rfl (zt hts 577 (by decide +kernel)), va_Nw.of rfl (zt hts 697 (by decide +kernel))⟩
