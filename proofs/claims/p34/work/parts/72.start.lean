/-! the entry -/
theorem zt {s : State} {a : Array Value} (hts : ∀ w ∈ lw_tbl, w.before a s = true) (i : Nat) {w : Cond} (h : tables_1[i]? = some w) : w.before a s = true := hts w (List.mem_append_right _ (List.mem_of_getElem? h))
theorem zf {s : State} {a : Array Value} (hgv : (Jvm.Cond.and given_1 narrow_1).before a s = true) (i : Nat) {w : Cond} (h : (flatC (Jvm.Cond.and given_1 narrow_1))[i]? = some w) : w.before a s = true := flat_of_before _ hgv w (List.mem_of_getElem? h)

set_option maxHeartbeats 4000000 in
set_option maxRecDepth 100000 in
/-- the tables and the static rows, as the Statement gives them at the law's entry -/
theorem z_start {s : State} {b L : Nat} {xs : Nat → Int32} (hts : ∀ w ∈ lw_tbl, w.before #[Value.ref b] s = true) (hgv : (Jvm.Cond.and given_1 narrow_1).before #[Value.ref b] s = true) (hX : va_X b L xs s s.heap) (hbl : b < s.heap.size) : ∃ G : zG, (zsb G = b ∧ zsl G = L) ∧ zZ G (fun q : Nat => s.heap.size ≤ q) s s.heap := by
  have hA0 : ∀ a : Nat, a < s.heap.size → ¬ (fun q : Nat => s.heap.size ≤ q) a := fun a h => Nat.not_le.mpr h
  obtain ⟨c0, i0, k0⟩ := u_known (C := RX0) (T := TX0) (N := 7) (n := 7) hts inX0 (zt hts 611 (by decide +kernel))
  obtain ⟨c1, i1, k1⟩ := u_known (C := RX1) (T := TX1) (N := 6) (n := 6) hts inX1 (zt hts 553 (by decide +kernel))
  obtain ⟨c2, i2, k2⟩ := u_known (C := RX2) (T := TX2) (N := 6) (n := 6) hts inX2 (zt hts 642 (by decide +kernel))
  obtain ⟨c3, i3, k3⟩ := u_known (C := RX3) (T := TX3) (N := 4) (n := 4) hts inX3 (zt hts 486 (by decide +kernel))
  obtain ⟨c4, i4, k4⟩ := u_known (C := RX4) (T := TX4) (N := 5) (n := 5) hts inX4 (zt hts 530 (by decide +kernel))
  obtain ⟨c5, i5, k5⟩ := u_known (C := RX5) (T := TX5) (N := 7) (n := 7) hts inX5 (zt hts 581 (by decide +kernel))
  obtain ⟨c6, i6, k6⟩ := u_known (C := RX6) (T := TX6) (N := 3) (n := 3) hts inX6 (zt hts 479 (by decide +kernel))
  obtain ⟨c7, i7, k7⟩ := u_known (C := RX7) (T := TX7) (N := 8) (n := 8) hts inX7 (zt hts 29 (by decide +kernel))
  obtain ⟨c8, i8, k8⟩ := u_known (C := RX8) (T := TX8) (N := 10) (n := 10) hts inX8 (zt hts 468 (by decide +kernel))
  obtain ⟨dC, dI, hKc⟩ : ∃ (dC : Nat → ClassId) (dI : Nat → Nat → Nat), ∀ (k : Nat) (q : vw_C), vwCl[k]? = some q → u_Kn s q.1 q.2.1 q.2.2 (dC k) (dI k) := by
    refine ⟨fun k => if k = 0 then c0 else if k = 1 then c1 else if k = 2 then c2 else if k = 3 then c3 else if k = 4 then c4 else if k = 5 then c5 else if k = 6 then c6 else if k = 7 then c7 else c8, fun k => if k = 0 then i0 else if k = 1 then i1 else if k = 2 then i2 else if k = 3 then i3 else if k = 4 then i4 else if k = 5 then i5 else if k = 6 then i6 else if k = 7 then i7 else i8, ?_⟩
    intro k q hq
    match k, hq with
    | 0, hq => cases hq; exact k0
    | 1, hq => cases hq; exact k1
    | 2, hq => cases hq; exact k2
    | 3, hq => cases hq; exact k3
    | 4, hq => cases hq; exact k4
    | 5, hq => cases hq; exact k5
    | 6, hq => cases hq; exact k6
    | 7, hq => cases hq; exact k7
    | 8, hq => cases hq; exact k8
    | k + 9, hq => simp [vwCl] at hq
  obtain ⟨tI, kI, coI, a1, a2, a3⟩ := Cond.arrayClass_spec (type := .int) (args := #[Value.ref b]) (first := s) (o := none) (s := s) (idx := []) (zt hts 513 (by decide +kernel))
  have hAO : (Cond.arrayOver (.object "Nettle$Rule")).before #[Value.ref b] s = true := (zt hts 485 (by decide +kernel))
  have hAA : (Cond.arrayOver (.array .int)).before #[Value.ref b] s = true := (zt hts 693 (by decide +kernel))
  obtain ⟨coO, tO, kO, o1, o2, o3, o4, o5⟩ := Cond.arrayOver_spec hAO
  obtain ⟨coA, tA, kA, q1, q2, q3, q4, q5⟩ := arrayOverA_spec (args := #[Value.ref b]) (first := s) (o := none) (s := s) (idx := []) (t := .int) hAA
  have hlS : (Cond.laysStatic "Nettle" "SIZES" "[I").before #[Value.ref b] s = true := (zt hts 133 (by decide +kernel))
  have hlA : (Cond.laysStatic "Nettle" "AMOUNTS" "[I").before #[Value.ref b] s = true := (zt hts 135 (by decide +kernel))
  have hiN : (Cond.initialized "Nettle").before #[Value.ref b] s = true := (zt hts 2 (by decide +kernel))
  have hsz : ∀ (nm : String) (N : Nat) (f : Nat → Int32), N < 2 ^ 31 → (Cond.arrayOf (.static "Nettle" nm "[I") .int).before #[Value.ref b] s = true → (Cond.eq (.length (.static "Nettle" nm "[I")) (.int (Int32.ofNat N))).before #[Value.ref b] s = true → (∀ j : Nat, j < N → (Cond.eq (.elem (.static "Nettle" nm "[I") (.int (Int32.ofNat j))) (.int (f j))).before #[Value.ref b] s = true) →
      ∃ t : Nat, (Term.static "Nettle" nm "[I").eval #[Value.ref b] s none [] s = some (.ref t) ∧ va_T .int t N (fun j => .int (f j)) (fun q : Nat => s.heap.size ≤ q) s s.heap := fun nm N f hN h1 h2 h3 => va_Tof hN h1 (va_eqt h2) (fun j hj => va_eqt (h3 j hj)) hA0
  obtain ⟨tS, eS, hTS⟩ := hsz "SIZES" 4 (fun j => match j with | 0 => 256 | 1 => 256 | 2 => 1024 | _ => 4) (by decide) (zf hgv 7 (by decide +kernel)) (zf hgv 8 (by decide +kernel)) (fun j hj => by
    match j, hj with
    | 0, _ => exact zf hgv 9 (by decide +kernel)
    | 1, _ => exact zf hgv 10 (by decide +kernel)
    | 2, _ => exact zf hgv 11 (by decide +kernel)
    | 3, _ => exact zf hgv 12 (by decide +kernel)
    | j + 4, h => exact absurd h (by omega))
  obtain ⟨tM, eM, hTM⟩ := hsz "AMOUNTS" 5 (fun j => match j with | 0 => 268435456 | 1 => 1048576 | 2 => 4096 | 3 => 4 | _ => 1) (by decide) (zf hgv 14 (by decide +kernel)) (zf hgv 15 (by decide +kernel)) (fun j hj => by
    match j, hj with
    | 0, _ => exact zf hgv 16 (by decide +kernel)
    | 1, _ => exact zf hgv 17 (by decide +kernel)
    | 2, _ => exact zf hgv 18 (by decide +kernel)
    | 3, _ => exact zf hgv 19 (by decide +kernel)
    | 4, _ => exact zf hgv 20 (by decide +kernel)
    | j + 5, h => exact absurd h (by omega))
  have eS2 : (fun j : Nat => (Value.int (match j with | 0 => 256 | 1 => 256 | 2 => 1024 | _ => 4))) = fun j => .int (zi (zS j)) := by
    funext j
    match j with
    | 0 => rfl
    | 1 => rfl
    | 2 => rfl
    | j + 3 => rfl
  have eM2 : (fun j : Nat => (Value.int (match j with | 0 => 268435456 | 1 => 1048576 | 2 => 4096 | 3 => 4 | _ => 1))) = fun j => .int (zi (zM j)) := by
    funext j
    match j with
    | 0 => rfl
    | 1 => rfl
    | 2 => rfl
    | 3 => rfl
    | j + 4 => rfl
  rw [eS2] at hTS
  rw [eM2] at hTM
  refine ⟨((dC, dI), (tI, tO, tA), (tS, tM), (b, L, xs)), ⟨rfl, rfl⟩, ⟨hKc, fun k q hq => ?_⟩, ⟨va_Zref hlS hiN eS hA0, hTS⟩, ⟨va_Zref hlA hiN eM hA0, hTM⟩, ?_, va_AO.of hAO, hAA, hX, hbl, hA0 b hbl⟩
  · match k, hq with
    | 0, hq => cases hq; exact ⟨fun N z => ⟨(fun k h => by cases h), kI, a2, coI, a3⟩, a1⟩
    | 1, hq => cases hq; exact ⟨fun N z => ⟨(fun k h => by cases h), kO, o3, coO, o4⟩, kO, coO, o3, o4, o1, o5⟩
    | 2, hq => cases hq; exact ⟨fun N z => ⟨(fun k h => by cases h), kA, q3, coA, q4⟩, q5⟩
    | k + 3, hq => simp at hq
  · exact ⟨va_Nw.of rfl (zt hts 487 (by decide +kernel)), va_Nw.of rfl (zt hts 643 (by decide +kernel)), va_Nw.of rfl (zt hts 132 (by decide +kernel)), va_Nw.of rfl (zt hts 134 (by decide +kernel)), va_Nw.of rfl (zt hts 267 (by decide +kernel)), va_Nw.of rfl (zt hts 277 (by decide +kernel)), va_Nw.of rfl (zt hts 296 (by decide +kernel)), va_Nw.of rfl (zt hts 298 (by decide +kernel)), va_Nw.of rfl (zt hts 396 (by decide +kernel)), va_Nw.of rfl (zt hts 698 (by decide +kernel)), va_Nw.of rfl (zt hts 702 (by decide +kernel))⟩
