/-! ===== whole numbers, and the memory of one Nettle: 71 cells at addresses ad, ints X ===== -/
def zin32 (z : Int) : Prop := -2147483648 ≤ z ∧ z ≤ 2147483647
theorem zi_add (a b : Int) : zi a + zi b = zi (a + b) := (Int32.ofInt_add a b).symm
theorem zi_sub (a b : Int) : zi a - zi b = zi (a - b) := (Int32.ofInt_sub a b).symm
theorem zi_mul (a b : Int) : zi a * zi b = zi (a * b) := (Int32.ofInt_mul a b).symm
theorem zi_toInt {a : Int} (h : zin32 a) : (zi a).toInt = a := Int32.toInt_ofInt_of_le h.1 (by have := h.2; omega)
theorem zi_lt {a b : Int} (ha : zin32 a) (hb : zin32 b) : zi a < zi b ↔ a < b := by rw [Int32.lt_iff_toInt_lt, zi_toInt ha, zi_toInt hb]
theorem zi_le {a b : Int} (ha : zin32 a) (hb : zin32 b) : zi a ≤ zi b ↔ a ≤ b := by rw [Int32.le_iff_toInt_le, zi_toInt ha, zi_toInt hb]
theorem zi_eq {a b : Int} (ha : zin32 a) (hb : zin32 b) : zi a = zi b ↔ a = b := by rw [← Int32.toInt_inj, zi_toInt ha, zi_toInt hb]
theorem zi_nat {z : Int} (h0 : 0 ≤ z) (h1 : z ≤ 2147483647) : (zi z).toNatClampNeg = z.toNat := by
  show (zi z).toInt.toNat = _
  rw [zi_toInt ⟨by omega, h1⟩]
theorem zi_in {z : Int} {n : Nat} (h0 : 0 ≤ z) (h1 : z < n) (hn : n ≤ 2147483647) : vp_in (zi z) n := by
  rw [vp_in_iff, zi_toInt ⟨by omega, by omega⟩]
  exact ⟨h0, h1⟩
theorem zi_ofNat (n : Nat) : zi (n : Int) = Int32.ofBitVec (BitVec.ofNat 32 n) := by
  show Int32.ofBitVec (BitVec.ofInt 32 (n : Int)) = _
  rw [BitVec.ofInt_natCast]
theorem zi_and (a b : Nat) : zi (a : Int) &&& zi (b : Int) = zi ((a &&& b : Nat) : Int) := by
  rw [zi_ofNat, zi_ofNat, zi_ofNat, BitVec.ofNat_and]; rfl
theorem zi_or (a b : Nat) : zi (a : Int) ||| zi (b : Int) = zi ((a ||| b : Nat) : Int) := by
  rw [zi_ofNat, zi_ofNat, zi_ofNat, BitVec.ofNat_or]; rfl
theorem zi_xor (a b : Nat) : zi (a : Int) ^^^ zi (b : Int) = zi ((a ^^^ b : Nat) : Int) := by
  rw [zi_ofNat, zi_ofNat, zi_ofNat, BitVec.ofNat_xor]; rfl
/-- X with z at the place j of the cell k -/
def zw (X : Nat → Nat → Int) (k j : Nat) (z : Int) : Nat → Nat → Int := fun k' => if k' = k then (fun j' => if j' = j then z else X k j') else X k'
theorem zw_at (X : Nat → Nat → Int) (k j : Nat) (z : Int) : zw X k j z k j = z := by unfold zw; rw [if_pos rfl, if_pos rfl]
theorem zw_same (X : Nat → Nat → Int) (k j : Nat) (z : Int) : zw X k j z k = fun j' => if j' = j then z else X k j' := by unfold zw; rw [if_pos rfl]
theorem zw_cell {X : Nat → Nat → Int} {k j k' : Nat} {z : Int} (h : k' ≠ k) : zw X k j z k' = X k' := by unfold zw; rw [if_neg h]
theorem zw_ne {X : Nat → Nat → Int} {k j j' : Nat} {z : Int} (h : j' ≠ j) : zw X k j z k j' = X k j' := by rw [zw_same]; exact if_neg h
theorem zw_get (X : Nat → Nat → Int) (k j : Nat) (z : Int) (k' j' : Nat) : zw X k j z k' j' = if k' = k ∧ j' = j then z else X k' j' := by
  by_cases h : k' = k
  · subst h
    by_cases h2 : j' = j
    · subst h2; rw [zw_at, if_pos ⟨rfl, rfl⟩]
    · rw [zw_ne h2, if_neg (fun q => h2 q.2)]
  · rw [zw_cell h, if_neg (fun q => h q.1)]
/-- what a cell holds -/
def zF (G : zG) (ad : Nat → Nat) (k : Nat) (x : Nat → Int) : va_E :=
  if k < 52 then
    if k % 26 = 0 then .inr (6, [.ref (ad (k + 1)), .int (zi (x 1)), .int (zi (x 2))])
    else if k % 26 = 1 then .inl (zcq G, 8, .inr (.inr (.inr (.inr (fun i => some (ad (k + 1 + 3 * (x i).toNat)))))))
    else if k % 26 % 3 = 2 then .inr (3, [.int (zi (x 0)), .int (zi (x 1)), .ref (ad (k + 1)), .ref (ad (k + 2))])
    else .inl (zci G, 4, .inl (fun j => zi (x j)))
  else if k = 52 then .inr (7, [.ref (ad 0), .ref (ad 26), .ref (ad 53), .ref (ad 57), .ref (ad 61), .ref (ad 65), .ref (ad 68), .ref (ad 70)])
  else if k = 53 then .inr (4, [.ref (ad 0), .ref (ad 54), .ref (ad 55), .ref (ad 56), .int (zi (x 4))])
  else if k = 56 then .inl (zci G, 256, .inl (fun j => zi (x j)))
  else if k = 57 then .inr (1, [.ref (ad 0), .ref (ad 26), .ref (ad 58), .ref (ad 59), .ref (ad 60), .int (zi (x 5))])
  else if k = 59 ∨ k = 60 then .inl (zci G, 132, .inl (fun j => zi (x j)))
  else if k = 61 then .inr (5, [.ref (ad 0), .ref (ad 57), .ref (ad 62), .ref (ad 63), .ref (ad 64), .int (zi (x 5)), .int (zi (x 6))])
  else if k = 65 then .inr (0, [.ref (ad 0), .ref (ad 26), .ref (ad 57), .ref (ad 66), .ref (ad 67), .int (zi (x 5)), .int (zi (x 6))])
  else if k = 68 then .inr (2, [.ref (ad 69), .int (zi (x 1)), .int (zi (x 2)), .int (zi (x 3)), .int (zi (x 4)), .int (zi (x 5))])
  else if k = 69 then .inl (zci G, 24, .inl (fun j => zi (x j)))
  else if k = 54 ∨ k = 55 ∨ k = 62 ∨ k = 63 ∨ k = 64 then .inl (zci G, 1024, .inl (fun j => zi (x j)))
  else .inl (zci G, 4, .inl (fun j => zi (x j)))
def zpic (G : zG) (ad : Nat → Nat) (X : Nat → Nat → Int) : va_W := (List.range 71).map (fun k => (ad k, zF G ad k (X k)))
section ZM
variable {G : zG} {ad : Nat → Nat} {X : Nat → Nat → Int}
theorem zpic_at {k : Nat} (hk : k < 71) : (zpic G ad X)[k]? = some (ad k, zF G ad k (X k)) := by
  unfold zpic
  rw [List.getElem?_map, List.getElem?_range hk]
  rfl
theorem zpic_set {k : Nat} {j : Nat} {z : Int} {e : va_E} (h : zF G ad k (zw X k j z k) = e) : (zpic G ad X).set k (ad k, e) = zpic G ad (zw X k j z) := by
  apply List.ext_getElem?
  intro i
  by_cases hi : i < 71
  · rw [List.getElem?_set, zpic_at hi]
    by_cases hk : k = i
    · subst hk
      rw [if_pos rfl, if_pos (by unfold zpic; rw [List.length_map, List.length_range]; exact hi), zpic_at hi, h]
    · rw [if_neg hk, zpic_at hi, zw_cell (fun q => hk q.symm)]
  · rw [List.getElem?_eq_none (by rw [List.length_set]; unfold zpic; rw [List.length_map, List.length_range]; omega), List.getElem?_eq_none (by unfold zpic; rw [List.length_map, List.length_range]; omega)]
/-- cells of walls, of RULES -/
def zIsW (a : Nat) : Prop := a = 0 ∨ a = 26
def zIsR (r : Nat) : Prop := ∃ a s : Nat, zIsW a ∧ s < 8 ∧ r = a + 2 + 3 * s
theorem zIsR.lt {r : Nat} (h : zIsR r) : r < 50 := by
  obtain ⟨a, s, h1, h2, rfl⟩ := h
  rcases h1 with rfl | rfl <;> omega
theorem zIsR.mod {r : Nat} (h : zIsR r) : 2 ≤ r % 26 ∧ r % 26 ≤ 23 ∧ r % 26 % 3 = 2 ∧ (r + 1) % 26 = r % 26 + 1 ∧ (r + 2) % 26 = r % 26 + 2 := by
  obtain ⟨a, s, h1, h2, rfl⟩ := h
  have h3 : s = 0 ∨ s = 1 ∨ s = 2 ∨ s = 3 ∨ s = 4 ∨ s = 5 ∨ s = 6 ∨ s = 7 := by omega
  rcases h1 with rfl | rfl <;> rcases h3 with rfl | rfl | rfl | rfl | rfl | rfl | rfl | rfl <;> decide
/-- the cell of a wall's RULE -/
def zr (X : Nat → Nat → Int) (a i : Nat) : Nat := a + 2 + 3 * (X (a + 1) i).toNat
theorem zF_w {a : Nat} (h : zIsW a) (x : Nat → Int) : zF G ad a x = .inr (6, [.ref (ad (a + 1)), .int (zi (x 1)), .int (zi (x 2))]) := by
  rcases h with rfl | rfl <;> rfl
theorem zF_q {a : Nat} (h : zIsW a) (x : Nat → Int) : zF G ad (a + 1) x = .inl (zcq G, 8, .inr (.inr (.inr (.inr (fun i => some (ad (a + 2 + 3 * (x i).toNat))))))) := by
  rcases h with rfl | rfl <;> rfl
theorem zF_r {r : Nat} (h : zIsR r) (x : Nat → Int) : zF G ad r x = .inr (3, [.int (zi (x 0)), .int (zi (x 1)), .ref (ad (r + 1)), .ref (ad (r + 2))]) := by
  have h1 := h.lt
  have h2 := h.mod
  unfold zF
  rw [if_pos (by omega), if_neg (by omega), if_neg (by omega), if_pos (by omega)]
theorem zF_l {r : Nat} (h : zIsR r) (x : Nat → Int) : zF G ad (r + 1) x = .inl (zci G, 4, .inl (fun j => zi (x j))) := by
  have h1 := h.lt
  have h2 := h.mod
  unfold zF
  rw [if_pos (by omega), if_neg (by omega), if_neg (by omega), if_neg (by omega)]
theorem zF_h {r : Nat} (h : zIsR r) (x : Nat → Int) : zF G ad (r + 2) x = .inl (zci G, 4, .inl (fun j => zi (x j))) := by
  have h1 := h.lt
  have h2 := h.mod
  unfold zF
  rw [if_pos (by omega), if_neg (by omega), if_neg (by omega), if_neg (by omega)]
theorem p_w {a : Nat} (h : zIsW a) : (zpic G ad X)[a]? = some (ad a, .inr (6, [.ref (ad (a + 1)), .int (zi (X a 1)), .int (zi (X a 2))])) := by
  rw [zpic_at (by rcases h with rfl | rfl <;> omega), zF_w h]
theorem p_q {a : Nat} (h : zIsW a) : (zpic G ad X)[a + 1]? = some (ad (a + 1), .inl (zcq G, 8, .inr (.inr (.inr (.inr (fun i => some (ad (zr X a i)))))))) := by
  rw [zpic_at (by rcases h with rfl | rfl <;> omega), zF_q h]; rfl
theorem p_r {r : Nat} (h : zIsR r) : (zpic G ad X)[r]? = some (ad r, .inr (3, [.int (zi (X r 0)), .int (zi (X r 1)), .ref (ad (r + 1)), .ref (ad (r + 2))])) := by
  rw [zpic_at (by have := h.lt; omega), zF_r h]
theorem p_l {r : Nat} (h : zIsR r) : (zpic G ad X)[r + 1]? = some (ad (r + 1), .inl (zci G, 4, .inl (fun j => zi (X (r + 1) j)))) := by
  rw [zpic_at (by have := h.lt; omega), zF_l h]
theorem p_h {r : Nat} (h : zIsR r) : (zpic G ad X)[r + 2]? = some (ad (r + 2), .inl (zci G, 4, .inl (fun j => zi (X (r + 2) j)))) := by
  rw [zpic_at (by have := h.lt; omega), zF_h h]
theorem p_52 : (zpic G ad X)[52]? = some (ad 52, .inr (7, [.ref (ad 0), .ref (ad 26), .ref (ad 53), .ref (ad 57), .ref (ad 61), .ref (ad 65), .ref (ad 68), .ref (ad 70)])) := zpic_at (by omega)
theorem p_53 : (zpic G ad X)[53]? = some (ad 53, .inr (4, [.ref (ad 0), .ref (ad 54), .ref (ad 55), .ref (ad 56), .int (zi (X 53 4))])) := zpic_at (by omega)
theorem p_54 : (zpic G ad X)[54]? = some (ad 54, .inl (zci G, 1024, .inl (fun j => zi (X 54 j)))) := zpic_at (by omega)
theorem p_55 : (zpic G ad X)[55]? = some (ad 55, .inl (zci G, 1024, .inl (fun j => zi (X 55 j)))) := zpic_at (by omega)
theorem p_56 : (zpic G ad X)[56]? = some (ad 56, .inl (zci G, 256, .inl (fun j => zi (X 56 j)))) := zpic_at (by omega)
theorem p_57 : (zpic G ad X)[57]? = some (ad 57, .inr (1, [.ref (ad 0), .ref (ad 26), .ref (ad 58), .ref (ad 59), .ref (ad 60), .int (zi (X 57 5))])) := zpic_at (by omega)
theorem p_58 : (zpic G ad X)[58]? = some (ad 58, .inl (zci G, 4, .inl (fun j => zi (X 58 j)))) := zpic_at (by omega)
theorem p_59 : (zpic G ad X)[59]? = some (ad 59, .inl (zci G, 132, .inl (fun j => zi (X 59 j)))) := zpic_at (by omega)
theorem p_60 : (zpic G ad X)[60]? = some (ad 60, .inl (zci G, 132, .inl (fun j => zi (X 60 j)))) := zpic_at (by omega)
theorem p_61 : (zpic G ad X)[61]? = some (ad 61, .inr (5, [.ref (ad 0), .ref (ad 57), .ref (ad 62), .ref (ad 63), .ref (ad 64), .int (zi (X 61 5)), .int (zi (X 61 6))])) := zpic_at (by omega)
theorem p_62 : (zpic G ad X)[62]? = some (ad 62, .inl (zci G, 1024, .inl (fun j => zi (X 62 j)))) := zpic_at (by omega)
theorem p_63 : (zpic G ad X)[63]? = some (ad 63, .inl (zci G, 1024, .inl (fun j => zi (X 63 j)))) := zpic_at (by omega)
theorem p_64 : (zpic G ad X)[64]? = some (ad 64, .inl (zci G, 1024, .inl (fun j => zi (X 64 j)))) := zpic_at (by omega)
theorem p_65 : (zpic G ad X)[65]? = some (ad 65, .inr (0, [.ref (ad 0), .ref (ad 26), .ref (ad 57), .ref (ad 66), .ref (ad 67), .int (zi (X 65 5)), .int (zi (X 65 6))])) := zpic_at (by omega)
theorem p_66 : (zpic G ad X)[66]? = some (ad 66, .inl (zci G, 4, .inl (fun j => zi (X 66 j)))) := zpic_at (by omega)
theorem p_67 : (zpic G ad X)[67]? = some (ad 67, .inl (zci G, 4, .inl (fun j => zi (X 67 j)))) := zpic_at (by omega)
theorem p_68 : (zpic G ad X)[68]? = some (ad 68, .inr (2, [.ref (ad 69), .int (zi (X 68 1)), .int (zi (X 68 2)), .int (zi (X 68 3)), .int (zi (X 68 4)), .int (zi (X 68 5))])) := zpic_at (by omega)
theorem p_69 : (zpic G ad X)[69]? = some (ad 69, .inl (zci G, 24, .inl (fun j => zi (X 69 j)))) := zpic_at (by omega)
theorem p_70 : (zpic G ad X)[70]? = some (ad 70, .inl (zci G, 4, .inl (fun j => zi (X 70 j)))) := zpic_at (by omega)
/-- puts -/
theorem zw1 (X : Nat → Nat → Int) (k j : Nat) (z : Int) : zw X k j z k = fun j' => if j' = j then z else X k j' := zw_same X k j z
theorem s_w1 {a : Nat} (h : zIsW a) (z : Int) : (zpic G ad X).set a (ad a, .inr (6, [.ref (ad (a + 1)), .int (zi z), .int (zi (X a 2))])) = zpic G ad (zw X a 1 z) := zpic_set (by rw [zF_w h, zw1]; rfl)
theorem s_w2 {a : Nat} (h : zIsW a) (z : Int) : (zpic G ad X).set a (ad a, .inr (6, [.ref (ad (a + 1)), .int (zi (X a 1)), .int (zi z)])) = zpic G ad (zw X a 2 z) := zpic_set (by rw [zF_w h, zw1]; rfl)
theorem s_r0 {r : Nat} (h : zIsR r) (z : Int) : (zpic G ad X).set r (ad r, .inr (3, [.int (zi z), .int (zi (X r 1)), .ref (ad (r + 1)), .ref (ad (r + 2))])) = zpic G ad (zw X r 0 z) := zpic_set (by rw [zF_r h, zw1]; rfl)
theorem s_r1 {r : Nat} (h : zIsR r) (z : Int) : (zpic G ad X).set r (ad r, .inr (3, [.int (zi (X r 0)), .int (zi z), .ref (ad (r + 1)), .ref (ad (r + 2))])) = zpic G ad (zw X r 1 z) := zpic_set (by rw [zF_r h, zw1]; rfl)
theorem s_53 (z : Int) : (zpic G ad X).set 53 (ad 53, .inr (4, [.ref (ad 0), .ref (ad 54), .ref (ad 55), .ref (ad 56), .int (zi z)])) = zpic G ad (zw X 53 4 z) := zpic_set (by rw [zw1]; rfl)
theorem s_57 (z : Int) : (zpic G ad X).set 57 (ad 57, .inr (1, [.ref (ad 0), .ref (ad 26), .ref (ad 58), .ref (ad 59), .ref (ad 60), .int (zi z)])) = zpic G ad (zw X 57 5 z) := zpic_set (by rw [zw1]; rfl)
theorem s_615 (z : Int) : (zpic G ad X).set 61 (ad 61, .inr (5, [.ref (ad 0), .ref (ad 57), .ref (ad 62), .ref (ad 63), .ref (ad 64), .int (zi z), .int (zi (X 61 6))])) = zpic G ad (zw X 61 5 z) := zpic_set (by rw [zw1]; rfl)
theorem s_616 (z : Int) : (zpic G ad X).set 61 (ad 61, .inr (5, [.ref (ad 0), .ref (ad 57), .ref (ad 62), .ref (ad 63), .ref (ad 64), .int (zi (X 61 5)), .int (zi z)])) = zpic G ad (zw X 61 6 z) := zpic_set (by rw [zw1]; rfl)
theorem s_655 (z : Int) : (zpic G ad X).set 65 (ad 65, .inr (0, [.ref (ad 0), .ref (ad 26), .ref (ad 57), .ref (ad 66), .ref (ad 67), .int (zi z), .int (zi (X 65 6))])) = zpic G ad (zw X 65 5 z) := zpic_set (by rw [zw1]; rfl)
theorem s_656 (z : Int) : (zpic G ad X).set 65 (ad 65, .inr (0, [.ref (ad 0), .ref (ad 26), .ref (ad 57), .ref (ad 66), .ref (ad 67), .int (zi (X 65 5)), .int (zi z)])) = zpic G ad (zw X 65 6 z) := zpic_set (by rw [zw1]; rfl)
/-- an array of ints -/
theorem s_a {k n : Nat} (h : ∀ x : Nat → Int, zF G ad k x = .inl (zci G, n, .inl (fun j => zi (x j)))) (j : Nat) (z : Int) : (zpic G ad X).set k (ad k, .inl (zci G, n, .inl (upd (fun j => zi (X k j)) j (zi z)))) = zpic G ad (zw X k j z) := by
  refine zpic_set ?_
  rw [h, zw1]
  congr 4
  funext q
  by_cases hq : q = j
  · subst hq; simp [upd]
  · simp [upd, hq]
theorem s_q {a : Nat} (h : zIsW a) (j t : Nat) : (zpic G ad X).set (a + 1) (ad (a + 1), .inl (zcq G, 8, .inr (.inr (.inr (.inr (va_up (fun i => some (ad (zr X a i))) j (some (ad (a + 2 + 3 * t))))))))) = zpic G ad (zw X (a + 1) j (t : Int)) := by
  refine zpic_set ?_
  rw [zF_q h, zw1]
  congr 7
  funext q
  by_cases hq : q = j
  · subst hq; simp [va_up]
  · simp [va_up, hq, zr]
end ZM
