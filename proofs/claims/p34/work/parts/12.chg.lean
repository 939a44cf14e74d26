/-! ===== what keeps the memory valid ===== -/
theorem zr_ge (X : Nat → Nat → Int) (a i : Nat) : a + 2 ≤ zr X a i := by unfold zr; omega
theorem zIsR.apart {r a : Nat} (h : zIsR r) (ha : zIsW a) : a ≠ r ∧ a ≠ r + 1 ∧ a ≠ r + 2 ∧ a + 1 ≠ r ∧ a + 1 ≠ r + 1 ∧ a + 1 ≠ r + 2 := by
  have h1 := h.mod
  have h2 := h.lt
  rcases ha with rfl | rfl <;> omega
theorem zIsR.sep {r q : Nat} (h : zIsR r) (hq : zIsR q) (hne : r ≠ q) : q ≠ r ∧ q ≠ r + 1 ∧ q ≠ r + 2 ∧ q + 1 ≠ r ∧ q + 1 ≠ r + 1 ∧ q + 1 ≠ r + 2 ∧ q + 2 ≠ r ∧ q + 2 ≠ r + 1 ∧ q + 2 ≠ r + 2 := by
  obtain ⟨a, s, h1, h2, rfl⟩ := h
  obtain ⟨b, t, h3, h4, rfl⟩ := hq
  rcases h1 with rfl | rfl <;> rcases h3 with rfl | rfl <;> omega
theorem zRok.same {X Y : Nat → Nat → Int} {r : Nat} (h : zRok X r) (h0 : Y r = X r) (h1 : Y (r + 1) = X (r + 1)) (h2 : Y (r + 2) = X (r + 2)) : zRok Y r := by
  unfold zRok
  rw [h0, h1, h2]
  exact h
theorem zWok.chg {X Y : Nat → Nat → Int} {a : Nat} (h : zWok X a) (ha : zIsW a) {r : Nat} (hr : zIsR r) (hk : ∀ k : Nat, k ≠ r → k ≠ r + 1 → k ≠ r + 2 → Y k = X k) (ho : zRok Y r) : zWok Y a := by
  obtain ⟨p1, p2, p3, p4, p5, p6⟩ := hr.apart ha
  have e0 : Y a = X a := hk a p1 p2 p3
  have e1 : Y (a + 1) = X (a + 1) := hk (a + 1) p4 p5 p6
  unfold zWok
  rw [e0, e1]
  refine ⟨h.1, h.2.1, h.2.2.1, h.2.2.2.1, fun s hs => ?_⟩
  by_cases he : r = a + 2 + 3 * s
  · rw [← he]; exact ho
  · obtain ⟨q1, q2, q3, q4, q5, q6, q7, q8, q9⟩ := hr.sep ⟨a, s, ha, hs, rfl⟩ he
    exact (h.2.2.2.2 s hs).same (hk _ q1 q2 q3) (hk _ q4 q5 q6) (hk _ q7 q8 q9)
theorem zV.chg {X Y : Nat → Nat → Int} (h : zV X) {r : Nat} (hr : zIsR r) (hk : ∀ k : Nat, k ≠ r → k ≠ r + 1 → k ≠ r + 2 → Y k = X k) (ho : zRok Y r) : zV Y :=
  ⟨h.1.chg (Or.inl rfl) hr hk ho, h.2.chg (Or.inr rfl) hr hk ho⟩
theorem zWok.eq {X Y : Nat → Nat → Int} {a : Nat} (h : zWok X a) (hk : ∀ k : Nat, a ≤ k → k < a + 26 → Y k = X k) : zWok Y a := by
  have e0 : Y a = X a := hk a (by omega) (by omega)
  have e1 : Y (a + 1) = X (a + 1) := hk (a + 1) (by omega) (by omega)
  unfold zWok
  rw [e0, e1]
  exact ⟨h.1, h.2.1, h.2.2.1, h.2.2.2.1, fun s hs => (h.2.2.2.2 s hs).same (hk _ (by omega) (by omega)) (hk _ (by omega) (by omega)) (hk _ (by omega) (by omega))⟩
theorem zV.eq {X Y : Nat → Nat → Int} (h : zV X) (hk : ∀ k : Nat, k < 52 → Y k = X k) : zV Y :=
  ⟨h.1.eq (fun k _ h2 => hk k (by omega)), h.2.eq (fun k _ h2 => hk k (by omega))⟩
/-- a wall's own cell, its order: other values there -/
theorem zV.top {X Y : Nat → Nat → Int} (h : zV X) {a : Nat} (ha : zIsW a) (hk : ∀ k : Nat, k ≠ a → k ≠ a + 1 → Y k = X k) (h1 : 0 ≤ Y a 1 ∧ Y a 1 ≤ 8) (h2 : Y a 2 = 0 ∨ Y a 2 = 1) (h3 : ∀ i : Nat, i < 8 → 0 ≤ Y (a + 1) i ∧ Y (a + 1) i < 8) (h4 : ∀ i j : Nat, i < 8 → j < 8 → Y (a + 1) i = Y (a + 1) j → i = j) : zV Y := by
  have key : zWok Y a := ⟨h1, h2, h3, h4, fun s hs => ((h.wok ha).2.2.2.2 s hs).same (hk _ (by omega) (by omega)) (hk _ (by omega) (by omega)) (hk _ (by omega) (by omega))⟩
  rcases ha with rfl | rfl
  · exact ⟨key, h.2.eq (fun k h5 h6 => hk k (by omega) (by omega))⟩
  · exact ⟨h.1.eq (fun k h5 h6 => hk k (by omega) (by omega)), key⟩
/-- the order behind a move from x to y -/
def zShf (x y j : Nat) : Nat := if j = y then x else if x ≤ j ∧ j < y then j + 1 else if y < j ∧ j ≤ x then j - 1 else j
theorem zShf_lt {x y j : Nat} (hx : x < 8) (hy : y < 8) (hj : j < 8) : zShf x y j < 8 := by
  unfold zShf
  split
  · exact hx
  · split
    · omega
    · split <;> omega
theorem zShf_inj {x y i j : Nat} (h : zShf x y i = zShf x y j) : i = j := by
  unfold zShf at h
  split at h <;> split at h <;> (try split at h) <;> (try split at h) <;> (try split at h) <;> (try split at h) <;> omega
theorem zV.shf {X Y : Nat → Nat → Int} (h : zV X) {a x y : Nat} (ha : zIsW a) (hx : x < 8) (hy : y < 8) (hk : ∀ k : Nat, k ≠ a → k ≠ a + 1 → Y k = X k) (hq : ∀ j : Nat, Y (a + 1) j = X (a + 1) (zShf x y j)) (h1 : 0 ≤ Y a 1 ∧ Y a 1 ≤ 8) (h2 : Y a 2 = 0 ∨ Y a 2 = 1) : zV Y := by
  refine h.top ha hk h1 h2 (fun i hi => ?_) (fun i j hi hj e => ?_)
  · rw [hq]; exact (h.wok ha).2.2.1 _ (zShf_lt hx hy hi)
  · rw [hq, hq] at e
    exact zShf_inj ((h.wok ha).2.2.2.1 _ _ (zShf_lt hx hy hi) (zShf_lt hx hy hj) e)
theorem zboolf {z : Int} (h : z = 0 ∨ z = 1) : fits .boolean (.int (zi z)) = true := by
  rcases h with rfl | rfl <;> rfl
/-- nothing answered, nothing changed -/
def zn (G : zG) (ad : Nat → Nat) (X : Nat → Nat → Int) : Option Value → va_W → Prop := fun r w => r = none ∧ w = zpic G ad X
/-- all that follows from the RULES is out of date -/
def zOut (X : Nat → Nat → Int) : Nat → Nat → Int := zw (zw (zw (zw X 53 4 0) 57 5 0) 61 6 0) 65 6 0
theorem zi_div {a b : Nat} (ha : a ≤ 2147483647) (h0 : 0 < b) (hb : b ≤ 2147483647) : zi (a : Int) / zi (b : Int) = zi ((a / b : Nat) : Int) := by
  have h1 : a / b ≤ a := Nat.div_le_self a b
  have e : ((a : Int)).tdiv (b : Int) = ((a / b : Nat) : Int) := rfl
  generalize a / b = d at h1 e
  rw [← Int32.toInt_inj, Int32.toInt_div, zi_toInt ⟨by omega, by omega⟩, zi_toInt ⟨by omega, by omega⟩, zi_toInt ⟨by omega, by omega⟩, e]
  exact Int.bmod_eq_of_le (by omega) (by omega)
theorem zi_rem {a b : Nat} (ha : a ≤ 2147483647) (h0 : 0 < b) (hb : b ≤ 2147483647) : zi (a : Int) - zi (a : Int) / zi (b : Int) * zi (b : Int) = zi ((a % b : Nat) : Int) := by
  rw [zi_div ha h0 hb, zi_mul, zi_sub]
  have h1 : a % b + b * (a / b) = a := Nat.mod_add_div a b
  have h2 : ((a % b : Nat) : Int) + ((a / b : Nat) : Int) * (b : Int) = (a : Int) := by rw [Int.mul_comm]; exact_mod_cast h1
  apply congrArg
  rw [← h2, Int.add_sub_cancel]
