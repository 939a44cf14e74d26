/-! ===== sets of RULES, as numbers ===== -/
theorem zi_shl1 {i : Nat} (h : i < 31) : zi 1 <<< (zi (i : Int) &&& 31) = zi ((2 ^ i : Nat) : Int) := by
  have key : ∀ j : Fin 31, zi 1 <<< (zi ((j.val : Nat) : Int) &&& 31) = zi ((2 ^ j.val : Nat) : Int) := by decide +kernel
  exact key ⟨i, h⟩
/-- the bit i of a -/
def zbit (a i : Nat) : Nat := a / 2 ^ i % 2
theorem zbit_le (a i : Nat) : zbit a i ≤ 1 := by unfold zbit; omega
theorem zbit_iff (a i : Nat) : zbit a i = 1 ↔ a.testBit i = true := by
  unfold zbit
  rw [Nat.testBit_eq_decide_div_mod_eq, decide_eq_true_iff]
theorem zi_shr {a i : Nat} (ha : a < 256) (hi : i < 8) : zi (a : Int) >>> (zi (i : Int) &&& 31) = zi ((a / 2 ^ i : Nat) : Int) := by
  have key : ∀ (x : Fin 256) (j : Fin 8), zi ((x.val : Nat) : Int) >>> (zi ((j.val : Nat) : Int) &&& 31) = zi ((x.val / 2 ^ j.val : Nat) : Int) := by decide +kernel
  exact key ⟨a, ha⟩ ⟨i, hi⟩
theorem zi_and1 (a i : Nat) : zi ((a / 2 ^ i : Nat) : Int) &&& zi 1 = zi ((zbit a i : Nat) : Int) := by
  have h := zi_and (a / 2 ^ i) 1
  rw [Nat.and_one_is_mod] at h
  exact h
/-- the numbers below n that p holds of -/
def zSet : Nat → (Nat → Bool) → Nat
  | 0, _ => 0
  | n + 1, p => if p n = true then zSet n p ||| 2 ^ n else zSet n p
theorem zSet_lt (n : Nat) (p : Nat → Bool) : zSet n p < 2 ^ n := by
  induction n with
  | zero => exact Nat.one_pos
  | succ n ih =>
    have h2 : (2 : Nat) ^ n < 2 ^ (n + 1) := Nat.pow_lt_pow_right (by omega) (Nat.lt_succ_self n)
    unfold zSet
    split
    · exact Nat.or_lt_two_pow (Nat.lt_trans ih h2) h2
    · exact Nat.lt_trans ih h2
theorem zSet_bit (n : Nat) (p : Nat → Bool) (i : Nat) : (zSet n p).testBit i = (decide (i < n) && p i) := by
  induction n with
  | zero => unfold zSet; simp
  | succ n ih =>
    unfold zSet
    by_cases h : p n = true
    · rw [if_pos h, Nat.testBit_or, ih, Nat.testBit_two_pow]
      by_cases hi : i = n
      · subst hi; simp [h]
      · have h1 : (i < n + 1) = (i < n) := by apply propext; omega
        have h2 : ¬ n = i := fun q => hi q.symm
        simp [h1, h2]
    · rw [if_neg h, ih]
      by_cases hi : i = n
      · subst hi; simp [h]
      · have h1 : (i < n + 1) = (i < n) := by apply propext; omega
        simp [h1]
theorem zSet_256 {n : Nat} (hn : n ≤ 8) (p : Nat → Bool) : zSet n p < 256 := Nat.lt_of_lt_of_le (zSet_lt n p) (Nat.pow_le_pow_right (by omega) hn)
theorem zSet_yes {n : Nat} {p : Nat → Bool} (h : p n = true) : zSet (n + 1) p = zSet n p ||| 2 ^ n := by
  show (if p n = true then _ else _) = _
  rw [if_pos h]
theorem zSet_no {n : Nat} {p : Nat → Bool} (h : ¬ p n = true) : zSet (n + 1) p = zSet n p := by
  show (if p n = true then _ else _) = _
  rw [if_neg h]
/-- how many RULES a wall has; its sets; the first of a set -/
def zN (X : Nat → Nat → Int) (a : Nat) : Nat := (X a 1).toNat
theorem zV.n {X : Nat → Nat → Int} (h : zV X) {a : Nat} (ha : zIsW a) : X a 1 = (zN X a : Int) ∧ zN X a ≤ 8 := by
  have := (h.wok ha).1
  unfold zN
  omega
def zHasB (X : Nat → Nat → Int) (r f : Nat) (v : Int) : Bool := decide (X (r + 1) f ≤ v) && decide (v ≤ X (r + 2) f)
theorem zHasB_iff {X : Nat → Nat → Int} {r f : Nat} {v : Int} : zHasB X r f v = true ↔ X (r + 1) f ≤ v ∧ v ≤ X (r + 2) f := by
  unfold zHasB
  rw [Bool.and_eq_true, decide_eq_true_iff, decide_eq_true_iff]
def zPd (X : Nat → Nat → Int) (a : Nat) : Nat → Bool := fun i => decide (X (zr X a i) 0 ≠ 2)
def zPh (X : Nat → Nat → Int) (a f : Nat) (v : Int) : Nat → Bool := fun i => zHasB X (zr X a i) f v
def zDec (X : Nat → Nat → Int) (a : Nat) : Nat := zSet (zN X a) (zPd X a)
def zHav (X : Nat → Nat → Int) (a f : Nat) (v : Int) : Nat := zSet (zN X a) (zPh X a f v)
def zFi (n u k : Nat) : Prop := k < n ∧ u.testBit k = true ∧ ∀ j : Nat, j < k → u.testBit j = false
def zNo (n u : Nat) : Prop := ∀ j : Nat, j < n → u.testBit j = false
theorem zFi.uniq {n u k k' : Nat} (h : zFi n u k) (h' : zFi n u k') : k = k' := by
  rcases Nat.lt_trichotomy k k' with q | q | q
  · have h1 := h'.2.2 k q
    rw [h.2.1] at h1
    cases h1
  · exact q
  · have h1 := h.2.2 k' q
    rw [h'.2.1] at h1
    cases h1
theorem zFi.no {n u k : Nat} (h : zFi n u k) (h' : zNo n u) : False := by
  have h1 := h' k h.1
  rw [h.2.1] at h1
  cases h1
/-- what a set of RULES that MEET allows; whether it is settled from a FIELD on -/
def zAl (X : Nat → Nat → Int) (a u : Nat) : Prop := (∃ k : Nat, zFi (zN X a) u k ∧ X (zr X a k) 0 = 1) ∨ (zNo (zN X a) u ∧ X a 2 = 1)
def zSe (X : Nat → Nat → Int) (a f u : Nat) : Prop := zNo (zN X a) u ∨ ∃ k : Nat, zFi (zN X a) u k ∧ zWhole X (zr X a k) f
theorem zAl_no {X : Nat → Nat → Int} {a u : Nat} (h : zNo (zN X a) u) : zAl X a u ↔ X a 2 = 1 :=
  ⟨fun q => q.elim (fun ⟨_, hk, _⟩ => (hk.no h).elim) (fun q => q.2), fun q => Or.inr ⟨h, q⟩⟩
theorem zAl_fi {X : Nat → Nat → Int} {a u k : Nat} (h : zFi (zN X a) u k) : zAl X a u ↔ X (zr X a k) 0 = 1 :=
  ⟨fun q => q.elim (fun ⟨_, hk, e⟩ => by rw [h.uniq hk]; exact e) (fun q => (h.no q.1).elim), fun q => Or.inl ⟨k, h, q⟩⟩
theorem zSe_fi {X : Nat → Nat → Int} {a f u k : Nat} (h : zFi (zN X a) u k) : zSe X a f u ↔ zWhole X (zr X a k) f :=
  ⟨fun q => q.elim (fun q => (h.no q).elim) (fun ⟨_, hk, e⟩ => by rw [h.uniq hk]; exact e), fun q => Or.inr ⟨k, h, q⟩⟩
theorem zbool {z : Int} (h : z = 0 ∨ z = 1) : narrow .boolean (.int (zi z)) = .int (zi z) := by
  rcases h with rfl | rfl <;> rfl
/-- a place where a piece may end -/
def zCutAt (X : Nat → Nat → Int) (a f n : Nat) (w : Int) : Prop := w = zS f ∨ ∃ j : Nat, j < n ∧ (w = X (zr X a j + 1) f ∨ w = X (zr X a j + 2) f + 1)
theorem zCutAt.succ {X : Nat → Nat → Int} {a f n : Nat} {w : Int} (h : zCutAt X a f n w) : zCutAt X a f (n + 1) w := h.elim Or.inl (fun ⟨j, hj, e⟩ => Or.inr ⟨j, Nat.lt_succ_of_lt hj, e⟩)
theorem zCutAt.lo (X : Nat → Nat → Int) (a f n : Nat) : zCutAt X a f (n + 1) (X (zr X a n + 1) f) := Or.inr ⟨n, Nat.lt_succ_self n, Or.inl rfl⟩
theorem zCutAt.hi (X : Nat → Nat → Int) (a f n : Nat) : zCutAt X a f (n + 1) (X (zr X a n + 2) f + 1) := Or.inr ⟨n, Nat.lt_succ_self n, Or.inr rfl⟩
theorem zCutAt.min {X : Nat → Nat → Int} {a f n : Nat} {w v : Int} (h : zCutAt X a f n w) (h2 : zCutAt X a f n v) : zCutAt X a f n (min w v) := by
  by_cases q : w ≤ v
  · rw [Int.min_eq_left q]; exact h
  · rw [Int.min_eq_right (by omega)]; exact h2
/-- the rule j of a wall covers the rule q -/
def zCvr (X : Nat → Nat → Int) (a q j : Nat) : Prop := X (zr X a j) 0 ≠ 2 ∧ zCov X (zr X a j) (zr X a q)
/-- the first of a set, as firstOf says it; the first that covers -/
def zIsF (n u : Nat) (w : Int) : Prop := (∃ k : Nat, w = (k : Int) ∧ zFi n u k) ∨ (w = -1 ∧ zNo n u)
def zIsC (X : Nat → Nat → Int) (a q : Nat) (w : Int) : Prop := (∃ k : Nat, w = (k : Int) ∧ zCvr X a q k ∧ ∀ j : Nat, j < k → ¬ zCvr X a q j) ∨ (w = -1 ∧ ∀ j : Nat, j < q → ¬ zCvr X a q j)
