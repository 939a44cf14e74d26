/-! ===== the survey: boxes of sets, what is taken out ===== -/
/-- u without q -/
def zDel (u q : Nat) : Nat := u &&& (255 - 2 ^ q)
theorem zDel_bit {u q i : Nat} (hq : q < 8) (hi : i < 8) : (zDel u q).testBit i = (u.testBit i && decide (i ≠ q)) := by
  have key : ∀ (q i : Fin 8), (255 - 2 ^ q.val).testBit i.val = decide (i.val ≠ q.val) := by decide +kernel
  unfold zDel
  rw [Nat.testBit_and, key ⟨q, hq⟩ ⟨i, hi⟩]
theorem zDel_sub {u q : Nat} (hu : u < 256) (hq : q < 8) (h : u.testBit q = true) : zDel u q + 2 ^ q = u := by
  have key : ∀ (u : Fin 256) (q : Fin 8), u.val.testBit q.val = true → (u.val &&& (255 - 2 ^ q.val)) + 2 ^ q.val = u.val := by decide +kernel
  exact key ⟨u, hu⟩ ⟨q, hq⟩ h
theorem zDel_le (u q : Nat) : zDel u q ≤ u := Nat.and_le_left
theorem z2_lt {n k : Nat} (h : k < n) : 2 ^ k < 2 ^ n := Nat.pow_lt_pow_right (by omega) h
theorem z2_256 {n : Nat} (h : n ≤ 8) : 2 ^ n ≤ 256 := Nat.pow_le_pow_right (n := 2) (by omega) h
theorem zNo_zero {n u : Nat} (hu : u < 2 ^ n) (h : zNo n u) : u = 0 := by
  apply Nat.eq_of_testBit_eq
  intro i
  rw [Nat.zero_testBit]
  by_cases hi : i < n
  · exact h i hi
  · exact Nat.testBit_lt_two_pow (Nat.lt_of_lt_of_le hu (Nat.pow_le_pow_right (by omega) (by omega)))
theorem zbit_hi {n u i : Nat} (hu : u < 2 ^ n) (h : u.testBit i = true) : i < n := by
  by_cases hi : i < n
  · exact hi
  · rw [Nat.testBit_lt_two_pow (Nat.lt_of_lt_of_le hu (Nat.pow_le_pow_right (by omega) (by omega)))] at h
    cases h
/-- what the RULES of u leave of a FIELD -/
def zBd (X : Nat → Nat → Int) (u g : Nat) (lo hi : Int) : Prop := (0 ≤ lo ∧ lo < zS g ∧ 0 ≤ hi ∧ hi < zS g) ∧ ∀ v : Int, 0 ≤ v → v < zS g → ((lo ≤ v ∧ v ≤ hi) ↔ ∀ i : Nat, i < zN X 0 → u.testBit i = true → X (zr X 0 i + 1) g ≤ v ∧ v ≤ X (zr X 0 i + 2) g)
theorem zBd_0 (X : Nat → Nat → Int) (g : Nat) : zBd X 0 g 0 (zS g - 1) := by
  have h := zS_le g
  refine ⟨by omega, fun v h0 h1 => ⟨fun _ i _ hb => ?_, fun _ => by omega⟩⟩
  rw [Nat.zero_testBit] at hb
  cases hb
theorem zBd_step {X : Nat → Nat → Int} (hV : zV X) {u k g : Nat} {lo hi : Int} (hu : u < 256) (hk : zFi (zN X 0) u k) (hg : g < 4) (h : zBd X (zDel u k) g lo hi) : zBd X u g (max (X (zr X 0 k + 1) g) lo) (min (X (zr X 0 k + 2) g) hi) := by
  have hn := hV.n (Or.inl rfl : zIsW 0)
  have hk1 := hk.1
  have hr := hV.rf (hV.isR (Or.inl rfl : zIsW 0) (show k < 8 by omega)) hg
  obtain ⟨h1, h2⟩ := h
  refine ⟨by omega, fun v v0 v1 => ?_⟩
  have h3 := h2 v v0 v1
  constructor
  · intro hv i hi hb
    by_cases e : i = k
    · subst e; omega
    · exact h3.mp (by omega) i hi (by rw [zDel_bit (by omega) (by omega), hb, decide_eq_true e]; rfl)
  · intro hv
    have a1 := hv k hk1 hk.2.1
    have a2 := h3.mpr (fun i hi hb => hv i hi (by rw [zDel_bit (by omega) (by omega), Bool.and_eq_true] at hb; exact hb.1))
    omega
/-- the sets m that are u below r, and hold u -/
def zPq (r u m : Nat) : Prop := ∀ i : Nat, (i < r → m.testBit i = u.testBit i) ∧ (u.testBit i = true → m.testBit i = true)
theorem zPq_yes {r u m : Nat} (h : u.testBit r = true) : zPq (r + 1) u m ↔ zPq r u m := by
  constructor
  · intro q i
    exact ⟨fun hi => (q i).1 (by omega), (q i).2⟩
  · intro q i
    refine ⟨fun hi => ?_, (q i).2⟩
    by_cases e : i = r
    · subst e; rw [(q i).2 h, h]
    · exact (q i).1 (by omega)
theorem zor_bit (u r i : Nat) : (u ||| 2 ^ r).testBit i = (u.testBit i || decide (r = i)) := by rw [Nat.testBit_or, Nat.testBit_two_pow]
theorem zPq_no {X : Nat → Nat → Int} {r u : Nat} (h : u.testBit r = false) : zm X (zPq (r + 1) u) = zm X (zPq r u) - zm X (zPq r (u ||| 2 ^ r)) := by
  have h1 := zm_add (X := X) (zPq r u) (fun m => m.testBit r = true)
  have h2 : zm X (fun m => zPq r u m ∧ m.testBit r = true) = zm X (zPq r (u ||| 2 ^ r)) := zm_congr fun m _ => by
    constructor
    · rintro ⟨q, hb⟩ i
      rw [zor_bit]
      refine ⟨fun hi => ?_, fun hz => ?_⟩
      · rw [(q i).1 hi, decide_eq_false (by omega), Bool.or_false]
      · by_cases e : r = i
        · subst e; exact hb
        · rw [decide_eq_false e, Bool.or_false] at hz
          exact (q i).2 hz
    · intro q
      refine ⟨fun i => ⟨fun hi => ?_, fun hz => ?_⟩, ?_⟩
      · have q1 := (q i).1 hi
        rw [zor_bit, decide_eq_false (by omega), Bool.or_false] at q1
        exact q1
      · exact (q i).2 (by rw [zor_bit, hz, Bool.true_or])
      · exact (q r).2 (by rw [zor_bit, decide_eq_true rfl, Bool.or_true])
  have h3 : zm X (fun m => zPq r u m ∧ ¬ m.testBit r = true) = zm X (zPq (r + 1) u) := zm_congr fun m _ => by
    constructor
    · rintro ⟨q, hb⟩ i
      refine ⟨fun hi => ?_, (q i).2⟩
      by_cases e : i = r
      · subst e; rw [h]; exact Bool.eq_false_iff.mpr hb
      · exact (q i).1 (by omega)
    · intro q
      refine ⟨fun i => ⟨fun hi => (q i).1 (by omega), (q i).2⟩, ?_⟩
      rw [(q r).1 (by omega), h]
      exact Bool.false_ne_true
  rw [h2, h3] at h1
  omega
theorem zPq_n {X : Nat → Nat → Int} {u : Nat} (hu : u < 2 ^ zN X 0) : zm X (zPq (zN X 0) u) = zm X (fun m => m = u) := zm_congr fun m hm => by
  constructor
  · intro q
    apply Nat.eq_of_testBit_eq
    intro i
    by_cases hi : i < zN X 0
    · exact (q i).1 hi
    · have hp : 2 ^ zN X 0 ≤ 2 ^ i := Nat.pow_le_pow_right (by omega) (by omega)
      rw [Nat.testBit_lt_two_pow (Nat.lt_of_lt_of_le hm hp), Nat.testBit_lt_two_pow (Nat.lt_of_lt_of_le hu hp)]
  · intro e i
    rw [e]
    exact ⟨fun _ => rfl, id⟩
/-- the amount of a box -/
def zBoxA (w : Nat → Int) : Nat → Int
  | 0 => 1
  | g + 1 => zBoxA w g * max 0 (w g)
theorem zPq_box {X : Nat → Nat → Int} (hV : zV X) {u : Nat} (hu : u < 2 ^ zN X 0) (L U : Nat → Int) (h : ∀ g : Nat, g < 4 → zBd X u g (L g) (U g)) : zm X (zPq 0 u) = zBoxA (fun g => U g - L g + 1) 4 := by
  have h0 : zm X (zPq 0 u) = max 0 (U 0 - L 0 + 1) * max 0 (U 1 - L 1 + 1) * max 0 (U 2 - L 2 + 1) * max 0 (U 3 - L 3 + 1) := by
    refine zmu_box L U (fun g hg => by have := (h g hg).1; omega) (fun a b c d ha hb hc hd => ?_)
    have e0 := zSn_eq 0
    have e1 := zSn_eq 1
    have e2 := zSn_eq 2
    have e3 := zSn_eq 3
    have q0 := (h 0 (by omega)).2 (a : Int) (by omega) (by omega)
    have q1 := (h 1 (by omega)).2 (b : Int) (by omega) (by omega)
    have q2 := (h 2 (by omega)).2 (c : Int) (by omega) (by omega)
    have q3 := (h 3 (by omega)).2 (d : Int) (by omega) (by omega)
    rw [Bool.eq_iff_iff, zB_iff, Bool.and_eq_true, Bool.and_eq_true, Bool.and_eq_true, zIv_iff, zIv_iff, zIv_iff, zIv_iff, q0, q1, q2, q3]
    constructor
    · intro q
      have key : ∀ i : Nat, i < zN X 0 → u.testBit i = true → zBx X (zr X 0 i) a b c d = true := by
        intro i hi hb
        have q4 := (q i).2 hb
        rw [zMs_bit, Bool.and_eq_true] at q4
        exact q4.2
      have key2 : ∀ i : Nat, i < zN X 0 → u.testBit i = true → ((((X (zr X 0 i + 1) 0 ≤ (a : Int) ∧ (a : Int) ≤ X (zr X 0 i + 2) 0) ∧ (X (zr X 0 i + 1) 1 ≤ (b : Int) ∧ (b : Int) ≤ X (zr X 0 i + 2) 1)) ∧ (X (zr X 0 i + 1) 2 ≤ (c : Int) ∧ (c : Int) ≤ X (zr X 0 i + 2) 2)) ∧ (X (zr X 0 i + 1) 3 ≤ (d : Int) ∧ (d : Int) ≤ X (zr X 0 i + 2) 3)) := by
        intro i hi hb
        have q5 := key i hi hb
        unfold zBx at q5
        rw [Bool.and_eq_true, Bool.and_eq_true, Bool.and_eq_true, zIv_iff, zIv_iff, zIv_iff, zIv_iff] at q5
        exact q5
      exact ⟨⟨⟨fun i hi hb => (key2 i hi hb).1.1.1, fun i hi hb => (key2 i hi hb).1.1.2⟩, fun i hi hb => (key2 i hi hb).1.2⟩, fun i hi hb => (key2 i hi hb).2⟩
    · rintro ⟨⟨⟨p0, p1⟩, p2⟩, p3⟩ i
      refine ⟨fun hi => by omega, fun hb => ?_⟩
      have hi := zbit_hi hu hb
      rw [zMs_bit, decide_eq_true hi, Bool.true_and]
      unfold zBx
      rw [Bool.and_eq_true, Bool.and_eq_true, Bool.and_eq_true, zIv_iff, zIv_iff, zIv_iff, zIv_iff]
      exact ⟨⟨⟨p0 i hi hb, p1 i hi hb⟩, p2 i hi hb⟩, p3 i hi hb⟩
  rw [h0]
  show _ = 1 * max 0 (U 0 - L 0 + 1) * max 0 (U 1 - L 1 + 1) * max 0 (U 2 - L 2 + 1) * max 0 (U 3 - L 3 + 1)
  rw [Int.one_mul]
/-- the survey knows the amounts -/
def zSv (X Y : Nat → Nat → Int) : Prop := ∀ u : Nat, u < 2 ^ zN X 0 → Y 56 u = zm X (fun m => m = u)
theorem zSv.bd {X Y : Nat → Nat → Int} (h : zSv X Y) {u : Nat} (hu : u < 2 ^ zN X 0) : 0 ≤ Y 56 u ∧ Y 56 u ≤ 268435456 := by
  rw [h u hu]
  exact ⟨zm_nn, zm_top⟩
theorem zPq_nil (X : Nat → Nat → Int) : zm X (zPq 0 0) = 268435456 := by
  rw [← zm_all (X := X)]
  refine zm_congr fun m _ => ⟨fun _ => trivial, fun _ i => ⟨fun h => by omega, fun h => ?_⟩⟩
  rw [Nat.zero_testBit] at h
  cases h
/-! ints of sets -/
theorem zi_and0 {u b : Nat} (hu : u < 256) : zi ((u &&& b : Nat) : Int) = zi 0 ↔ u &&& b = 0 := by
  have h : u &&& b ≤ u := Nat.and_le_left
  rw [zi_eq ⟨by omega, by omega⟩ ⟨by omega, by omega⟩]
  omega
theorem zand_two {u q : Nat} : u &&& 2 ^ q = 0 ↔ u.testBit q = false := by
  constructor
  · intro h
    have h1 : (u &&& 2 ^ q).testBit q = false := by rw [h, Nat.zero_testBit]
    rw [Nat.testBit_and, Nat.testBit_two_pow, decide_eq_true rfl, Bool.and_true] at h1
    exact h1
  · intro h
    apply Nat.eq_of_testBit_eq
    intro i
    rw [Nat.testBit_and, Nat.testBit_two_pow, Nat.zero_testBit]
    by_cases e : q = i
    · subst e; rw [h, Bool.false_and]
    · rw [decide_eq_false e, Bool.and_false]
theorem zand_nil {u b : Nat} : u &&& b = 0 ↔ ∀ i : Nat, ¬ (u.testBit i = true ∧ b.testBit i = true) := by
  constructor
  · intro h i ⟨h1, h2⟩
    have h3 : (u &&& b).testBit i = true := by rw [Nat.testBit_and, h1, h2]; rfl
    rw [h, Nat.zero_testBit] at h3
    cases h3
  · intro h
    apply Nat.eq_of_testBit_eq
    intro i
    rw [Nat.testBit_and, Nat.zero_testBit]
    have h1 := h i
    cases a : u.testBit i
    · rfl
    · cases c : b.testBit i
      · rfl
      · exact absurd ⟨a, c⟩ h1
theorem zmask_bit (q i : Nat) : (2 ^ q - 1).testBit i = decide (i < q) := Nat.testBit_two_pow_sub_one q i
theorem zi_pred {q : Nat} (hq : q < 9) : zi ((2 ^ q : Nat) : Int) - zi 1 = zi ((2 ^ q - 1 : Nat) : Int) := by
  have h : 1 ≤ 2 ^ q := Nat.one_le_two_pow
  rw [zi_sub]
  exact congrArg zi (by omega)
theorem zi_not {u q : Nat} (hu : u < 256) (hq : q < 8) : zi (u : Int) &&& (zi ((2 ^ q : Nat) : Int) ^^^ zi (-1)) = zi ((zDel u q : Nat) : Int) := by
  have key : ∀ (u : Fin 256) (q : Fin 8), zi ((u.val : Nat) : Int) &&& (zi ((2 ^ q.val : Nat) : Int) ^^^ zi (-1)) = zi ((u.val &&& (255 - 2 ^ q.val) : Nat) : Int) := by decide +kernel
  exact key ⟨u, hu⟩ ⟨q, hq⟩
theorem zi_shl2 {q : Nat} (hq : q < 8) : zi 2 <<< (zi (q : Int) &&& 31) = zi ((2 ^ (q + 1) : Nat) : Int) := by
  have key : ∀ q : Fin 8, zi 2 <<< (zi ((q.val : Nat) : Int) &&& 31) = zi ((2 ^ (q.val + 1) : Nat) : Int) := by decide +kernel
  exact key ⟨q, hq⟩
/-- with the RULE q moved to where it is, a set allows what it did -/
theorem zAl_same {X : Nat → Nat → Int} {a u k : Nat} (hk : zFi (zN X a) u k) : zAl X a (2 ^ k) ↔ zAl X a u := by
  have h : zFi (zN X a) (2 ^ k) k := by
    refine ⟨hk.1, by rw [Nat.testBit_two_pow, decide_eq_true rfl], fun j hj => ?_⟩
    rw [Nat.testBit_two_pow, decide_eq_false (by omega)]
  rw [zAl_fi h, zAl_fi hk]
theorem zFi.del {n u k q : Nat} (hk : zFi n u k) (hn : n ≤ 8) (hq : q < 8) (hne : k ≠ q) : zFi n (zDel u q) k := by
  have hk1 := hk.1
  refine ⟨hk.1, by rw [zDel_bit hq (by omega), hk.2.1, decide_eq_true hne]; rfl, fun j hj => ?_⟩
  rw [zDel_bit hq (by omega), hk.2.2 j hj, Bool.false_and]
theorem zNo.del {n u q : Nat} (h : zNo n u) (hn : n ≤ 8) (hq : q < 8) : zNo n (zDel u q) := fun j hj => by rw [zDel_bit hq (by omega), h j hj, Bool.false_and]
theorem zFi_or (n u : Nat) : (∃ k : Nat, zFi n u k) ∨ zNo n u := by
  induction n with
  | zero => exact Or.inr fun j hj => by omega
  | succ n ih =>
    rcases ih with ⟨k, hk⟩ | h
    · exact Or.inl ⟨k, by have := hk.1; omega, hk.2⟩
    · cases hb : u.testBit n
      · refine Or.inr fun j hj => ?_
        by_cases e : j = n
        · rw [e]; exact hb
        · exact h j (by omega)
      · exact Or.inl ⟨n, by omega, hb, h⟩
theorem zAl_del {X : Nat → Nat → Int} {a u k q : Nat} (hn : zN X a ≤ 8) (hq : q < 8) (hk : zFi (zN X a) u k) (hne : k ≠ q) : zAl X a (zDel u q) ↔ zAl X a u := by
  rw [zAl_fi (hk.del hn hq hne), zAl_fi hk]
theorem zDel_id {u q : Nat} (hu : u < 256) (hq : q < 8) (h : u.testBit q = false) : zDel u q = u := by
  have key : ∀ (u : Fin 256) (q : Fin 8), u.val.testBit q.val = false → (u.val &&& (255 - 2 ^ q.val)) = u.val := by decide +kernel
  exact key ⟨u, hu⟩ ⟨q, hq⟩ h
