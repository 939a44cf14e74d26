/-! ===== counting PACKETS ===== -/
def zsum : Nat → (Nat → Nat) → Nat
  | 0, _ => 0
  | n + 1, f => zsum n f + f n
theorem zsum_congr {n : Nat} {f g : Nat → Nat} (h : ∀ i : Nat, i < n → f i = g i) : zsum n f = zsum n g := by
  induction n with
  | zero => rfl
  | succ n ih =>
    show zsum n f + f n = zsum n g + g n
    rw [ih (fun i hi => h i (by omega)), h n (by omega)]
theorem zsum_add (n : Nat) (f g : Nat → Nat) : zsum n (fun i => f i + g i) = zsum n f + zsum n g := by
  induction n with
  | zero => rfl
  | succ n ih =>
    show zsum n (fun i => f i + g i) + (f n + g n) = (zsum n f + f n) + (zsum n g + g n)
    rw [ih]
    omega
theorem zsum_mul (n c : Nat) (f : Nat → Nat) : zsum n (fun i => f i * c) = zsum n f * c := by
  induction n with
  | zero => show 0 = 0 * c; rw [Nat.zero_mul]
  | succ n ih =>
    show zsum n (fun i => f i * c) + f n * c = (zsum n f + f n) * c
    rw [ih, Nat.add_mul]
theorem zsum_zero (n : Nat) : zsum n (fun _ => 0) = 0 := by
  induction n with
  | zero => rfl
  | succ n ih =>
    show zsum n (fun _ => 0) + 0 = 0
    rw [ih]
/-- an interval of a FIELD -/
def zIv (lo hi : Int) (v : Nat) : Bool := decide (lo ≤ (v : Int)) && decide ((v : Int) ≤ hi)
theorem zIv_iff {lo hi : Int} {v : Nat} : zIv lo hi v = true ↔ lo ≤ (v : Int) ∧ (v : Int) ≤ hi := by
  unfold zIv
  rw [Bool.and_eq_true, decide_eq_true_iff, decide_eq_true_iff]
/-- how many numbers below n lie from lo to hi -/
theorem zsum_iv (n : Nat) (lo hi : Int) (h0 : 0 ≤ lo) : ((zsum n (fun i => if zIv lo hi i then 1 else 0) : Nat) : Int) = max 0 (min hi ((n : Int) - 1) - lo + 1) := by
  induction n with
  | zero =>
    show ((0 : Nat) : Int) = _
    omega
  | succ n ih =>
    have e : zsum (n + 1) (fun i => if zIv lo hi i then 1 else 0) = zsum n (fun i => if zIv lo hi i then 1 else 0) + (if zIv lo hi n then 1 else 0) := rfl
    rw [e]
    generalize zsum n (fun i => if zIv lo hi i then 1 else 0) = t at ih
    by_cases h : zIv lo hi n = true
    · rw [if_pos h]
      have h2 := zIv_iff.mp h
      omega
    · rw [if_neg h]
      have h2 : ¬ (lo ≤ (n : Int) ∧ (n : Int) ≤ hi) := fun q => h (zIv_iff.mpr q)
      omega
/-- how many points of a box of sizes S p holds of -/
def zct (S : Nat → Nat) (p : Nat → Nat → Nat → Nat → Bool) : Nat := zsum (S 0) fun a => zsum (S 1) fun b => zsum (S 2) fun c => zsum (S 3) fun d => if p a b c d then 1 else 0
section ZCT
variable {S : Nat → Nat}
theorem zct_congr {p q : Nat → Nat → Nat → Nat → Bool} (h : ∀ a b c d : Nat, a < S 0 → b < S 1 → c < S 2 → d < S 3 → p a b c d = q a b c d) : zct S p = zct S q := by
  unfold zct
  exact zsum_congr fun a ha => zsum_congr fun b hb => zsum_congr fun c hc => zsum_congr fun d hd => by rw [h a b c d ha hb hc hd]
theorem zct_add (p q : Nat → Nat → Nat → Nat → Bool) : zct S p = zct S (fun a b c d => p a b c d && q a b c d) + zct S (fun a b c d => p a b c d && !q a b c d) := by
  unfold zct
  rw [← zsum_add]
  refine zsum_congr fun a _ => ?_
  rw [← zsum_add]
  refine zsum_congr fun b _ => ?_
  rw [← zsum_add]
  refine zsum_congr fun c _ => ?_
  rw [← zsum_add]
  refine zsum_congr fun d _ => ?_
  show (if p a b c d then 1 else 0) = (if p a b c d && q a b c d then 1 else 0) + (if p a b c d && !q a b c d then 1 else 0)
  cases p a b c d <;> cases q a b c d <;> rfl
theorem zct_box (i0 i1 i2 i3 : Nat → Bool) : zct S (fun a b c d => i0 a && i1 b && i2 c && i3 d) = zsum (S 0) (fun a => if i0 a then 1 else 0) * zsum (S 1) (fun a => if i1 a then 1 else 0) * zsum (S 2) (fun a => if i2 a then 1 else 0) * zsum (S 3) (fun a => if i3 a then 1 else 0) := by
  unfold zct
  generalize S 0 = n0
  generalize S 1 = n1
  generalize S 2 = n2
  generalize S 3 = n3
  have h3 : ∀ u : Bool, zsum n3 (fun d => if u && i3 d then 1 else 0) = (if u then 1 else 0) * zsum n3 (fun a => if i3 a then 1 else 0) := by
    intro u
    cases u
    · simp [zsum_zero]
    · simp
  have h2 : ∀ u : Bool, zsum n2 (fun c => zsum n3 (fun d => if u && i2 c && i3 d then 1 else 0)) = (if u then 1 else 0) * (zsum n2 (fun a => if i2 a then 1 else 0) * zsum n3 (fun a => if i3 a then 1 else 0)) := by
    intro u
    rw [zsum_congr (fun c _ => h3 (u && i2 c)), zsum_mul]
    cases u
    · simp [zsum_zero]
    · simp
  have h1 : ∀ u : Bool, zsum n1 (fun b => zsum n2 (fun c => zsum n3 (fun d => if u && i1 b && i2 c && i3 d then 1 else 0))) = (if u then 1 else 0) * (zsum n1 (fun a => if i1 a then 1 else 0) * (zsum n2 (fun a => if i2 a then 1 else 0) * zsum n3 (fun a => if i3 a then 1 else 0))) := by
    intro u
    rw [zsum_congr (fun b _ => h2 (u && i1 b)), zsum_mul]
    cases u
    · simp [zsum_zero]
    · simp
  rw [zsum_congr (fun a _ => h1 (i0 a)), zsum_mul, Nat.mul_assoc, Nat.mul_assoc]
theorem zct_false : zct S (fun _ _ _ _ => false) = 0 := by
  unfold zct
  simp [zsum_zero]
theorem zct_ivs {l0 h0 l1 h1 l2 h2 l3 h3 : Int} (b0 : 0 ≤ l0 ∧ h0 < S 0) (b1 : 0 ≤ l1 ∧ h1 < S 1) (b2 : 0 ≤ l2 ∧ h2 < S 2) (b3 : 0 ≤ l3 ∧ h3 < S 3) :
    ((zct S (fun a b c d => zIv l0 h0 a && zIv l1 h1 b && zIv l2 h2 c && zIv l3 h3 d) : Nat) : Int) = max 0 (h0 - l0 + 1) * max 0 (h1 - l1 + 1) * max 0 (h2 - l2 + 1) * max 0 (h3 - l3 + 1) := by
  have key : ∀ (f : Nat) (lo hi : Int), 0 ≤ lo → hi < (S f : Int) → ((zsum (S f) (fun i => if zIv lo hi i then 1 else 0) : Nat) : Int) = max 0 (hi - lo + 1) := by
    intro f lo hi q1 q2
    have h := zsum_iv (S f) lo hi q1
    have h6 : min hi ((S f : Int) - 1) = hi := by omega
    rw [h6] at h
    exact h
  rw [zct_box, Int.natCast_mul, Int.natCast_mul, Int.natCast_mul, key 0 l0 h0 b0.1 b0.2, key 1 l1 h1 b1.1 b1.2, key 2 l2 h2 b2.1 b2.2, key 3 l3 h3 b3.1 b3.2]
end ZCT
