/-! ===== cuts: the VALUES of a FIELD in segments ===== -/
theorem zsm_le {n : Nat} {f g : Nat → Int} (h : ∀ i : Nat, i < n → f i ≤ g i) : zsm n f ≤ zsm n g := by
  induction n with
  | zero => exact Int.le_refl 0
  | succ n ih =>
    have h1 := ih (fun i hi => h i (by omega))
    have h2 := h n (by omega)
    show zsm n f + f n ≤ zsm n g + g n
    omega
theorem zsm_lt {n j : Nat} {f g : Nat → Int} (h : ∀ i : Nat, i < n → f i ≤ g i) (hj : j < n) (h2 : f j < g j) : zsm n f < zsm n g := by
  induction n with
  | zero => omega
  | succ n ih =>
    show zsm n f + f n < zsm n g + g n
    have h3 := h n (by omega)
    by_cases e : j = n
    · subst e
      have h1 := zsm_le (n := j) (f := f) (g := g) (fun i hi => h i (by omega))
      omega
    · have h1 := ih (fun i hi => h i (by omega)) (by omega)
      omega
/-- places ahead of which a piece may end, behind v -/
noncomputable def zKp (X : Nat → Nat → Int) (a f : Nat) (v : Int) (j : Nat) : Int := z1 (v < X (zr X a j + 1) f) + z1 (v < X (zr X a j + 2) f + 1)
noncomputable def zK1 (X : Nat → Nat → Int) (a f : Nat) (v : Int) : Int := zsm (zN X a) (zKp X a f v)
noncomputable def zK (X : Nat → Nat → Int) (f : Nat) (v : Int) : Int := zK1 X 0 f v + zK1 X 26 f v
theorem zKp_bd (X : Nat → Nat → Int) (a f : Nat) (v : Int) (j : Nat) : 0 ≤ zKp X a f v j ∧ zKp X a f v j ≤ 2 := by
  have h1 := z1_bd (v < X (zr X a j + 1) f)
  have h2 := z1_bd (v < X (zr X a j + 2) f + 1)
  unfold zKp
  omega
theorem z1_mono {P Q : Prop} (h : P → Q) : z1 P ≤ z1 Q := by
  by_cases hp : P
  · rw [z1_yes hp, z1_yes (h hp)]; exact Int.le_refl 1
  · rw [z1_no hp]; exact (z1_bd Q).1
theorem zKp_mono (X : Nat → Nat → Int) (a f : Nat) {v w : Int} (h : v ≤ w) (j : Nat) : zKp X a f w j ≤ zKp X a f v j := by
  have h1 := z1_mono (P := w < X (zr X a j + 1) f) (Q := v < X (zr X a j + 1) f) (fun z => by omega)
  have h2 := z1_mono (P := w < X (zr X a j + 2) f + 1) (Q := v < X (zr X a j + 2) f + 1) (fun z => by omega)
  unfold zKp
  omega
theorem zK1_bd {X : Nat → Nat → Int} (hV : zV X) {a : Nat} (ha : zIsW a) (f : Nat) (v : Int) : 0 ≤ zK1 X a f v ∧ zK1 X a f v ≤ 16 := by
  have h := zsm_bd (n := zN X a) (f := zKp X a f v) (c := 2) (fun i _ => zKp_bd X a f v i)
  have hn := hV.n ha
  unfold zK1
  omega
theorem zK_bd {X : Nat → Nat → Int} (hV : zV X) (f : Nat) (v : Int) : 0 ≤ zK X f v ∧ zK X f v ≤ 32 := by
  have h1 := zK1_bd hV (Or.inl rfl : zIsW 0) f v
  have h2 := zK1_bd hV (Or.inr rfl : zIsW 26) f v
  unfold zK
  omega
theorem zK1_mono (X : Nat → Nat → Int) (a f : Nat) {v w : Int} (h : v ≤ w) : zK1 X a f w ≤ zK1 X a f v := zsm_le fun i _ => zKp_mono X a f h i
theorem zK1_step {X : Nat → Nat → Int} {a f : Nat} {v w : Int} (h : v < w) (hc : zCutAt X a f (zN X a) w) (hw : w < zS f) : zK1 X a f w < zK1 X a f v := by
  rcases hc with e | ⟨j, hj, e⟩
  · omega
  · refine zsm_lt (j := j) (fun i _ => zKp_mono X a f (by omega) i) hj ?_
    have h1 := z1_mono (P := w < X (zr X a j + 1) f) (Q := v < X (zr X a j + 1) f) (fun z => by omega)
    have h2 := z1_mono (P := w < X (zr X a j + 2) f + 1) (Q := v < X (zr X a j + 2) f + 1) (fun z => by omega)
    unfold zKp
    rcases e with e | e
    · rw [z1_no (P := w < X (zr X a j + 1) f) (by omega)] at h1 ⊢
      rw [z1_yes (P := v < X (zr X a j + 1) f) (by omega)]
      omega
    · rw [z1_no (P := w < X (zr X a j + 2) f + 1) (by omega)] at h2 ⊢
      rw [z1_yes (P := v < X (zr X a j + 2) f + 1) (by omega)]
      omega
/-- the next cut of a wall -/
def zNc (X : Nat → Nat → Int) (a f : Nat) (v w : Int) : Prop := v < w ∧ w ≤ zS f ∧ (∀ j : Nat, j < zN X a → (v < X (zr X a j + 1) f → w ≤ X (zr X a j + 1) f) ∧ (v ≤ X (zr X a j + 2) f → w ≤ X (zr X a j + 2) f + 1)) ∧ zCutAt X a f (zN X a) w
theorem zWe.nc {X Y : Nat → Nat → Int} (h : zWe X Y) (hV : zV X) {a : Nat} (ha : zIsW a) {f : Nat} {v w : Int} (hc : zNc Y a f v w) : zNc X a f v w := by
  obtain ⟨h1, h2, h3, h4⟩ := hc
  have hn := hV.n ha
  rw [h.n ha] at h3 h4
  refine ⟨h1, h2, fun j hj => ?_, ?_⟩
  · have h5 := h3 j hj
    have hc := h.cell hV ha (show j < 8 by omega)
    rw [h.r ha, hc.2.1, hc.2.2] at h5
    exact h5
  · rcases h4 with e | ⟨j, hj, e⟩
    · exact Or.inl e
    · have hc := h.cell hV ha (show j < 8 by omega)
      rw [h.r ha, hc.2.1, hc.2.2] at e
      exact Or.inr ⟨j, hj, e⟩
theorem zNc.hav {X : Nat → Nat → Int} {a f : Nat} {v w x : Int} (h : zNc X a f v w) (h1 : v ≤ x) (h2 : x < w) : zHav X a f x = zHav X a f v := by
  unfold zHav
  refine zSet_congr fun i hi => ?_
  have h3 := h.2.2.1 i hi
  unfold zPh
  rw [Bool.eq_iff_iff, zHasB_iff, zHasB_iff]
  omega
/-- a narrower step keeps it -/
theorem zNc.min {X : Nat → Nat → Int} (hV : zV X) {f : Nat} {v w0 w1 : Int} (h0 : zNc X 0 f v w0) (h1 : zNc X 26 f v w1) : (v < min w0 w1 ∧ min w0 w1 ≤ zS f) ∧ (∀ x : Int, v ≤ x → x < min w0 w1 → zHav X 0 f x = zHav X 0 f v ∧ zHav X 26 f x = zHav X 26 f v) ∧ (min w0 w1 < zS f → zK X f (min w0 w1) ≤ zK X f v - 1) := by
  have a1 := h0.1
  have a2 := h0.2.1
  have b1 := h1.1
  have b2 := h1.2.1
  refine ⟨by omega, fun x q1 q2 => ⟨h0.hav q1 (by omega), h1.hav q1 (by omega)⟩, fun hlt => ?_⟩
  unfold zK
  by_cases e : w0 ≤ w1
  · rw [Int.min_eq_left e] at hlt ⊢
    have c1 := zK1_step a1 h0.2.2.2 hlt
    have c2 := zK1_mono X 26 f (show v ≤ w0 by omega)
    omega
  · rw [Int.min_eq_right (by omega)] at hlt ⊢
    have c1 := zK1_step b1 h1.2.2.2 hlt
    have c2 := zK1_mono X 0 f (show v ≤ w1 by omega)
    omega
/-- the RULES, of both walls, that have a VALUE -/
def zMk (X : Nat → Nat → Int) (f : Nat) (x : Int) : Nat := zHav X 0 f x ||| zHav X 26 f x * 256
theorem zHav_lt {X : Nat → Nat → Int} (hV : zV X) {a : Nat} (ha : zIsW a) (f : Nat) (x : Int) : zHav X a f x < 256 := zSet_256 (hV.n ha).2 _
theorem zor_add {a b : Nat} (ha : a < 256) : a ||| b * 256 = a + 256 * b := by
  have h := Nat.two_pow_add_eq_or_of_lt (i := 8) ha b
  rw [Nat.or_comm, Nat.mul_comm b 256, Nat.add_comm]
  exact h.symm
theorem zMk_eq {X : Nat → Nat → Int} (hV : zV X) (f : Nat) (x : Int) : zMk X f x = zHav X 0 f x + 256 * zHav X 26 f x := zor_add (zHav_lt hV (Or.inl rfl) f x)
theorem zMk_lt {X : Nat → Nat → Int} (hV : zV X) (f : Nat) (x : Int) : zMk X f x < 65536 := by
  have h1 := zHav_lt hV (Or.inl rfl : zIsW 0) f x
  have h2 := zHav_lt hV (Or.inr rfl : zIsW 26) f x
  rw [zMk_eq hV]
  omega
theorem zWe.mk {X Y : Nat → Nat → Int} (h : zWe X Y) (hV : zV X) (f : Nat) (x : Int) : zMk Y f x = zMk X f x := by
  unfold zMk
  rw [h.hav hV (Or.inl rfl), h.hav hV (Or.inr rfl)]
theorem zi_shl8 {b : Nat} (hb : b < 256) : zi (b : Int) <<< (zi 8 &&& 31) = zi ((b * 256 : Nat) : Int) := by
  have key : ∀ b : Fin 256, zi ((b.val : Nat) : Int) <<< (zi 8 &&& 31) = zi ((b.val * 256 : Nat) : Int) := by decide +kernel
  exact key ⟨b, hb⟩
/-- the first k segments of a FIELD, up to v -/
def zNxt (Y : Nat → Nat → Int) (f k j : Nat) (v : Int) : Int := if j + 1 < k then Y 59 (33 * f + (j + 1)) else v
def zCg (X Y : Nat → Nat → Int) (f k : Nat) (v : Int) : Prop := (k = 0 → v = 0) ∧ (0 < k → Y 59 (33 * f + 0) = 0) ∧ ∀ j : Nat, j < k → 0 ≤ Y 59 (33 * f + j) ∧ Y 59 (33 * f + j) < zNxt Y f k j v ∧ zNxt Y f k j v ≤ zS f ∧ ∀ x : Int, Y 59 (33 * f + j) ≤ x → x < zNxt Y f k j v → Y 60 (33 * f + j) = (zMk X f x : Int)
theorem zCg_0 (X Y : Nat → Nat → Int) (f : Nat) : zCg X Y f 0 0 := ⟨fun _ => rfl, fun h => by omega, fun j hj => by omega⟩
theorem zCg_step {X Y Z : Nat → Nat → Int} {f k : Nat} {v w : Int} (h : zCg X Y f k v) (hv : 0 ≤ v) (hvw : v < w) (hw : w ≤ zS f) (h59 : ∀ j : Nat, Z 59 (33 * f + j) = if j = k then v else Y 59 (33 * f + j)) (h60 : ∀ j : Nat, Z 60 (33 * f + j) = if j = k then (zMk X f v : Int) else Y 60 (33 * f + j)) (hm : ∀ x : Int, v ≤ x → x < w → zMk X f x = zMk X f v) : zCg X Z f (k + 1) w := by
  obtain ⟨h0, h1, h2⟩ := h
  refine ⟨fun q => by omega, fun _ => ?_, fun j hj => ?_⟩
  · rw [h59]
    by_cases e : 0 = k
    · rw [if_pos e]; exact h0 e.symm
    · rw [if_neg e]; exact h1 (by omega)
  · by_cases e : j = k
    · have en : zNxt Z f (k + 1) j w = w := by unfold zNxt; rw [if_neg (by omega)]
      rw [en, h59, h60, if_pos e, if_pos e]
      exact ⟨hv, hvw, hw, fun x q1 q2 => by rw [hm x q1 q2]⟩
    · have en : zNxt Z f (k + 1) j w = zNxt Y f k j v := by
        unfold zNxt
        rw [if_pos (by omega), h59]
        by_cases e2 : j + 1 = k
        · rw [if_pos e2, if_neg (by omega)]
        · rw [if_neg e2, if_pos (by omega)]
      rw [en, h59, h60, if_neg e, if_neg e]
      exact h2 j (by omega)
/-- the cuts of a FIELD -/
def zCt (X Y : Nat → Nat → Int) (f : Nat) : Prop := Y 58 f = ((Y 58 f).toNat : Int) ∧ 1 ≤ (Y 58 f).toNat ∧ (Y 58 f).toNat ≤ 33 ∧ zCg X Y f (Y 58 f).toNat (zS f)
theorem zCg.keep {X Y Z : Nat → Nat → Int} {f k : Nat} {v : Int} (h : zCg X Y f k v) (hk : k ≤ 33) (h1 : ∀ j : Nat, 33 * f ≤ j → j < 33 * f + 33 → Z 59 j = Y 59 j ∧ Z 60 j = Y 60 j) : zCg X Z f k v := by
  obtain ⟨a, b, c⟩ := h
  refine ⟨a, fun q => ?_, fun j hj => ?_⟩
  · rw [(h1 _ (by omega) (by omega)).1]; exact b q
  · have en : zNxt Z f k j v = zNxt Y f k j v := by
      unfold zNxt
      by_cases e : j + 1 < k
      · rw [if_pos e, if_pos e, (h1 _ (by omega) (by omega)).1]
      · rw [if_neg e, if_neg e]
    rw [en, (h1 _ (by omega) (by omega)).1, (h1 _ (by omega) (by omega)).2]
    exact c j hj
theorem zCt.keep {X Y Z : Nat → Nat → Int} {f : Nat} (h : zCt X Y f) (h0 : Z 58 f = Y 58 f) (h1 : ∀ j : Nat, 33 * f ≤ j → j < 33 * f + 33 → Z 59 j = Y 59 j ∧ Z 60 j = Y 60 j) : zCt X Z f := by
  unfold zCt
  rw [h0]
  exact ⟨h.1, h.2.1, h.2.2.1, h.2.2.2.keep h.2.2.1 h1⟩
theorem zWe.cg {X Y Z : Nat → Nat → Int} (h : zWe X Y) (hV : zV X) {f k : Nat} {v : Int} : zCg Y Z f k v ↔ zCg X Z f k v := by
  unfold zCg
  constructor
  · exact fun ⟨a, b, c⟩ => ⟨a, b, fun j hj => ⟨(c j hj).1, (c j hj).2.1, (c j hj).2.2.1, fun x q1 q2 => by rw [(c j hj).2.2.2 x q1 q2, h.mk hV]⟩⟩
  · exact fun ⟨a, b, c⟩ => ⟨a, b, fun j hj => ⟨(c j hj).1, (c j hj).2.1, (c j hj).2.2.1, fun x q1 q2 => by rw [(c j hj).2.2.2 x q1 q2, h.mk hV]⟩⟩
theorem zWe.ct {X Y Z : Nat → Nat → Int} (h : zWe X Y) (hV : zV X) {f : Nat} : zCt Y Z f ↔ zCt X Z f := by
  unfold zCt
  rw [h.cg hV]
/-- all FIELDS; counts, starts, masks as numbers -/
def zCs (X : Nat → Nat → Int) : Prop := ∀ g : Nat, g < 4 → zCt X X g
def zCn (X : Nat → Nat → Int) (f : Nat) : Nat := (X 58 f).toNat
def zS0 (X : Nat → Nat → Int) (f j : Nat) : Int := if j < zCn X f then X 59 (33 * f + j) else zS f
def zMa (X : Nat → Nat → Int) (f j : Nat) : Nat := (X 60 (33 * f + j)).toNat
section ZCS
variable {X : Nat → Nat → Int}
theorem zCs.n (h : zCs X) {f : Nat} (hf : f < 4) : X 58 f = (zCn X f : Int) ∧ 1 ≤ zCn X f ∧ zCn X f ≤ 33 := ⟨(h f hf).1, (h f hf).2.1, (h f hf).2.2.1⟩
theorem zCs.s0 (h : zCs X) {f : Nat} (hf : f < 4) : zS0 X f 0 = 0 := by
  have h1 := h.n hf
  unfold zS0
  rw [if_pos (by omega)]
  exact (h f hf).2.2.2.2.1 h1.2.1
theorem zCs.sn (X : Nat → Nat → Int) (f : Nat) : zS0 X f (zCn X f) = zS f := by
  unfold zS0
  rw [if_neg (by omega)]
theorem zCs.seg (h : zCs X) {f j : Nat} (hf : f < 4) (hj : j < zCn X f) : 0 ≤ zS0 X f j ∧ zS0 X f j < zS0 X f (j + 1) ∧ zS0 X f (j + 1) ≤ zS f ∧ ∀ x : Int, zS0 X f j ≤ x → x < zS0 X f (j + 1) → X 60 (33 * f + j) = (zMk X f x : Int) := by
  have h1 := (h f hf).2.2.2.2.2 j hj
  have e : zS0 X f j = X 59 (33 * f + j) := by unfold zS0; rw [if_pos hj]
  have en : zS0 X f (j + 1) = zNxt X f (X 58 f).toNat j (zS f) := rfl
  rw [e, en]
  exact h1
theorem zCs.ma (h : zCs X) {f j : Nat} (hf : f < 4) (hj : j < zCn X f) : X 60 (33 * f + j) = (zMa X f j : Int) ∧ ∀ x : Int, zS0 X f j ≤ x → x < zS0 X f (j + 1) → zMa X f j = zMk X f x := by
  have h1 := h.seg hf hj
  have e := h1.2.2.2 _ (Int.le_refl _) h1.2.1
  unfold zMa
  refine ⟨by rw [e]; rfl, fun x q1 q2 => ?_⟩
  rw [h1.2.2.2 x q1 q2]
  rfl
theorem zCs.ma_lt (h : zCs X) (hV : zV X) {f j : Nat} (hf : f < 4) (hj : j < zCn X f) : zMa X f j < 65536 := by
  have h1 := h.seg hf hj
  rw [(h.ma hf hj).2 _ (Int.le_refl _) h1.2.1]
  exact zMk_lt hV f _
theorem zCs.mono (h : zCs X) {f : Nat} (hf : f < 4) (i j : Nat) (hij : i ≤ j) (hj : j ≤ zCn X f) : zS0 X f i ≤ zS0 X f j := by
  induction j with
  | zero => rw [show i = 0 by omega]; exact Int.le_refl _
  | succ j ih =>
    by_cases e : i = j + 1
    · rw [e]; exact Int.le_refl _
    · have h1 := ih (by omega) (by omega)
      have h2 := h.seg hf (show j < zCn X f by omega)
      omega
/-- the segment of a VALUE -/
theorem zCs.find (h : zCs X) {f : Nat} (hf : f < 4) {x : Int} (h0 : 0 ≤ x) (h1 : x < zS f) : ∃ j : Nat, j < zCn X f ∧ zS0 X f j ≤ x ∧ x < zS0 X f (j + 1) := by
  have key : ∀ n : Nat, n ≤ zCn X f → x < zS0 X f n → ∃ j : Nat, j < n ∧ zS0 X f j ≤ x ∧ x < zS0 X f (j + 1) := by
    intro n
    induction n with
    | zero => intro _ hx; rw [h.s0 hf] at hx; omega
    | succ n ih =>
      intro hn hx
      by_cases e : x < zS0 X f n
      · obtain ⟨j, a, b⟩ := ih (by omega) e
        exact ⟨j, by omega, b⟩
      · exact ⟨n, by omega, by omega, hx⟩
  exact key _ (Nat.le_refl _) (by rw [zCs.sn]; exact h1)
end ZCS
/-- a run begins at a segment; where the run of a segment ends -/
def zSR (X : Nat → Nat → Int) (f j u : Nat) : Prop := j = 0 ∨ (zMa X f j ^^^ zMa X f (j - 1)) &&& u ≠ 0
def zRE (X : Nat → Nat → Int) (f j u k : Nat) : Prop := j < k ∧ k ≤ zCn X f ∧ (∀ i : Nat, j < i → i < k → ¬ zSR X f i u) ∧ (k = zCn X f ∨ zSR X f k u)
theorem zRE.uniq {X : Nat → Nat → Int} {f j u k k' : Nat} (h : zRE X f j u k) (h' : zRE X f j u k') : k = k' := by
  rcases Nat.lt_trichotomy k k' with q | q | q
  · rcases h.2.2.2 with e | e
    · have := h'.2.1; omega
    · exact absurd e (h'.2.2.1 k h.1 q)
  · exact q
  · rcases h'.2.2.2 with e | e
    · have := h.2.1; omega
    · exact absurd e (h.2.2.1 k' h'.1 q)
theorem zxor_nil {a b u : Nat} : (a ^^^ b) &&& u = 0 ↔ a &&& u = b &&& u := by
  constructor
  · intro h
    apply Nat.eq_of_testBit_eq
    intro i
    have h1 : ((a ^^^ b) &&& u).testBit i = false := by rw [h, Nat.zero_testBit]
    rw [Nat.testBit_and, Nat.testBit_xor] at h1
    rw [Nat.testBit_and, Nat.testBit_and]
    cases ha : a.testBit i <;> cases hb : b.testBit i <;> cases hu : u.testBit i <;> simp [ha, hb, hu] at h1 ⊢
  · intro h
    apply Nat.eq_of_testBit_eq
    intro i
    have h1 : (a &&& u).testBit i = (b &&& u).testBit i := by rw [h]
    rw [Nat.testBit_and, Nat.testBit_and] at h1
    rw [Nat.testBit_and, Nat.testBit_xor, Nat.zero_testBit]
    cases ha : a.testBit i <;> cases hb : b.testBit i <;> cases hu : u.testBit i <;> simp [ha, hb, hu] at h1 ⊢
/-- in a run the RULES of the set are the same -/
theorem zRE.same {X : Nat → Nat → Int} {f j u k : Nat} (h : zRE X f j u k) (i : Nat) (h1 : j ≤ i) (h2 : i < k) : zMa X f i &&& u = zMa X f j &&& u := by
  induction i with
  | zero => rw [show j = 0 by omega]
  | succ i ih =>
    by_cases e : j = i + 1
    · rw [e]
    · rw [← ih (by omega) (by omega)]
      have h3 := h.2.2.1 (i + 1) (by omega) h2
      have h4 : (zMa X f (i + 1) ^^^ zMa X f (i + 1 - 1)) &&& u = 0 := by
        by_cases q : (zMa X f (i + 1) ^^^ zMa X f (i + 1 - 1)) &&& u = 0
        · exact q
        · exact absurd (Or.inr q) h3
      exact zxor_nil.mp h4
