/-! ===== the TREE as it is made ===== -/
theorem zsm_upd {n j : Nat} {f g : Nat → Int} (hj : j < n) (h : ∀ i : Nat, i < n → i ≠ j → f i = g i) : zsm n f = zsm n g + (f j - g j) := by
  induction n with
  | zero => omega
  | succ n ih =>
    show zsm n f + f n = zsm n g + g n + (f j - g j)
    by_cases e : j = n
    · subst e
      rw [zsm_congr (n := j) (f := f) (g := g) (fun i hi => h i (by omega) (by omega))]
      omega
    · rw [ih (by omega) (fun i hi hne => h i (by omega) hne), h n (by omega) (fun q => e q.symm)]
      omega
/-- walls and cuts are the same -/
def zWc (X Y : Nat → Nat → Int) : Prop := zWe X Y ∧ ∀ c : Nat, 57 ≤ c → c ≤ 60 → Y c = X c
theorem zWc.rf (X : Nat → Nat → Int) : zWc X X := ⟨zWe.rf X, fun _ _ _ => rfl⟩
theorem zWc.trans {X Y Z : Nat → Nat → Int} (h : zWc X Y) (h2 : zWc Y Z) : zWc X Z := ⟨h.1.trans h2.1, fun c a b => (h2.2 c a b).trans (h.2 c a b)⟩
theorem zWc.cn {X Y : Nat → Nat → Int} (h : zWc X Y) (f : Nat) : zCn Y f = zCn X f := by unfold zCn; rw [h.2 58 (by omega) (by omega)]
theorem zWc.s0 {X Y : Nat → Nat → Int} (h : zWc X Y) (f j : Nat) : zS0 Y f j = zS0 X f j := by unfold zS0; rw [h.cn, h.2 59 (by omega) (by omega)]
theorem zWc.ma {X Y : Nat → Nat → Int} (h : zWc X Y) (f j : Nat) : zMa Y f j = zMa X f j := by unfold zMa; rw [h.2 60 (by omega) (by omega)]
theorem zWc.cs {X Y : Nat → Nat → Int} (h : zWc X Y) (hV : zV X) (hC : zCs X) : zCs Y := fun g hg =>
  (h.1.ct hV).mpr ((hC g hg).keep (by rw [h.2 58 (by omega) (by omega)]) (fun j _ _ => ⟨by rw [h.2 59 (by omega) (by omega)], by rw [h.2 60 (by omega) (by omega)]⟩))
/-- it leads to a RULE, or the LAST WORD -/
def zLf (X : Nat → Nat → Int) (g u : Nat) : Prop := 4 ≤ g ∨ zSe X 0 g u
theorem zWe.lf {X Y : Nat → Nat → Int} (h : zWe X Y) (hV : zV X) (g u : Nat) : zLf Y g u ↔ zLf X g u := by
  unfold zLf
  rw [h.se hV (Or.inl rfl : zIsW 0)]
def zCh (X Y : Nat → Nat → Int) (g u : Nat) : Prop := zLf X g u ∨ 0 ≤ Y 62 (g * 256 + u)
/-- all to which a code leads is known -/
def zClo (X Y : Nat → Nat → Int) (c : Nat) : Prop := ∀ j : Nat, j < zCn X (c / 256) → zCh X Y (c / 256 + 1) (c % 256 &&& zMa X (c / 256) j)
def zBS (g : Nat) : Int := match g with
  | 0 => 1073741824
  | 1 => 3145728
  | 2 => 8192
  | 3 => 4
  | _ => 0
/-- how many codes have a number -/
def zCo (Y : Nat → Nat → Int) : Prop := Y 61 5 = zsm 1024 (fun c => z1 (0 ≤ Y 62 c))
/-- NODES are known, from the FIELD g on with all to which they lead -/
def zTi (X Y : Nat → Nat → Int) (g : Nat) : Prop :=
  zCo Y ∧
  (∀ c : Nat, c < 1024 → Y 62 c = -1 ∨ (0 ≤ Y 62 c ∧ Y 62 c < Y 61 5 ∧ Y 63 (Y 62 c).toNat = (c : Int))) ∧
  (∀ k : Nat, (k : Int) < Y 61 5 → 0 ≤ Y 63 k ∧ Y 63 k < 1024 ∧ Y 62 (Y 63 k).toNat = (k : Int)) ∧
  (∀ k : Nat, (k : Int) < Y 61 5 → (Y 63 k).toNat % 256 &&& zDec X 0 = (Y 63 k).toNat % 256 ∧ ¬ zLf X ((Y 63 k).toNat / 256) ((Y 63 k).toNat % 256)) ∧
  (∀ k : Nat, (k : Int) < Y 61 5 → (g : Int) * 256 ≤ Y 63 k → zClo X Y (Y 63 k).toNat ∧ 0 ≤ Y 64 k ∧ Y 64 k ≤ zBS ((Y 63 k).toNat / 256))
/-- what was known stays -/
def zTx (X Y : Nat → Nat → Int) : Prop := X 61 5 ≤ Y 61 5 ∧ (∀ c : Nat, 0 ≤ X 62 c → Y 62 c = X 62 c) ∧ (∀ k : Nat, (k : Int) < X 61 5 → Y 63 k = X 63 k ∧ Y 64 k = X 64 k) ∧ (∀ c : Nat, c ≠ 61 → c ≠ 62 → c ≠ 63 → c ≠ 64 → Y c = X c) ∧ Y 61 6 = X 61 6
theorem zTx.rf (X : Nat → Nat → Int) : zTx X X := ⟨Int.le_refl _, fun _ _ => rfl, fun _ _ => ⟨rfl, rfl⟩, fun _ _ _ _ _ => rfl, rfl⟩
theorem zTx.trans {X Y Z : Nat → Nat → Int} (h : zTx X Y) (h2 : zTx Y Z) : zTx X Z := by
  obtain ⟨a1, a2, a3, a4, a5⟩ := h
  obtain ⟨b1, b2, b3, b4, b5⟩ := h2
  refine ⟨by omega, fun c hc => ?_, fun k hk => ?_, fun c q1 q2 q3 q4 => (b4 c q1 q2 q3 q4).trans (a4 c q1 q2 q3 q4), b5.trans a5⟩
  · have e := a2 c hc
    rw [b2 c (by omega), e]
  · have e := a3 k hk
    have e2 := b3 k (by omega)
    exact ⟨e2.1.trans e.1, e2.2.trans e.2⟩
theorem zTx.wc {X Y : Nat → Nat → Int} (h : zTx X Y) : zWc X Y := ⟨fun c hc => h.2.2.2.1 c (by omega) (by omega) (by omega) (by omega), fun c a b => h.2.2.2.1 c (by omega) (by omega) (by omega) (by omega)⟩
theorem zCh.ext {X Y Z : Nat → Nat → Int} (h : zTx Y Z) {g u : Nat} (hc : zCh X Y g u) : zCh X Z g u := by
  rcases hc with q | q
  · exact Or.inl q
  · exact Or.inr (by rw [h.2.1 _ q]; exact q)
theorem zWc.ch {X Y Z : Nat → Nat → Int} (h : zWc X Y) (hV : zV X) {g u : Nat} : zCh Y Z g u ↔ zCh X Z g u := by
  unfold zCh
  rw [h.1.lf hV]
theorem zWc.clo {X Y Z : Nat → Nat → Int} (h : zWc X Y) (hV : zV X) {c : Nat} : zClo Y Z c ↔ zClo X Z c := by
  unfold zClo
  constructor
  · intro q j hj
    have h1 := q j (by rw [h.cn]; exact hj)
    rw [h.ch hV, h.ma] at h1
    exact h1
  · intro q j hj
    rw [h.ch hV, h.ma]
    exact q j (by rw [h.cn] at hj; exact hj)
theorem zWc.ti {X Y Z : Nat → Nat → Int} (h : zWc X Y) (hV : zV X) {g : Nat} : zTi Y Z g ↔ zTi X Z g := by
  unfold zTi
  rw [h.1.dec hV (Or.inl rfl : zIsW 0)]
  constructor
  · rintro ⟨a, b, c, d, e⟩
    exact ⟨a, b, c, fun k hk => ⟨(d k hk).1, fun q => (d k hk).2 ((h.1.lf hV _ _).mpr q)⟩, fun k hk hg => ⟨(h.clo hV).mp (e k hk hg).1, (e k hk hg).2⟩⟩
  · rintro ⟨a, b, c, d, e⟩
    exact ⟨a, b, c, fun k hk => ⟨(d k hk).1, fun q => (d k hk).2 ((h.1.lf hV _ _).mp q)⟩, fun k hk hg => ⟨(h.clo hV).mpr (e k hk hg).1, (e k hk hg).2⟩⟩
theorem zTi.up {X Y : Nat → Nat → Int} {g h : Nat} (hT : zTi X Y g) (hg : g ≤ h) : zTi X Y h := by
  obtain ⟨a, b, c, d, e⟩ := hT
  exact ⟨a, b, c, d, fun k hk q => e k hk (by omega)⟩
theorem zTi.cnt {X Y : Nat → Nat → Int} {g : Nat} (h : zTi X Y g) : 0 ≤ Y 61 5 ∧ Y 61 5 ≤ 1024 := by
  have h1 := zsm_bd (n := 1024) (f := fun c => z1 (0 ≤ Y 62 c)) (c := 1) (fun i _ => z1_bd _)
  have h2 : Y 61 5 = zsm 1024 (fun c => z1 (0 ≤ Y 62 c)) := h.1
  rw [← h2] at h1
  omega
theorem zTi.room {X Y : Nat → Nat → Int} {g c : Nat} (h : zTi X Y g) (hc : c < 1024) (hn : Y 62 c = -1) : Y 61 5 < 1024 := by
  have h1 := zsm_lt (n := 1024) (j := c) (f := fun c => z1 (0 ≤ Y 62 c)) (g := fun _ => 1) (fun i _ => (z1_bd _).2) hc (by
    show z1 (0 ≤ Y 62 c) < 1
    rw [z1_no (by omega)]
    decide)
  have h2 := zsm_bd (n := 1024) (f := fun _ => 1) (c := 1) (fun i _ => ⟨by omega, Int.le_refl 1⟩)
  have h3 : Y 61 5 = zsm 1024 (fun c => z1 (0 ≤ Y 62 c)) := h.1
  rw [← h3] at h1
  omega
/-- a new NODE -/
theorem zTi_new {X Z : Nat → Nat → Int} {g n c : Nat} (h : zTi X X g) (hn : X 61 5 = (n : Int)) (hc : c < 1024) (hcg : c / 256 = g) (hno : X 62 c = -1) (hsub : c % 256 &&& zDec X 0 = c % 256) (hl : ¬ zLf X (c / 256) (c % 256)) (e5 : Z 61 5 = (n : Int) + 1) (e62 : ∀ d : Nat, Z 62 d = if d = c then (n : Int) else X 62 d) (e63 : ∀ k : Nat, Z 63 k = if k = n then (c : Int) else X 63 k) (e64 : Z 64 = X 64) : zTi X Z (g + 1) := by
  obtain ⟨a1, a2, a3, a4, a5⟩ := h
  have toC : ((c : Int)).toNat = c := Int.toNat_natCast c
  have toN : ((n : Int)).toNat = n := Int.toNat_natCast n
  refine ⟨?_, fun d hd => ?_, fun k hk => ?_, fun k hk => ?_, fun k hk hq => ?_⟩
  · have a6 : X 61 5 = zsm 1024 (fun d => z1 (0 ≤ X 62 d)) := a1
    unfold zCo
    rw [e5, zsm_upd (n := 1024) (j := c) (f := fun d => z1 (0 ≤ Z 62 d)) (g := fun d => z1 (0 ≤ X 62 d)) hc (fun i _ hne => by
      show z1 (0 ≤ Z 62 i) = z1 (0 ≤ X 62 i)
      rw [e62, if_neg hne])]
    show _ = zsm 1024 (fun d => z1 (0 ≤ X 62 d)) + (z1 (0 ≤ Z 62 c) - z1 (0 ≤ X 62 c))
    rw [← a6, e62, if_pos rfl, hno, z1_yes (by omega), z1_no (by omega), hn]
    omega
  · rw [e62, e5]
    by_cases e : d = c
    · rw [if_pos e, toN, e63, if_pos rfl, e]
      exact Or.inr ⟨by omega, by omega, rfl⟩
    · rw [if_neg e]
      rcases a2 d hd with q | ⟨q1, q2, q3⟩
      · exact Or.inl q
      · rw [e63, if_neg (by omega)]
        exact Or.inr ⟨q1, by omega, q3⟩
  · rw [e5] at hk
    rw [e63]
    by_cases e : k = n
    · rw [if_pos e, toC, e62, if_pos rfl, e]
      exact ⟨by omega, by omega, rfl⟩
    · rw [if_neg e]
      have q := a3 k (by omega)
      refine ⟨q.1, q.2.1, ?_⟩
      rw [e62, if_neg (fun z => ?_)]
      · exact q.2.2
      · have q3 := q.2.2
        rw [z, hno] at q3
        omega
  · rw [e5] at hk
    rw [e63]
    by_cases e : k = n
    · rw [if_pos e, toC]
      exact ⟨hsub, hl⟩
    · rw [if_neg e]
      exact a4 k (by omega)
  · rw [e5] at hk
    rw [e63] at hq ⊢
    by_cases e : k = n
    · rw [if_pos e] at hq
      omega
    · rw [if_neg e] at hq ⊢
      have q := a5 k (by omega) (by omega)
      refine ⟨fun j hj => ?_, by rw [e64]; exact q.2⟩
      rcases q.1 j hj with z | z
      · exact Or.inl z
      · refine Or.inr ?_
        rw [e62]
        by_cases e2 : (X 63 k).toNat / 256 + 1 = g ∧ False
        · exact e2.2.elim
        · split
          · omega
          · exact z
/-- the NODE is over: its sum is put in -/
theorem zTi_end {X X1 Y Z : Nat → Nat → Int} {g n c : Nat} {sum : Int} (h : zTi X X g) (hn : X 61 5 = (n : Int)) (hcg : c / 256 = g) (hT : zTi X Y (g + 1)) (hx1 : ∀ k : Nat, (k : Int) < n → X1 63 k = X 63 k ∧ X1 64 k = X 64 k) (hx2 : ∀ d : Nat, 0 ≤ X 62 d → X1 62 d = X 62 d) (hx3 : X1 61 5 = (n : Int) + 1) (hx4 : X1 63 n = (c : Int)) (hx : zTx X1 Y) (hnew : ∀ k : Nat, (n : Int) + 1 ≤ (k : Int) → (k : Int) < Y 61 5 → ((g : Int) + 1) * 256 ≤ Y 63 k) (hclo : zClo X Y c) (hs : 0 ≤ sum ∧ sum ≤ zBS g) (eo : ∀ d : Nat, d ≠ 64 → Z d = Y d) (e64 : ∀ k : Nat, Z 64 k = if k = n then sum else Y 64 k) : zTi X Z g := by
  obtain ⟨a1, a2, a3, a4, a5⟩ := hT
  have b5 := h.2.2.2.2
  have toC : ((c : Int)).toNat = c := Int.toNat_natCast c
  have c61 : Z 61 = Y 61 := eo 61 (by omega)
  have c62 : Z 62 = Y 62 := eo 62 (by omega)
  have c63 : Z 63 = Y 63 := eo 63 (by omega)
  have hclo2 : ∀ d : Nat, zClo X Z d ↔ zClo X Y d := fun d => by unfold zClo zCh; rw [c62]
  unfold zTi
  rw [c61, c62, c63]
  refine ⟨by unfold zCo at a1 ⊢; rw [c61, c62]; exact a1, a2, a3, a4, fun k hk hq => ?_⟩
  rw [hclo2, e64]
  by_cases e : k = n
  · have e63 : Y 63 n = (c : Int) := by rw [(hx.2.2.1 n (by omega)).1]; exact hx4
    rw [if_pos e, e, e63, toC, hcg]
    exact ⟨hclo, hs⟩
  · rw [if_neg e]
    by_cases e2 : k < n
    · have f3 : Y 63 k = X 63 k := by rw [(hx.2.2.1 k (by omega)).1]; exact (hx1 k (by omega)).1
      have f4 : Y 64 k = X 64 k := by rw [(hx.2.2.1 k (by omega)).2]; exact (hx1 k (by omega)).2
      rw [f3] at hq ⊢
      rw [f4]
      have q := b5 k (by omega) hq
      refine ⟨fun j hj => ?_, q.2⟩
      rcases q.1 j hj with z | z
      · exact Or.inl z
      · refine Or.inr ?_
        have z1 := hx2 _ z
        rw [hx.2.1 _ (by rw [z1]; exact z), z1]
        exact z
    · exact a5 k hk (hnew k (by omega) hk)
/-- what finding answers -/
def zFd (g : Nat) (X : Nat → Nat → Int) (u : Nat) (w : Int) (Y : Nat → Nat → Int) : Prop := zTi X Y g ∧ zTx X Y ∧ (∀ k : Nat, X 61 5 ≤ (k : Int) → (k : Int) < Y 61 5 → (g : Int) * 256 ≤ Y 63 k) ∧
  ((zLf X g u ∧ zIsF (zN X 0) u (-2 - w) ∧ -10 < w ∧ w < 0 ∧ Y = X) ∨ (¬ zLf X g u ∧ 0 ≤ w ∧ w < Y 61 5 ∧ Y 62 (g * 256 + u) = w ∧ ((0 ≤ X 62 (g * 256 + u) ∧ Y = X) ∨ (X 62 (g * 256 + u) = -1 ∧ w = X 61 5))))
theorem zFd.ch {g : Nat} {X Y : Nat → Nat → Int} {u : Nat} {w : Int} (h : zFd g X u w Y) : zCh X Y g u := by
  rcases h.2.2.2 with q | q
  · exact Or.inl q.1
  · exact Or.inr (by rw [q.2.2.2.1]; exact q.2.1)
/-- the sum of what is found -/
theorem zFd.sum {g : Nat} {X Y : Nat → Nat → Int} {u : Nat} {w : Int} (h : zFd g X u w Y) (hg : g ≤ 3) (hu : u < 256) (hw : 0 ≤ w) : 0 ≤ Y 64 w.toNat ∧ Y 64 w.toNat ≤ zBS g := by
  obtain ⟨⟨a1, a2, a3, a4, a5⟩, -, -, q | ⟨-, q1, q2, q3, -⟩⟩ := h
  · omega
  · have h1 := a2 (g * 256 + u) (by omega)
    rw [q3] at h1
    have h2 : Y 63 w.toNat = ((g * 256 + u : Nat) : Int) := by rcases h1 with z | z; omega; exact z.2.2
    have h3 := a5 w.toNat (by omega) (by rw [h2]; omega)
    rw [h2, Int.toNat_natCast, show (g * 256 + u) / 256 = g by omega] at h3
    exact h3.2
theorem zand_sub {u m d : Nat} (h : u &&& d = u) : (u &&& m) &&& d = u &&& m := by
  rw [Nat.and_assoc, Nat.and_comm m d, ← Nat.and_assoc, h]
/-- the whole TREE -/
def zTv (X Y : Nat → Nat → Int) : Prop := zTi X Y 0 ∧ ((zLf X 0 (zDec X 0) ∧ Y 61 5 = 0) ∨ (¬ zLf X 0 (zDec X 0) ∧ 0 < Y 61 5 ∧ Y 63 0 = (zDec X 0 : Int)))
theorem zTi_0 {X Y : Nat → Nat → Int} {g : Nat} (h5 : Y 61 5 = 0) (h : ∀ c : Nat, c < 1024 → Y 62 c = -1) : zTi X Y g := by
  refine ⟨?_, fun c hc => Or.inl (h c hc), fun k hk => by omega, fun k hk => by omega, fun k hk => by omega⟩
  unfold zCo
  rw [h5, zsm_zero (fun i hi => z1_no (by rw [h i hi]; omega))]
