/-! ===== the Hedge: what is told it, and what the Nettle holds then ===== -/
/-- the rows are those of the Nettle -/
def zHv (X : Nat → Nat → Int) (n : Nat) (la : Int) (C R : Nat → Nat → Int) : Prop := zI X ∧ zN X 0 = n ∧ n ≤ 8 ∧ X 0 2 = la ∧ (la = 0 ∨ la = 1) ∧ zCv C ∧ ∀ q : Nat, q < n → R q 0 = X (zr X 0 q) 0 ∧ ∀ f : Nat, f < 4 → 0 ≤ R q (2 + 2 * f) ∧ R q (2 + 2 * f) < R q (3 + 2 * f) ∧ R q (3 + 2 * f) ≤ (zPn f : Int) ∧ X (zr X 0 q + 1) f = C f (R q (2 + 2 * f)).toNat ∧ X (zr X 0 q + 2) f = C f (R q (3 + 2 * f)).toNat - 1
theorem zPn_bd (f : Nat) : 3 ≤ zPn f ∧ zPn f ≤ 5 := by unfold zPn; split <;> omega
theorem zCv.mono {C : Nat → Nat → Int} (h : zCv C) {f : Nat} (hf : f < 4) (i j : Nat) (hij : i < j) (hj : j ≤ zPn f) : C f i < C f j := by
  induction j with
  | zero => omega
  | succ j ih =>
    have h1 := (h f hf).2.2 j (by omega)
    by_cases e : i = j
    · rw [e]; exact h1
    · have h2 := ih (by omega) (by omega)
      omega
theorem zCv.bd {C : Nat → Nat → Int} (h : zCv C) {f : Nat} (hf : f < 4) (i : Nat) (hi : i ≤ zPn f) : 0 ≤ C f i ∧ C f i ≤ zS f ∧ (0 < i → 1 ≤ C f i) ∧ (i < zPn f → C f i < zS f) := by
  have h0 := (h f hf).1
  have h1 := (h f hf).2.1
  refine ⟨?_, ?_, fun q => ?_, fun q => ?_⟩
  · by_cases e : i = 0
    · rw [e, h0]; exact Int.le_refl 0
    · have := h.mono hf 0 i (by omega) hi; omega
  · by_cases e : i = zPn f
    · rw [e, h1]; exact Int.le_refl _
    · have := h.mono hf i (zPn f) (by omega) (Nat.le_refl _); omega
  · have := h.mono hf 0 i q hi; omega
  · have := h.mono hf i (zPn f) q (Nat.le_refl _); omega
/-- all caches are out of date -/
theorem zI.out {X Y : Nat → Nat → Int} (hI : zI X) (hV : zV Y) (h68 : Y 68 = X 68) : zI (zOut Y) := by
  have e53 : zOut Y 53 4 = 0 := by unfold zOut; simp [zw_get]
  have e57 : zOut Y 57 5 = 0 := by unfold zOut; simp [zw_get]
  have e61 : zOut Y 61 6 = 0 := by unfold zOut; simp [zw_get]
  have e65 : zOut Y 65 6 = 0 := by unfold zOut; simp [zw_get]
  refine ⟨hV.eq (fun k hk => zOut_cell (by omega)), Or.inl e53, Or.inl e57, Or.inl e61, Or.inl e65, hI.2.2.2.2.2.keep ?_⟩
  rw [zOut_cell (by omega)]
  exact h68
/-- a memory whose RULES are those of another, in another order -/
theorem zI0 : zI zX0 := by
  have hz : ∀ a : Nat, zIsW a → zWok zX0 a := by
    intro a ha
    have ea : ∀ j : Nat, zX0 a j = 0 := fun j => by rcases ha with rfl | rfl <;> rfl
    have eq : ∀ j : Nat, zX0 (a + 1) j = (j : Int) := fun j => by rcases ha with rfl | rfl <;> rfl
    refine ⟨by rw [ea]; omega, Or.inl (ea 2), fun i hi => by rw [eq]; omega, fun i j hi hj e => by rw [eq, eq] at e; omega, fun s hs => ?_⟩
    have er : ∀ k : Nat, k ≠ 1 → k ≠ 27 → ∀ j : Nat, zX0 k j = 0 := fun k h1 h2 j => by
      show (if k = 1 ∨ k = 27 then (j : Int) else 0) = 0
      rw [if_neg (by omega)]
    have g0 : ∀ j : Nat, zX0 (a + 2 + 3 * s) j = 0 := er _ (by rcases ha with rfl | rfl <;> omega) (by rcases ha with rfl | rfl <;> omega)
    have g1 : ∀ j : Nat, zX0 (a + 2 + 3 * s + 1) j = 0 := er _ (by rcases ha with rfl | rfl <;> omega) (by rcases ha with rfl | rfl <;> omega)
    have g2 : ∀ j : Nat, zX0 (a + 2 + 3 * s + 2) j = 0 := er _ (by rcases ha with rfl | rfl <;> omega) (by rcases ha with rfl | rfl <;> omega)
    refine ⟨by rw [g0]; omega, g0 1, fun f hf => ?_⟩
    have := zS_le f
    rw [g1, g2]
    omega
  have e : ∀ k j : Nat, k ≠ 1 → k ≠ 27 → zX0 k j = 0 := fun k j h1 h2 => by
    show (if k = 1 ∨ k = 27 then (j : Int) else 0) = 0
    rw [if_neg (by omega)]
  exact ⟨⟨hz 0 (Or.inl rfl), hz 26 (Or.inr rfl)⟩, Or.inl (e 53 4 (by omega) (by omega)), Or.inl (e 57 5 (by omega) (by omega)), Or.inl (e 61 6 (by omega) (by omega)), Or.inl (e 65 6 (by omega) (by omega)), e 68 1 (by omega) (by omega), e 68 2 (by omega) (by omega), e 68 3 (by omega) (by omega), e 68 4 (by omega) (by omega), e 68 5 (by omega) (by omega)⟩
theorem zHv0 {C R : Nat → Nat → Int} (h : zCv C) : zHv zX0 0 0 C R := ⟨zI0, rfl, by omega, rfl, Or.inl rfl, h, fun q hq => by omega⟩
section ZHM
variable {X Y : Nat → Nat → Int} {n : Nat} {la : Int} {C R : Nat → Nat → Int}
/-- one RULE is taken away -/
theorem zHv.rem (h : zHv X n la C R) {r : Nat} (hr : r < n) (hY : zRem X 0 r Y) {R' : Nat → Nat → Int} (hR : ∀ q : Nat, q < n - 1 → R' q = R (if q < r then q else q + 1)) : zHv (zOut Y) (n - 1) la C R' := by
  obtain ⟨hI, hn, h8, hl, hl2, hC, hq⟩ := h
  obtain ⟨y1, y2, y3, y4⟩ := hY
  have hN := hI.1.n (Or.inl rfl : zIsW 0)
  have hVY : zV Y := hI.1.shf (Or.inl rfl : zIsW 0) (x := r) (y := zN X 0 - 1) (by omega) (by omega) y1 y2 (by omega) (by rw [y4, hl]; exact hl2)
  have eo : ∀ k : Nat, k < 52 → zOut Y k = Y k := fun k hk => zOut_cell (by omega)
  have en : zN (zOut Y) 0 = n - 1 := by unfold zN; rw [eo 0 (by omega), y3, hN.1, hn]; omega
  have ez : ∀ q : Nat, q < n - 1 → zr (zOut Y) 0 q = zr X 0 (if q < r then q else q + 1) := fun q hq => by
    unfold zr
    rw [eo 1 (by omega), show Y (0 + 1) q = X (0 + 1) (zShf r (zN X 0 - 1) q) from y2 q]
    have e2 : zShf r (zN X 0 - 1) q = if q < r then q else q + 1 := by
      unfold zShf
      rw [hn, if_neg (by omega)]
      by_cases c : q < r
      · rw [if_neg (by omega), if_neg (by omega), if_pos c]
      · rw [if_pos (by omega), if_neg c]
    rw [e2]
  refine ⟨hI.out hVY (y1 68 (by omega) (by omega)), en, by omega, by rw [eo 0 (by omega), y4, hl], hl2, hC, fun q hq2 => ?_⟩
  have hs : (if q < r then q else q + 1) < n := by split <;> omega
  have hz := zr_lt hI.1 (Or.inl rfl : zIsW 0) (show (if q < r then q else q + 1) < 8 by omega)
  have hg := zr_ge X 0 (if q < r then q else q + 1)
  rw [ez q hq2, hR q hq2, eo _ (by omega), eo _ (by omega), eo _ (by omega), y1 _ (by omega) (by omega), y1 _ (by omega) (by omega), y1 _ (by omega) (by omega)]
  exact hq _ hs
/-- one RULE is moved -/
theorem zHv.mov (h : zHv X n la C R) {r t : Nat} (hr : r < n) (ht : t < n) (hY : zMov X 0 r t Y) {R' : Nat → Nat → Int} (hR : ∀ q : Nat, q < n → R' q = R (zShf r t q)) : zHv (zOut Y) n la C R' := by
  obtain ⟨hI, hn, h8, hl, hl2, hC, hq⟩ := h
  obtain ⟨y1, y2⟩ := hY
  have hN := hI.1.n (Or.inl rfl : zIsW 0)
  have e0 : Y 0 = X 0 := y1 0 (by omega)
  have hVY : zV Y := hI.1.shf (Or.inl rfl : zIsW 0) (x := r) (y := t) (by omega) (by omega) (fun k h1 h2 => y1 k h2) y2 (by rw [e0]; omega) (by rw [e0, hl]; exact hl2)
  have eo : ∀ k : Nat, k < 52 → zOut Y k = Y k := fun k hk => zOut_cell (by omega)
  have en : zN (zOut Y) 0 = n := by unfold zN; rw [eo 0 (by omega), e0]; exact hn
  have ez : ∀ q : Nat, zr (zOut Y) 0 q = zr X 0 (zShf r t q) := fun q => by
    unfold zr
    rw [eo 1 (by omega), show Y (0 + 1) q = X (0 + 1) (zShf r t q) from y2 q]
  refine ⟨hI.out hVY (y1 68 (by omega)), en, by omega, by rw [eo 0 (by omega), e0, hl], hl2, hC, fun q hq2 => ?_⟩
  have hs : zShf r t q < n := by
    unfold zShf
    split
    · exact hr
    · split
      · omega
      · split <;> omega
  have hz := zr_lt hI.1 (Or.inl rfl : zIsW 0) (show zShf r t q < 8 by omega)
  have hg := zr_ge X 0 (zShf r t q)
  rw [ez q, hR q hq2, eo _ (by omega), eo _ (by omega), eo _ (by omega), y1 _ (by omega), y1 _ (by omega), y1 _ (by omega)]
  exact hq _ hs
/-- one RULE more -/
theorem zHv.add (h : zHv X n la C R) (h8 : n < 8) {v : Int} (hv : 0 ≤ v ∧ v ≤ 2) (hY : zAdd X 0 v Y) {R' : Nat → Nat → Int} (hR : ∀ q : Nat, q < n → R' q = R q) (hR0 : R' n 0 = v) (hRf : ∀ f : Nat, f < 4 → R' n (2 + 2 * f) = 0 ∧ R' n (3 + 2 * f) = (zPn f : Int)) : zHv (zOut Y) (n + 1) la C R' := by
  obtain ⟨hI, hn, -, hl, hl2, hC, hq⟩ := h
  obtain ⟨y0, y1, y2, y3, y4, y5⟩ := hY
  rw [hn] at y0 y1 y2 y3
  have h0 : zIsW 0 := Or.inl rfl
  have hN := hI.1.n h0
  have hRn := hI.1.isR h0 h8
  have hap := hRn.apart h0
  have hS := fun f : Nat => zS_le f
  -- the RULE's own cells, then the wall's count
  have eo : ∀ k : Nat, k < 52 → zOut Y k = Y k := fun k hk => zOut_cell (by omega)
  have hzn := zr_lt hI.1 h0 h8
  have hgn := zr_ge X 0 n
  have hVY : zV Y := by
    have hok : zRok Y (zr X 0 n) := ⟨by rw [y0]; exact hv, y1, fun f hf => by have := hS f; rw [(y2 f hf).1, (y2 f hf).2]; omega⟩
    obtain ⟨Z, hZ⟩ : ∃ Z : Nat → Nat → Int, Z = fun k => if k = 0 then X 0 else Y k := ⟨_, rfl⟩
    have z0 : Z 0 = X 0 := by rw [hZ]; rfl
    have zk : ∀ k : Nat, k ≠ 0 → Z k = Y k := fun k hk => by rw [hZ]; exact if_neg hk
    have hVZ : zV Z := hI.1.chg hRn (fun k k1 k2 k3 => by
      by_cases e : k = 0
      · rw [e, z0]
      · rw [zk k e, y3 k e k1 k2 k3]) (hok.same (zk _ (by omega)) (zk _ (by omega)) (zk _ (by omega)))
    exact hVZ.top h0 (fun k k1 _ => (zk k k1).symm) (by rw [y4]; omega) (by rw [y5, hl]; exact hl2) (fun i hi => by rw [← zk (0 + 1) (by omega)]; exact (hVZ.wok h0).2.2.1 i hi) (fun i j hi hj e => by rw [← zk (0 + 1) (by omega)] at e; exact (hVZ.wok h0).2.2.2.1 i j hi hj e)
  have e1 : Y (0 + 1) = X (0 + 1) := y3 1 (by omega) (by omega) (by omega) (by omega)
  have en : zN (zOut Y) 0 = n + 1 := by unfold zN; rw [eo 0 (by omega), y4, hN.1, hn]; omega
  have ez : ∀ q : Nat, zr (zOut Y) 0 q = zr X 0 q := fun q => by unfold zr; rw [eo (0 + 1) (by omega), e1]
  have e68 : Y 68 = X 68 := y3 68 (by omega) (by omega) (by omega) (by omega)
  refine ⟨hI.out hVY e68, en, by omega, by rw [eo 0 (by omega), y5, hl], hl2, hC, fun q hq2 => ?_⟩
  rw [ez q]
  have hzq := zr_lt hI.1 h0 (show q < 8 by omega)
  have hgq := zr_ge X 0 q
  rw [eo _ (by omega), eo _ (by omega), eo _ (by omega)]
  by_cases e : q = n
  · rw [e, hR0, y0]
    refine ⟨rfl, fun f hf => ?_⟩
    have hp := zPn_bd f
    rw [(hRf f hf).1, (hRf f hf).2, (y2 f hf).1, (y2 f hf).2, Int.toNat_natCast]
    refine ⟨Int.le_refl 0, by omega, Int.le_refl _, (hC f hf).1.symm, by rw [(hC f hf).2.1]⟩
  · have hne : zr X 0 n ≠ zr X 0 q := fun q2 => e (by
      have b1 := (hI.1.wok h0).2.2.1 n h8
      have b2 := (hI.1.wok h0).2.2.1 q (by omega)
      have q3 : (X (0 + 1) n).toNat = (X (0 + 1) q).toNat := by unfold zr at q2; omega
      exact ((hI.1.wok h0).2.2.2.1 n q h8 (by omega) (by omega)).symm)
    obtain ⟨k1, k2, k3, k4, k5, k6, k7, k8, k9⟩ := hRn.sep (hI.1.isR h0 (show q < 8 by omega)) hne
    rw [y3 _ (by omega) k1 k2 k3, y3 _ (by omega) k4 k5 k6, y3 _ (by omega) k7 k8 k9, hR q (by omega)]
    exact hq q (by omega)
/-- another LAST WORD -/
theorem zHv.last (h : zHv X n la C R) {v : Int} (hv : v = 0 ∨ v = 1) : zHv (zOut (zw X 0 2 v)) n v C R := by
  obtain ⟨hI, hn, h8, hl, hl2, hC, hq⟩ := h
  have h0 : zIsW 0 := Or.inl rfl
  have ec : ∀ k : Nat, k ≠ 0 → zw X 0 2 v k = X k := fun k hk => zw_cell hk
  have e1 : zw X 0 2 v 0 1 = X 0 1 := zw_ne (show (1 : Nat) ≠ 2 by decide)
  have e2 : zw X 0 2 v 0 2 = v := zw_at _ _ _ _
  have hVY : zV (zw X 0 2 v) := hI.1.top h0 (fun k k1 _ => ec k k1) (by rw [e1]; exact (hI.1.wok h0).1) (by rw [e2]; exact hv) (fun i hi => by rw [ec (0 + 1) (by omega)]; exact (hI.1.wok h0).2.2.1 i hi) (fun i j hi hj e => by rw [ec (0 + 1) (by omega)] at e; exact (hI.1.wok h0).2.2.2.1 i j hi hj e)
  have eo : ∀ k : Nat, k < 52 → zOut (zw X 0 2 v) k = zw X 0 2 v k := fun k hk => zOut_cell (by omega)
  have ez : ∀ q : Nat, zr (zOut (zw X 0 2 v)) 0 q = zr X 0 q := fun q => by unfold zr; rw [eo (0 + 1) (by omega), ec (0 + 1) (by omega)]
  refine ⟨hI.out hVY (ec 68 (by omega)), by unfold zN; rw [eo 0 (by omega), e1]; exact hn, h8, by rw [eo 0 (by omega), e2], hv, hC, fun q hq2 => ?_⟩
  have hzq := zr_lt hI.1 h0 (show q < 8 by omega)
  have hgq := zr_ge X 0 q
  rw [ez q, eo _ (by omega), eo _ (by omega), eo _ (by omega), ec _ (by omega), ec _ (by omega), ec _ (by omega)]
  exact hq q hq2
/-- another VERDICT -/
theorem zHv.turn (h : zHv X n la C R) {r : Nat} (hr : r < n) {v : Int} (hv : 0 ≤ v ∧ v ≤ 2) {R' : Nat → Nat → Int} (hR : ∀ q j : Nat, R' q j = if q = r ∧ j = 0 then v else R q j) : zHv (zOut (zw X (zr X 0 r) 0 v)) n la C R' := by
  obtain ⟨hI, hn, h8, hl, hl2, hC, hq⟩ := h
  have h0 : zIsW 0 := Or.inl rfl
  have hRr := hI.1.isR h0 (show r < 8 by omega)
  have hzr := zr_lt hI.1 h0 (show r < 8 by omega)
  have hgr := zr_ge X 0 r
  have ec : ∀ k : Nat, k ≠ zr X 0 r → zw X (zr X 0 r) 0 v k = X k := fun k hk => zw_cell hk
  have ok := hI.1.rok hRr
  have hVY : zV (zw X (zr X 0 r) 0 v) := hI.1.chg hRr (fun k k1 _ _ => ec k k1) ⟨by rw [zw_at]; exact hv, by rw [zw_ne (show (1 : Nat) ≠ 0 by decide)]; exact ok.2.1, fun f hf => by rw [ec _ (by omega), ec _ (by omega)]; exact ok.2.2 f hf⟩
  have eo : ∀ k : Nat, k < 52 → zOut (zw X (zr X 0 r) 0 v) k = zw X (zr X 0 r) 0 v k := fun k hk => zOut_cell (by omega)
  have ez : ∀ q : Nat, zr (zOut (zw X (zr X 0 r) 0 v)) 0 q = zr X 0 q := fun q => zr_eq (by rw [eo (0 + 1) (by omega), ec (0 + 1) (by omega)])
  refine ⟨hI.out hVY (ec 68 (by omega)), by unfold zN; rw [eo 0 (by omega), ec 0 (by omega)]; exact hn, h8, by rw [eo 0 (by omega), ec 0 (by omega)]; exact hl, hl2, hC, fun q hq2 => ?_⟩
  have hzq := zr_lt hI.1 h0 (show q < 8 by omega)
  have hgq := zr_ge X 0 q
  have hne : ∀ j : Nat, j < n → zr X 0 j = zr X 0 r → j = r := fun j hj q2 => by
    have b1 := (hI.1.wok h0).2.2.1 r (by omega)
    have b2 := (hI.1.wok h0).2.2.1 j (by omega)
    have q3 : (X (0 + 1) j).toNat = (X (0 + 1) r).toNat := by unfold zr at q2; omega
    exact (hI.1.wok h0).2.2.2.1 j r (by omega) (by omega) (by omega)
  have hRf : ∀ j : Nat, j ≠ 0 → R' q j = R q j := fun j hj => by rw [hR, if_neg (fun z => hj z.2)]
  have hsep : zr X 0 q + 1 ≠ zr X 0 r ∧ zr X 0 q + 2 ≠ zr X 0 r := by
    by_cases e : q = r
    · rw [e]; omega
    · have k := (hRr.sep (hI.1.isR h0 (show q < 8 by omega)) (fun z => e (hne q hq2 z.symm)))
      exact ⟨k.2.2.2.1, k.2.2.2.2.2.2.1⟩
  rw [ez q, eo _ (by omega), eo _ (by omega), eo _ (by omega), ec _ hsep.1, ec _ hsep.2]
  refine ⟨?_, fun f hf => ?_⟩
  · by_cases e : q = r
    · rw [hR, if_pos ⟨e, rfl⟩, e, zw_at]
    · rw [hR, if_neg (fun z => e z.1), ec _ (fun z => e (hne q hq2 z))]
      exact (hq q hq2).1
  · rw [hRf _ (by omega), hRf _ (by omega)]
    exact (hq q hq2).2 f hf
/-- another RANGE -/
theorem zHv.nar (h : zHv X n la C R) {r f : Nat} (hr : r < n) (hf : f < 4) {i j : Int} (hi : 0 ≤ i) (hij : i < j) (hj : j ≤ (zPn f : Int)) {R' : Nat → Nat → Int} (hR : ∀ q g : Nat, R' q g = if q = r ∧ g = 3 + 2 * f then j else if q = r ∧ g = 2 + 2 * f then i else R q g) : zHv (zOut (zw (zw X (zr X 0 r + 1) f (C f i.toNat)) (zr X 0 r + 2) f (C f j.toNat - 1))) n la C R' := by
  obtain ⟨hI, hn, h8, hl, hl2, hC, hq⟩ := h
  have h0 : zIsW 0 := Or.inl rfl
  have hRr := hI.1.isR h0 (show r < 8 by omega)
  have hzr := zr_lt hI.1 h0 (show r < 8 by omega)
  have hgr := zr_ge X 0 r
  have hlo := hC.bd hf i.toNat (by omega)
  have hhi := hC.bd hf j.toNat (by omega)
  have hlh := hC.mono hf i.toNat j.toNat (by omega) (by omega)
  obtain ⟨Y, hY⟩ : ∃ Y : Nat → Nat → Int, Y = zw (zw X (zr X 0 r + 1) f (C f i.toNat)) (zr X 0 r + 2) f (C f j.toNat - 1) := ⟨_, rfl⟩
  rw [← hY]
  have ec : ∀ k : Nat, k ≠ zr X 0 r + 1 → k ≠ zr X 0 r + 2 → Y k = X k := fun k h1 h2 => by rw [hY, zw_cell h2, zw_cell h1]
  have e1 : ∀ g : Nat, Y (zr X 0 r + 1) g = if g = f then C f i.toNat else X (zr X 0 r + 1) g := fun g => by
    rw [hY, zw_cell (show zr X 0 r + 1 ≠ zr X 0 r + 2 by omega)]
    by_cases e : g = f
    · rw [if_pos e, e, zw_at]
    · rw [if_neg e, zw_ne e]
  have e2 : ∀ g : Nat, Y (zr X 0 r + 2) g = if g = f then C f j.toNat - 1 else X (zr X 0 r + 2) g := fun g => by
    rw [hY]
    by_cases e : g = f
    · rw [if_pos e, e, zw_at]
    · rw [if_neg e, zw_ne e, zw_cell (show zr X 0 r + 2 ≠ zr X 0 r + 1 by omega)]
  have ok := hI.1.rok hRr
  have hVY : zV Y := hI.1.chg hRr (fun k _ k2 k3 => ec k k2 k3) ⟨by rw [ec _ (by omega) (by omega)]; exact ok.1, by rw [ec _ (by omega) (by omega)]; exact ok.2.1, fun g hg => by
    rw [e1, e2]
    by_cases e : g = f
    · rw [if_pos e, if_pos e, e]; omega
    · rw [if_neg e, if_neg e]; exact ok.2.2 g hg⟩
  have eo : ∀ k : Nat, k < 52 → zOut Y k = Y k := fun k hk => zOut_cell (by omega)
  have ez : ∀ q : Nat, zr (zOut Y) 0 q = zr X 0 q := fun q => zr_eq (by rw [eo (0 + 1) (by omega), ec (0 + 1) (by omega) (by omega)])
  refine ⟨hI.out hVY (ec 68 (by omega) (by omega)), by unfold zN; rw [eo 0 (by omega), ec 0 (by omega) (by omega)]; exact hn, h8, by rw [eo 0 (by omega), ec 0 (by omega) (by omega)]; exact hl, hl2, hC, fun q hq2 => ?_⟩
  have hzq := zr_lt hI.1 h0 (show q < 8 by omega)
  have hgq := zr_ge X 0 q
  rw [ez q, eo _ (by omega), eo _ (by omega), eo _ (by omega)]
  have h9 := hq q hq2
  by_cases e : q = r
  · rw [e, ec _ (by omega) (by omega)]
    rw [e] at h9
    refine ⟨by rw [hR, if_neg (by omega), if_neg (by omega)]; exact h9.1, fun g hg => ?_⟩
    rw [e1, e2]
    by_cases eg : g = f
    · rw [if_pos eg, if_pos eg, eg, hR r (2 + 2 * f), if_neg (by omega), if_pos ⟨rfl, rfl⟩, hR r (3 + 2 * f), if_pos ⟨rfl, rfl⟩]
      exact ⟨hi, hij, hj, rfl, rfl⟩
    · rw [if_neg eg, if_neg eg, hR r (2 + 2 * g), if_neg (by omega), if_neg (by omega), hR r (3 + 2 * g), if_neg (by omega), if_neg (by omega)]
      exact h9.2 g hg
  · have hne : zr X 0 r ≠ zr X 0 q := fun q2 => e (by
      have b1 := (hI.1.wok h0).2.2.1 r (by omega)
      have b2 := (hI.1.wok h0).2.2.1 q (by omega)
      have q3 : (X (0 + 1) r).toNat = (X (0 + 1) q).toNat := by unfold zr at q2; omega
      exact ((hI.1.wok h0).2.2.2.1 r q (by omega) (by omega) (by omega)).symm)
    obtain ⟨k1, k2, k3, k4, k5, k6, k7, k8, k9⟩ := hRr.sep (hI.1.isR h0 (show q < 8 by omega)) hne
    rw [ec _ k2 k3, ec _ k5 k6, ec _ k8 k9]
    have hRq : ∀ g : Nat, R' q g = R q g := fun g => by rw [hR, if_neg (fun z => e z.1), if_neg (fun z => e z.1)]
    rw [hRq]
    exact ⟨h9.1, fun g hg => by rw [hRq, hRq]; exact h9.2 g hg⟩
end ZHM
