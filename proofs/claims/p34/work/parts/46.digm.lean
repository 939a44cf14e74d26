/-! ===== the checksum: it is one for memories that agree ===== -/
section ZDG
variable {X Y : Nat → Nat → Int}
theorem zWe.of (h : zWe X Y) (hV : zV X) {q : Nat} (hq : q < 8) (t : Nat) : zOf Y q t = zOf X q t := by
  have h0 : zIsW 0 := Or.inl rfl
  have hc := h.cell hV h0 hq
  unfold zOf
  rw [h.r h0, hc.1, hc.2.1, hc.2.2]
theorem zWe.dr (h : zWe X Y) (hV : zV X) {q : Nat} (hq : q < 8) (d : Int64) : zDR Y q d = zDR X q d := by
  have e : zFld (zOf Y q) d 10 = zFld (zOf X q) d 10 := zFld_congr fun j _ => h.of hV hq j
  unfold zDR
  rw [e, h.dc hV, h.st hV hq, h.cvf hV hq, h.all hV]
theorem zWe.ag (h : zWe X Y) (hV : zV X) {q j : Nat} (hq : q < 8) (hj : j < 8) : zAg Y (zr Y 0 q) (zr Y 0 j) ↔ zAg X (zr X 0 q) (zr X 0 j) := by
  have h0 : zIsW 0 := Or.inl rfl
  have c1 := h.cell hV h0 hq
  have c2 := h.cell hV h0 hj
  unfold zAg zAW zW1
  rw [h.r h0, h.r h0, c1.1, c1.2.1, c1.2.2, c2.1, c2.2.1, c2.2.2]
theorem zWe.qu (h : zWe X Y) (hV : zV X) : zQu Y (zN Y 0) = zQu X (zN X 0) := by
  have h0 : zIsW 0 := Or.inl rfl
  have hn := hV.n h0
  rw [h.n h0]
  unfold zQu
  rw [h.n h0]
  refine zsm_congr fun a ha => zsm_congr fun b hb => z1_congr ?_
  rw [h.ag hV (show a < 8 by omega) (show b < 8 by omega)]
/-- walls, cuts and TREE are the same -/
def zTc (X Y : Nat → Nat → Int) : Prop := zWe X Y ∧ ∀ c : Nat, 57 ≤ c → c ≤ 64 → Y c = X c
theorem zTc.wc (h : zTc X Y) : zWc X Y := ⟨h.1, fun c a b => h.2 c a (by omega)⟩
theorem zTc.fo (h : zTc X Y) (k : Nat) : zFo Y k = zFo X k := by unfold zFo; rw [h.2 63 (by omega) (by omega)]
theorem zTc.so (h : zTc X Y) (k : Nat) : zSo Y k = zSo X k := by unfold zSo; rw [h.2 63 (by omega) (by omega)]
theorem zWc.sr (h : zWc X Y) (f j u : Nat) : zSR Y f j u ↔ zSR X f j u := by unfold zSR; rw [h.ma, h.ma]
theorem zWc.nr (h : zWc X Y) (f u j : Nat) : zNr Y f u j = zNr X f u j := by
  induction j with
  | zero => rfl
  | succ j ih =>
    by_cases hs : zSR X f j u
    · rw [zNr_yes hs, zNr_yes ((h.sr f j u).mpr hs), ih]
    · rw [zNr_no hs, zNr_no (fun z => hs ((h.sr f j u).mp z)), ih]
theorem zTc.np (h : zTc X Y) (k : Nat) : zNp Y k = zNp X k := by unfold zNp; rw [h.wc.nr, h.fo, h.so, h.wc.cn]
theorem zTc.on (h : zTc X Y) (k t : Nat) : zOn Y k t = zOn X k t := by unfold zOn; rw [h.wc.nr, h.fo, h.so, h.wc.cn]
theorem zWc.sg (h : zWc X Y) (f u i j : Nat) : zSg Y f u i j ↔ zSg X f u i j := by unfold zSg; rw [h.cn, h.sr, h.nr]
theorem zWc.re (h : zWc X Y) (f j u k : Nat) : zRE Y f j u k ↔ zRE X f j u k := by
  unfold zRE
  rw [h.cn, h.sr]
  constructor
  · exact fun ⟨a, b, c, d⟩ => ⟨a, b, fun i h1 h2 z => c i h1 h2 ((h.sr f i u).mpr z), d⟩
  · exact fun ⟨a, b, c, d⟩ => ⟨a, b, fun i h1 h2 z => c i h1 h2 ((h.sr f i u).mp z), d⟩
theorem zTc.ld (h : zTc X Y) (hV : zV X) (g u : Nat) (w : Int) : zLd Y g u w ↔ zLd X g u w := by
  unfold zLd
  rw [h.1.lf hV, h.1.n (Or.inl rfl : zIsW 0), h.2 61 (by omega) (by omega), h.2 62 (by omega) (by omega)]
theorem zTc.pc (h : zTc X Y) (hV : zV X) (k q t : Nat) (w : Int) : zPc Y k q t w ↔ zPc X k q t w := by
  unfold zPc
  rw [h.fo, h.so]
  constructor
  · rintro ⟨j, h1, h2⟩
    refine ⟨j, (h.wc.sg _ _ _ _).mp h1, ?_⟩
    rw [h.wc.s0, h.wc.ma, h.ld hV] at h2
    rcases h2 with a | ⟨a, e, b, c⟩ | a
    · exact Or.inl a
    · exact Or.inr (Or.inl ⟨a, e, (h.wc.re _ _ _ _).mp b, by rw [c, h.wc.s0]⟩)
    · exact Or.inr (Or.inr a)
  · rintro ⟨j, h1, h2⟩
    refine ⟨j, (h.wc.sg _ _ _ _).mpr h1, ?_⟩
    rw [h.wc.s0, h.wc.ma, h.ld hV]
    rcases h2 with a | ⟨a, e, b, c⟩ | a
    · exact Or.inl a
    · exact Or.inr (Or.inl ⟨a, e, (h.wc.re _ _ _ _).mpr b, by rw [c, h.wc.s0]⟩)
    · exact Or.inr (Or.inr a)
theorem zTc.pf (h : zTc X Y) (hV : zV X) (k q t : Nat) : zPf Y k q t = zPf X k q t := by
  unfold zPf
  have e : zPc Y k q t = zPc X k q t := funext fun w => propext (h.pc hV k q t w)
  rw [e]
theorem zTc.dn (h : zTc X Y) (hV : zV X) (k : Nat) (d : Int64) : zDN Y k d = zDN X k d := by
  have e1 : zOn Y k = zOn X k := funext fun t => h.on k t
  have e2 : zPf Y k = zPf X k := funext fun q => funext fun t => h.pf hV k q t
  unfold zDN
  rw [h.np, e1, e2]
/-- the checksum -/
noncomputable def zDg (X : Nat → Nat → Int) : Int64 := zFld (fun f => X 66 f) (zMix (zFld (fun _ => 0) (zIt (zDN X) (zMix (zMix (zMix (zIt (zDR X) (zMix 58082 (zN X 0 : Int)) (zN X 0)) (zAll X 255)) (zQu X (zN X 0))) (X 61 5)) (min 20 (X 61 5)).toNat) 5) (X 65 5)) 4
theorem zDg_congr (h : zTc X Y) (hV : zV X) (h65 : Y 65 = X 65) (h66 : Y 66 = X 66) : zDg Y = zDg X := by
  have hn := hV.n (Or.inl rfl : zIsW 0)
  have e1 : ∀ d : Int64, zIt (zDR Y) d (zN X 0) = zIt (zDR X) d (zN X 0) := fun d => zIt_congr fun j hj e => h.1.dr hV (by omega) e
  have e2 : zDN Y = zDN X := funext fun k => funext fun d => h.dn hV k d
  unfold zDg
  rw [e2, h65, h66, h.1.all hV, h.1.qu hV, h.1.n (Or.inl rfl : zIsW 0), e1, h.2 61 (by omega) (by omega)]
/-- a survey that was made, or nothing -/
def zSr (X Y : Nat → Nat → Int) : Prop := Y = X ∨ zSd X Y
theorem zSr.we (h : zSr X Y) : zWe X Y := by
  rcases h with e | e
  · rw [e]; exact zWe.rf X
  · exact e.we
theorem zSr.ks (h : zSr X Y) (hV : zV X) (hK : zKS X) : zKS Y := by
  rcases h with e | e
  · rw [e]; exact hK
  · exact e.ks hV
theorem zSr.sd {Z : Nat → Nat → Int} (h : zSr X Y) (h2 : zSd Y Z) : zSd X Z := by
  rcases h with e | e
  · rw [e] at h2; exact h2
  · rw [e.again h2]; exact e
/-- what is kept of the other caches -/
theorem zWc.tv (h : zWc X Y) (hV : zV X) (h61 : Y 61 5 = X 61 5) (h62 : Y 62 = X 62) (h63 : Y 63 = X 63) (h64 : Y 64 = X 64) (hT : zTv X X) : zTv Y Y := by
  obtain ⟨a, b⟩ := hT
  refine ⟨(h.ti hV).mpr (a.same h61 h62 h63 h64), ?_⟩
  rw [h.1.dec hV (Or.inl rfl : zIsW 0), h61, h63]
  rcases b with ⟨b1, b2⟩ | ⟨b1, b2⟩
  · exact Or.inl ⟨(h.1.lf hV _ _).mpr b1, b2⟩
  · exact Or.inr ⟨fun q => b1 ((h.1.lf hV _ _).mp q), b2⟩
theorem zKC.keep (h : zKC X) (hV : zV X) (hw : zWc X Y) : zKC Y := by
  unfold zKC
  rw [hw.2 57 (by omega) (by omega)]
  rcases h with q | q
  · exact Or.inl q
  · exact Or.inr ⟨q.1, hw.cs hV q.2⟩
theorem zKT.keep (h : zKT X) (hV : zV X) (hw : zWe X Y) (h57 : X 57 5 = 1 → ∀ c : Nat, 57 ≤ c → c ≤ 60 → Y c = X c) (h6 : ∀ c : Nat, 61 ≤ c → c ≤ 64 → Y c = X c) : zKT Y := by
  unfold zKT
  rw [h6 61 (by omega) (by omega)]
  rcases h with q | q
  · exact Or.inl q
  · have h5 := h57 q.2.1
    refine Or.inr ⟨q.1, by rw [h5 57 (by omega) (by omega)]; exact q.2.1, ?_⟩
    exact zWc.tv (X := X) ⟨hw, h5⟩ hV (by rw [h6 61 (by omega) (by omega)]) (h6 62 (by omega) (by omega)) (h6 63 (by omega) (by omega)) (h6 64 (by omega) (by omega)) q.2.2
theorem zKM.keep (h : zKM X) (h57 : X 57 5 = 1 → Y 57 5 = 1) (h65 : Y 65 = X 65) (h66 : Y 66 = X 66) : zKM Y := by
  unfold zKM zCm
  rw [h65, h66]
  rcases h with q | q
  · exact Or.inl q
  · exact Or.inr ⟨q.1, h57 q.2.1, q.2.2⟩
theorem zKS.keep (h : zKS X) (hV : zV X) (hw : zWe X Y) (h53 : Y 53 = X 53) (h56 : Y 56 = X 56) : zKS Y := by
  unfold zKS
  rw [h53]
  rcases h with q | q
  · exact Or.inl q
  · refine Or.inr ⟨q.1, fun u hu => ?_⟩
    rw [h56, hw.m hV]
    exact q.2 u (by rw [hw.n (Or.inl rfl : zIsW 0)] at hu; exact hu)
theorem zLg.keep (h : zLg X) (h68 : Y 68 = X 68) : zLg Y := by unfold zLg at h ⊢; rw [h68]; exact h
/-- all that holds between calls; that all is made; what the checksum does -/
def zI (X : Nat → Nat → Int) : Prop := zV X ∧ zKS X ∧ zKC X ∧ zKT X ∧ zKM X ∧ zLg X
def zFr (X : Nat → Nat → Int) : Prop := X 53 4 = 1 ∧ X 57 5 = 1 ∧ X 61 6 = 1 ∧ X 65 6 = 1
def zDch (X Y : Nat → Nat → Int) : Prop := ∃ X1 X2 : Nat → Nat → Int, zSd X X1 ∧ zTd X1 X2 ∧ zPd2 X2 Y
theorem zSd.wc (h : zSd X Y) : zWc X Y := ⟨h.we, fun c a b => h.2.1 c (by omega) (by omega) (by omega) (by omega)⟩
theorem zSd.i (h : zSd X Y) (hI : zI X) : zI Y := by
  obtain ⟨a, b, c, d, e, f⟩ := hI
  have ho : ∀ c : Nat, 57 ≤ c → Y c = X c := fun c hc => h.2.1 c (by omega) (by omega) (by omega) (by omega)
  exact ⟨h.we.v a, h.ks a, c.keep a h.wc, d.keep a h.we (fun _ c q1 _ => ho c q1) (fun c q1 _ => ho c (by omega)), e.keep (fun q => by rw [ho 57 (by omega)]; exact q) (ho 65 (by omega)) (ho 66 (by omega)), f.keep (ho 68 (by omega))⟩
theorem zTd.i (h : zTd X Y) (hI : zI X) : zI Y := by
  obtain ⟨a, b, c, d, e, f⟩ := hI
  obtain ⟨h1, h2, h3, h4⟩ := h
  have hw : zWe X Y := fun c hc => h2 c (by omega) (by omega)
  exact ⟨hw.v a, b.keep a hw (h2 53 (by omega) (by omega)) (h2 56 (by omega) (by omega)), Or.inr ⟨h4.2.1, h4.2.2.1⟩, Or.inr ⟨h4.1, h4.2.1, h4.2.2.2⟩, e.keep (fun _ => h4.2.1) (h2 65 (by omega) (by omega)) (h2 66 (by omega) (by omega)), f.keep (h2 68 (by omega) (by omega))⟩
theorem zPd2.i (h : zPd2 X Y) (hI : zI X) : zI Y := by
  obtain ⟨a, b, c, d, e, f⟩ := hI
  have hw := h.we
  obtain ⟨h1, h2, h3, h4⟩ := h
  exact ⟨hw.v a, b.keep a hw (h2 53 (by omega) (by omega) (by omega) (by omega)) (h2 56 (by omega) (by omega) (by omega) (by omega)), Or.inr ⟨h4.2.1, h4.2.2.1⟩, d.keep a hw h3 (fun c q1 q2 => h2 c (by omega) (by omega) (by omega) (by omega)), h4.km, f.keep (h2 68 (by omega) (by omega) (by omega) (by omega))⟩
/-- behind the checksum -/
theorem zDch.all (h : zDch X Y) (hI : zI X) : zI Y ∧ zFr Y ∧ zWe X Y ∧ (zFr X → Y = X) ∧ ∀ c : Nat, 68 ≤ c → Y c = X c := by
  obtain ⟨X1, X2, h1, h2, h3⟩ := h
  have i1 := h1.i hI
  have i2 := h2.i i1
  have i3 := h3.i i2
  have w1 := h1.we
  have w2 := h2.we
  have w3 := h3.we
  have e1 : ∀ c : Nat, 57 ≤ c → X1 c = X c := fun c hc => h1.2.1 c (by omega) (by omega) (by omega) (by omega)
  refine ⟨i3, ⟨?_, h3.2.2.2.2.1, ?_, h3.2.2.2.1⟩, w1.trans (w2.trans w3), fun hf => ?_, fun c hc => ?_⟩
  · rw [h3.2.1 53 (by omega) (by omega) (by omega) (by omega), h2.2.1 53 (by omega) (by omega)]; exact h1.2.2.1
  · rw [h3.2.1 61 (by omega) (by omega) (by omega) (by omega)]; exact h2.2.2.2.1
  · have q1 : X1 = X := h1.1 hf.1
    rw [q1] at h2
    have q2 : X2 = X := h2.1 hf.2.2.1
    rw [q2] at h3
    exact h3.1 hf.2.2.2
  · rw [h3.2.1 c (by omega) (by omega) (by omega) (by omega), h2.2.1 c (by omega) (by omega), e1 c (by omega)]
end ZDG
