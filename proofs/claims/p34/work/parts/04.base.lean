/-! ===== the words of this claim: what stays (tables, static rows, the script), a method's start and end, the memory of one Nettle ===== -/
/-- the classes' numbers; the classes of int[], Rule[], int[][]; the cells of SIZES and AMOUNTS; the script: its cell, its length, its ints -/
abbrev zG : Type := va_G × (ClassId × ClassId × ClassId) × (Nat × Nat) × (Nat × Nat × (Nat → Int32))
abbrev zci (G : zG) : ClassId := G.2.1.1
abbrev zcq (G : zG) : ClassId := G.2.1.2.1
abbrev zca (G : zG) : ClassId := G.2.1.2.2
abbrev zsz (G : zG) : Nat := G.2.2.1.1
abbrev zam (G : zG) : Nat := G.2.2.1.2
abbrev zsb (G : zG) : Nat := G.2.2.2.1
abbrev zsl (G : zG) : Nat := G.2.2.2.2.1
abbrev zsx (G : zG) : Nat → Int32 := G.2.2.2.2.2
abbrev zTys (G : zG) : List (ClassId × FieldType) := [(zci G, .int), (zcq G, .object "Nettle$Rule"), (zca G, .array .int)]
/-- an int, as the machine holds it -/
def zi (z : Int) : Int32 := Int32.ofInt z
/-- the sizes of the FIELDS, and what is told apart by a FIELD and the later ones -/
def zS (f : Nat) : Int := match f with
  | 0 => 256
  | 1 => 256
  | 2 => 1024
  | _ => 4
def zM (f : Nat) : Int := match f with
  | 0 => 268435456
  | 1 => 1048576
  | 2 => 4096
  | 3 => 4
  | _ => 1
/-- private members of nest mates -/
def zNest (U : State) : Prop :=
  va_Nw (.methodLinkNest "Nettle$Wall" 17 ⟨"Nettle$Rule", "<init>", "()V"⟩ "Nettle") U ∧
  va_Nw (.methodLinkNest "Nettle" 57 ⟨"Nettle$Log", "<init>", "()V"⟩ "Nettle") U ∧
  va_Nw (.fieldLinkNest "Nettle$Survey" 29 "Nettle" "SIZES" "[I" "Nettle") U ∧
  va_Nw (.fieldLinkNest "Nettle$Survey" 32 "Nettle" "AMOUNTS" "[I" "Nettle") U ∧
  va_Nw (.fieldLinkNest "Nettle$Cuts" 36 "Nettle" "SIZES" "[I" "Nettle") U ∧
  va_Nw (.fieldLinkNest "Nettle$Wall" 46 "Nettle" "SIZES" "[I" "Nettle") U ∧
  va_Nw (.fieldLinkNest "Nettle$Rule" 25 "Nettle" "SIZES" "[I" "Nettle") U ∧
  va_Nw (.fieldLinkNest "Nettle$Tree" 55 "Nettle" "AMOUNTS" "[I" "Nettle") U ∧
  va_Nw (.fieldLinkNest "Nettle$Comparison" 80 "Nettle" "AMOUNTS" "[I" "Nettle") U ∧
  va_Nw (.methodLinkNest "NettleLaw$Hedge" 42 ⟨"NettleLaw", "cell", "([II)I"⟩ "NettleLaw") U ∧
  va_Nw (.methodLinkNest "NettleLaw$Hedge" 48 ⟨"NettleLaw", "below", "(II)I"⟩ "NettleLaw") U
theorem zNest.warm {s U : State} (hW : s.WarmedH U.vm) (h : zNest s) : zNest U := by
  obtain ⟨a1, a2, a3, a4, a5, a6, a7, a8, a9, b1, b2⟩ := h
  exact ⟨va_Nw.warmM hW a1, va_Nw.warmM hW a2, va_Nw.warmF hW a3, va_Nw.warmF hW a4, va_Nw.warmF hW a5, va_Nw.warmF hW a6, va_Nw.warmF hW a7, va_Nw.warmF hW a8, va_Nw.warmF hW a9, va_Nw.warmM hW b1, va_Nw.warmM hW b2⟩
theorem zNest.same {u U : State} (h : u.vm = U.vm) (hZ : zNest u) : zNest U := by
  obtain ⟨a1, a2, a3, a4, a5, a6, a7, a8, a9, b1, b2⟩ := hZ
  exact ⟨va_Nw.same rfl h a1, va_Nw.same rfl h a2, va_Nw.same rfl h a3, va_Nw.same rfl h a4, va_Nw.same rfl h a5, va_Nw.same rfl h a6, va_Nw.same rfl h a7, va_Nw.same rfl h a8, va_Nw.same rfl h a9, va_Nw.same rfl h b1, va_Nw.same rfl h b2⟩
/-- rows of rows of ints -/
def zAA (U : State) : Prop := (Cond.arrayOver (.array .int)).before #[] U = true
theorem zAA.use {A : Array Value} {U : State} (h : zAA U) : (Cond.arrayOver (.array .int)).before A U = true := h
theorem zAA.moved {u U : State} (hvm : u.vm.Alike U.vm) (h : zAA u) : zAA U := by
  obtain ⟨comp, c, k, h1, h2, h3, h4, h5⟩ := arrayOverA_spec h
  obtain ⟨k', hk', he⟩ := hvm.2.2 _ _ h3
  have hi : (U.vm.classes.findIdx? fun (x : Class) => match x.kind with | .array component _ => component == comp | _ => false) = some c := by
    have e1 := va_idx_bare U.vm comp
    have e2 := va_idx_bare u.vm comp
    have e3 : U.vm.bare = u.vm.bare := by first | exact hvm.bare_eq | exact hvm.bare_eq.symm
    rw [e3] at e1
    exact e1.symm.trans (e2.trans h2)
  have hkind : k'.kind = .array comp (.array .int) := by rw [he]; exact h4
  have f1 : U.vm.findClass (FieldType.array .int).toString = some comp := by rw [hvm.findClass]; exact h1
  have f2 : U.vm.findClass ("[" ++ (FieldType.array .int).toString) = some c := by rw [hvm.findClass]; exact h5
  unfold zAA Cond.before Cond.holds
  simp only [Cond.value]
  rw [f1, Option.bind_some]
  refine (congrArg (fun o : Option Nat => (o.bind (fun c => (U.vm.classes[c]?).map fun (k : Class) => match k.kind with | .array _ ty => decide (ty = FieldType.array .int) && decide (U.vm.findClass ("[" ++ (FieldType.array .int).toString) = some c) | _ => false) == some true)) hi).trans ?_
  simp [hk', hkind, f2]
/-- the script -/
def zScr (G : zG) (A : Nat → Prop) (U : State) (H : Heap) : Prop := va_X (zsb G) (zsl G) (zsx G) U H ∧ zsb G < H.size ∧ ¬ A (zsb G)
/-- all that stays, whatever a method does -/
def zZ (G : zG) (A : Nat → Prop) (U : State) (H : Heap) : Prop :=
  va_K G.1 vwCl (zTys G) U ∧ (va_Z "Nettle" "SIZES" "[I" (.ref (zsz G)) A U H ∧ va_T .int (zsz G) 4 (fun j => .int (zi (zS j))) A U H) ∧ (va_Z "Nettle" "AMOUNTS" "[I" (.ref (zam G)) A U H ∧ va_T .int (zam G) 5 (fun j => .int (zi (zM j))) A U H) ∧
  zNest U ∧ va_AO "Nettle$Rule" U ∧ zAA U ∧ zScr G A U H
theorem zZ.give {G : zG} {A A' : Nat → Prop} {s U : State} {H : Heap} {locs : List Loc} (h : zZ G A s s.heap) (hS : va_S A s.heap H locs) (hF : ∀ q, A' q → A q) (hU : U.heap = H) (hW : s.WarmedH U.vm) : zZ G A' U U.heap := by
  obtain ⟨h1, ⟨h2, h3⟩, ⟨h4, h5⟩, h8, h10, h11, ⟨g1, g2, g3⟩⟩ := h
  subst hU
  exact ⟨va_K.moved hW.alike h1, ⟨va_Z.moved hW.alike ((h2.kept hS.2.1).narrow hF), va_T.moved hW.alike ((h3.kept hS.2.1).narrow hF)⟩, ⟨va_Z.moved hW.alike ((h4.kept hS.2.1).narrow hF), va_T.moved hW.alike ((h5.kept hS.2.1).narrow hF)⟩,
    zNest.warm hW h8, va_AO.moved hW.alike h10, zAA.moved hW.alike h11, va_X.moved hW.alike (g1.kept (hS.2.1 _ g2 g3)), Nat.lt_of_lt_of_le g2 hS.1, fun q => g3 (hF _ q)⟩
theorem zZ.same {G : zG} {A : Nat → Prop} {u U : State} {H : Heap} (hv : u.vm = U.vm) (h : zZ G A u H) : zZ G A U H := by
  have ha : u.vm.Alike U.vm := by rw [hv]; exact Vm.Alike.refl U.vm
  obtain ⟨h1, ⟨h2, h3⟩, ⟨h4, h5⟩, h8, h10, h11, ⟨g1, g2, g3⟩⟩ := h
  exact ⟨va_K.moved ha h1, ⟨va_Z.moved ha h2, va_T.moved ha h3⟩, ⟨va_Z.moved ha h4, va_T.moved ha h5⟩, zNest.same hv h8, va_AO.moved ha h10, zAA.moved ha h11, va_X.moved ha g1, g2, g3⟩
/-- a method's start: the cells W0, the heap's size, what stays -/
def zP (G : zG) (W0 : va_W) (sz : Nat) (U : State) : Prop := U.heap.size = sz ∧ va_P G.1 vwCl W0 U.heap ∧ zZ G (va_A W0 sz) U U.heap ∧ va_D (fun _ => True) W0
/-- a method's end: what is said of the answer and of the cells, the frame -/
def zQ (G : zG) (A : Nat → Prop) (Φ : Option Value → va_W → Prop) : Array Value → State → Outcome → State → Prop := fun _ st oc t =>
  ∃ (r : Option Value) (W1 : va_W), oc = .returned r ∧ Φ r W1 ∧ va_P G.1 vwCl W1 t.heap ∧ va_D A W1 ∧ va_F A st t
/-- the contract of a method that returns -/
def zR (l : Launch) (G : zG) (y : MethodName) (ws : List Cond) (rm : Room) (W0 : va_W) (av : List Value) (Φ : Option Value → va_W → Prop) (mc ms : Nat) : Prop :=
  ∀ sz : Nat, Met l y ws rm (va_Pc av (zP G W0 sz)) (zQ G (va_A W0 sz) Φ) mc ms (va_A W0 sz)
/-! a method's start -/
section ZS
variable {l : Launch} {G : zG} {y : MethodName} {ws ws' : List Cond} {rm : Room} {W0 : va_W} {av : List Value} {Φ : Option Value → va_W → Prop} {mc ms : Nat} {cc : ByteArray} {maxL : Nat} {rt : Option FieldType}
theorem zR_of (hy : plainName y.cls = true) (hw : ws = Cond.code y cc maxL rt :: ws') (hlen : (lg_sl av).length ≤ maxL)
    (body : ∀ (p : Program) (e : Env) (s : State) (m : MethodId) (below : List Frame) (meth : Method) (c : Code) (A : Nat → Prop) (ls : Array Slot), p.tables.exec = Jvm.exec → c.code = cc → c.maxLocals = maxL → meth.sig.returnType = rt → (∀ w ∈ ws, w.before av.toArray s = true) → s.vm.findClass y.cls = some m.cls → meth.locks = false → meth.name = y.name →
      (∀ q : Nat, s.heap.size ≤ q → A q) → zZ G A s s.heap → va_P G.1 vwCl W0 s.heap → va_D A W0 → va_S A s.heap s.heap [] → lv_has ls maxL (lv_args 0 av) →
      W p l e rm s m av.toArray below meth c s.heap [] 0 0 (MQ below (zQ G A Φ) av.toArray s mc ms A) (F0 m 0 ls [])) : zR l G y ws rm W0 av Φ mc ms := by
  intro sz
  refine Met.ofW (cc := cc) (maxL := maxL) (ret := rt) hy hw ?_
  intro p e s m args below meth c s₁ B hml hv
  obtain ⟨rfl, hsz, hP, hE, hD0⟩ := hv
  subst hsz
  have hl := lv_entry av hlen
  rw [lg_entry_eq]
  exact body p e s m below meth c (va_A W0 s.heap.size) _ B.exec B.bytes hml B.returns (atoms_spec (ws := ws) B.pre) (findClass_of_methodNamed B.named) B.notSynchronized (name_of_methodNamed B.named B.method).1 (fun q h => Or.inr h) hE hP (hD0.self (sz := s.heap.size)) va_S.rf hl
end ZS
/-! a method's end, calls, numbers, new arrays -/
section ZE
variable {p : Program} {l : Launch} {e : Env} {R : Room} {s : State} {m : MethodId} {args : Array Value} {below : List Frame} {meth : Method} {c : Code} {H : Heap} {locs : List Loc} {cells slots : Nat} {Q : State → Prop}
variable {cc : ByteArray} {pc : Nat} {ls : Array Slot} {rest st0 : List Value} {G : zG} {A : Nat → Prop} {Φ : Option Value → va_W → Prop} {mc ms : Nat} {W1 : va_W}
theorem zQ_of {ret : Option Value} {t : State} {a : Array Value} (hf : Φ ret W1) (hP : va_P G.1 vwCl W1 H) (hD : va_D A W1) (hS : va_S A s.heap H locs) (ht : t.heap = H) : zQ G A Φ a s (.returned ret) t :=
  ⟨ret, W1, rfl, hf, by rw [ht]; exact hP, hD, hS.F ht⟩
theorem zend_v (hx : p.tables.exec = Jvm.exec) (hb : c.code = cc) (hr : meth.sig.returnType = none) (hlocks : meth.locks = false) (hP : va_P G.1 vwCl W1 H) (hD : va_D A W1) (hS : va_S A s.heap H locs) (h1 : cells ≤ mc) (h2 : slots ≤ ms) (hdg : decode cc pc = .ok (.return_, 1)) (hf : Φ none W1) :
    W p l e R s m args below meth c H locs cells slots (MQ below (zQ G A Φ) args s mc ms A) (F0 m pc ls []) :=
  W.widen h1 h2 (W.vret hx hb hr (fun _ ht _ => zQ_of hf hP hD hS ht) hS.2.2 hdg hlocks)
theorem zend_i {v : Int32} (hx : p.tables.exec = Jvm.exec) (hb : c.code = cc) (hr : meth.sig.returnType = some .int) (hlocks : meth.locks = false) (hP : va_P G.1 vwCl W1 H) (hD : va_D A W1) (hS : va_S A s.heap H locs) (h1 : cells ≤ mc) (h2 : slots ≤ ms) (hdg : decode cc pc = .ok (.ireturn, 1)) (hf : Φ (some (.int v)) W1) :
    W p l e R s m args below meth c H locs cells slots (MQ below (zQ G A Φ) args s mc ms A) (F0 m pc ls [.int v]) :=
  W.widen h1 h2 (W.iret hx hb hr (fun _ ht _ => zQ_of hf hP hD hS ht) hS.2.2 hdg hlocks)
theorem zend_z {v : Int32} (hx : p.tables.exec = Jvm.exec) (hb : c.code = cc) (hr : meth.sig.returnType = some .boolean) (hlocks : meth.locks = false) (hn : narrow .boolean (.int v) = .int v) (hP : va_P G.1 vwCl W1 H) (hD : va_D A W1) (hS : va_S A s.heap H locs) (h1 : cells ≤ mc) (h2 : slots ≤ ms) (hdg : decode cc pc = .ok (.ireturn, 1)) (hf : Φ (some (.int v)) W1) :
    W p l e R s m args below meth c H locs cells slots (MQ below (zQ G A Φ) args s mc ms A) (F0 m pc ls [.int v]) :=
  W.widen h1 h2 (W.zret hx hb hr hn (fun _ ht _ => zQ_of hf hP hD hS ht) hS.2.2 hdg hlocks)
theorem zend_l {v : Int64} (hx : p.tables.exec = Jvm.exec) (hb : c.code = cc) (hr : meth.sig.returnType = some .long) (hlocks : meth.locks = false) (hP : va_P G.1 vwCl W1 H) (hD : va_D A W1) (hS : va_S A s.heap H locs) (h1 : cells ≤ mc) (h2 : slots ≤ ms) (hdg : decode cc pc = .ok (.lreturn, 1)) (hf : Φ (some (.long v)) W1) :
    W p l e R s m args below meth c H locs cells slots (MQ below (zQ G A Φ) args s mc ms A) (F0 m pc ls [.long v]) :=
  W.widen h1 h2 (W.lret hx hb hr (fun _ ht _ => zQ_of hf hP hD hS ht) hS.2.2 hdg hlocks)
theorem zend_d {v : UInt64} (hx : p.tables.exec = Jvm.exec) (hb : c.code = cc) (hr : meth.sig.returnType = some .double) (hlocks : meth.locks = false) (hP : va_P G.1 vwCl W1 H) (hD : va_D A W1) (hS : va_S A s.heap H locs) (h1 : cells ≤ mc) (h2 : slots ≤ ms) (hdg : decode cc pc = .ok (.dreturn, 1)) (hf : Φ (some (.double v)) W1) :
    W p l e R s m args below meth c H locs cells slots (MQ below (zQ G A Φ) args s mc ms A) (F0 m pc ls [.double v]) :=
  W.widen h1 h2 (W.dret hx hb hr (fun _ ht _ => zQ_of hf hP hD hS ht) hS.2.2 hdg hlocks)
theorem zend_a {q : Nat} {rt : FieldType} (hx : p.tables.exec = Jvm.exec) (hb : c.code = cc) (hr : meth.sig.returnType = some rt) (hlocks : meth.locks = false) (hrt : (∃ n, rt = .object n) ∨ ∃ t, rt = .array t) (hP : va_P G.1 vwCl W1 H) (hD : va_D A W1) (hS : va_S A s.heap H locs) (h1 : cells ≤ mc) (h2 : slots ≤ ms) (hdg : decode cc pc = .ok (.areturn, 1)) (hf : Φ (some (.ref q)) W1) :
    W p l e R s m args below meth c H locs cells slots (MQ below (zQ G A Φ) args s mc ms A) (F0 m pc ls [.ref q]) :=
  W.widen h1 h2 (W.aret hx hb hr hrt (Or.inr ⟨_, rfl⟩) (fun _ ht _ => zQ_of hf hP hD hS ht) hS.2.2 hdg hlocks)
/-- the premises of a call: the callee's start; the callee has cells wc of wr ++ wc -/
theorem zPre {wr wc : va_W} {As : List Value} (hP : va_P G.1 vwCl (wr ++ wc) H) (hD : va_D A (wr ++ wc)) (hE : zZ G A s s.heap) (hS : va_S A s.heap H locs) (hA : ∀ q : Nat, s.heap.size ≤ q → A q) : PreS s H (va_Pc As (zP G wc H.size)) As ∧ (∀ q, va_A wc H.size q → A q) ∧ va_P G.1 vwCl wc H := by
  have hix : ∀ (k : Nat) (q : Nat × va_E), wc[k]? = some q → (wr ++ wc)[wr.length + k]? = some q := fun k q h => by
    rw [List.getElem?_append_right (Nat.le_add_right _ _), Nat.add_sub_cancel_left]; exact h
  have hPc : va_P G.1 vwCl wc H := fun k q h => hP _ q (hix k q h)
  have hDc : va_D A wc := ⟨fun i j p q h1 h2 h3 => Nat.add_left_cancel (hD.1 _ _ p q (hix i p h1) (hix j q h2) h3), fun k q h => hD.2 _ q (hix k q h)⟩
  have hF : ∀ q, va_A wc H.size q → A q := by
    intro q h
    rcases h with ⟨k, e, h⟩ | h
    · exact hDc.2 k (q, e) h
    · exact hA q (Nat.le_trans hS.1 h)
  refine ⟨⟨fun a U g mk q => ?_, fun U hU hW => ⟨rfl, by rw [hU], by rw [hU]; exact hPc, hE.give hS hF hU hW, hDc.weaken (fun _ _ _ _ => trivial)⟩⟩, hF, hPc⟩
  obtain ⟨q0, q1, qP, qE, qD⟩ := q
  exact ⟨q0, q1, qP, zZ.same (u := U) (U := U.calling g mk a) rfl qE, qD⟩
theorem zPreV {wr wc : va_W} {As : List Value} {b q0 ci : Nat} {q : vw_C} {fs : List Value} (hP : va_P G.1 vwCl (wr ++ wc) H) (hD : va_D A (wr ++ wc)) (hE : zZ G A s s.heap) (hS : va_S A s.heap H locs) (hA : ∀ q : Nat, s.heap.size ≤ q → A q) (hc : vwCl[ci]? = some q) (he : wc[q0]? = some (b, .inr (ci, fs))) : PreV s H q.1 b (va_Pc (.ref b :: As) (zP G wc H.size)) As := by
  obtain ⟨⟨h1, h2⟩, -, h3⟩ := zPre (As := .ref b :: As) hP hD hE hS hA
  exact ⟨h1, va_recv hE.1 h3 hc he, h2⟩
/-- behind a call that returns -/
theorem zcall {wc wr : va_W} {a : Array Value} (hr : va_Run p l e R s m args below meth c H locs cells slots mc ms (F0 m pc ls st0) rest (zQ G (va_A wc H.size) Φ a) (va_A wc H.size))
    (hP : va_P G.1 vwCl (wr ++ wc) H) (hD : va_D A (wr ++ wc)) (hS : va_S A s.heap H locs) (hA : ∀ q : Nat, s.heap.size ≤ q → A q)
    (kk : ∀ (r : Option Value) (w1 : va_W) (H1 : Heap) (locs1 : List Loc), Φ r w1 → va_P G.1 vwCl (wr ++ w1) H1 → va_D A (wr ++ w1) → va_S A s.heap H1 locs1 → W p l e R s m args below meth c H1 locs1 (cells + mc) (slots + ms) Q (F0 m (pc + 3) ls (r.toList ++ rest))) : W p l e R s m args below meth c H locs cells slots Q (F0 m pc ls st0) := by
  intro T hT X
  obtain ⟨v, st₀, t, T', L, h0, X', hL, e1, e2, ⟨r, w1, hv, hf, hP1, hD1, hz, hk⟩, st⟩ := hr T hT X
  cases hv
  have hixc : ∀ (k : Nat) (q : Nat × va_E), wc[k]? = some q → (wr ++ wc)[wr.length + k]? = some q := fun k q h => by
    rw [List.getElem?_append_right (Nat.le_add_right _ _), Nat.add_sub_cancel_left]; exact h
  have hixr : ∀ (k : Nat) (q : Nat × va_E), wr[k]? = some q → k < wr.length ∧ (wr ++ wc)[k]? = some q := fun k q h => by
    have hk : k < wr.length := (List.getElem?_eq_some_iff.mp h).1
    exact ⟨hk, by rw [List.getElem?_append_left hk]; exact h⟩
  have hF : ∀ q, va_A wc H.size q → A q := by
    intro q h
    rcases h with ⟨k, e, h⟩ | h
    · exact hD.2 _ (q, e) (hixc k _ h)
    · exact hA q (Nat.le_trans hS.1 h)
  rw [h0] at hz hk
  have hk1 : ∀ q : Nat, q < H.size → ¬ va_A wc H.size q → T'.heap[q]? = H[q]? := fun q h1 h2 => by rw [e1]; exact hk q h1 h2
  rw [← e1] at hP1
  have apart : ∀ (k : Nat) (q : Nat × va_E), wr[k]? = some q → q.1 < H.size ∧ ¬ va_A wc H.size q.1 := by
    intro k q hq
    obtain ⟨h1, h2⟩ := hixr k q hq
    have hl := (hP k q h2).lt
    refine ⟨hl, fun h => ?_⟩
    rcases h with ⟨k2, e, h⟩ | h
    · have hij := hD.1 k (wr.length + k2) q (q.1, e) h2 (hixc k2 _ h) rfl
      omega
    · omega
  have hP2 : va_P G.1 vwCl (wr ++ w1) T'.heap := va_P.app (fun k q hq => (hP k q (hixr k q hq).2).kept (hk1 q.1 (apart k q hq).1 (apart k q hq).2)) hP1
  have hD2 : va_D A (wr ++ w1) := va_D.app ⟨fun i j p q h1 h2 h3 => hD.1 i j p q (hixr i p h1).2 (hixr j q h2).2 h3, fun k q h => hD.2 k q (hixr k q h).2⟩ (hD1.weaken (fun k q _ h => hF q.1 h)) (fun i j x y hx hy hxy => (apart i x hx).2 (by rw [hxy]; exact hD1.2 j y hy))
  obtain ⟨t2, a1, b1⟩ := kk _ w1 T'.heap (locs ++ L) hf hP2 hD2 ⟨Nat.le_trans hS.1 (by rw [e1]; exact hz), fun q h1 h2 => by rw [hk1 q (Nat.lt_of_lt_of_le h1 hS.1) (fun z => h2 (hF q z))]; exact hS.2.1 q h1 h2, fun q hq => by
      rcases List.mem_append.mp hq with h | h
      · exact hS.2.2 q h
      · exact hF _ (hL q h)⟩ T' rfl X'
  exact ⟨t2, st t2 a1, b1⟩
/-- a reference out of a row -/
theorem zrf {r : Option Nat} {q : Nat} (h : r = some q) (k : W p l e R s m args below meth c H locs cells slots Q (F0 m pc ls (.ref q :: rest))) : W p l e R s m args below meth c H locs cells slots Q (F0 m pc ls (va_rf r :: rest)) := by rw [h]; exact k
/-- a computed number is this one -/
theorem zti {x v : Int32} (h : x = v) (k : W p l e R s m args below meth c H locs cells slots Q (F0 m pc ls (.int v :: rest))) : W p l e R s m args below meth c H locs cells slots Q (F0 m pc ls (.int x :: rest)) := by rw [h]; exact k
theorem ztl {x v : Int64} (h : x = v) (k : W p l e R s m args below meth c H locs cells slots Q (F0 m pc ls (.long v :: rest))) : W p l e R s m args below meth c H locs cells slots Q (F0 m pc ls (.long x :: rest)) := by rw [h]; exact k
theorem ztd {x v : UInt64} (h : x = v) (k : W p l e R s m args below meth c H locs cells slots Q (F0 m pc ls (.double v :: rest))) : W p l e R s m args below meth c H locs cells slots Q (F0 m pc ls (.double x :: rest)) := by rw [h]; exact k
end ZE
