/-! ===== the words of this claim: what stays (tables, static rows, texts), a method's start and end ===== -/
/-- the classes' numbers, the classes of int[], Rule[], long[], the cells of SIZES and AMOUNTS -/
abbrev zG : Type := va_G × ClassId × ClassId × ClassId × Nat × Nat
abbrev zTys (G : zG) : List (ClassId × FieldType) := [(G.2.1, .int), (G.2.2.1, .object "Nettle$Rule"), (G.2.2.2.1, .long)]
def zSz : Nat → Value := fun j => match j with
  | 0 => .int 256
  | 1 => .int 256
  | 2 => .int 1024
  | _ => .int 4
def zAm : Nat → Value := fun j => match j with
  | 0 => .int 268435456
  | 1 => .int 1048576
  | 2 => .int 4096
  | 3 => .int 4
  | _ => .int 1
/-- private members of nest mates -/
def zNest (U : State) : Prop :=
  va_Nw (.methodLinkNest "Nettle$Wall" 17 ⟨"Nettle$Rule", "<init>", "()V"⟩ "Nettle") U ∧
  va_Nw (.methodLinkNest "Nettle" 57 ⟨"Nettle$Log", "<init>", "()V"⟩ "Nettle") U ∧
  va_Nw (.fieldLinkNest "Nettle$Survey" 29 "Nettle" "SIZES" "[I" "Nettle") U ∧
  va_Nw (.fieldLinkNest "Nettle$Survey" 32 "Nettle" "AMOUNTS" "[I" "Nettle") U ∧
  va_Nw (.fieldLinkNest "Nettle$Cuts" 36 "Nettle" "SIZES" "[I" "Nettle") U ∧
  va_Nw (.fieldLinkNest "Nettle$Wall" 46 "Nettle" "SIZES" "[I" "Nettle") U ∧
  va_Nw (.fieldLinkNest "Nettle$Rule" 25 "Nettle" "SIZES" "[I" "Nettle") U ∧
  va_Nw (.fieldLinkNest "Nettle$Tree" 55 "Nettle" "AMOUNTS" "[I" "Nettle") U ∧
  va_Nw (.fieldLinkNest "Nettle$Comparison" 80 "Nettle" "AMOUNTS" "[I" "Nettle") U ∧
  va_Nw (.methodLinkNest "NettleModel" 9 ⟨"NettleModel$Wall", "<init>", "()V"⟩ "NettleModel") U ∧
  va_Nw (.methodLinkNest "NettleModel$Wall" 53 ⟨"NettleModel", "values", "(I)I"⟩ "NettleModel") U ∧
  va_Nw (.methodLinkNest "NettleModel$Wall" 69 ⟨"NettleModel", "size", "(I)I"⟩ "NettleModel") U ∧
  va_Nw (.methodLinkNest "NettleModel$Wall" 46 ⟨"NettleModel", "isIn", "(III)Z"⟩ "NettleModel") U
theorem zNest.warm {s U : State} (hW : s.WarmedH U.vm) (h : zNest s) : zNest U := by
  obtain ⟨a1, a2, a3, a4, a5, a6, a7, a8, a9, b1, b2, b3, b4⟩ := h
  exact ⟨va_Nw.warmM hW a1, va_Nw.warmM hW a2, va_Nw.warmF hW a3, va_Nw.warmF hW a4, va_Nw.warmF hW a5, va_Nw.warmF hW a6, va_Nw.warmF hW a7, va_Nw.warmF hW a8, va_Nw.warmF hW a9, va_Nw.warmM hW b1, va_Nw.warmM hW b2, va_Nw.warmM hW b3, va_Nw.warmM hW b4⟩
theorem zNest.same {u U : State} (h : u.vm = U.vm) (hZ : zNest u) : zNest U := by
  obtain ⟨a1, a2, a3, a4, a5, a6, a7, a8, a9, b1, b2, b3, b4⟩ := hZ
  exact ⟨va_Nw.same rfl h a1, va_Nw.same rfl h a2, va_Nw.same rfl h a3, va_Nw.same rfl h a4, va_Nw.same rfl h a5, va_Nw.same rfl h a6, va_Nw.same rfl h a7, va_Nw.same rfl h a8, va_Nw.same rfl h a9, va_Nw.same rfl h b1, va_Nw.same rfl h b2, va_Nw.same rfl h b3, va_Nw.same rfl h b4⟩
/-- the texts of the exceptions -/
def zTx (U : State) : Prop := ∀ q : Nat × String, q ∈ [(358, "no such rule"), (364, "nothing with this number can be asked"), (360, "no such node"), (211, "no such piece"), (270, "no such place"), (272, "no such field of those kept"), (92, "no such field"), (362, "no such verdict"), (76, "there are 8 rules"), (101, "no such range"), (369, "no such packet")] → ∃ sa : Nat, vk_R "Nettle" q.1 q.2 sa U
theorem zTx.warm {s U : State} (hW : s.WarmedH U.vm) (h : zTx s) : zTx U := fun q hq => by
  obtain ⟨sa, h1⟩ := h q hq
  exact ⟨sa, vk_R.warm hW h1⟩
theorem zTx.same {u U : State} (hv : U.vm = u.vm) (h : zTx u) : zTx U := fun q hq => by
  obtain ⟨sa, h1⟩ := h q hq
  exact ⟨sa, vk_R.same hv h1⟩
/-- rows of rows of ints -/
def zAA (U : State) : Prop := (Cond.arrayOver (.array .int)).before #[] U = true
theorem zAA.use {A : Array Value} {U : State} (h : zAA U) : (Cond.arrayOver (.array .int)).before A U = true := h
theorem zAA.moved {u U : State} (hvm : u.vm.Alike U.vm) (h : zAA u) : zAA U := by
  obtain ⟨comp, c, k, h1, h2, h3, h4, h5⟩ := arrayOverA_spec h
  obtain ⟨k', hk', he⟩ := hvm.2.2 _ _ h3
  have hi : (U.vm.classes.findIdx? fun (x : Class) => match x.kind with | .array component _ => component == comp | _ => false) = some c := by
    have e1 := va_idx_bare U.vm comp
    have e2 := va_idx_bare u.vm comp
    have e3 : U.vm.bare = u.vm.bare := by first | exact hvm.bare_eq | exact hvm.bare_eq.symm
    rw [e3] at e1
    exact e1.symm.trans (e2.trans h2)
  have hkind : k'.kind = .array comp (.array .int) := by rw [he]; exact h4
  have f1 : U.vm.findClass (FieldType.array .int).toString = some comp := by rw [hvm.findClass]; exact h1
  have f2 : U.vm.findClass ("[" ++ (FieldType.array .int).toString) = some c := by rw [hvm.findClass]; exact h5
  unfold zAA Cond.before Cond.holds
  simp only [Cond.value]
  rw [f1, Option.bind_some]
  refine (congrArg (fun o : Option Nat => (o.bind (fun c => (U.vm.classes[c]?).map fun (k : Class) => match k.kind with | .array _ ty => decide (ty = FieldType.array .int) && decide (U.vm.findClass ("[" ++ (FieldType.array .int).toString) = some c) | _ => false) == some true)) hi).trans ?_
  simp [hk', hkind, f2]
/-- the exceptions are what they are -/
def zCa (U : State) : Prop := va_Nw (.castable "java/lang/IndexOutOfBoundsException" "java/lang/IndexOutOfBoundsException") U ∧ va_Nw (.castable "java/lang/IllegalArgumentException" "java/lang/IllegalArgumentException") U ∧ va_Nw (.castable "java/lang/IllegalStateException" "java/lang/IllegalStateException") U
/-- their constructors are there -/
def zDe (U : State) : Prop := va_Nw (.declares (Bundle.initS "java/lang/RuntimeException")) U ∧ va_Nw (.declares (Bundle.initS "java/lang/Exception")) U ∧ va_Nw (.declares (Bundle.initS Bundle.tN)) U
/-- all that stays, whatever a method does -/
def zZ (G : zG) (A : Nat → Prop) (U : State) (H : Heap) : Prop :=
  va_K G.1 vwCl (zTys G) U ∧ (va_Z "Nettle" "SIZES" "[I" (.ref G.2.2.2.2.1) A U H ∧ va_T .int G.2.2.2.2.1 4 zSz A U H) ∧ (va_Z "Nettle" "AMOUNTS" "[I" (.ref G.2.2.2.2.2) A U H ∧ va_T .int G.2.2.2.2.2 5 zAm A U H) ∧
  (vx_Zq Bundle.tN "UNASSIGNED_STACK" Bundle.steD A U H ∧ vx_Zq Bundle.tN "SUPPRESSED_SENTINEL" Bundle.listD A U H) ∧ zNest U ∧ zTx U ∧ va_AO "Nettle$Rule" U ∧ zAA U ∧ zDe U ∧ zCa U
theorem zZ.give {G : zG} {A A' : Nat → Prop} {s U : State} {H : Heap} {locs : List Loc} (h : zZ G A s s.heap) (hS : va_S A s.heap H locs) (hF : ∀ q, A' q → A q) (hU : U.heap = H) (hW : s.WarmedH U.vm) : zZ G A' U U.heap := by
  obtain ⟨h1, ⟨h2, h3⟩, ⟨h4, h5⟩, ⟨h6, h7⟩, h8, h9, h10, h11, ⟨g1, g2, g3⟩, h12, h13, h14⟩ := h
  subst hU
  exact ⟨va_K.moved hW.alike h1, ⟨va_Z.moved hW.alike ((h2.kept hS.2.1).narrow hF), va_T.moved hW.alike ((h3.kept hS.2.1).narrow hF)⟩, ⟨va_Z.moved hW.alike ((h4.kept hS.2.1).narrow hF), va_T.moved hW.alike ((h5.kept hS.2.1).narrow hF)⟩,
    ⟨vx_Zq.moved hW.alike ((h6.kept hS.2.1).narrow hF), vx_Zq.moved hW.alike ((h7.kept hS.2.1).narrow hF)⟩, zNest.warm hW h8, zTx.warm hW h9, va_AO.moved hW.alike h10, zAA.moved hW.alike h11, ⟨va_Nw.warmD hW g1, va_Nw.warmD hW g2, va_Nw.warmD hW g3⟩, va_Nw.warmC hW h12, va_Nw.warmC hW h13, va_Nw.warmC hW h14⟩
theorem zZ.same {G : zG} {A : Nat → Prop} {u U : State} {H : Heap} (hv : u.vm = U.vm) (h : zZ G A u H) : zZ G A U H := by
  have ha : u.vm.Alike U.vm := by rw [hv]; exact Vm.Alike.refl U.vm
  obtain ⟨h1, ⟨h2, h3⟩, ⟨h4, h5⟩, ⟨h6, h7⟩, h8, h9, h10, h11, ⟨g1, g2, g3⟩, h12, h13, h14⟩ := h
  exact ⟨va_K.moved ha h1, ⟨va_Z.moved ha h2, va_T.moved ha h3⟩, ⟨va_Z.moved ha h4, va_T.moved ha h5⟩, ⟨vx_Zq.moved ha h6, vx_Zq.moved ha h7⟩, zNest.same hv h8, zTx.same hv.symm h9, va_AO.moved ha h10, zAA.moved ha h11, ⟨va_Nw.same rfl hv g1, va_Nw.same rfl hv g2, va_Nw.same rfl hv g3⟩, va_Nw.same rfl hv h12, va_Nw.same rfl hv h13, va_Nw.same rfl hv h14⟩
/-- a method's start: the cells W0, the heap's size, what stays -/
def zP (G : zG) (W0 : va_W) (sz : Nat) (U : State) : Prop := U.heap.size = sz ∧ va_P G.1 vwCl W0 U.heap ∧ zZ G (va_A W0 sz) U U.heap ∧ va_D (fun _ => True) W0
/-- a method's end: the answer, the cells W1 (u: the addresses of new ones), the frame -/
def zQ (G : zG) (A : Nat → Prop) (ret : Option Value) (W1 : (Nat → Nat) → va_W) : Array Value → State → Outcome → State → Prop := fun _ st oc t =>
  ∃ u : Nat → Nat, oc = .returned ret ∧ va_P G.1 vwCl (W1 u) t.heap ∧ va_D A (W1 u) ∧ va_F A st t
/-- a method's end by an exception -/
def zX (G : zG) (A : Nat → Prop) (E0 : String) (W1 : va_W) : String → State → State → Prop := fun E st t =>
  E = E0 ∧ va_P G.1 vwCl W1 t.heap ∧ va_D A W1 ∧ va_F A st t
/-- the contract of a method that returns -/
def zR (l : Launch) (G : zG) (y : MethodName) (ws : List Cond) (rm : Room) (W0 : va_W) (av : List Value) (ret : Option Value) (W1 : (Nat → Nat) → va_W) (mc ms : Nat) : Prop :=
  ∀ sz : Nat, Met l y ws rm (va_Pc av (zP G W0 sz)) (zQ G (va_A W0 sz) ret W1) mc ms (va_A W0 sz)
/-- .. of one that throws -/
def zT (l : Launch) (G : zG) (y : MethodName) (ws : List Cond) (rm : Room) (W0 : va_W) (av : List Value) (E0 : String) (W1 : va_W) (mc ms : Nat) : Prop :=
  ∀ sz : Nat, vx_Met l y ws rm (va_Pc av (zP G W0 sz)) (fun _ _ _ _ => False) (zX G (va_A W0 sz) E0 W1) mc ms (va_A W0 sz)
/-- .. of one with a table of its own that returns -/
def zH (l : Launch) (G : zG) (y : MethodName) (ws : List Cond) (rm : Room) (W0 : va_W) (av : List Value) (ret : Option Value) (W1 : (Nat → Nat) → va_W) (mc ms : Nat) : Prop :=
  ∀ sz : Nat, vx_Met l y ws rm (va_Pc av (zP G W0 sz)) (zQ G (va_A W0 sz) ret W1) (fun _ _ _ => False) mc ms (va_A W0 sz)
/-! a method's start -/
section ZS
variable {l : Launch} {G : zG} {y : MethodName} {ws ws' : List Cond} {rm : Room} {W0 : va_W} {av : List Value} {ret : Option Value} {W1 : (Nat → Nat) → va_W} {mc ms : Nat} {cc : ByteArray} {maxL : Nat} {rt : Option FieldType}
theorem zR_of (hy : plainName y.cls = true) (hw : ws = Cond.code y cc maxL rt :: ws') (hlen : (lg_sl av).length ≤ maxL)
    (body : ∀ (p : Program) (e : Env) (s : State) (m : MethodId) (below : List Frame) (meth : Method) (c : Code) (A : Nat → Prop) (ls : Array Slot), p.tables.exec = Jvm.exec → c.code = cc → c.maxLocals = maxL → meth.sig.returnType = rt → (∀ w ∈ ws, w.before av.toArray s = true) → s.vm.findClass y.cls = some m.cls → meth.locks = false → meth.name = y.name →
      (∀ q : Nat, s.heap.size ≤ q → A q) → zZ G A s s.heap → va_P G.1 vwCl W0 s.heap → va_D A W0 → va_S A s.heap s.heap [] → lv_has ls maxL (lv_args 0 av) →
      W p l e rm s m av.toArray below meth c s.heap [] 0 0 (MQ below (zQ G A ret W1) av.toArray s mc ms A) (F0 m 0 ls [])) : zR l G y ws rm W0 av ret W1 mc ms := by
  intro sz
  refine Met.ofW (cc := cc) (maxL := maxL) (ret := rt) hy hw ?_
  intro p e s m args below meth c s₁ B hml hv
  obtain ⟨rfl, hsz, hP, hE, hD0⟩ := hv
  subst hsz
  have hl := lv_entry av hlen
  rw [lg_entry_eq]
  exact body p e s m below meth c (va_A W0 s.heap.size) _ B.exec B.bytes hml B.returns (atoms_spec (ws := ws) B.pre) (findClass_of_methodNamed B.named) B.notSynchronized (name_of_methodNamed B.named B.method).1 (fun q h => Or.inr h) hE hP (hD0.self (sz := s.heap.size)) va_S.rf hl
theorem zT_of {E0 : String} {X1 : va_W} (hy : plainName y.cls = true) (hw : ws = Cond.code y cc maxL rt :: ws') (hlen : (lg_sl av).length ≤ maxL)
    (body : ∀ (p : Program) (e : Env) (s : State) (m : MethodId) (below : List Frame) (meth : Method) (c : Code) (A : Nat → Prop) (ls : Array Slot), p.tables.exec = Jvm.exec → c.code = cc → c.maxLocals = maxL → meth.sig.returnType = rt → (∀ w ∈ ws, w.before av.toArray s = true) → s.vm.findClass y.cls = some m.cls → meth.locks = false → (∀ x ∈ c.exceptionTable.toList, False) →
      (∀ q : Nat, s.heap.size ≤ q → A q) → zZ G A s s.heap → va_P G.1 vwCl W0 s.heap → va_D A W0 → va_S A s.heap s.heap [] → lv_has ls maxL (lv_args 0 av) →
      W p l e rm s m av.toArray below meth c s.heap [] 0 0 (vx_MQ below (fun _ _ _ _ => False) (zX G A E0 X1) av.toArray s mc ms A) (F0 m 0 ls [])) : zT l G y ws rm W0 av E0 X1 mc ms := by
  intro sz
  refine vx_ofW (cc := cc) (maxL := maxL) (ret := rt) hy hw ?_
  intro p e s m args below meth c s₁ B hml ht hv
  obtain ⟨rfl, hsz, hP, hE, hD0⟩ := hv
  subst hsz
  have hl := lv_entry av hlen
  rw [lg_entry_eq]
  exact body p e s m below meth c (va_A W0 s.heap.size) _ B.exec B.bytes hml B.returns (atoms_spec (ws := ws) B.pre) (findClass_of_methodNamed B.named) B.notSynchronized ht (fun q h => Or.inr h) hE hP (hD0.self (sz := s.heap.size)) va_S.rf hl
theorem zH_of {hh : List (Nat × Nat × Nat × Nat)} (hy : plainName y.cls = true) (hw : ws = Cond.codeWith y cc maxL rt hh :: ws') (hlen : (lg_sl av).length ≤ maxL)
    (body : ∀ (p : Program) (e : Env) (s : State) (m : MethodId) (below : List Frame) (meth : Method) (c : Code) (A : Nat → Prop) (ls : Array Slot), p.tables.exec = Jvm.exec → c.code = cc → c.maxLocals = maxL → meth.sig.returnType = rt → (∀ w ∈ ws, w.before av.toArray s = true) → s.vm.findClass y.cls = some m.cls → meth.locks = false → c.exceptionTable.toList = tableOf hh →
      (∀ q : Nat, s.heap.size ≤ q → A q) → zZ G A s s.heap → va_P G.1 vwCl W0 s.heap → va_D A W0 → va_S A s.heap s.heap [] → lv_has ls maxL (lv_args 0 av) →
      W p l e rm s m av.toArray below meth c s.heap [] 0 0 (MQ below (zQ G A ret W1) av.toArray s mc ms A) (F0 m 0 ls [])) : zH l G y ws rm W0 av ret W1 mc ms := by
  intro sz
  refine vx_ofWH (cc := cc) (maxL := maxL) (ret := rt) (hh := hh) hy hw ?_
  intro p e s m args below meth c s₁ B hml hv
  obtain ⟨rfl, hsz, hP, hE, hD0⟩ := hv
  subst hsz
  have hl := lv_entry av hlen
  have hts := atoms_spec (ws := ws) B.pre
  have ht := vx_table (x := y) (bytes := cc) (maxL' := maxL) (ret' := rt) (hh := hh) B (hts _ (by rw [hw]; exact List.mem_cons_self))
  rw [lg_entry_eq]
  exact vx_ret (body p e s m below meth c (va_A W0 s.heap.size) _ B.exec B.bytes hml B.returns hts (findClass_of_methodNamed B.named) B.notSynchronized ht (fun q h => Or.inr h) hE hP (hD0.self (sz := s.heap.size)) va_S.rf hl)
end ZS
