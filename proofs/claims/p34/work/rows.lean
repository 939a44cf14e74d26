section
-- ===== PART A: goes FIRST, ahead of the names: the tables' words, and 'selects' of the private methods out of them =====
/-- a private method of a class that the tables say can be made, by its rows of tables_1 -/
def lw_okq (q : MethodName × Nat) : Prop := (q.1.cls ≠ "java/lang/invoke/MethodHandle" ∧ q.1.cls ≠ "java/lang/invoke/VarHandle") ∧ Cond.instantiable q.1.cls q.2 ∈ tables_1 ∧ Cond.privateMethod q.1 ∈ tables_1 ∧ Cond.instanceMethod q.1 ∈ tables_1
theorem lw_p0 : lw_okq (⟨"Nettle", "needRule", "(I)V"⟩, 8) := ⟨⟨by decide +kernel, by decide +kernel⟩, List.mem_of_getElem? (i := 29) (by decide +kernel), List.mem_of_getElem? (i := 27) (by decide +kernel), List.mem_of_getElem? (i := 28) (by decide +kernel)⟩
theorem lw_p1 : lw_okq (⟨"java/lang/Throwable", "fillInStackTrace", "(I)Ljava/lang/Throwable;"⟩, 6) := ⟨⟨by decide +kernel, by decide +kernel⟩, List.mem_of_getElem? (i := 72) (by decide +kernel), List.mem_of_getElem? (i := 70) (by decide +kernel), List.mem_of_getElem? (i := 71) (by decide +kernel)⟩
theorem lw_p2 : lw_okq (⟨"Nettle", "surveyed", "()LNettle$Survey;"⟩, 8) := ⟨⟨by decide +kernel, by decide +kernel⟩, List.mem_of_getElem? (i := 29) (by decide +kernel), List.mem_of_getElem? (i := 125) (by decide +kernel), List.mem_of_getElem? (i := 126) (by decide +kernel)⟩
theorem lw_p3 : lw_okq (⟨"Nettle", "takePacket", "(IIII)V"⟩, 8) := ⟨⟨by decide +kernel, by decide +kernel⟩, List.mem_of_getElem? (i := 29) (by decide +kernel), List.mem_of_getElem? (i := 234) (by decide +kernel), List.mem_of_getElem? (i := 235) (by decide +kernel)⟩
theorem lw_p4 : lw_okq (⟨"Nettle", "compiled", "()LNettle$Tree;"⟩, 8) := ⟨⟨by decide +kernel, by decide +kernel⟩, List.mem_of_getElem? (i := 29) (by decide +kernel), List.mem_of_getElem? (i := 256) (by decide +kernel), List.mem_of_getElem? (i := 257) (by decide +kernel)⟩
theorem lw_p5 : lw_okq (⟨"Nettle", "compared", "()LNettle$Comparison;"⟩, 8) := ⟨⟨by decide +kernel, by decide +kernel⟩, List.mem_of_getElem? (i := 29) (by decide +kernel), List.mem_of_getElem? (i := 375) (by decide +kernel), List.mem_of_getElem? (i := 376) (by decide +kernel)⟩
theorem lw_p6 : lw_okq (⟨"Nettle", "mixRule", "(JI)J"⟩, 8) := ⟨⟨by decide +kernel, by decide +kernel⟩, List.mem_of_getElem? (i := 29) (by decide +kernel), List.mem_of_getElem? (i := 433) (by decide +kernel), List.mem_of_getElem? (i := 434) (by decide +kernel)⟩
theorem lw_p7 : lw_okq (⟨"Nettle", "mixNode", "(JI)J"⟩, 8) := ⟨⟨by decide +kernel, by decide +kernel⟩, List.mem_of_getElem? (i := 29) (by decide +kernel), List.mem_of_getElem? (i := 446) (by decide +kernel), List.mem_of_getElem? (i := 447) (by decide +kernel)⟩
theorem lw_p8 : lw_okq (⟨"Nettle", "mixLog", "(J)J"⟩, 8) := ⟨⟨by decide +kernel, by decide +kernel⟩, List.mem_of_getElem? (i := 29) (by decide +kernel), List.mem_of_getElem? (i := 452) (by decide +kernel), List.mem_of_getElem? (i := 453) (by decide +kernel)⟩
theorem lw_p9 : lw_okq (⟨"Nettle", "outdate", "()V"⟩, 8) := ⟨⟨by decide +kernel, by decide +kernel⟩, List.mem_of_getElem? (i := 29) (by decide +kernel), List.mem_of_getElem? (i := 770) (by decide +kernel), List.mem_of_getElem? (i := 771) (by decide +kernel)⟩
theorem lw_p10 : lw_okq (⟨"NettleLaw$Hedge", "narrow", "(II)Z"⟩, 10) := ⟨⟨by decide +kernel, by decide +kernel⟩, List.mem_of_getElem? (i := 468) (by decide +kernel), List.mem_of_getElem? (i := 813) (by decide +kernel), List.mem_of_getElem? (i := 814) (by decide +kernel)⟩
def lw_privs_1 : List (MethodName × Nat) := [(⟨"Nettle", "needRule", "(I)V"⟩, 8), (⟨"java/lang/Throwable", "fillInStackTrace", "(I)Ljava/lang/Throwable;"⟩, 6), (⟨"Nettle", "surveyed", "()LNettle$Survey;"⟩, 8), (⟨"Nettle", "takePacket", "(IIII)V"⟩, 8), (⟨"Nettle", "compiled", "()LNettle$Tree;"⟩, 8), (⟨"Nettle", "compared", "()LNettle$Comparison;"⟩, 8), (⟨"Nettle", "mixRule", "(JI)J"⟩, 8), (⟨"Nettle", "mixNode", "(JI)J"⟩, 8), (⟨"Nettle", "mixLog", "(J)J"⟩, 8), (⟨"Nettle", "outdate", "()V"⟩, 8), (⟨"NettleLaw$Hedge", "narrow", "(II)Z"⟩, 10)]
theorem lw_r1 : ∀ q ∈ lw_privs_1, lw_okq q := List.forall_mem_cons.mpr ⟨lw_p0, List.forall_mem_cons.mpr ⟨lw_p1, List.forall_mem_cons.mpr ⟨lw_p2, List.forall_mem_cons.mpr ⟨lw_p3, List.forall_mem_cons.mpr ⟨lw_p4, List.forall_mem_cons.mpr ⟨lw_p5, List.forall_mem_cons.mpr ⟨lw_p6, List.forall_mem_cons.mpr ⟨lw_p7, List.forall_mem_cons.mpr ⟨lw_p8, List.forall_mem_cons.mpr ⟨lw_p9, List.forall_mem_cons.mpr ⟨lw_p10, fun _ h => absurd h List.not_mem_nil⟩⟩⟩⟩⟩⟩⟩⟩⟩⟩⟩
def lw_privs : List (MethodName × Nat) := lw_privs_1
def lw_tbl : List Cond := k2_sels lw_privs ++ tables_1
theorem lw_privs_ok : ∀ q ∈ lw_privs, lw_okq q := lw_r1
/-- the streams that the claim lets the run draw from -/
abbrev lw_cs : List Choice := [Jvm.Choice.named "NaN.bits"]
theorem lw_bits : nanBits ∈ lw_cs := by first | decide | exact List.mem_cons_self | simp [lw_cs, nanBits]
end
section
/-! ===== BEGIN words of one list among another's, by their places ===== -/
theorem goodIn_r {big : List Cond} (ws : List Cond) (ps : List Nat) (hp : ws = ps.filterMap (fun i => big[i]?)) (h : ws.all goodWord = true) : GoodIn big ws := by
  intro w hw
  have h1 := List.all_eq_true.mp h w hw
  rw [hp] at hw
  obtain ⟨i, -, hi⟩ := List.mem_filterMap.mp hw
  have hm : w ∈ big := by first | exact List.mem_of_getElem? hi | exact List.getElem?_mem hi
  exact ⟨hm, good_of_word h1⟩
theorem goodIn_app {big a b : List Cond} (ha : GoodIn big a) (hb : GoodIn big b) : GoodIn big (a ++ b) := fun w h => (List.mem_append.mp h).elim (ha w) (hb w)
theorem goodIn_ca {big a b : List Cond} {c : Cond} (ha : GoodIn big (c :: a)) (hb : GoodIn big b) : GoodIn big (c :: (a ++ b)) := fun w h => (List.mem_cons.mp h).elim (fun e => ha w (List.mem_cons.mpr (Or.inl e))) (fun h => (List.mem_append.mp h).elim (fun h => ha w (List.mem_cons.mpr (Or.inr h))) (hb w))
theorem goodIn_sub {big ws : List Cond} (hm : ∀ w ∈ ws, w ∈ big) (h : ws.all goodWord = true) : GoodIn big ws := fun w hw => ⟨hm w hw, good_of_word (List.all_eq_true.mp h w hw)⟩
/-! ===== END ===== -/


/-! ===== BEGIN exceptions that leave a method, and their catching by the caller (launches without stack traces) ===== -/
section VXA
/-! The laws vx_back, vx_callV, vx_callS, vx_callSW, vx_throw0, vx_throwS follow proofs of the library, with one case more: JvmDerived/Free/Laws.lean (Back.of_free), Shelf42/LK1.lean (callV, callS), Shelf/KitTraced.lean (throwNew0V, throwNewS). -/
/-- where a method has thrown q: the class by its name, the cell, what was written, the world -/
def vx_T (XC : String → State → State → Prop) (st : State) (q : Addr) (t : State) (mc ms : Nat) (free : Addr → Prop) : Prop :=
  ∃ (E : String) (ce : Cell) (L : List Loc), XC E st t ∧ t.heap[q]? = some ce ∧ ce.vm = .none ∧ st.vm.findClass E = some ce.cls ∧ st.WarmedH t.vm ∧ st.sameButNew ({ t with vm := st.vm } : State) L mc ms ∧ ∀ z ∈ L, free z.base
def vx_Q (Qc : Array Value → State → Outcome → State → Prop) (XC : String → State → State → Prop) (mc ms : Nat) (free : Addr → Prop) : Array Value → State → Outcome → State → Prop := fun a st o t =>
  (Qc a st o t ∧ ∃ L, FrameEnd st o t L mc ms ∧ ∀ q ∈ L, free q.base) ∨ ∃ q, o = .threw q ∧ vx_T XC st q t mc ms free
/-- a callee that returns or throws -/
def vx_Met (l : Launch) (y : MethodName) (ws : List Cond) (rm : Room) (Pc : Array Value → State → Prop) (Qc : Array Value → State → Outcome → State → Prop) (XC : String → State → State → Prop) (mc ms : Nat) (free : Addr → Prop) : Prop :=
  MetFree l y (headSpec ws rm) Pc (fun _ _ _ _ _ => True) (vx_Q Qc XC mc ms free)
def vx_Post (XC : String → State → State → Prop) (mc ms : Nat) (free : Addr → Prop) : Pt → Array Value → Addr → Pt → Prop := fun A a q B =>
  ∃ (g : JFrame) (mk : MethodId) (t : State) (L : List Loc) (E : String) (ce : Cell), B.U.heap = t.heap ∧ B.U.vm = t.vm ∧ XC E (A.U.calling g mk a) t ∧ t.heap[q]? = some ce ∧ ce.vm = .none ∧ A.U.vm.findClass E = some ce.cls ∧ B.locs = A.locs ++ L ∧ (∀ z ∈ L, free z.base) ∧ B.cells = A.cells + mc ∧ B.slots = A.slots + ms
def vx_Back (l : Launch) (R : Room) (p : Program) (e : Env) (below : List Frame) (s : State) (sargs : Array Value) (y : MethodName) (len W9 : Nat)
    (Pre : Pt → Array Value → Prop) (Post : Pt → Array Value → Option Value → Pt → Prop) (PostX : Pt → Array Value → Addr → Pt → Prop) : Prop :=
  ∀ (m : MethodId) (meth : Method) (c : Code) (A : Pt) (g : JFrame) (ig : Instr) (mk : MethodId) (a : Array Value),
    Stand p l e R s m sargs below meth c A.U A.locs A.cells A.slots → g.method = m → g.locals.size = c.maxLocals → decode c.code g.pc = .ok (ig, len) →
    2 * g.monitorRoom + (g.stack.map fun v => v.category).sum ≤ W9 → A.U.methodNamed? y = some mk → Pre A a →
    (∃ (v : Option Value) (B : Pt), Stand p l e R s m sargs below meth c B.U B.locs B.cells B.slots ∧ Post A a v B ∧
      Steps p.tables e below (doInvoke e (A.U.setTop g) [] mk a).1 (B.U.setTop { g with pc := g.pc + len, stack := v.toList ++ g.stack })) ∨
    (∃ (q : Addr) (B : Pt), Stand p l e R s m sargs below meth c B.U B.locs B.cells B.slots ∧ PostX A a q B ∧
      Steps p.tables e below (doInvoke e (A.U.setTop g) [] mk a).1 ((B.U.setTop g).pushFrame (.throwing q)))
section Payer
variable {l : Launch} {R : Room} {p : Program} {e : Env} {below : List Frame} {s : State} {sargs : Array Value} {y : MethodName} {len W9 : Nat}
theorem vx_back {ws : List Cond} {rm : Room} {Pc : Array Value → State → Prop} {Qc : Array Value → State → Outcome → State → Prop} {XC : String → State → State → Prop} {mc ms : Nat} {free : Addr → Prop} {bytes : ByteArray} {maxL : Nat} {ret : Option FieldType}
    (hM : vx_Met l y ws rm Pc Qc XC mc ms free) (hblind : FrameBlind Pc) (hrc : rm.cells = mc) (hrs : rm.slots = ms)
    (hframes : rm.frames + 1 ≤ R.frames) (hlocals : W9 + (maxL + 11) + rm.locals ≤ R.locals)
    (hws : ∀ w ∈ ws, ∀ a' U, s.WarmedH U.vm → w.before a' U = true) (hcode : Cond.code y bytes maxL ret ∈ ws) (hinit : ∀ a' U, s.WarmedH U.vm → (Cond.initialized y.cls).before a' U = true) :
    vx_Back l R p e below s sargs y len W9 (PreOf R mc ms Pc) (PostOf Qc mc ms free) (vx_Post XC mc ms free) := by
  intro m meth c A g ig mk a X hg hsize hdg hW hn hp
  have h1 : (headSpec ws rm).pre.before a A.U = true := atoms_intro fun w hw => hws w hw _ _ X.warmed
  have h2 : (Cond.code y bytes maxL ret).before a A.U = true := hws _ hcode _ _ X.warmed
  have h3 : (Cond.initialized y.cls).before a A.U = true := hinit _ _ X.warmed
  have h4 : A.cells + (headSpec ws rm).room.cells ≤ R.cells := by rw [show (headSpec ws rm).room.cells = mc from hrc]; exact hp.1
  have h5 : A.slots + (headSpec ws rm).room.slots ≤ R.slots := by rw [show (headSpec ws rm).room.slots = ms from hrs]; exact hp.2.1
  have hPc : Pc a (A.U.calling g mk a) := hblind _ _ _ _ hp.2.2
  obtain ⟨U, Ls, c0, s0⟩ := A
  dsimp only [Pt.U, Pt.locs, Pt.cells, Pt.slots] at h1 h2 h3 h4 h5 X hn hPc ⊢
  obtain ⟨methY, cY, hmY, hcY, -, hlY, -, -, -, -⟩ := Cond.code_spec hn h2
  obtain ⟨kY, hkY, -⟩ := className_of_methodNamed hn
  have hinitY : kY.init = .initialized := Cond.initialized_spec (findClass_of_methodNamed hn) hkY h3
  have h : At U g.method c below := by rw [hg]; exact X.here
  have hlocals9 : W9 + (maxL + 11) + (headSpec ws rm).room.locals ≤ R.locals := hlocals
  have happ : (headSpec ws rm).appliesLoose y e.platform (U.calling g mk a) = true :=
    Spec.appliesLoose_calling (g := g) h hdg hn hkY hinitY
      (X.room_calling (g := g) (R' := (headSpec ws rm).room) hsize hmY hcY hframes (by rw [hlY]; omega) h4 h5) h1
  obtain ⟨mid, hmid⟩ := h.above
  have hfr : (U.setTop g).frames = (.java g :: mid) ++ below := by rw [State.frames_setTop' g h.top, hmid]; rfl
  obtain ⟨o, s₂, hsteps, -, hend, hq⟩ := Steps.callFree hM p X.admits X.cas X.clock (acts := []) hfr happ hPc trivial
  have hq' : vx_Q Qc XC mc ms free a (U.calling g mk a) o s₂ := hq
  rw [State.frames_setTop' g h.top] at hend
  obtain ⟨g₀, hg0⟩ := Option.isSome_iff_exists.mp h.top
  obtain ⟨r, hr⟩ := State.topJava?_eq_some.mp hg0
  have hr' : (({ U with heap := s₂.heap, slotsUsed := s₂.slotsUsed } : State).setVm s₂.vm).frames = .java g₀ :: r := hr
  rcases hq' with ⟨hqc, L, hfe, hL⟩ | ⟨q, rfl, E, ce, L, hx, hce, hcv, hcl, hW₂, hsm, hL⟩
  · obtain ⟨⟨v, rfl⟩, hW₂, e2, q2, q3, q4, q5, q6⟩ := id hfe
    have e3 : s₂ = ({ (U.calling g mk a).setFrames s₂.frames with heap := s₂.heap, slotsUsed := s₂.slotsUsed } : State).setVm s₂.vm := by
      have : s₂ = ({ s₂ with vm := (U.calling g mk a).vm } : State).setVm s₂.vm := rfl
      rw [e2] at this
      exact this
    obtain ⟨c₂, i₂, len₂, hc₂, hd₂, hf₂⟩ := hend
    have hW' : U.WarmedH s₂.vm := hW₂
    have hcc : c₂ = c := by
      have h1 : s₂.code? g.method = U.code? g.method := by
        rw [State.code?_eq, State.code?_eq, hW'.alike.method?]
      exact Option.some.inj (hc₂.symm.trans (h1.trans h.code))
    subst hcc
    have hlen : len₂ = len := by rw [hdg] at hd₂; cases hd₂; rfl
    subst hlen
    have hs₂ : s₂ = (({ U with heap := s₂.heap, slotsUsed := s₂.slotsUsed } : State).setVm s₂.vm).setTop { g with pc := g.pc + len₂, stack := v.toList ++ g.stack } := by
      refine e3.trans ?_
      rw [hf₂, State.calling_eq h.top, State.setFrames_setFrames, State.setTop_of_frames _ hr', hr]
      rfl
    have hsame : U.sameButNew ({ U with heap := s₂.heap, slotsUsed := s₂.slotsUsed } : State) L mc ms := by
      refine ⟨?_, q2, q3, q4, q5, q6⟩
      obtain ⟨t, ht, -⟩ := State.frames_cons hr
      show ({ U with heap := s₂.heap, slotsUsed := s₂.slotsUsed } : State) = { U.setFrames U.frames with heap := s₂.heap, slotsUsed := s₂.slotsUsed }
      rw [State.setFrames_self ht]
    subst hg
    refine Or.inl ⟨v, ⟨(({ U with heap := s₂.heap, slotsUsed := s₂.slotsUsed } : State).setVm s₂.vm), Ls ++ L, c0 + mc, s0 + ms⟩,
      ⟨X.admits, X.cas, X.clock, X.frames, X.room, X.hears, X.method, X.code, (X.here.setHeapUsed s₂.heap s₂.slotsUsed).setVm hW'.alike, X.tail, State.WarmedH.trans X.warmed hW', X.limits, X.bytes, X.same.trans (hsame.setVm s.vm)⟩,
      ⟨g, mk, s₂, L, rfl, rfl, hqc, rfl, hL, rfl, rfl⟩, ?_⟩
    show Steps p.tables e below _ ((({ U with heap := s₂.heap, slotsUsed := s₂.slotsUsed } : State).setVm s₂.vm).setTop { g with pc := g.pc + len₂, stack := v.toList ++ g.stack })
    rw [← hs₂]
    exact hsteps
  · obtain ⟨e2, q2, q3, q4, q5, q6⟩ := id hsm
    have e3 : s₂ = ({ (U.calling g mk a).setFrames s₂.frames with heap := s₂.heap, slotsUsed := s₂.slotsUsed } : State).setVm s₂.vm := by
      have : s₂ = ({ s₂ with vm := (U.calling g mk a).vm } : State).setVm s₂.vm := rfl
      rw [e2] at this
      exact this
    have hf₂ : s₂.frames = .throwing q :: .java g :: U.frames.tail := hend
    have hW' : U.WarmedH s₂.vm := hW₂
    have hs₂ : s₂ = ((({ U with heap := s₂.heap, slotsUsed := s₂.slotsUsed } : State).setVm s₂.vm).setTop g).pushFrame (.throwing q) := by
      refine e3.trans ?_
      rw [hf₂, State.calling_eq h.top, State.setFrames_setFrames, State.pushFrame, State.frames_setTop _ hr', State.setTop_of_frames _ hr', State.setFrames_setFrames, hr]
      rfl
    have hsame : U.sameButNew ({ U with heap := s₂.heap, slotsUsed := s₂.slotsUsed } : State) L mc ms := by
      refine ⟨?_, q2, q3, q4, q5, q6⟩
      obtain ⟨t, ht, -⟩ := State.frames_cons hr
      show ({ U with heap := s₂.heap, slotsUsed := s₂.slotsUsed } : State) = { U.setFrames U.frames with heap := s₂.heap, slotsUsed := s₂.slotsUsed }
      rw [State.setFrames_self ht]
    subst hg
    refine Or.inr ⟨q, ⟨(({ U with heap := s₂.heap, slotsUsed := s₂.slotsUsed } : State).setVm s₂.vm), Ls ++ L, c0 + mc, s0 + ms⟩,
      ⟨X.admits, X.cas, X.clock, X.frames, X.room, X.hears, X.method, X.code, (X.here.setHeapUsed s₂.heap s₂.slotsUsed).setVm hW'.alike, X.tail, State.WarmedH.trans X.warmed hW', X.limits, X.bytes, X.same.trans (hsame.setVm s.vm)⟩,
      ⟨g, mk, s₂, L, E, ce, rfl, rfl, hx, hce, hcv, hcl, rfl, hL, rfl, rfl⟩, ?_⟩
    show Steps p.tables e below _ (((({ U with heap := s₂.heap, slotsUsed := s₂.slotsUsed } : State).setVm s₂.vm).setTop g).pushFrame (.throwing q))
    rw [← hs₂]
    exact hsteps
end Payer
section Calls
variable {p : Program} {l : Launch} {e : Env} {R : Room} {s : State} {m : MethodId} {args : Array Value} {below : List Frame} {meth : Method} {c : Code} {T : State} {locs : List Loc} {cells slots : Nat}
theorem vx_callV (X : Stand p l e R s m args below meth c T locs cells slots) (hexec : p.tables.exec = Jvm.exec) {own C : String} {index : Nat} {y : MethodName} {bytes : ByteArray} {maxL : Nat} {ret : Option FieldType}
    (hown : s.vm.findClass own = some m.cls) (hlink : (Cond.methodLink own index y).before args s = true) (hinst : (Cond.instanceMethod y).before args s = true) (hsel : (Cond.selects C y y).before args s = true)
    (hcode : (Cond.code y bytes maxL ret).before args s = true) (hy : y.cls ≠ "java/lang/invoke/MethodHandle" ∧ y.cls ≠ "java/lang/invoke/VarHandle")
    {W9 : Nat} {Pre : Pt → Array Value → Prop} {Post : Pt → Array Value → Option Value → Pt → Prop} {PostX : Pt → Array Value → Addr → Pt → Prop} (hK : vx_Back l R p e below s args y 3 W9 Pre Post PostX)
    {b : Addr} {cellB : Cell} (hcell : T.heap[b]? = some cellB) (hobj : cellB.vm.isStatics = false) (hcls : s.vm.findClass C = some cellB.cls)
    {g : JFrame} (hg : g.method = m) (hsize : g.locals.size = c.maxLocals) {argsL rest : List Value} (hlen : ∀ sig, parseMethodDescriptor y.desc = some sig → argsL.length = sig.parameters.length)
    (hstack : g.stack = argsL.reverse ++ .ref b :: rest) (hW : 2 * g.monitorRoom + (rest.map fun v => v.category).sum ≤ W9) (hdg : decode c.code g.pc = .ok (.invokevirtual index, 3))
    (hpre : ∀ vm₁, s.WarmedH vm₁ → Pre ⟨T.setVm vm₁, locs, cells, slots⟩ (Value.ref b :: argsL).toArray) :
    (∃ (v : Option Value) (vm₁ : Vm) (B : Pt), s.WarmedH vm₁ ∧ Stand p l e R s m args below meth c B.U B.locs B.cells B.slots ∧ Post ⟨T.setVm vm₁, locs, cells, slots⟩ (Value.ref b :: argsL).toArray v B ∧
      ∀ target, Steps p.tables e below (B.U.setTop { g with pc := g.pc + 3, stack := v.toList ++ rest }) target → Steps p.tables e below (T.setTop g) target) ∨
    (∃ (q : Addr) (vm₁ : Vm) (B : Pt), s.WarmedH vm₁ ∧ Stand p l e R s m args below meth c B.U B.locs B.cells B.slots ∧ PostX ⟨T.setVm vm₁, locs, cells, slots⟩ (Value.ref b :: argsL).toArray q B ∧
      Steps p.tables e below (T.setTop g) ((B.U.setTop { g with stack := rest }).pushFrame (.throwing q))) := by
  obtain ⟨mk, methM, hnamed, hmethM, hstM, habM⟩ := Cond.instanceMethod_spec hinst
  obtain ⟨methM', cM, hmethM', -, -, -, -, -, -, hsigM⟩ := Cond.code_spec hnamed hcode
  cases hmethM.symm.trans hmethM'
  obtain ⟨c2, r2, m2, q1, q2, q3, q4, kP, hkP, hkPi⟩ := Cond.selects_spec hsel
  cases hcls.symm.trans q1
  cases (State.methodFound?_of_named hnamed hy).symm.trans q2
  cases hnamed.symm.trans q3
  have hselP : selectMethod e.platform s.vm cellB.cls mk = .method mk := by rw [Launch.admits_selectMethod X.admits]; exact q4
  obtain ⟨vm₁, X₁, hstep₁⟩ := X.invokevirtual hexec hown hlink hnamed hmethM hstM hkP hkPi hy (a := b) (cell := cellB) hcell
    (fun z h => by rw [h] at hobj; cases hobj) hselP hmethM habM hkP hkPi (g := g) hg (argsL := argsL) (rest := rest) (hlen _ hsigM) hstack hdg
  rcases hK m meth c ⟨T.setVm vm₁, locs, cells, slots⟩ { g with stack := rest } (.invokevirtual index) mk (Value.ref b :: argsL).toArray X₁ hg hsize hdg hW (X₁.named hnamed) (hpre vm₁ X₁.warmed) with ⟨v, B, X', hpost, hsteps⟩ | ⟨q, B, X', hpost, hsteps⟩
  · exact Or.inl ⟨v, vm₁, B, X₁.warmed, X', hpost, fun target h => hstep₁ _ fun acts => by rw [doInvoke_state]; exact hsteps.trans h⟩
  · exact Or.inr ⟨q, vm₁, B, X₁.warmed, X', hpost, hstep₁ _ fun acts => by rw [doInvoke_state]; exact hsteps⟩
theorem vx_callS (X : Stand p l e R s m args below meth c T locs cells slots) (hexec : p.tables.exec = Jvm.exec) {own : String} {index : Nat} {y : MethodName} {bytes : ByteArray} {maxL : Nat} {ret : Option FieldType}
    (hown : s.vm.findClass own = some m.cls) (hlink : (Cond.methodLink own index y).before args s = true) (hstat : (Cond.static y).before args s = true) (hinit : (Cond.initialized y.cls).before args s = true)
    (hcode : (Cond.code y bytes maxL ret).before args s = true) (hy : y.cls ≠ "java/lang/invoke/MethodHandle" ∧ y.cls ≠ "java/lang/invoke/VarHandle")
    {W9 : Nat} {Pre : Pt → Array Value → Prop} {Post : Pt → Array Value → Option Value → Pt → Prop} {PostX : Pt → Array Value → Addr → Pt → Prop} (hK : vx_Back l R p e below s args y 3 W9 Pre Post PostX)
    {g : JFrame} (hg : g.method = m) (hsize : g.locals.size = c.maxLocals) {argsL rest : List Value} (hlen : ∀ sig, parseMethodDescriptor y.desc = some sig → argsL.length = sig.parameters.length)
    (hstack : g.stack = argsL.reverse ++ rest) (hW : 2 * g.monitorRoom + (rest.map fun v => v.category).sum ≤ W9) (hdg : decode c.code g.pc = .ok (.invokestatic index, 3))
    (hpre : ∀ vm₁, s.WarmedH vm₁ → Pre ⟨T.setVm vm₁, locs, cells, slots⟩ argsL.toArray) :
    (∃ (v : Option Value) (vm₁ : Vm) (B : Pt), s.WarmedH vm₁ ∧ Stand p l e R s m args below meth c B.U B.locs B.cells B.slots ∧ Post ⟨T.setVm vm₁, locs, cells, slots⟩ argsL.toArray v B ∧
      ∀ target, Steps p.tables e below (B.U.setTop { g with pc := g.pc + 3, stack := v.toList ++ rest }) target → Steps p.tables e below (T.setTop g) target) ∨
    (∃ (q : Addr) (vm₁ : Vm) (B : Pt), s.WarmedH vm₁ ∧ Stand p l e R s m args below meth c B.U B.locs B.cells B.slots ∧ PostX ⟨T.setVm vm₁, locs, cells, slots⟩ argsL.toArray q B ∧
      Steps p.tables e below (T.setTop g) ((B.U.setTop { g with stack := rest }).pushFrame (.throwing q))) := by
  obtain ⟨mk, hnamed⟩ := Cond.code_named hcode
  obtain ⟨methM, cM, hmethM, -, -, -, -, -, -, hsigM⟩ := Cond.code_spec hnamed hcode
  have hstatic : methM.isStatic = true := Cond.static_spec hnamed hmethM hstat
  obtain ⟨kP, hkP, -⟩ := className_of_methodNamed hnamed
  have hinitP : kP.init = .initialized := Cond.initialized_spec (findClass_of_methodNamed hnamed) hkP hinit
  obtain ⟨vm₁, X₁, hstep₁⟩ := X.invokestatic hexec hown hlink hnamed hmethM hstatic hkP hinitP hy (g := g) hg (argsL := argsL) (rest := rest) (hlen _ hsigM) hstack hdg
  rcases hK m meth c ⟨T.setVm vm₁, locs, cells, slots⟩ { g with stack := rest } (.invokestatic index) mk argsL.toArray X₁ hg hsize hdg hW (X₁.named hnamed) (hpre vm₁ X₁.warmed) with ⟨v, B, X', hpost, hsteps⟩ | ⟨q, B, X', hpost, hsteps⟩
  · exact Or.inl ⟨v, vm₁, B, X₁.warmed, X', hpost, fun target h => hstep₁ _ fun acts => by rw [doInvoke_state]; exact hsteps.trans h⟩
  · exact Or.inr ⟨q, vm₁, B, X₁.warmed, X', hpost, hstep₁ _ fun acts => by rw [doInvoke_state]; exact hsteps⟩
end Calls
theorem vx_cls {s : State} {T : State} {vm₁ : Vm} {E : String} {k : ClassId} (hW : s.WarmedH vm₁) (h : (T.setVm vm₁).vm.findClass E = some k) : s.vm.findClass E = some k := by
  have h1 : vm₁.findClass E = some k := h
  rw [hW.alike.findClass] at h1
  exact h1
/-- the method's frame g, with q thrown over it -/
def vx_W (p : Program) (l : Launch) (e : Env) (R : Room) (s : State) (m : MethodId) (args : Array Value) (below : List Frame) (meth : Method) (c : Code) (H : Heap) (locs : List Loc) (cells slots : Nat) (Q : State → Prop) (g : JFrame) (q : Addr) : Prop :=
  ∀ T : State, T.heap = H → Stand p l e R s m args below meth c T locs cells slots → ∃ t, Steps p.tables e below ((T.setTop g).pushFrame (.throwing q)) t ∧ Q t
def vx_Run (p : Program) (l : Launch) (e : Env) (R : Room) (s : State) (m : MethodId) (args : Array Value) (below : List Frame) (meth : Method) (c : Code) (H : Heap) (locs : List Loc) (cells slots mc ms : Nat) (g : JFrame) (rest : List Value) (Qa : State → Outcome → State → Prop) (XC : String → State → State → Prop) (free : Addr → Prop) : Prop :=
  ∀ T : State, T.heap = H → Stand p l e R s m args below meth c T locs cells slots →
    (∃ (v : Option Value) (st₀ t T' : State) (L : List Loc), st₀.heap = H ∧ Stand p l e R s m args below meth c T' (locs ++ L) (cells + mc) (slots + ms) ∧ (∀ q ∈ L, free q.base) ∧ T'.heap = t.heap ∧ T'.vm = t.vm ∧ Qa st₀ (.returned v) t ∧
      Goes p e below T g T' { g with pc := g.pc + 3, stack := v.toList ++ rest }) ∨
    (∃ (q : Addr) (st₀ t T' : State) (L : List Loc) (E : String) (ce : Cell), st₀.heap = H ∧ Stand p l e R s m args below meth c T' (locs ++ L) (cells + mc) (slots + ms) ∧ (∀ z ∈ L, free z.base) ∧ T'.heap = t.heap ∧ T'.vm = t.vm ∧ XC E st₀ t ∧ t.heap[q]? = some ce ∧ ce.vm = .none ∧ s.vm.findClass E = some ce.cls ∧
      Steps p.tables e below (T.setTop g) ((T'.setTop { g with stack := rest }).pushFrame (.throwing q)))
def vx_X {S : Type} (px : S → Prop) (B : String → S → State → Prop) (A : Nat → Prop) : String → State → State → Prop := fun E st t => ∃ u : S, px u ∧ B E u t ∧ va_F A st t
section Runs
variable {p : Program} {l : Launch} {e : Env} {R : Room} {s : State} {m : MethodId} {args : Array Value} {below : List Frame} {meth : Method} {c : Code} {H : Heap} {locs : List Loc} {cells slots : Nat}
variable {y : MethodName} {bytes cc : ByteArray} {maxL nL mc ms n index : Nat} {ret : Option FieldType} {ws : List Cond} {rm : Room} {Pc : Array Value → State → Prop} {Qc : Array Value → State → Outcome → State → Prop} {XC : String → State → State → Prop} {free : Addr → Prop} {Ts : List Cond} {own C : String} {b : Addr} {As rest : List Value} {g : JFrame}
theorem vx_callBack (cb : CallB R s args own index y bytes maxL ret ws rm mc ms n) (hM : vx_Met l y ws rm Pc Qc XC mc ms free) (hbl : FrameBlind Pc) : vx_Back l R p e below s args y 3 8 (PreOf R mc ms Pc) (PostOf Qc mc ms free) (vx_Post XC mc ms free) := by
  obtain ⟨hrc, hrs, hfr, hlo, hws, hcw, -, hini, -⟩ := cb
  exact vx_back (bytes := bytes) (maxL := maxL) (ret := ret) hM hbl hrc hrs hfr hlo hws hcw (fun a' U hW => word_at hW (Or.inl (by first | rfl | simp [Cond.onTables, Cond.keeps, Cond.steady])) hini)
theorem vx_runV (S : CallFix p m c cc nL s args Ts own) (hM : vx_Met l y ws rm Pc Qc XC mc ms free) (cw : CallW R s args own C index y bytes maxL ret ws rm mc ms n) (hp : PreV s H C b Pc As)
    (hg : g.method = m) (hn : As.length = n) (hsize : g.locals.size = nL) (hstack : g.stack = As.reverse ++ .ref b :: rest) (hW : 2 * g.monitorRoom + (rest.map fun v => v.category).sum ≤ 8) (hdg : decode cc g.pc = .ok (.invokevirtual index, 3)) (hf : cells + mc ≤ R.cells ∧ slots + ms ≤ R.slots) :
    vx_Run p l e R s m args below meth c H locs cells slots mc ms g rest (Qc (Value.ref b :: As).toArray) XC free := by
  have hK : vx_Back l R p e below s args y 3 8 (PreOf R mc ms Pc) (PostOf Qc mc ms free) (vx_Post XC mc ms free) := vx_callBack cw.1 hM hp.1
  obtain ⟨⟨-, -, -, -, -, -, hcode, -, hy, hlen, hl⟩, hin, hse⟩ := cw
  obtain ⟨hx, hb, hml, ho, -⟩ := S
  obtain ⟨-, ⟨cellB, hcB, hoB, hclB⟩, hPc⟩ := hp
  intro T hT X
  rcases vx_callV X hx (C := C) (bytes := bytes) (maxL := maxL) (ret := ret) ho hl hin hse hcode hy hK (by rw [hT]; exact hcB) hoB hclB hg (hsize.trans hml.symm) (argsL := As) (rest := rest) (fun sig h => hn.trans (hlen sig h)) hstack hW (by rw [hb]; exact hdg)
    (fun vm₁ hW₁ => ⟨hf.1, hf.2, hPc (T.setVm vm₁) hT hW₁⟩) with ⟨v, vm₁, ⟨U', l2, c2, s2⟩, hW₁, X', ⟨g', mk, t, L, e1, e2, hq, h1, hL, h2, h3⟩, st⟩ | ⟨q, vm₁, ⟨U', l2, c2, s2⟩, hW₁, X', ⟨g', mk, t, L, E, ce, e1, e2, hq, hce, hcv, hcl, h1, hL, h2, h3⟩, st⟩
  · dsimp only [Pt.U, Pt.locs, Pt.cells, Pt.slots] at X' e1 e2 h1 h2 h3 st
    subst h1; subst h2; subst h3
    exact Or.inl ⟨v, (T.setVm vm₁).calling g' mk (Value.ref b :: As).toArray, t, U', L, hT, X', hL, e1, e2, hq, st⟩
  · dsimp only [Pt.U, Pt.locs, Pt.cells, Pt.slots] at X' e1 e2 h1 h2 h3 st hcl
    subst h1; subst h2; subst h3
    exact Or.inr ⟨q, (T.setVm vm₁).calling g' mk (Value.ref b :: As).toArray, t, U', L, E, ce, hT, X', hL, e1, e2, hq, hce, hcv, vx_cls hW₁ hcl, st⟩
theorem vx_runS (S : CallFix p m c cc nL s args Ts own) (hM : vx_Met l y ws rm Pc Qc XC mc ms free) (cw : CallB R s args own index y bytes maxL ret ws rm mc ms n ∧ (Cond.static y).before args s = true) (hp : PreS s H Pc As)
    (hg : g.method = m) (hn : As.length = n) (hsize : g.locals.size = nL) (hstack : g.stack = As.reverse ++ rest) (hW : 2 * g.monitorRoom + (rest.map fun v => v.category).sum ≤ 8) (hdg : decode cc g.pc = .ok (.invokestatic index, 3)) (hf : cells + mc ≤ R.cells ∧ slots + ms ≤ R.slots) :
    vx_Run p l e R s m args below meth c H locs cells slots mc ms g rest (Qc As.toArray) XC free := by
  have hK : vx_Back l R p e below s args y 3 8 (PreOf R mc ms Pc) (PostOf Qc mc ms free) (vx_Post XC mc ms free) := vx_callBack cw.1 hM hp.1
  obtain ⟨⟨-, -, -, -, -, -, hcode, hini, hy, hlen, hl⟩, hstt⟩ := cw
  obtain ⟨hx, hb, hml, ho, -⟩ := S
  intro T hT X
  rcases vx_callS X hx (bytes := bytes) (maxL := maxL) (ret := ret) ho hl hstt hini hcode hy hK hg (hsize.trans hml.symm) (argsL := As) (rest := rest) (fun sig h => hn.trans (hlen sig h)) hstack hW (by rw [hb]; exact hdg)
    (fun vm₁ hW₁ => ⟨hf.1, hf.2, hp.2 (T.setVm vm₁) hT hW₁⟩) with ⟨v, vm₁, ⟨U', l2, c2, s2⟩, hW₁, X', ⟨g', mk, t, L, e1, e2, hq, h1, hL, h2, h3⟩, st⟩ | ⟨q, vm₁, ⟨U', l2, c2, s2⟩, hW₁, X', ⟨g', mk, t, L, E, ce, e1, e2, hq, hce, hcv, hcl, h1, hL, h2, h3⟩, st⟩
  · dsimp only [Pt.U, Pt.locs, Pt.cells, Pt.slots] at X' e1 e2 h1 h2 h3 st
    subst h1; subst h2; subst h3
    exact Or.inl ⟨v, (T.setVm vm₁).calling g' mk As.toArray, t, U', L, hT, X', hL, e1, e2, hq, st⟩
  · dsimp only [Pt.U, Pt.locs, Pt.cells, Pt.slots] at X' e1 e2 h1 h2 h3 st hcl
    subst h1; subst h2; subst h3
    exact Or.inr ⟨q, (T.setVm vm₁).calling g' mk As.toArray, t, U', L, E, ce, hT, X', hL, e1, e2, hq, hce, hcv, vx_cls hW₁ hcl, st⟩
end Runs
section Rows
variable {p : Program} {l : Launch} {e : Env} {R : Room} {s : State} {m : MethodId} {args : Array Value} {below : List Frame} {meth : Method} {c : Code} {H : Heap} {locs : List Loc} {cells slots : Nat} {Q : State → Prop}
variable {mc ms : Nat} {free : Addr → Prop} {A0 A1 : Nat → Prop} {H0 : Heap} {a : Array Value} {pc : Nat} {ls : Array Slot} {st0 rest : List Value}
theorem vx_keep {st₀ t T' : State} {L : List Loc} (h0 : st₀.heap = H) (e1 : T'.heap = t.heap) (hS : va_S A0 H0 H locs) (hA : ∀ q, q < H.size → A1 q → A0 q) (hf : ∀ q, free q → A0 q) (hL : ∀ q ∈ L, free q.base) (hF : va_F A1 st₀ t) :
    H.size ≤ T'.heap.size ∧ (∀ q : Nat, q < H.size → ¬ A1 q → T'.heap[q]? = H[q]?) ∧ va_S A0 H0 T'.heap (locs ++ L) := by
  obtain ⟨hz, hk⟩ := hF
  rw [h0] at hz hk
  exact ⟨by rw [e1]; exact hz, fun q h1 h2 => by rw [e1]; exact hk q h1 h2,
    ⟨Nat.le_trans hS.1 (by rw [e1]; exact hz), fun q h1 h2 => by rw [e1, hk q (Nat.lt_of_lt_of_le h1 hS.1) (fun z => h2 (hA q (Nat.lt_of_lt_of_le h1 hS.1) z))]; exact hS.2.1 q h1 h2, fun q hq => by
      rcases List.mem_append.mp hq with h | h
      · exact hS.2.2 q h
      · exact hf _ (hL q h)⟩⟩
theorem vx_calli {S SX : Type} {post : Int32 → S → Prop} {px : SX → Prop} {B : S → State → Prop} {BX : String → SX → State → Prop} {AX : Nat → Prop} (hr : vx_Run p l e R s m args below meth c H locs cells slots mc ms (F0 m pc ls st0) rest (va_Qi post B A1 a) (vx_X px BX AX) free) (hS : va_S A0 H0 H locs) (hA : ∀ q, q < H.size → A1 q → A0 q) (hf : ∀ q, free q → A0 q) (hAX : ∀ q, q < H.size → AX q → A0 q)
    (kx : ∀ (E : String) (ce : Cell) (q9 : Addr) (u : SX) (t : State) (H1 : Heap) (locs1 : List Loc), t.heap = H1 → s.vm.Alike t.vm → px u → BX E u t → H.size ≤ H1.size → (∀ q : Nat, q < H.size → ¬ AX q → H1[q]? = H[q]?) → va_S A0 H0 H1 locs1 → H1[q9]? = some ce → ce.vm = .none → s.vm.findClass E = some ce.cls → vx_W p l e R s m args below meth c H1 locs1 (cells + mc) (slots + ms) Q (F0 m pc ls rest) q9)
    (kk : ∀ (r : Int32) (u : S) (t : State) (H1 : Heap) (locs1 : List Loc), t.heap = H1 → s.vm.Alike t.vm → post r u → B u t → H.size ≤ H1.size → (∀ q : Nat, q < H.size → ¬ A1 q → H1[q]? = H[q]?) → va_S A0 H0 H1 locs1 → W p l e R s m args below meth c H1 locs1 (cells + mc) (slots + ms) Q (F0 m (pc + 3) ls (.int r :: rest))) : W p l e R s m args below meth c H locs cells slots Q (F0 m pc ls st0) := by
  intro T hT X
  rcases hr T hT X with ⟨v, st₀, t, T', L, h0, X', hL, e1, e2, ⟨⟨r, u, hv, hp, hb⟩, hF⟩, st⟩ | ⟨q, st₀, t, T', L, E, ce, h0, X', hL, e1, e2, ⟨u, hp, hb, hF⟩, hce, hcv, hcl, st⟩
  · cases hv
    obtain ⟨k1, k2, k3⟩ := vx_keep h0 e1 hS hA hf hL hF
    obtain ⟨t2, a1, b1⟩ := kk r u t T'.heap (locs ++ L) e1.symm (by rw [← e2]; exact X'.warmed.alike) hp hb k1 k2 k3 T' rfl X'
    exact ⟨t2, st t2 a1, b1⟩
  · obtain ⟨k1, k2, k3⟩ := vx_keep h0 e1 hS hAX hf hL hF
    obtain ⟨t2, a1, b1⟩ := kx E ce q u t T'.heap (locs ++ L) e1.symm (by rw [← e2]; exact X'.warmed.alike) hp hb k1 k2 k3 (by rw [e1]; exact hce) hcv hcl T' rfl X'
    exact ⟨t2, st.trans a1, b1⟩
theorem vx_calll {S SX : Type} {post : Int64 → S → Prop} {px : SX → Prop} {B : S → State → Prop} {BX : String → SX → State → Prop} {AX : Nat → Prop} (hr : vx_Run p l e R s m args below meth c H locs cells slots mc ms (F0 m pc ls st0) rest (va_Ql post B A1 a) (vx_X px BX AX) free) (hS : va_S A0 H0 H locs) (hA : ∀ q, q < H.size → A1 q → A0 q) (hf : ∀ q, free q → A0 q) (hAX : ∀ q, q < H.size → AX q → A0 q)
    (kx : ∀ (E : String) (ce : Cell) (q9 : Addr) (u : SX) (t : State) (H1 : Heap) (locs1 : List Loc), t.heap = H1 → s.vm.Alike t.vm → px u → BX E u t → H.size ≤ H1.size → (∀ q : Nat, q < H.size → ¬ AX q → H1[q]? = H[q]?) → va_S A0 H0 H1 locs1 → H1[q9]? = some ce → ce.vm = .none → s.vm.findClass E = some ce.cls → vx_W p l e R s m args below meth c H1 locs1 (cells + mc) (slots + ms) Q (F0 m pc ls rest) q9)
    (kk : ∀ (r : Int64) (u : S) (t : State) (H1 : Heap) (locs1 : List Loc), t.heap = H1 → s.vm.Alike t.vm → post r u → B u t → H.size ≤ H1.size → (∀ q : Nat, q < H.size → ¬ A1 q → H1[q]? = H[q]?) → va_S A0 H0 H1 locs1 → W p l e R s m args below meth c H1 locs1 (cells + mc) (slots + ms) Q (F0 m (pc + 3) ls (.long r :: rest))) : W p l e R s m args below meth c H locs cells slots Q (F0 m pc ls st0) := by
  intro T hT X
  rcases hr T hT X with ⟨v, st₀, t, T', L, h0, X', hL, e1, e2, ⟨⟨r, u, hv, hp, hb⟩, hF⟩, st⟩ | ⟨q, st₀, t, T', L, E, ce, h0, X', hL, e1, e2, ⟨u, hp, hb, hF⟩, hce, hcv, hcl, st⟩
  · cases hv
    obtain ⟨k1, k2, k3⟩ := vx_keep h0 e1 hS hA hf hL hF
    obtain ⟨t2, a1, b1⟩ := kk r u t T'.heap (locs ++ L) e1.symm (by rw [← e2]; exact X'.warmed.alike) hp hb k1 k2 k3 T' rfl X'
    exact ⟨t2, st t2 a1, b1⟩
  · obtain ⟨k1, k2, k3⟩ := vx_keep h0 e1 hS hAX hf hL hF
    obtain ⟨t2, a1, b1⟩ := kx E ce q u t T'.heap (locs ++ L) e1.symm (by rw [← e2]; exact X'.warmed.alike) hp hb k1 k2 k3 (by rw [e1]; exact hce) hcv hcl T' rfl X'
    exact ⟨t2, st.trans a1, b1⟩
theorem vx_callf {S SX : Type} {post : UInt32 → S → Prop} {px : SX → Prop} {B : S → State → Prop} {BX : String → SX → State → Prop} {AX : Nat → Prop} (hr : vx_Run p l e R s m args below meth c H locs cells slots mc ms (F0 m pc ls st0) rest (va_Qf post B A1 a) (vx_X px BX AX) free) (hS : va_S A0 H0 H locs) (hA : ∀ q, q < H.size → A1 q → A0 q) (hf : ∀ q, free q → A0 q) (hAX : ∀ q, q < H.size → AX q → A0 q)
    (kx : ∀ (E : String) (ce : Cell) (q9 : Addr) (u : SX) (t : State) (H1 : Heap) (locs1 : List Loc), t.heap = H1 → s.vm.Alike t.vm → px u → BX E u t → H.size ≤ H1.size → (∀ q : Nat, q < H.size → ¬ AX q → H1[q]? = H[q]?) → va_S A0 H0 H1 locs1 → H1[q9]? = some ce → ce.vm = .none → s.vm.findClass E = some ce.cls → vx_W p l e R s m args below meth c H1 locs1 (cells + mc) (slots + ms) Q (F0 m pc ls rest) q9)
    (kk : ∀ (r : UInt32) (u : S) (t : State) (H1 : Heap) (locs1 : List Loc), t.heap = H1 → s.vm.Alike t.vm → post r u → B u t → H.size ≤ H1.size → (∀ q : Nat, q < H.size → ¬ A1 q → H1[q]? = H[q]?) → va_S A0 H0 H1 locs1 → W p l e R s m args below meth c H1 locs1 (cells + mc) (slots + ms) Q (F0 m (pc + 3) ls (.float r :: rest))) : W p l e R s m args below meth c H locs cells slots Q (F0 m pc ls st0) := by
  intro T hT X
  rcases hr T hT X with ⟨v, st₀, t, T', L, h0, X', hL, e1, e2, ⟨⟨r, u, hv, hp, hb⟩, hF⟩, st⟩ | ⟨q, st₀, t, T', L, E, ce, h0, X', hL, e1, e2, ⟨u, hp, hb, hF⟩, hce, hcv, hcl, st⟩
  · cases hv
    obtain ⟨k1, k2, k3⟩ := vx_keep h0 e1 hS hA hf hL hF
    obtain ⟨t2, a1, b1⟩ := kk r u t T'.heap (locs ++ L) e1.symm (by rw [← e2]; exact X'.warmed.alike) hp hb k1 k2 k3 T' rfl X'
    exact ⟨t2, st t2 a1, b1⟩
  · obtain ⟨k1, k2, k3⟩ := vx_keep h0 e1 hS hAX hf hL hF
    obtain ⟨t2, a1, b1⟩ := kx E ce q u t T'.heap (locs ++ L) e1.symm (by rw [← e2]; exact X'.warmed.alike) hp hb k1 k2 k3 (by rw [e1]; exact hce) hcv hcl T' rfl X'
    exact ⟨t2, st.trans a1, b1⟩
theorem vx_calld {S SX : Type} {post : UInt64 → S → Prop} {px : SX → Prop} {B : S → State → Prop} {BX : String → SX → State → Prop} {AX : Nat → Prop} (hr : vx_Run p l e R s m args below meth c H locs cells slots mc ms (F0 m pc ls st0) rest (va_Qd post B A1 a) (vx_X px BX AX) free) (hS : va_S A0 H0 H locs) (hA : ∀ q, q < H.size → A1 q → A0 q) (hf : ∀ q, free q → A0 q) (hAX : ∀ q, q < H.size → AX q → A0 q)
    (kx : ∀ (E : String) (ce : Cell) (q9 : Addr) (u : SX) (t : State) (H1 : Heap) (locs1 : List Loc), t.heap = H1 → s.vm.Alike t.vm → px u → BX E u t → H.size ≤ H1.size → (∀ q : Nat, q < H.size → ¬ AX q → H1[q]? = H[q]?) → va_S A0 H0 H1 locs1 → H1[q9]? = some ce → ce.vm = .none → s.vm.findClass E = some ce.cls → vx_W p l e R s m args below meth c H1 locs1 (cells + mc) (slots + ms) Q (F0 m pc ls rest) q9)
    (kk : ∀ (r : UInt64) (u : S) (t : State) (H1 : Heap) (locs1 : List Loc), t.heap = H1 → s.vm.Alike t.vm → post r u → B u t → H.size ≤ H1.size → (∀ q : Nat, q < H.size → ¬ A1 q → H1[q]? = H[q]?) → va_S A0 H0 H1 locs1 → W p l e R s m args below meth c H1 locs1 (cells + mc) (slots + ms) Q (F0 m (pc + 3) ls (.double r :: rest))) : W p l e R s m args below meth c H locs cells slots Q (F0 m pc ls st0) := by
  intro T hT X
  rcases hr T hT X with ⟨v, st₀, t, T', L, h0, X', hL, e1, e2, ⟨⟨r, u, hv, hp, hb⟩, hF⟩, st⟩ | ⟨q, st₀, t, T', L, E, ce, h0, X', hL, e1, e2, ⟨u, hp, hb, hF⟩, hce, hcv, hcl, st⟩
  · cases hv
    obtain ⟨k1, k2, k3⟩ := vx_keep h0 e1 hS hA hf hL hF
    obtain ⟨t2, a1, b1⟩ := kk r u t T'.heap (locs ++ L) e1.symm (by rw [← e2]; exact X'.warmed.alike) hp hb k1 k2 k3 T' rfl X'
    exact ⟨t2, st t2 a1, b1⟩
  · obtain ⟨k1, k2, k3⟩ := vx_keep h0 e1 hS hAX hf hL hF
    obtain ⟨t2, a1, b1⟩ := kx E ce q u t T'.heap (locs ++ L) e1.symm (by rw [← e2]; exact X'.warmed.alike) hp hb k1 k2 k3 (by rw [e1]; exact hce) hcv hcl T' rfl X'
    exact ⟨t2, st.trans a1, b1⟩
theorem vx_callv {S SX : Type} {post : S → Prop} {px : SX → Prop} {B : S → State → Prop} {BX : String → SX → State → Prop} {AX : Nat → Prop} (hr : vx_Run p l e R s m args below meth c H locs cells slots mc ms (F0 m pc ls st0) rest (va_Qv post B A1 a) (vx_X px BX AX) free) (hS : va_S A0 H0 H locs) (hA : ∀ q, q < H.size → A1 q → A0 q) (hf : ∀ q, free q → A0 q) (hAX : ∀ q, q < H.size → AX q → A0 q)
    (kx : ∀ (E : String) (ce : Cell) (q9 : Addr) (u : SX) (t : State) (H1 : Heap) (locs1 : List Loc), t.heap = H1 → s.vm.Alike t.vm → px u → BX E u t → H.size ≤ H1.size → (∀ q : Nat, q < H.size → ¬ AX q → H1[q]? = H[q]?) → va_S A0 H0 H1 locs1 → H1[q9]? = some ce → ce.vm = .none → s.vm.findClass E = some ce.cls → vx_W p l e R s m args below meth c H1 locs1 (cells + mc) (slots + ms) Q (F0 m pc ls rest) q9)
    (kk : ∀ (u : S) (t : State) (H1 : Heap) (locs1 : List Loc), t.heap = H1 → s.vm.Alike t.vm → post u → B u t → H.size ≤ H1.size → (∀ q : Nat, q < H.size → ¬ A1 q → H1[q]? = H[q]?) → va_S A0 H0 H1 locs1 → W p l e R s m args below meth c H1 locs1 (cells + mc) (slots + ms) Q (F0 m (pc + 3) ls (rest))) : W p l e R s m args below meth c H locs cells slots Q (F0 m pc ls st0) := by
  intro T hT X
  rcases hr T hT X with ⟨v, st₀, t, T', L, h0, X', hL, e1, e2, ⟨⟨u, hv, hp, hb⟩, hF⟩, st⟩ | ⟨q, st₀, t, T', L, E, ce, h0, X', hL, e1, e2, ⟨u, hp, hb, hF⟩, hce, hcv, hcl, st⟩
  · cases hv
    obtain ⟨k1, k2, k3⟩ := vx_keep h0 e1 hS hA hf hL hF
    obtain ⟨t2, a1, b1⟩ := kk u t T'.heap (locs ++ L) e1.symm (by rw [← e2]; exact X'.warmed.alike) hp hb k1 k2 k3 T' rfl X'
    exact ⟨t2, st t2 a1, b1⟩
  · obtain ⟨k1, k2, k3⟩ := vx_keep h0 e1 hS hAX hf hL hF
    obtain ⟨t2, a1, b1⟩ := kx E ce q u t T'.heap (locs ++ L) e1.symm (by rw [← e2]; exact X'.warmed.alike) hp hb k1 k2 k3 (by rw [e1]; exact hce) hcv hcl T' rfl X'
    exact ⟨t2, st.trans a1, b1⟩
/-- caught by the row x of this method's table; the rows ahead don't take it -/
theorem vx_catch {own name : String} {E : String} {ce : Cell} {q : Addr} (hown : s.vm.findClass own = some m.cls) (pre : List ExceptionTableEntry) (x : ExceptionTableEntry) (suf : List ExceptionTableEntry) (hsplit : c.exceptionTable.toList = pre ++ x :: suf)
    (hpass : ∀ z ∈ pre, covers z pc = false ∨ (z.catchType ≠ 0 ∧ ∃ nm : String, (Cond.classLink own z.catchType nm).before args s = true ∧ va_Nc E nm s)) (hx : covers x pc = true) (h0 : x.catchType ≠ 0)
    (hlink : (Cond.classLink own x.catchType name).before args s = true) (hcast : (Cond.castable E name).before args s = true) (hcell : H[q]? = some ce) (hv : ce.vm = .none) (hcl : s.vm.findClass E = some ce.cls)
    (kk : W p l e R s m args below meth c H locs cells slots Q (F0 m x.handlerPc ls [.ref q])) : vx_W p l e R s m args below meth c H locs cells slots Q (F0 m pc ls rest) q := by
  intro T hT X
  have hpl : e.platform.magicAccessors = ({} : Platform).magicAccessors := by rw [X.admits.platform]
  obtain ⟨c3, c4, hc3, hc4, hasg⟩ := Cond.castable_spec hcast
  cases Option.some.inj (hc3.symm.trans hcl)
  obtain ⟨c5, hc5, hcl5⟩ := Cond.classLink_spec hown hlink e.platform hpl
  cases Option.some.inj (hc4.symm.trans hc5)
  obtain ⟨vm', X', st⟩ := X.thenCaughtThrough q (g := F0 m pc ls rest) rfl (Steps.refl _) (by rw [hT]; exact hcell) (by rw [hv]; rfl) (by obtain ⟨k9, h9, -⟩ := Vm.findClass_spec hcl; exact ⟨k9, h9⟩) pre x suf hsplit
    (fun z hz => by
      rcases hpass z hz with h | ⟨hz0, nm, hl1, hn1⟩
      · exact Or.inl h
      · obtain ⟨c6, hc6, hcl6⟩ := Cond.classLink_spec hown hl1 e.platform hpl
        obtain ⟨a8, b8, h1, h2, h3⟩ := hn1
        cases Option.some.inj (h1.symm.trans hcl)
        cases Option.some.inj (h2.symm.trans hc6)
        exact Or.inr ⟨hz0, _, hcl6, h3⟩) hx (Or.inr ⟨h0, c4, hcl5, hasg⟩)
  obtain ⟨t, a1, b1⟩ := kk (T.setVm vm') hT X'
  exact ⟨t, st.trans a1, b1⟩
end Rows
section Ends
variable {p : Program} {l : Launch} {e : Env} {R : Room} {s : State} {m : MethodId} {args : Array Value} {below : List Frame} {meth : Method} {c : Code} {H : Heap} {locs : List Loc} {cells slots : Nat} {Q : State → Prop}
variable {mc ms : Nat} {free : Addr → Prop} {A0 A1 : Nat → Prop} {H0 : Heap} {a : Array Value} {ls : Array Slot} {st0 rest : List Value}
variable {Qc : Array Value → State → Outcome → State → Prop} {XC : String → State → State → Prop}
/-- what a body that may throw owes at its end -/
def vx_MQ (below : List Frame) (Qc : Array Value → State → Outcome → State → Prop) (XC : String → State → State → Prop) (a : Array Value) (s : State) (mc ms : Nat) (free : Addr → Prop) : State → Prop := fun t =>
  ∃ o, t.status = .running ∧ Ended t below o ∧ vx_Q Qc XC mc ms free a s o t
theorem vx_ret {g : JFrame} {mc ms : Nat} (k : W p l e R s m args below meth c H locs cells slots (MQ below Qc args s mc ms free) g) : W p l e R s m args below meth c H locs cells slots (vx_MQ below Qc XC args s mc ms free) g := by
  intro T hT X
  obtain ⟨t, a1, o, b1, b2, b3, b4⟩ := k T hT X
  exact ⟨t, a1, o, b1, b2, Or.inl ⟨b3, b4⟩⟩
/-- not caught here: it goes on to the caller -/
theorem vx_widen {g : JFrame} {q : Addr} {k n : Nat} (h1 : cells ≤ k) (h2 : slots ≤ n) (kk : vx_W p l e R s m args below meth c H locs k n Q g q) : vx_W p l e R s m args below meth c H locs cells slots Q g q := fun T hT X => kk T hT (stand_widen X h1 h2)
theorem vx_out {pc : Nat} {E : String} {ce : Cell} {q : Addr} {mc ms : Nat} (hout : ∀ x ∈ c.exceptionTable.toList, covers x pc = false) (hlocks : meth.locks = false) (hcell : H[q]? = some ce) (hv : ce.vm = .none) (hcl : s.vm.findClass E = some ce.cls)
    (hx : ∀ t : State, t.heap = H → s.vm.Alike t.vm → XC E s t) (hf : ∀ z ∈ locs, free z.base) (hc : cells ≤ mc) (hs : slots ≤ ms) :
    vx_W p l e R s m args below meth c H locs cells slots (vx_MQ below Qc XC args s mc ms free) (F0 m pc ls rest) q := by
  intro T hT X
  obtain ⟨st1, hrun, hend, hW, hsm⟩ := X.leaveThrown q (g := F0 m pc ls rest) rfl rfl rfl hout hlocks
  have hcell9 : (T.setFrames (.throwing q :: below)).heap[q]? = some ce := by
    show T.heap[q]? = some ce
    rw [hT]; exact hcell
  exact ⟨_, st1, .threw q, hrun, hend, Or.inr ⟨q, rfl, E, ce, locs, hx _ hT hW.alike, hcell9, hv, hcl, hW, hsm.mono hc hs, hf⟩⟩
theorem vx_frame {U : State} {k n : Nat} (h : s.sameButNew ({ U with vm := s.vm } : State) locs k n) : s.heap.size ≤ U.heap.size ∧ ∀ q : Nat, q < s.heap.size → (∀ z ∈ locs, z.base ≠ q) → U.heap[q]? = s.heap[q]? := by
  obtain ⟨-, h2, -, -, -, h6⟩ := h
  refine ⟨h2, fun q hq hz => ?_⟩
  obtain ⟨c9, e1, e2, e3, e4⟩ := h6 q _ (Array.getElem?_eq_getElem hq)
  have hs : c9.slots = (s.heap[q]).slots := Array.ext_getElem? fun i => e4 i fun hm => hz _ hm rfl
  have h9 : c9 = s.heap[q] := by
    rw [hs] at e2
    exact e2
  have e5 : U.heap[q]? = some c9 := e1
  rw [e5, h9, Array.getElem?_eq_getElem hq]
/-- the words of a throw but the four that speak of the heap -/
def vx_no (w : Cond) : Bool := decide (w ≠ .isRef (.static Bundle.tN "UNASSIGNED_STACK" Bundle.steD)) && decide (w ≠ .isRef (.static Bundle.tN "SUPPRESSED_SENTINEL" Bundle.listD)) && decide (w ≠ .laysStatic Bundle.tN "UNASSIGNED_STACK" Bundle.steD) && decide (w ≠ .laysStatic Bundle.tN "SUPPRESSED_SENTINEL" Bundle.listD)
def vx_at0 (own : String) (ic : Nat) (X : String) (names : List String) : List Cond := (Bundle.ownAtoms0 own ic X names).filter vx_no
def vx_atS (own : String) (ic : Nat) (X : String) (names : List String) : List Cond := (Bundle.ownAtoms own ic X names).filter vx_no
/-- a word that the tables alone decide, or a good one -/
def vx_ot (w : Cond) : Bool := w.onTables || goodWord w
theorem vx_ot_at {args a' : Array Value} {s U : State} {w : Cond} (hW : s.WarmedH U.vm) (hvm : s.vm = U.vm) (hg : vx_ot w = true) (h : w.before args s = true) : w.before a' U = true := by
  simp only [vx_ot, Bool.or_eq_true] at hg
  rcases hg with hg | hg
  · exact va_tabs hg hvm h
  · exact word_at hW (good_of_word hg) h
/-- a list's words: the good ones out of the method's own list, the others by premises of their own -/
theorem vx_hat {args : Array Value} {s : State} {L B : List Cond} (h1 : ∀ w ∈ L.filter goodWord, w.before args s = true) (h2 : ∀ w ∈ L.filter (fun w => !goodWord w), w ∈ B) (h3 : ∀ w ∈ B, w.before args s = true) : ∀ w ∈ L, w.before args s = true := by
  intro w hw
  by_cases g : goodWord w = true
  · exact h1 w (List.mem_filter.mpr ⟨hw, g⟩)
  · refine h3 w (h2 w (List.mem_filter.mpr ⟨hw, ?_⟩))
    show (!goodWord w) = true
    cases hgw : goodWord w
    · rfl
    · exact absurd hgw g
theorem vx_c {args : Array Value} {s : State} {w : Cond} {B : List Cond} (h : w.before args s = true) (t : ∀ w ∈ B, w.before args s = true) : ∀ w' ∈ w :: B, w'.before args s = true := fun w' h' => (List.mem_cons.mp h').elim (fun e => by rw [e]; exact h) (t w')
theorem vx_n {args : Array Value} {s : State} : ∀ w ∈ ([] : List Cond), w.before args s = true := fun _ h => nomatch h
theorem vx_own {args : Array Value} {s : State} {L : List Cond} (h1 : ∀ w ∈ L.filter vx_no, w.before args s = true)
    (hU : (Cond.isRef (.static Bundle.tN "UNASSIGNED_STACK" Bundle.steD)).before args s = true) (hN : (Cond.isRef (.static Bundle.tN "SUPPRESSED_SENTINEL" Bundle.listD)).before args s = true)
    (lU : (Cond.laysStatic Bundle.tN "UNASSIGNED_STACK" Bundle.steD).before args s = true) (lN : (Cond.laysStatic Bundle.tN "SUPPRESSED_SENTINEL" Bundle.listD).before args s = true) : ∀ w ∈ L, w.before args s = true := by
  intro w hw
  by_cases e1 : w = .isRef (.static Bundle.tN "UNASSIGNED_STACK" Bundle.steD)
  · rw [e1]; exact hU
  · by_cases e2 : w = .isRef (.static Bundle.tN "SUPPRESSED_SENTINEL" Bundle.listD)
    · rw [e2]; exact hN
    · by_cases e3 : w = .laysStatic Bundle.tN "UNASSIGNED_STACK" Bundle.steD
      · rw [e3]; exact lU
      · by_cases e4 : w = .laysStatic Bundle.tN "SUPPRESSED_SENTINEL" Bundle.listD
        · rw [e4]; exact lN
        · exact h1 w (List.mem_filter.mpr ⟨hw, by unfold vx_no; rw [decide_eq_true e1, decide_eq_true e2, decide_eq_true e3, decide_eq_true e4]; rfl⟩)
/-- where a static field lies, its class's statics cell in H -/
def vx_L (C n d : String) (A : Nat → Prop) (U : State) (H : Heap) : Prop := ∃ (c : ClassId) (k : Class) (i : Nat) (f : Field) (a : Nat) (cell : Cell), U.vm.findClass C = some c ∧ U.fieldFound? C n d = some (c, k, i, f) ∧ f.isStatic = true ∧ k.statics = some a ∧ H[a]? = some cell ∧ cell.vm.isStatics = true ∧ cell.cls = c ∧ f.slot < cell.slots.size ∧ k.staticTypes[f.slot]? = some f.type ∧ ¬ A a
theorem vx_L.moved {C n d : String} {A : Nat → Prop} {u U : State} {H : Heap} (hvm : u.vm.Alike U.vm) (h : vx_L C n d A u H) : vx_L C n d A U H := by
  obtain ⟨c, k, i, f, a, cell, h1, h2, h3, h4, h5, h6, h7, h8, h9, h10⟩ := h
  obtain ⟨k', hi', he⟩ := State.fieldFound?_setVm hvm h2
  exact ⟨c, k', i, f, a, cell, by rw [hvm.findClass]; exact h1, hi', h3, by rw [he]; exact h4, h5, h6, h7, h8, by rw [he]; exact h9, h10⟩
theorem vx_L.kept {C n d : String} {A : Nat → Prop} {U : State} {H H1 : Heap} (h : vx_L C n d A U H) (hq : ∀ a : Nat, a < H.size → ¬ A a → H1[a]? = H[a]?) : vx_L C n d A U H1 := by
  obtain ⟨c, k, i, f, a, cell, h1, h2, h3, h4, h5, h6, h7, h8, h9, h10⟩ := h
  exact ⟨c, k, i, f, a, cell, h1, h2, h3, h4, by rw [hq a (Array.getElem?_eq_some_iff.mp h5).1 h10]; exact h5, h6, h7, h8, h9, h10⟩
theorem vx_L.narrow {C n d : String} {A B : Nat → Prop} {U : State} {H : Heap} (h : vx_L C n d A U H) (hAB : ∀ q, B q → A q) : vx_L C n d B U H := by
  obtain ⟨c, k, i, f, a, cell, h1, h2, h3, h4, h5, h6, h7, h8, h9, h10⟩ := h
  exact ⟨c, k, i, f, a, cell, h1, h2, h3, h4, h5, h6, h7, h8, h9, fun z => h10 (hAB _ z)⟩
theorem vx_L.word {C n d : String} {A : Nat → Prop} {s : State} {args : Array Value} (h : vx_L C n d A s s.heap) : (Cond.laysStatic C n d).before args s = true := by
  obtain ⟨c, k, i, f, a, cell, h1, h2, h3, h4, h5, h6, h7, h8, h9, -⟩ := h
  show (Cond.laysStatic C n d).holds args s none s [] = true
  exact Cond.laysStatic_of h1 h2 h3 h4 h5 h6 h7 h8 h9
/-- .. and what it holds: null or some reference -/
def vx_Zq (C n d : String) (A : Nat → Prop) (U : State) (H : Heap) : Prop := va_Zq C n d A U H ∧ vx_L C n d A U H
theorem vx_Zq.moved {C n d : String} {A : Nat → Prop} {u U : State} {H : Heap} (hvm : u.vm.Alike U.vm) (h : vx_Zq C n d A u H) : vx_Zq C n d A U H := ⟨va_Zq.moved hvm h.1, vx_L.moved hvm h.2⟩
theorem vx_Zq.kept {C n d : String} {A : Nat → Prop} {U : State} {H H1 : Heap} (h : vx_Zq C n d A U H) (hq : ∀ a : Nat, a < H.size → ¬ A a → H1[a]? = H[a]?) : vx_Zq C n d A U H1 := ⟨va_Zq.kept h.1 hq, vx_L.kept h.2 hq⟩
theorem vx_Zq.narrow {C n d : String} {A B : Nat → Prop} {U : State} {H : Heap} (h : vx_Zq C n d A U H) (hAB : ∀ q, B q → A q) : vx_Zq C n d B U H := ⟨va_Zq.narrow h.1 hAB, vx_L.narrow h.2 hAB⟩
theorem vx_Zqof {args : Array Value} {s : State} {C n d : String} {A : Nat → Prop} (hl : (Cond.laysStatic C n d).before args s = true) (hini : (Cond.initialized C).before args s = true) (h : (Cond.isRef (.static C n d)).before args s = true) (hA : ∀ a : Nat, a < s.heap.size → ¬ A a) : vx_Zq C n d A s s.heap := by
  refine ⟨va_Zqof hl hini h hA, ?_⟩
  obtain ⟨c, k, i, f, a, cell, h1, h2, h3, h4, h5, h6, h7, h8, h9⟩ := Cond.laysStatic_spec hl
  exact ⟨c, k, i, f, a, cell, h1, h2, h3, h4, h5, h6, h7, h8, h9, hA a (Array.getElem?_eq_some_iff.mp h5).1⟩
theorem vx_isRef {C n d : String} {v : Value} {A : Nat → Prop} {s : State} {args : Array Value} (h : va_Z C n d v A s s.heap) (hv : v.isRef = true) : (Cond.isRef (.static C n d)).before args s = true := by
  obtain ⟨cf, kf, fi, f, a, cell, h1, h2, h3, h4, h5, h6, h7, -⟩ := h
  have he : (Term.static C n d).eval args s none [] s = some v := by
    simp [Term.eval, State.fieldNamed?, h1, h2, h4, h5, h6, h7]
  simp only [Cond.before, Cond.holds, Cond.value, he]
  cases v <;> simp_all [Value.isRef]
theorem vx_isRefq {C n d : String} {A : Nat → Prop} {s : State} {args : Array Value} (h : va_Zq C n d A s s.heap) : (Cond.isRef (.static C n d)).before args s = true := by
  rcases h with h | ⟨t, h⟩
  · exact vx_isRef h rfl
  · exact vx_isRef h rfl
/-- the same frame, seen from here: as if the method were called anew in this heap -/
theorem vx_rebase {T : State} (X : Stand p l e R s m args below meth c T locs cells slots) {R' : Room} (hf : R'.frames ≤ R.frames) (hl : R'.locals ≤ R.locals) (hc : cells + R'.cells ≤ R.cells) (hs : slots + R'.slots ≤ R.slots) :
    Stand p l e R' ((T.setVm s.vm).setFrames (.invoking m args :: below)) m args below meth c T [] 0 0 := by
  have htop : (T.setVm s.vm).topJava?.isSome := X.here.top
  have hF : ((T.setVm s.vm).setFrames (.invoking m args :: below)).frames = .invoking m args :: below := State.frames_setFrames _ (State.cur_lt_of_top htop)
  obtain ⟨g₀, hg0⟩ := Option.isSome_iff_exists.mp htop
  obtain ⟨r, hr⟩ := State.topJava?_eq_some.mp hg0
  have hl9 : e.platform.stackLimits (T.setVm s.vm).me = e.platform.stackLimits s.me := X.limits
  have hb9 : (T.setVm s.vm).me.stackBytes = s.me.stackBytes := X.bytes
  refine ⟨X.admits, X.cas, X.clock, hF, ?_, X.hears, X.method, X.code, X.here, X.tail, X.warmed, ?_, ?_, ?_⟩
  · have h := X.room
    have hU : ((T.setVm s.vm).setFrames (.invoking m args :: below)).localsInUse = s.localsInUse := by
      rw [State.localsInUse_invoking hF (meth := meth) (c := c) X.method X.code, State.localsInUse_invoking X.frames X.method X.code]
    simp only [State.hasRoom, Bool.and_eq_true, decide_eq_true_eq] at h ⊢
    obtain ⟨⟨⟨⟨h1, h2, h3, h4, h5, h6⟩, h7⟩, h8⟩, h9⟩ := h
    rw [X.frames, List.length_cons] at h2 h3
    have q1 := X.heapSize
    have q2 := X.used
    simp only [hF, hU, List.length_cons, State.stackLimits_setFrames, State.stackBytes_setFrames, hl9, hb9]
    refine ⟨⟨⟨⟨by omega, by omega, by omega, by omega, by omega, h6⟩, ?_⟩, ?_⟩, X.book⟩
    · show T.heap.size + R'.cells ≤ e.platform.maxCells
      omega
    · show T.slotsUsed + R'.slots ≤ e.platform.maxSlots
      omega
  · rw [State.stackLimits_setFrames]; rfl
  · rw [State.stackBytes_setFrames]; rfl
  · refine ⟨?_, Nat.le_refl _, Nat.le_refl _, ?_, ?_, fun a c9 h9 => ⟨c9, h9, rfl, rfl, fun _ _ => rfl⟩⟩
    · obtain ⟨t, ht, -⟩ := State.frames_cons hr
      show T.setVm s.vm = { ((T.setVm s.vm).setFrames (.invoking m args :: below)).setFrames (T.setVm s.vm).frames with heap := T.heap, slotsUsed := T.slotsUsed }
      rw [State.setFrames_setFrames, State.setFrames_self ht]
      rfl
    · show T.slotsUsed = T.slotsUsed + ((T.heap.toList.drop T.heap.size).map (·.slots.size)).sum
      rw [List.drop_eq_nil_of_le (Nat.le_of_eq Array.length_toList)]
      rfl
    · show ((T.heap.toList.drop T.heap.size).map (·.slots.size)).sum ≤ 0
      rw [List.drop_eq_nil_of_le (Nat.le_of_eq Array.length_toList)]
      exact Nat.le_refl _
/-- 'throw new E()': new; dup; invokespecial; athrow -/
theorem vx_throw0 {cc : ByteArray} {pc : Nat} (hexec : p.tables.exec = Jvm.exec) (hb : c.code = cc) (hl : l.stackTraces = false) {own cls : String} {names : List String} {ik ic mc ms : Nat} {A : Nat → Prop}
    (hown : s.vm.findClass own = some m.cls) (hcls : Bundle.fit cls = true) (hnames : ∀ n ∈ names, Bundle.fit n = true)
    (hk : (Cond.classLink own ik cls).before args s = true) (hini : (Cond.initialized cls).before args s = true) (hat : ∀ w ∈ vx_at0 own ic cls names, w.before args s = true)
    (hgood : ∀ w ∈ Cond.classLink own ik cls :: Cond.initialized cls :: vx_at0 own ic cls names, vx_ot w = true)
    (hU : vx_Zq Bundle.tN "UNASSIGNED_STACK" Bundle.steD A s s.heap) (hN : vx_Zq Bundle.tN "SUPPRESSED_SENTINEL" Bundle.listD A s s.heap) (hS : va_S A s.heap H locs) (hsize : ls.size = c.maxLocals)
    (d0 : decode cc pc = .ok (.new ik, 3)) (d3 : decode cc (pc + 3) = .ok (.dup, 1)) (d4 : decode cc (pc + 4) = .ok (.invokespecial ic, 3)) (d7 : decode cc (pc + 7) = .ok (.athrow, 1))
    (hout : ∀ x ∈ c.exceptionTable.toList, covers x (pc + 7) = false)
    (hRframes : names.length + 3 < R.frames) (hRlocals : (rest.map fun v => v.category).sum + (13 * (names.length + 1) + 42) ≤ R.locals) (hRcells : cells + 1 ≤ R.cells) (hRslots : slots + 6 ≤ R.slots) (hlocks : meth.locks = false)
    (hx : ∀ t : State, s.vm.Alike t.vm → H.size ≤ t.heap.size → (∀ q : Nat, q < H.size → t.heap[q]? = H[q]?) → XC cls s t)
    (hf : ∀ z ∈ locs, free z.base) (hc : cells + 1 ≤ mc) (hs : slots + 6 ≤ ms) :
    W p l e R s m args below meth c H locs cells slots (vx_MQ below Qc XC args s mc ms free) (F0 m pc ls rest) := by
  intro T hT X
  have htr : e.platform.stackTraces = false := (show e.platform.stackTraces = l.stackTraces by rw [X.admits.platform]).trans hl
  have Y := vx_rebase X (R' := { frames := R.frames, locals := R.locals, cells := 1, slots := 6 }) (Nat.le_refl _) (Nat.le_refl _) hRcells hRslots
  obtain ⟨s', hA⟩ : ∃ z, z = (T.setVm s.vm).setFrames (.invoking m args :: below) := ⟨_, rfl⟩
  rw [← hA] at Y
  have hvm : s'.vm = s.vm := by rw [hA]; rfl
  have hhp : s'.heap = H := by rw [hA]; exact hT
  have hW0 : s.WarmedH s'.vm := by rw [hvm]; exact State.WarmedH.refl s
  have hat' : ∀ w ∈ vx_at0 own ic cls names, w.before args s' = true := fun w hw => vx_ot_at hW0 hvm.symm (hgood w (List.mem_cons_of_mem _ (List.mem_cons_of_mem _ hw))) (hat w hw)
  have hk' : (Cond.classLink own ik cls).before args s' = true := vx_ot_at hW0 hvm.symm (hgood _ List.mem_cons_self) hk
  have hini' : (Cond.initialized cls).before args s' = true := vx_ot_at hW0 hvm.symm (hgood _ (List.mem_cons_of_mem _ List.mem_cons_self)) hini
  have hU' : vx_Zq Bundle.tN "UNASSIGNED_STACK" Bundle.steD A s' s'.heap := by rw [hhp]; exact vx_Zq.moved hW0.alike (hU.kept hS.2.1)
  have hN' : vx_Zq Bundle.tN "SUPPRESSED_SENTINEL" Bundle.listD A s' s'.heap := by rw [hhp]; exact vx_Zq.moved hW0.alike (hN.kept hS.2.1)
  have h : ∀ w ∈ Bundle.ownAtoms0 own ic cls names, w.before args s' = true := vx_own hat' (vx_isRefq hU'.1) (vx_isRefq hN'.1) hU'.2.word hN'.2.word
  have hown' : s'.vm.findClass own = some m.cls := by rw [hvm]; exact hown
  have hins : (Cond.instantiable cls 6).before args s' = true := h _ (by simp [Bundle.ownAtoms0])
  obtain ⟨vm₁, cX, kX, hfX, hkX, -, -, X₁, st1⟩ := Y.newCold hexec (own := own) (C := cls) (index := ik) (n := 6) hown' hk' hins hini'
    (g := F0 m pc ls rest) rfl (by rw [hb]; exact d0) (Nat.le_refl _) (Nat.le_refl _)
  generalize hT1 : (T.setVm vm₁).pushCell { cls := cX, slots := kX.instanceTypes.map defaultValue, vm := .none } = T1 at X₁ st1
  have hcat : (Value.ref T.heap.size).category = 1 := rfl
  have hcellA : T1.heap[T.heap.size]? = some (freshCell cX kX) := by rw [← hT1]; exact State.heap_pushCell_size _ _
  have d3' : decode c.code (pc + 3) = .ok (.dup, 1) := by rw [hb]; exact d3
  obtain ⟨U, hsteps, hrun, hend, hW, hsame, ce, hce, hO⟩ := X₁.ctorThrow0 hexec htr (own := own) (cls := cls) (names := names) (ic := ic) hown' hcls hnames h (fun x hx => nomatch hx) hfX hkX hcellA (by rw [hhp, hT]; exact Nat.le_refl _)
    (g := { method := m, pc := pc + 4, locals := ls, stack := .ref T.heap.size :: .ref T.heap.size :: rest, locked := none }) rfl hsize rfl rfl (rest := rest) rfl
    (by rw [hb]; exact d4) (by rw [hb]; exact d7) hout hRframes (by simp only [List.map_cons, List.sum_cons, hcat]; omega) hlocks
  obtain ⟨f1, f2⟩ := vx_frame hsame
  rw [hhp] at f1 f2
  have hWs : s.WarmedH U.vm := State.WarmedH.trans hW0 hW
  have hcl : s.vm.findClass cls = some ce.cls := by
    have h9 := hO.cls
    rw [hvm] at h9
    exact h9
  have hall : s.sameButNew ({ U with vm := s.vm } : State) locs mc ms := by
    subst hA
    obtain ⟨e1, e2⟩ := hsame
    rw [State.setFrames_setFrames] at e1
    have h2 : (T.setVm s.vm).sameButNew ({ U with vm := s.vm } : State) [] (0 + 1) (0 + 6) := ⟨e1, e2⟩
    have h3 := X.same.trans h2
    rw [List.append_nil] at h3
    exact h3.mono hc hs
  refine ⟨U, ?_, .threw T.heap.size, hrun, hend, Or.inr ⟨T.heap.size, rfl, cls, ce, locs, hx U hWs.alike f1 (fun q hq => f2 q hq (fun z hz => nomatch hz)), hce, hO.vm, hcl, hWs, hall, hf⟩⟩
  refine st1 _ ?_
  show Steps p.tables e below (T1.setTop { method := m, pc := pc + 3, locals := ls, stack := .ref T.heap.size :: rest, locked := none }) _
  jvm_step X₁.here [X₁.here.top, hexec, d3', Value.category]
  exact hsteps
/-- 'throw new E("text")': new; dup; ldc; invokespecial; athrow -/
theorem vx_throwS {cc : ByteArray} {pc : Nat} (hexec : p.tables.exec = Jvm.exec) (hb : c.code = cc) (hl : l.stackTraces = false) {own cls text : String} {names : List String} {ik is ic mc ms sa : Nat} {A : Nat → Prop}
    (hown : s.vm.findClass own = some m.cls) (hcls : Bundle.fit cls = true) (hnames : ∀ n ∈ names, Bundle.fit n = true)
    (hk : (Cond.classLink own ik cls).before args s = true) (hini : (Cond.initialized cls).before args s = true) (hstr : vk_R own is text sa s) (hat : ∀ w ∈ vx_atS own ic cls names, w.before args s = true)
    (hgood : ∀ w ∈ Cond.classLink own ik cls :: Cond.initialized cls :: vx_atS own ic cls names, vx_ot w = true)
    (hU : vx_Zq Bundle.tN "UNASSIGNED_STACK" Bundle.steD A s s.heap) (hN : vx_Zq Bundle.tN "SUPPRESSED_SENTINEL" Bundle.listD A s s.heap) (hS : va_S A s.heap H locs) (hsize : ls.size = c.maxLocals)
    (d0 : decode cc pc = .ok (.new ik, 3)) (d3 : decode cc (pc + 3) = .ok (.dup, 1)) (d4 : decode cc (pc + 4) = .ok (.ldc is, 2)) (d6 : decode cc (pc + 6) = .ok (.invokespecial ic, 3)) (d9 : decode cc (pc + 9) = .ok (.athrow, 1))
    (hout : ∀ x ∈ c.exceptionTable.toList, covers x (pc + 9) = false)
    (hRframes : names.length + 3 < R.frames) (hRlocals : (rest.map fun v => v.category).sum + (13 * (names.length + 1) + 43) ≤ R.locals) (hRcells : cells + 1 ≤ R.cells) (hRslots : slots + 6 ≤ R.slots) (hlocks : meth.locks = false)
    (hx : ∀ t : State, s.vm.Alike t.vm → H.size ≤ t.heap.size → (∀ q : Nat, q < H.size → t.heap[q]? = H[q]?) → XC cls s t)
    (hf : ∀ z ∈ locs, free z.base) (hc : cells + 1 ≤ mc) (hs : slots + 6 ≤ ms) :
    W p l e R s m args below meth c H locs cells slots (vx_MQ below Qc XC args s mc ms free) (F0 m pc ls rest) := by
  intro T hT X
  have htr : e.platform.stackTraces = false := (show e.platform.stackTraces = l.stackTraces by rw [X.admits.platform]).trans hl
  have Y := vx_rebase X (R' := { frames := R.frames, locals := R.locals, cells := 1, slots := 6 }) (Nat.le_refl _) (Nat.le_refl _) hRcells hRslots
  obtain ⟨s', hA⟩ : ∃ z, z = (T.setVm s.vm).setFrames (.invoking m args :: below) := ⟨_, rfl⟩
  rw [← hA] at Y
  have hvm : s'.vm = s.vm := by rw [hA]; rfl
  have hhp : s'.heap = H := by rw [hA]; exact hT
  have hW0 : s.WarmedH s'.vm := by rw [hvm]; exact State.WarmedH.refl s
  have hat' : ∀ w ∈ vx_atS own ic cls names, w.before args s' = true := fun w hw => vx_ot_at hW0 hvm.symm (hgood w (List.mem_cons_of_mem _ (List.mem_cons_of_mem _ hw))) (hat w hw)
  have hk' : (Cond.classLink own ik cls).before args s' = true := vx_ot_at hW0 hvm.symm (hgood _ List.mem_cons_self) hk
  have hini' : (Cond.initialized cls).before args s' = true := vx_ot_at hW0 hvm.symm (hgood _ (List.mem_cons_of_mem _ List.mem_cons_self)) hini
  have hU' : vx_Zq Bundle.tN "UNASSIGNED_STACK" Bundle.steD A s' s'.heap := by rw [hhp]; exact vx_Zq.moved hW0.alike (hU.kept hS.2.1)
  have hN' : vx_Zq Bundle.tN "SUPPRESSED_SENTINEL" Bundle.listD A s' s'.heap := by rw [hhp]; exact vx_Zq.moved hW0.alike (hN.kept hS.2.1)
  have h : ∀ w ∈ Bundle.ownAtoms own ic cls names, w.before args s' = true := vx_own hat' (vx_isRefq hU'.1) (vx_isRefq hN'.1) hU'.2.word hN'.2.word
  have hown' : s'.vm.findClass own = some m.cls := by rw [hvm]; exact hown
  have hins : (Cond.instantiable cls 6).before args s' = true := h _ (by simp [Bundle.ownAtoms])
  obtain ⟨vm₁, cX, kX, hfX, hkX, -, -, X₁, st1⟩ := Y.newCold hexec (own := own) (C := cls) (index := ik) (n := 6) hown' hk' hins hini'
    (g := F0 m pc ls rest) rfl (by rw [hb]; exact d0) (Nat.le_refl _) (Nat.le_refl _)
  generalize hT1 : (T.setVm vm₁).pushCell { cls := cX, slots := kX.instanceTypes.map defaultValue, vm := .none } = T1 at X₁ st1
  have hcat : (Value.ref T.heap.size).category = 1 := rfl
  have hcellA : T1.heap[T.heap.size]? = some (freshCell cX kX) := by rw [← hT1]; exact State.heap_pushCell_size _ _
  have d3' : decode c.code (pc + 3) = .ok (.dup, 1) := by rw [hb]; exact d3
  have d4' : decode c.code (pc + 4) = .ok (.ldc is, 2) := by rw [hb]; exact d4
  have hstr' : vk_R own is text sa s' := vk_R.warm hW0 hstr
  obtain ⟨U, hsteps, hrun, hend, hW, hsame, ce, hce, hO⟩ := X₁.ctorThrowS hexec htr (own := own) (cls := cls) (names := names) (ic := ic) hown' hcls hnames h (fun x hx => nomatch hx) hfX hkX hcellA (by rw [hhp, hT]; exact Nat.le_refl _) (msg := .ref sa) rfl
    (g := { method := m, pc := pc + 6, locals := ls, stack := .ref sa :: .ref T.heap.size :: .ref T.heap.size :: rest, locked := none }) rfl hsize rfl rfl (rest := rest) rfl
    (by rw [hb]; exact d6) (by rw [hb]; exact d9) hout hRframes (by simp only [List.map_cons, List.sum_cons, hcat]; omega) hlocks
  obtain ⟨f1, f2⟩ := vx_frame hsame
  rw [hhp] at f1 f2
  have hWs : s.WarmedH U.vm := State.WarmedH.trans hW0 hW
  have hcl : s.vm.findClass cls = some ce.cls := by
    have h9 := hO.cls
    rw [hvm] at h9
    exact h9
  have hall : s.sameButNew ({ U with vm := s.vm } : State) locs mc ms := by
    subst hA
    obtain ⟨e1, e2⟩ := hsame
    rw [State.setFrames_setFrames] at e1
    have h2 : (T.setVm s.vm).sameButNew ({ U with vm := s.vm } : State) [] (0 + 1) (0 + 6) := ⟨e1, e2⟩
    have h3 := X.same.trans h2
    rw [List.append_nil] at h3
    exact h3.mono hc hs
  refine ⟨U, ?_, .threw T.heap.size, hrun, hend, Or.inr ⟨T.heap.size, rfl, cls, ce, locs, hx U hWs.alike f1 (fun q hq => f2 q hq (fun z hz => nomatch hz)), hce, hO.vm, hcl, hWs, hall, hf⟩⟩
  refine st1 _ ?_
  show Steps p.tables e below (T1.setTop { method := m, pc := pc + 3, locals := ls, stack := .ref T.heap.size :: rest, locked := none }) _
  jvm_step X₁.here [X₁.here.top, hexec, d3', Value.category]
  exact X₁.ldcString hexec (own := own) (text := text) (index := is) (a := sa) hown' hstr'.1 hstr'.2
    (g := { method := m, pc := pc + 4, locals := ls, stack := .ref T.heap.size :: .ref T.heap.size :: rest, locked := none }) rfl d4' _ hsteps
/-- 'throw new E("text")', the text by a wide index -/
theorem vx_throwSW {cc : ByteArray} {pc : Nat} (hexec : p.tables.exec = Jvm.exec) (hb : c.code = cc) (hl : l.stackTraces = false) {own cls text : String} {names : List String} {ik is ic mc ms sa : Nat} {A : Nat → Prop}
    (hown : s.vm.findClass own = some m.cls) (hcls : Bundle.fit cls = true) (hnames : ∀ n ∈ names, Bundle.fit n = true)
    (hk : (Cond.classLink own ik cls).before args s = true) (hini : (Cond.initialized cls).before args s = true) (hstr : vk_R own is text sa s) (hat : ∀ w ∈ vx_atS own ic cls names, w.before args s = true)
    (hgood : ∀ w ∈ Cond.classLink own ik cls :: Cond.initialized cls :: vx_atS own ic cls names, vx_ot w = true)
    (hU : vx_Zq Bundle.tN "UNASSIGNED_STACK" Bundle.steD A s s.heap) (hN : vx_Zq Bundle.tN "SUPPRESSED_SENTINEL" Bundle.listD A s s.heap) (hS : va_S A s.heap H locs) (hsize : ls.size = c.maxLocals)
    (d0 : decode cc pc = .ok (.new ik, 3)) (d3 : decode cc (pc + 3) = .ok (.dup, 1)) (d4 : decode cc (pc + 4) = .ok (.ldc_w is, 3)) (d7 : decode cc (pc + 7) = .ok (.invokespecial ic, 3)) (d10 : decode cc (pc + 10) = .ok (.athrow, 1))
    (hout : ∀ x ∈ c.exceptionTable.toList, covers x (pc + 10) = false)
    (hRframes : names.length + 3 < R.frames) (hRlocals : (rest.map fun v => v.category).sum + (13 * (names.length + 1) + 43) ≤ R.locals) (hRcells : cells + 1 ≤ R.cells) (hRslots : slots + 6 ≤ R.slots) (hlocks : meth.locks = false)
    (hx : ∀ t : State, s.vm.Alike t.vm → H.size ≤ t.heap.size → (∀ q : Nat, q < H.size → t.heap[q]? = H[q]?) → XC cls s t)
    (hf : ∀ z ∈ locs, free z.base) (hc : cells + 1 ≤ mc) (hs : slots + 6 ≤ ms) :
    W p l e R s m args below meth c H locs cells slots (vx_MQ below Qc XC args s mc ms free) (F0 m pc ls rest) := by
  intro T hT X
  have htr : e.platform.stackTraces = false := (show e.platform.stackTraces = l.stackTraces by rw [X.admits.platform]).trans hl
  have Y := vx_rebase X (R' := { frames := R.frames, locals := R.locals, cells := 1, slots := 6 }) (Nat.le_refl _) (Nat.le_refl _) hRcells hRslots
  obtain ⟨s', hA⟩ : ∃ z, z = (T.setVm s.vm).setFrames (.invoking m args :: below) := ⟨_, rfl⟩
  rw [← hA] at Y
  have hvm : s'.vm = s.vm := by rw [hA]; rfl
  have hhp : s'.heap = H := by rw [hA]; exact hT
  have hW0 : s.WarmedH s'.vm := by rw [hvm]; exact State.WarmedH.refl s
  have hat' : ∀ w ∈ vx_atS own ic cls names, w.before args s' = true := fun w hw => vx_ot_at hW0 hvm.symm (hgood w (List.mem_cons_of_mem _ (List.mem_cons_of_mem _ hw))) (hat w hw)
  have hk' : (Cond.classLink own ik cls).before args s' = true := vx_ot_at hW0 hvm.symm (hgood _ List.mem_cons_self) hk
  have hini' : (Cond.initialized cls).before args s' = true := vx_ot_at hW0 hvm.symm (hgood _ (List.mem_cons_of_mem _ List.mem_cons_self)) hini
  have hU' : vx_Zq Bundle.tN "UNASSIGNED_STACK" Bundle.steD A s' s'.heap := by rw [hhp]; exact vx_Zq.moved hW0.alike (hU.kept hS.2.1)
  have hN' : vx_Zq Bundle.tN "SUPPRESSED_SENTINEL" Bundle.listD A s' s'.heap := by rw [hhp]; exact vx_Zq.moved hW0.alike (hN.kept hS.2.1)
  have h : ∀ w ∈ Bundle.ownAtoms own ic cls names, w.before args s' = true := vx_own hat' (vx_isRefq hU'.1) (vx_isRefq hN'.1) hU'.2.word hN'.2.word
  have hown' : s'.vm.findClass own = some m.cls := by rw [hvm]; exact hown
  have hins : (Cond.instantiable cls 6).before args s' = true := h _ (by simp [Bundle.ownAtoms])
  obtain ⟨vm₁, cX, kX, hfX, hkX, -, -, X₁, st1⟩ := Y.newCold hexec (own := own) (C := cls) (index := ik) (n := 6) hown' hk' hins hini'
    (g := F0 m pc ls rest) rfl (by rw [hb]; exact d0) (Nat.le_refl _) (Nat.le_refl _)
  generalize hT1 : (T.setVm vm₁).pushCell { cls := cX, slots := kX.instanceTypes.map defaultValue, vm := .none } = T1 at X₁ st1
  have hcat : (Value.ref T.heap.size).category = 1 := rfl
  have hcellA : T1.heap[T.heap.size]? = some (freshCell cX kX) := by rw [← hT1]; exact State.heap_pushCell_size _ _
  have d3' : decode c.code (pc + 3) = .ok (.dup, 1) := by rw [hb]; exact d3
  have d4' : decode c.code (pc + 4) = .ok (.ldc_w is, 3) := by rw [hb]; exact d4
  have hstr' : vk_R own is text sa s' := vk_R.warm hW0 hstr
  obtain ⟨U, hsteps, hrun, hend, hW, hsame, ce, hce, hO⟩ := X₁.ctorThrowS hexec htr (own := own) (cls := cls) (names := names) (ic := ic) hown' hcls hnames h (fun x hx => nomatch hx) hfX hkX hcellA (by rw [hhp, hT]; exact Nat.le_refl _) (msg := .ref sa) rfl
    (g := { method := m, pc := pc + 7, locals := ls, stack := .ref sa :: .ref T.heap.size :: .ref T.heap.size :: rest, locked := none }) rfl hsize rfl rfl (rest := rest) rfl
    (by rw [hb]; exact d7) (by rw [hb]; exact d10) hout hRframes (by simp only [List.map_cons, List.sum_cons, hcat]; omega) hlocks
  obtain ⟨f1, f2⟩ := vx_frame hsame
  rw [hhp] at f1 f2
  have hWs : s.WarmedH U.vm := State.WarmedH.trans hW0 hW
  have hcl : s.vm.findClass cls = some ce.cls := by
    have h9 := hO.cls
    rw [hvm] at h9
    exact h9
  have hall : s.sameButNew ({ U with vm := s.vm } : State) locs mc ms := by
    subst hA
    obtain ⟨e1, e2⟩ := hsame
    rw [State.setFrames_setFrames] at e1
    have h2 : (T.setVm s.vm).sameButNew ({ U with vm := s.vm } : State) [] (0 + 1) (0 + 6) := ⟨e1, e2⟩
    have h3 := X.same.trans h2
    rw [List.append_nil] at h3
    exact h3.mono hc hs
  refine ⟨U, ?_, .threw T.heap.size, hrun, hend, Or.inr ⟨T.heap.size, rfl, cls, ce, locs, hx U hWs.alike f1 (fun q hq => f2 q hq (fun z hz => nomatch hz)), hce, hO.vm, hcl, hWs, hall, hf⟩⟩
  refine st1 _ ?_
  show Steps p.tables e below (T1.setTop { method := m, pc := pc + 3, locals := ls, stack := .ref T.heap.size :: rest, locked := none }) _
  jvm_step X₁.here [X₁.here.top, hexec, d3', Value.category]
  exact X₁.ldcStringW hexec (own := own) (text := text) (index := is) (a := sa) hown' hstr'.1 hstr'.2
    (g := { method := m, pc := pc + 4, locals := ls, stack := .ref T.heap.size :: .ref T.heap.size :: rest, locked := none }) rfl d4' _ hsteps
end Ends
section Bodies
variable {l : Launch}
theorem vx_ofW {y : MethodName} {ws ws' : List Cond} {rm : Room} {Pc : Array Value → State → Prop} {Qc : Array Value → State → Outcome → State → Prop} {XC : String → State → State → Prop} {mc ms : Nat} {free : Addr → Prop} {cc : ByteArray} {maxL : Nat} {ret : Option FieldType}
    (hy : plainName y.cls = true) (hw : ws = Cond.code y cc maxL ret :: ws')
    (body : ∀ p e s m args below meth c s₁, BodyLoose p l y (headSpec ws rm) cc maxL ret e s m args below meth c s₁ → c.maxLocals = maxL → (∀ x ∈ c.exceptionTable.toList, False) → Pc args s →
      W p l e (headSpec ws rm).room s m args below meth c s.heap [] 0 0 (vx_MQ below Qc XC args s mc ms free) (entryFrame m args maxL)) : vx_Met l y ws rm Pc Qc XC mc ms free := by
  refine MetFree.of_bodyS (code := cc) (maxLocals := maxL) (ret := ret) hy ?_ ?_
  · intro args s m h hn
    obtain ⟨meth, c, h1, h2, h3, h4, h5, h6, -, -⟩ := Cond.code_spec hn (atoms_spec (ws := ws) h _ (by rw [hw]; exact List.mem_cons_self))
    exact ⟨meth, c, h1, h2, h3, h4, h5, h6⟩
  · intro p e s m args below meth c s₁ B hml hP _
    have hh0 : s₁.heap = s.heap := by rw [B.state]; rfl
    have ht : ∀ x ∈ c.exceptionTable.toList, False := by
      obtain ⟨meth9, c9, h1, h2, -, -, -, -, h7, -⟩ := Cond.code_spec B.named (atoms_spec (ws := ws) B.pre _ (by rw [hw]; exact List.mem_cons_self))
      cases Option.some.inj (h1.symm.trans B.method)
      cases Option.some.inj (h2.symm.trans (Stand.of_body B).code)
      intro x hx
      rw [Array.isEmpty_iff.mp h7] at hx
      cases hx
    obtain ⟨t, a1, o, b1, b2, b3⟩ := body p e s m args below meth c s₁ B hml ht hP s₁ hh0 (Stand.of_body B)
    exact ⟨t, o, a1, b1, b2, b3⟩
/-- the table of a body with handlers -/
theorem vx_table {p : Program} {x y : MethodName} {S : Spec} {cc bytes : ByteArray} {maxL maxL' : Nat} {ret ret' : Option FieldType} {e : Env} {s s₁ : State} {m : MethodId} {args : Array Value} {below : List Frame} {meth : Method} {c : Code} {hh : List (Nat × Nat × Nat × Nat)}
    (B : BodyLoose p l y S cc maxL ret e s m args below meth c s₁) (h : (Cond.codeWith y bytes maxL' ret' hh).before args s = true) : c.exceptionTable.toList = tableOf hh := by
  obtain ⟨m9, meth9, c9, hn9, h1, h2, -, -, h6, -⟩ := Cond.codeWith_spec h
  cases Option.some.inj (hn9.symm.trans B.named)
  cases Option.some.inj (h1.symm.trans B.method)
  cases Option.some.inj (h2.symm.trans (Stand.of_body B).code)
  rw [← h6, table_eq]
end Bodies
end VXA
/-! ===== END ===== -/
/-! ===== BEGIN a static call of a method with an exception table ===== -/
section VXS
variable {p : Program} {l : Launch} {e : Env} {R : Room} {s : State} {m : MethodId} {args : Array Value} {below : List Frame} {meth : Method} {c : Code} {T : State} {H : Heap} {locs : List Loc} {cells slots : Nat}
abbrev vx_CSW (R : Room) (s : State) (args : Array Value) (own : String) (index : Nat) (y : MethodName) (bytes : ByteArray) (maxL : Nat) (ret : Option FieldType) (hh : List (Nat × Nat × Nat × Nat)) (ws : List Cond) (rm : Room) (mc ms n : Nat) : Prop :=
  (rm.cells = mc ∧ rm.slots = ms ∧ rm.frames + 1 ≤ R.frames ∧ 8 + (maxL + 11) + rm.locals ≤ R.locals ∧ (∀ w ∈ ws, ∀ (a' : Array Value) (U : State), s.WarmedH U.vm → w.before a' U = true) ∧ Cond.codeWith y bytes maxL ret hh ∈ ws) ∧
  (Cond.codeWith y bytes maxL ret hh).before args s = true ∧ (Cond.initialized y.cls).before args s = true ∧ (y.cls ≠ "java/lang/invoke/MethodHandle" ∧ y.cls ≠ "java/lang/invoke/VarHandle") ∧
  (∀ sig, parseMethodDescriptor y.desc = some sig → n = sig.parameters.length) ∧ (Cond.methodLink own index y).before args s = true ∧ (Cond.static y).before args s = true
theorem vx_cwSW {own : String} {index maxL mc ms : Nat} {y : MethodName} {bytes : ByteArray} {ret : Option FieldType} {hh : List (Nat × Nat × Nat × Nat)} {Ts ws ws' : List Cond} {rm : Room} (n : Nat) (ht : ∀ w ∈ Ts, w.before args s = true) (hT : GoodIn Ts (va_wsS own index y ws)) (hw : ws = Cond.codeWith y bytes maxL ret hh :: ws') (hrc : rm.cells = mc) (hrs : rm.slots = ms)
    (hd : y.cls ≠ "java/lang/invoke/MethodHandle" ∧ y.cls ≠ "java/lang/invoke/VarHandle" ∧ (parseMethodDescriptor y.desc).map (fun d => d.parameters.length) = some n) (hR : rm.frames + 1 ≤ R.frames ∧ 8 + (maxL + 11) + rm.locals ≤ R.locals) :
    vx_CSW R s args own index y bytes maxL ret hh ws rm mc ms n := by
  have ok : ∀ w ∈ va_wsS own index y ws, w.before args s = true := fun w h => ht w (hT w h).1
  have hG : GoodIn Ts ws := fun w h => hT w (by unfold va_wsS; exact List.mem_append_right _ h)
  have hc : Cond.codeWith y bytes maxL ret hh ∈ ws := by rw [hw]; exact List.mem_cons_self
  refine ⟨⟨hrc, hrs, hR.1, hR.2, pay_in ht hG, hc⟩, ht _ (hG _ hc).1, ok _ (by simp [va_wsS]), ⟨hd.1, hd.2.1⟩, fun sig h => ?_, ok _ (by simp [va_wsS]), ok _ (by simp [va_wsS])⟩
  have h2 := hd.2.2
  rw [h] at h2
  exact (Option.some.inj h2).symm
theorem vx_callSW (X : Stand p l e R s m args below meth c T locs cells slots) (hexec : p.tables.exec = Jvm.exec) {own : String} {index : Nat} {y : MethodName} {bytes : ByteArray} {maxL : Nat} {ret : Option FieldType} {hh : List (Nat × Nat × Nat × Nat)}
    (hown : s.vm.findClass own = some m.cls) (hlink : (Cond.methodLink own index y).before args s = true) (hstat : (Cond.static y).before args s = true) (hinit : (Cond.initialized y.cls).before args s = true)
    (hcode : (Cond.codeWith y bytes maxL ret hh).before args s = true) (hy : y.cls ≠ "java/lang/invoke/MethodHandle" ∧ y.cls ≠ "java/lang/invoke/VarHandle")
    {W9 : Nat} {Pre : Pt → Array Value → Prop} {Post : Pt → Array Value → Option Value → Pt → Prop} (hK : Back l R p e below s args y 3 W9 Pre Post)
    {g : JFrame} (hg : g.method = m) (hsize : g.locals.size = c.maxLocals) {argsL rest : List Value} (hlen : ∀ sig, parseMethodDescriptor y.desc = some sig → argsL.length = sig.parameters.length)
    (hstack : g.stack = argsL.reverse ++ rest) (hW : 2 * g.monitorRoom + (rest.map fun v => v.category).sum ≤ W9) (hdg : decode c.code g.pc = .ok (.invokestatic index, 3))
    (hpre : ∀ vm₁, s.WarmedH vm₁ → Pre ⟨T.setVm vm₁, locs, cells, slots⟩ argsL.toArray) :
    ∃ (v : Option Value) (vm₁ : Vm) (B : Pt), s.WarmedH vm₁ ∧ Stand p l e R s m args below meth c B.U B.locs B.cells B.slots ∧ Post ⟨T.setVm vm₁, locs, cells, slots⟩ argsL.toArray v B ∧
      ∀ target, Steps p.tables e below (B.U.setTop { g with pc := g.pc + 3, stack := v.toList ++ rest }) target → Steps p.tables e below (T.setTop g) target := by
  obtain ⟨mk, methM, cM, hnamed, hmethM, -, -, -, -, -, -, hsigM⟩ := Cond.codeWith_spec hcode
  have hstatic : methM.isStatic = true := Cond.static_spec hnamed hmethM hstat
  obtain ⟨kP, hkP, -⟩ := className_of_methodNamed hnamed
  have hinitP : kP.init = .initialized := Cond.initialized_spec (findClass_of_methodNamed hnamed) hkP hinit
  obtain ⟨vm₁, X₁, hstep₁⟩ := X.invokestatic hexec hown hlink hnamed hmethM hstatic hkP hinitP hy (g := g) hg (argsL := argsL) (rest := rest) (hlen _ hsigM) hstack hdg
  obtain ⟨v, B, X', hpost, hsteps⟩ := hK m meth c ⟨T.setVm vm₁, locs, cells, slots⟩ { g with stack := rest } (.invokestatic index) mk argsL.toArray X₁ hg hsize hdg hW (X₁.named hnamed) (hpre vm₁ X₁.warmed)
  exact ⟨v, vm₁, B, X₁.warmed, X', hpost, fun target h => hstep₁ _ fun acts => by rw [doInvoke_state]; exact hsteps.trans h⟩
theorem vx_runSW {y : MethodName} {bytes cc : ByteArray} {maxL nL mc ms n index : Nat} {ret : Option FieldType} {hh : List (Nat × Nat × Nat × Nat)} {ws : List Cond} {rm : Room} {Pc : Array Value → State → Prop} {Qc : Array Value → State → Outcome → State → Prop} {free : Addr → Prop} {Ts : List Cond} {own : String} {As rest : List Value} {g : JFrame}
    (S : CallFix p m c cc nL s args Ts own) (hM : Met l y ws rm Pc Qc mc ms free) (cw : vx_CSW R s args own index y bytes maxL ret hh ws rm mc ms n) (hp : PreS s H Pc As)
    (hg : g.method = m) (hn : As.length = n) (hsize : g.locals.size = nL) (hstack : g.stack = As.reverse ++ rest) (hW : 2 * g.monitorRoom + (rest.map fun v => v.category).sum ≤ 8) (hdg : decode cc g.pc = .ok (.invokestatic index, 3)) (hf : cells + mc ≤ R.cells ∧ slots + ms ≤ R.slots) :
    va_Run p l e R s m args below meth c H locs cells slots mc ms g rest (Qc As.toArray) (free) := by
  obtain ⟨⟨hrc, hrs, hfr, hlo, hws, hcw⟩, hcode, hini, hy, hlen, hl, hstt⟩ := cw
  have hK : Back l R p e below s args y 3 8 (PreOf R mc ms Pc) (PostOf Qc mc ms free) := va_backW (hh := hh) (bytes := bytes) (maxL := maxL) (ret := ret) hM hp.1 hrc hrs hfr hlo hws hcw (fun a' U hW => word_at hW (Or.inl (by first | rfl | simp [Cond.onTables, Cond.keeps, Cond.steady])) hini)
  obtain ⟨hx, hb, hml, ho, -⟩ := S
  intro T hT X
  obtain ⟨v, vm₁, ⟨U', l2, c2, s2⟩, hW₁, X', ⟨g', mk, t, L, e1, e2, hq, h1, hL, h2, h3⟩, st⟩ := vx_callSW X hx (hh := hh) (bytes := bytes) (maxL := maxL) (ret := ret) ho hl hstt hini hcode hy hK hg (hsize.trans hml.symm) (argsL := As) (rest := rest) (fun sig h => hn.trans (hlen sig h)) hstack hW (by rw [hb]; exact hdg)
    (fun vm₁ hW₁ => ⟨hf.1, hf.2, hp.2 (T.setVm vm₁) hT hW₁⟩)
  dsimp only [Pt.U, Pt.locs, Pt.cells, Pt.slots] at X' e1 e2 h1 h2 h3 st
  subst h1; subst h2; subst h3
  exact ⟨v, (T.setVm vm₁).calling g' mk As.toArray, t, U', L, hT, X', hL, e1, e2, hq, st⟩
/-- not caught here, past rows that name other classes: it goes on to the caller -/
theorem vx_outP {p : Program} {l : Launch} {e : Env} {R : Room} {s : State} {m : MethodId} {args : Array Value} {below : List Frame} {meth : Method} {c : Code} {H : Heap} {locs : List Loc} {cells slots : Nat} {free : Addr → Prop} {ls : Array Slot} {rest : List Value} {Qc : Array Value → State → Outcome → State → Prop} {XC : String → State → State → Prop}
    {pc : Nat} {own E : String} {ce : Cell} {q : Addr} {mc ms : Nat} (hown : s.vm.findClass own = some m.cls) (hlocks : meth.locks = false)
    (hpass : ∀ z ∈ c.exceptionTable.toList, covers z pc = false ∨ (z.catchType ≠ 0 ∧ ∃ nm : String, (Cond.classLink own z.catchType nm).before args s = true ∧ va_Nc E nm s)) (hcell : H[q]? = some ce) (hv : ce.vm = .none) (hcl : s.vm.findClass E = some ce.cls)
    (hx : ∀ t : State, t.heap = H → s.vm.Alike t.vm → XC E s t) (hf : ∀ z ∈ locs, free z.base) (hc : cells ≤ mc) (hs : slots ≤ ms) :
    vx_W p l e R s m args below meth c H locs cells slots (vx_MQ below Qc XC args s mc ms free) (F0 m pc ls rest) q := by
  intro T hT X
  have hpl : e.platform.magicAccessors = ({} : Platform).magicAccessors := by rw [X.admits.platform]
  obtain ⟨vm', hW', X', st⟩ := X.outThrough hlocks q (g := F0 m pc ls rest) rfl rfl rfl (cell := ce) (by rw [hT]; exact hcell) (by rw [hv]; rfl)
    (by obtain ⟨k9, h9, -⟩ := Vm.findClass_spec hcl; exact ⟨k9, h9⟩) (fun z hz => by
      rcases hpass z hz with h | ⟨hz0, nm, hl1, hn1⟩
      · exact Or.inl h
      · obtain ⟨c6, hc6, hcl6⟩ := Cond.classLink_spec hown hl1 e.platform hpl
        obtain ⟨a8, b8, h1, h2, h3⟩ := hn1
        cases Option.some.inj (h1.symm.trans hcl)
        cases Option.some.inj (h2.symm.trans hc6)
        exact Or.inr ⟨hz0, _, hcl6, h3⟩)
  obtain ⟨g₀, hfr⟩ := X'.frames_eq
  have hcell9 : ((T.setVm vm').setFrames (.throwing q :: below)).heap[q]? = some ce := by
    show T.heap[q]? = some ce
    rw [hT]; exact hcell
  have hend : Ended ((T.setVm vm').setFrames (.throwing q :: below)) below (.threw q) := State.frames_setFrames _ (State.cur_lt_of_frames hfr)
  refine ⟨(T.setVm vm').setFrames (.throwing q :: below), ?_, .threw q, X'.here.running, hend, Or.inr ⟨q, rfl, E, ce, locs, hx _ hT (X'.ends _).1.alike, hcell9, hv, hcl, (X'.ends _).1, (X'.ends _).2.mono hc hs, hf⟩⟩
  rw [X.pushThrowing_eq]
  exact st
/-- a thing of a world lies in the heap -/
theorem vx_lt {D : va_G} {cl : List vw_C} {ws : va_W} {H1 : Heap} (h : va_P D cl ws H1) {k : Nat} {q : Nat × va_E} (hk : ws[k]? = some q) : q.1 < H1.size := (h k q hk).lt
end VXS
/-! ===== END ===== -/
/-! ===== BEGIN methods with a table of their own: called by a name, returning or throwing ===== -/
section VXH
/-! vx_backW, vx_callVX, vx_callSX, vx_callVW, vx_runVW, vx_runVX, vx_runSX, vx_ofWH follow the same proofs as their sisters above (Free/Laws.lean, Shelf42/LK1.lean); vx_outP calls Shelf42/NT130.lean (outThrough). -/
section
variable {l : Launch} {R : Room} {p : Program} {e : Env} {below : List Frame} {s : State} {sargs : Array Value} {y : MethodName} {len W9 : Nat}
theorem vx_backW {ws : List Cond} {rm : Room} {Pc : Array Value → State → Prop} {Qc : Array Value → State → Outcome → State → Prop} {XC : String → State → State → Prop} {mc ms : Nat} {free : Addr → Prop} {bytes : ByteArray} {maxL : Nat} {ret : Option FieldType} {hh : List (Nat × Nat × Nat × Nat)}
    (hM : vx_Met l y ws rm Pc Qc XC mc ms free) (hblind : FrameBlind Pc) (hrc : rm.cells = mc) (hrs : rm.slots = ms)
    (hframes : rm.frames + 1 ≤ R.frames) (hlocals : W9 + (maxL + 11) + rm.locals ≤ R.locals)
    (hws : ∀ w ∈ ws, ∀ a' U, s.WarmedH U.vm → w.before a' U = true) (hcode : Cond.codeWith y bytes maxL ret hh ∈ ws) (hinit : ∀ a' U, s.WarmedH U.vm → (Cond.initialized y.cls).before a' U = true) :
    vx_Back l R p e below s sargs y len W9 (PreOf R mc ms Pc) (PostOf Qc mc ms free) (vx_Post XC mc ms free) := by
  intro m meth c A g ig mk a X hg hsize hdg hW hn hp
  have h1 : (headSpec ws rm).pre.before a A.U = true := atoms_intro fun w hw => hws w hw _ _ X.warmed
  have h2 : (Cond.codeWith y bytes maxL ret hh).before a A.U = true := hws _ hcode _ _ X.warmed
  have h3 : (Cond.initialized y.cls).before a A.U = true := hinit _ _ X.warmed
  have h4 : A.cells + (headSpec ws rm).room.cells ≤ R.cells := by rw [show (headSpec ws rm).room.cells = mc from hrc]; exact hp.1
  have h5 : A.slots + (headSpec ws rm).room.slots ≤ R.slots := by rw [show (headSpec ws rm).room.slots = ms from hrs]; exact hp.2.1
  have hPc : Pc a (A.U.calling g mk a) := hblind _ _ _ _ hp.2.2
  obtain ⟨U, Ls, c0, s0⟩ := A
  dsimp only [Pt.U, Pt.locs, Pt.cells, Pt.slots] at h1 h2 h3 h4 h5 X hn hPc ⊢
  obtain ⟨m9, methY, cY, hn9, hmY, hcY, -, hlY, -⟩ := Cond.codeWith_spec h2
  cases Option.some.inj (hn9.symm.trans hn)
  obtain ⟨kY, hkY, -⟩ := className_of_methodNamed hn
  have hinitY : kY.init = .initialized := Cond.initialized_spec (findClass_of_methodNamed hn) hkY h3
  have h : At U g.method c below := by rw [hg]; exact X.here
  have hlocals9 : W9 + (maxL + 11) + (headSpec ws rm).room.locals ≤ R.locals := hlocals
  have happ : (headSpec ws rm).appliesLoose y e.platform (U.calling g mk a) = true :=
    Spec.appliesLoose_calling (g := g) h hdg hn hkY hinitY
      (X.room_calling (g := g) (R' := (headSpec ws rm).room) hsize hmY hcY hframes (by rw [hlY]; omega) h4 h5) h1
  obtain ⟨mid, hmid⟩ := h.above
  have hfr : (U.setTop g).frames = (.java g :: mid) ++ below := by rw [State.frames_setTop' g h.top, hmid]; rfl
  obtain ⟨o, s₂, hsteps, -, hend, hq⟩ := Steps.callFree hM p X.admits X.cas X.clock (acts := []) hfr happ hPc trivial
  have hq' : vx_Q Qc XC mc ms free a (U.calling g mk a) o s₂ := hq
  rw [State.frames_setTop' g h.top] at hend
  obtain ⟨g₀, hg0⟩ := Option.isSome_iff_exists.mp h.top
  obtain ⟨r, hr⟩ := State.topJava?_eq_some.mp hg0
  have hr' : (({ U with heap := s₂.heap, slotsUsed := s₂.slotsUsed } : State).setVm s₂.vm).frames = .java g₀ :: r := hr
  rcases hq' with ⟨hqc, L, hfe, hL⟩ | ⟨q, rfl, E, ce, L, hx, hce, hcv, hcl, hW₂, hsm, hL⟩
  · obtain ⟨⟨v, rfl⟩, hW₂, e2, q2, q3, q4, q5, q6⟩ := id hfe
    have e3 : s₂ = ({ (U.calling g mk a).setFrames s₂.frames with heap := s₂.heap, slotsUsed := s₂.slotsUsed } : State).setVm s₂.vm := by
      have : s₂ = ({ s₂ with vm := (U.calling g mk a).vm } : State).setVm s₂.vm := rfl
      rw [e2] at this
      exact this
    obtain ⟨c₂, i₂, len₂, hc₂, hd₂, hf₂⟩ := hend
    have hW' : U.WarmedH s₂.vm := hW₂
    have hcc : c₂ = c := by
      have h1 : s₂.code? g.method = U.code? g.method := by
        rw [State.code?_eq, State.code?_eq, hW'.alike.method?]
      exact Option.some.inj (hc₂.symm.trans (h1.trans h.code))
    subst hcc
    have hlen : len₂ = len := by rw [hdg] at hd₂; cases hd₂; rfl
    subst hlen
    have hs₂ : s₂ = (({ U with heap := s₂.heap, slotsUsed := s₂.slotsUsed } : State).setVm s₂.vm).setTop { g with pc := g.pc + len₂, stack := v.toList ++ g.stack } := by
      refine e3.trans ?_
      rw [hf₂, State.calling_eq h.top, State.setFrames_setFrames, State.setTop_of_frames _ hr', hr]
      rfl
    have hsame : U.sameButNew ({ U with heap := s₂.heap, slotsUsed := s₂.slotsUsed } : State) L mc ms := by
      refine ⟨?_, q2, q3, q4, q5, q6⟩
      obtain ⟨t, ht, -⟩ := State.frames_cons hr
      show ({ U with heap := s₂.heap, slotsUsed := s₂.slotsUsed } : State) = { U.setFrames U.frames with heap := s₂.heap, slotsUsed := s₂.slotsUsed }
      rw [State.setFrames_self ht]
    subst hg
    refine Or.inl ⟨v, ⟨(({ U with heap := s₂.heap, slotsUsed := s₂.slotsUsed } : State).setVm s₂.vm), Ls ++ L, c0 + mc, s0 + ms⟩,
      ⟨X.admits, X.cas, X.clock, X.frames, X.room, X.hears, X.method, X.code, (X.here.setHeapUsed s₂.heap s₂.slotsUsed).setVm hW'.alike, X.tail, State.WarmedH.trans X.warmed hW', X.limits, X.bytes, X.same.trans (hsame.setVm s.vm)⟩,
      ⟨g, mk, s₂, L, rfl, rfl, hqc, rfl, hL, rfl, rfl⟩, ?_⟩
    show Steps p.tables e below _ ((({ U with heap := s₂.heap, slotsUsed := s₂.slotsUsed } : State).setVm s₂.vm).setTop { g with pc := g.pc + len₂, stack := v.toList ++ g.stack })
    rw [← hs₂]
    exact hsteps
  · obtain ⟨e2, q2, q3, q4, q5, q6⟩ := id hsm
    have e3 : s₂ = ({ (U.calling g mk a).setFrames s₂.frames with heap := s₂.heap, slotsUsed := s₂.slotsUsed } : State).setVm s₂.vm := by
      have : s₂ = ({ s₂ with vm := (U.calling g mk a).vm } : State).setVm s₂.vm := rfl
      rw [e2] at this
      exact this
    have hf₂ : s₂.frames = .throwing q :: .java g :: U.frames.tail := hend
    have hW' : U.WarmedH s₂.vm := hW₂
    have hs₂ : s₂ = ((({ U with heap := s₂.heap, slotsUsed := s₂.slotsUsed } : State).setVm s₂.vm).setTop g).pushFrame (.throwing q) := by
      refine e3.trans ?_
      rw [hf₂, State.calling_eq h.top, State.setFrames_setFrames, State.pushFrame, State.frames_setTop _ hr', State.setTop_of_frames _ hr', State.setFrames_setFrames, hr]
      rfl
    have hsame : U.sameButNew ({ U with heap := s₂.heap, slotsUsed := s₂.slotsUsed } : State) L mc ms := by
      refine ⟨?_, q2, q3, q4, q5, q6⟩
      obtain ⟨t, ht, -⟩ := State.frames_cons hr
      show ({ U with heap := s₂.heap, slotsUsed := s₂.slotsUsed } : State) = { U.setFrames U.frames with heap := s₂.heap, slotsUsed := s₂.slotsUsed }
      rw [State.setFrames_self ht]
    subst hg
    refine Or.inr ⟨q, ⟨(({ U with heap := s₂.heap, slotsUsed := s₂.slotsUsed } : State).setVm s₂.vm), Ls ++ L, c0 + mc, s0 + ms⟩,
      ⟨X.admits, X.cas, X.clock, X.frames, X.room, X.hears, X.method, X.code, (X.here.setHeapUsed s₂.heap s₂.slotsUsed).setVm hW'.alike, X.tail, State.WarmedH.trans X.warmed hW', X.limits, X.bytes, X.same.trans (hsame.setVm s.vm)⟩,
      ⟨g, mk, s₂, L, E, ce, rfl, rfl, hx, hce, hcv, hcl, rfl, hL, rfl, rfl⟩, ?_⟩
    show Steps p.tables e below _ (((({ U with heap := s₂.heap, slotsUsed := s₂.slotsUsed } : State).setVm s₂.vm).setTop g).pushFrame (.throwing q))
    rw [← hs₂]
    exact hsteps
end
variable {p : Program} {l : Launch} {e : Env} {R : Room} {s : State} {m : MethodId} {args : Array Value} {below : List Frame} {meth : Method} {c : Code} {T : State} {H : Heap} {locs : List Loc} {cells slots : Nat}
theorem vx_callVX (X : Stand p l e R s m args below meth c T locs cells slots) (hexec : p.tables.exec = Jvm.exec) {own C : String} {index : Nat} {y : MethodName} {bytes : ByteArray} {maxL : Nat} {ret : Option FieldType} {hh : List (Nat × Nat × Nat × Nat)}
    (hown : s.vm.findClass own = some m.cls) (hlink : (Cond.methodLink own index y).before args s = true) (hinst : (Cond.instanceMethod y).before args s = true) (hsel : (Cond.selects C y y).before args s = true)
    (hcode : (Cond.codeWith y bytes maxL ret hh).before args s = true) (hy : y.cls ≠ "java/lang/invoke/MethodHandle" ∧ y.cls ≠ "java/lang/invoke/VarHandle")
    {W9 : Nat} {Pre : Pt → Array Value → Prop} {Post : Pt → Array Value → Option Value → Pt → Prop} {PostX : Pt → Array Value → Addr → Pt → Prop} (hK : vx_Back l R p e below s args y 3 W9 Pre Post PostX)
    {b : Addr} {cellB : Cell} (hcell : T.heap[b]? = some cellB) (hobj : cellB.vm.isStatics = false) (hcls : s.vm.findClass C = some cellB.cls)
    {g : JFrame} (hg : g.method = m) (hsize : g.locals.size = c.maxLocals) {argsL rest : List Value} (hlen : ∀ sig, parseMethodDescriptor y.desc = some sig → argsL.length = sig.parameters.length)
    (hstack : g.stack = argsL.reverse ++ .ref b :: rest) (hW : 2 * g.monitorRoom + (rest.map fun v => v.category).sum ≤ W9) (hdg : decode c.code g.pc = .ok (.invokevirtual index, 3))
    (hpre : ∀ vm₁, s.WarmedH vm₁ → Pre ⟨T.setVm vm₁, locs, cells, slots⟩ (Value.ref b :: argsL).toArray) :
    (∃ (v : Option Value) (vm₁ : Vm) (B : Pt), s.WarmedH vm₁ ∧ Stand p l e R s m args below meth c B.U B.locs B.cells B.slots ∧ Post ⟨T.setVm vm₁, locs, cells, slots⟩ (Value.ref b :: argsL).toArray v B ∧
      ∀ target, Steps p.tables e below (B.U.setTop { g with pc := g.pc + 3, stack := v.toList ++ rest }) target → Steps p.tables e below (T.setTop g) target) ∨
    (∃ (q : Addr) (vm₁ : Vm) (B : Pt), s.WarmedH vm₁ ∧ Stand p l e R s m args below meth c B.U B.locs B.cells B.slots ∧ PostX ⟨T.setVm vm₁, locs, cells, slots⟩ (Value.ref b :: argsL).toArray q B ∧
      Steps p.tables e below (T.setTop g) ((B.U.setTop { g with stack := rest }).pushFrame (.throwing q))) := by
  obtain ⟨mk, methM, hnamed, hmethM, hstM, habM⟩ := Cond.instanceMethod_spec hinst
  obtain ⟨m8, methM', cM, hn8, hmethM', -, -, -, -, -, -, hsigM⟩ := Cond.codeWith_spec hcode
  cases Option.some.inj (hn8.symm.trans hnamed)
  cases hmethM.symm.trans hmethM'
  obtain ⟨c2, r2, m2, q1, q2, q3, q4, kP, hkP, hkPi⟩ := Cond.selects_spec hsel
  cases hcls.symm.trans q1
  cases (State.methodFound?_of_named hnamed hy).symm.trans q2
  cases hnamed.symm.trans q3
  have hselP : selectMethod e.platform s.vm cellB.cls mk = .method mk := by rw [Launch.admits_selectMethod X.admits]; exact q4
  obtain ⟨vm₁, X₁, hstep₁⟩ := X.invokevirtual hexec hown hlink hnamed hmethM hstM hkP hkPi hy (a := b) (cell := cellB) hcell
    (fun z h => by rw [h] at hobj; cases hobj) hselP hmethM habM hkP hkPi (g := g) hg (argsL := argsL) (rest := rest) (hlen _ hsigM) hstack hdg
  rcases hK m meth c ⟨T.setVm vm₁, locs, cells, slots⟩ { g with stack := rest } (.invokevirtual index) mk (Value.ref b :: argsL).toArray X₁ hg hsize hdg hW (X₁.named hnamed) (hpre vm₁ X₁.warmed) with ⟨v, B, X', hpost, hsteps⟩ | ⟨q, B, X', hpost, hsteps⟩
  · exact Or.inl ⟨v, vm₁, B, X₁.warmed, X', hpost, fun target h => hstep₁ _ fun acts => by rw [doInvoke_state]; exact hsteps.trans h⟩
  · exact Or.inr ⟨q, vm₁, B, X₁.warmed, X', hpost, hstep₁ _ fun acts => by rw [doInvoke_state]; exact hsteps⟩
theorem vx_callSX (X : Stand p l e R s m args below meth c T locs cells slots) (hexec : p.tables.exec = Jvm.exec) {own : String} {index : Nat} {y : MethodName} {bytes : ByteArray} {maxL : Nat} {ret : Option FieldType} {hh : List (Nat × Nat × Nat × Nat)}
    (hown : s.vm.findClass own = some m.cls) (hlink : (Cond.methodLink own index y).before args s = true) (hstat : (Cond.static y).before args s = true) (hinit : (Cond.initialized y.cls).before args s = true)
    (hcode : (Cond.codeWith y bytes maxL ret hh).before args s = true) (hy : y.cls ≠ "java/lang/invoke/MethodHandle" ∧ y.cls ≠ "java/lang/invoke/VarHandle")
    {W9 : Nat} {Pre : Pt → Array Value → Prop} {Post : Pt → Array Value → Option Value → Pt → Prop} {PostX : Pt → Array Value → Addr → Pt → Prop} (hK : vx_Back l R p e below s args y 3 W9 Pre Post PostX)
    {g : JFrame} (hg : g.method = m) (hsize : g.locals.size = c.maxLocals) {argsL rest : List Value} (hlen : ∀ sig, parseMethodDescriptor y.desc = some sig → argsL.length = sig.parameters.length)
    (hstack : g.stack = argsL.reverse ++ rest) (hW : 2 * g.monitorRoom + (rest.map fun v => v.category).sum ≤ W9) (hdg : decode c.code g.pc = .ok (.invokestatic index, 3))
    (hpre : ∀ vm₁, s.WarmedH vm₁ → Pre ⟨T.setVm vm₁, locs, cells, slots⟩ argsL.toArray) :
    (∃ (v : Option Value) (vm₁ : Vm) (B : Pt), s.WarmedH vm₁ ∧ Stand p l e R s m args below meth c B.U B.locs B.cells B.slots ∧ Post ⟨T.setVm vm₁, locs, cells, slots⟩ argsL.toArray v B ∧
      ∀ target, Steps p.tables e below (B.U.setTop { g with pc := g.pc + 3, stack := v.toList ++ rest }) target → Steps p.tables e below (T.setTop g) target) ∨
    (∃ (q : Addr) (vm₁ : Vm) (B : Pt), s.WarmedH vm₁ ∧ Stand p l e R s m args below meth c B.U B.locs B.cells B.slots ∧ PostX ⟨T.setVm vm₁, locs, cells, slots⟩ argsL.toArray q B ∧
      Steps p.tables e below (T.setTop g) ((B.U.setTop { g with stack := rest }).pushFrame (.throwing q))) := by
  obtain ⟨mk, methM, cM, hnamed, hmethM, -, -, -, -, -, -, hsigM⟩ := Cond.codeWith_spec hcode
  have hstatic : methM.isStatic = true := Cond.static_spec hnamed hmethM hstat
  obtain ⟨kP, hkP, -⟩ := className_of_methodNamed hnamed
  have hinitP : kP.init = .initialized := Cond.initialized_spec (findClass_of_methodNamed hnamed) hkP hinit
  obtain ⟨vm₁, X₁, hstep₁⟩ := X.invokestatic hexec hown hlink hnamed hmethM hstatic hkP hinitP hy (g := g) hg (argsL := argsL) (rest := rest) (hlen _ hsigM) hstack hdg
  rcases hK m meth c ⟨T.setVm vm₁, locs, cells, slots⟩ { g with stack := rest } (.invokestatic index) mk argsL.toArray X₁ hg hsize hdg hW (X₁.named hnamed) (hpre vm₁ X₁.warmed) with ⟨v, B, X', hpost, hsteps⟩ | ⟨q, B, X', hpost, hsteps⟩
  · exact Or.inl ⟨v, vm₁, B, X₁.warmed, X', hpost, fun target h => hstep₁ _ fun acts => by rw [doInvoke_state]; exact hsteps.trans h⟩
  · exact Or.inr ⟨q, vm₁, B, X₁.warmed, X', hpost, hstep₁ _ fun acts => by rw [doInvoke_state]; exact hsteps⟩
theorem vx_callVW (X : Stand p l e R s m args below meth c T locs cells slots) (hexec : p.tables.exec = Jvm.exec) {own C : String} {index : Nat} {y : MethodName} {bytes : ByteArray} {maxL : Nat} {ret : Option FieldType} {hh : List (Nat × Nat × Nat × Nat)}
    (hown : s.vm.findClass own = some m.cls) (hlink : (Cond.methodLink own index y).before args s = true) (hinst : (Cond.instanceMethod y).before args s = true) (hsel : (Cond.selects C y y).before args s = true)
    (hcode : (Cond.codeWith y bytes maxL ret hh).before args s = true) (hy : y.cls ≠ "java/lang/invoke/MethodHandle" ∧ y.cls ≠ "java/lang/invoke/VarHandle")
    {W9 : Nat} {Pre : Pt → Array Value → Prop} {Post : Pt → Array Value → Option Value → Pt → Prop} (hK : Back l R p e below s args y 3 W9 Pre Post)
    {b : Addr} {cellB : Cell} (hcell : T.heap[b]? = some cellB) (hobj : cellB.vm.isStatics = false) (hcls : s.vm.findClass C = some cellB.cls)
    {g : JFrame} (hg : g.method = m) (hsize : g.locals.size = c.maxLocals) {argsL rest : List Value} (hlen : ∀ sig, parseMethodDescriptor y.desc = some sig → argsL.length = sig.parameters.length)
    (hstack : g.stack = argsL.reverse ++ .ref b :: rest) (hW : 2 * g.monitorRoom + (rest.map fun v => v.category).sum ≤ W9) (hdg : decode c.code g.pc = .ok (.invokevirtual index, 3))
    (hpre : ∀ vm₁, s.WarmedH vm₁ → Pre ⟨T.setVm vm₁, locs, cells, slots⟩ (Value.ref b :: argsL).toArray) :
    ∃ (v : Option Value) (vm₁ : Vm) (B : Pt), s.WarmedH vm₁ ∧ Stand p l e R s m args below meth c B.U B.locs B.cells B.slots ∧ Post ⟨T.setVm vm₁, locs, cells, slots⟩ (Value.ref b :: argsL).toArray v B ∧
      ∀ target, Steps p.tables e below (B.U.setTop { g with pc := g.pc + 3, stack := v.toList ++ rest }) target → Steps p.tables e below (T.setTop g) target := by
  obtain ⟨mk, methM, hnamed, hmethM, hstM, habM⟩ := Cond.instanceMethod_spec hinst
  obtain ⟨m8, methM', cM, hn8, hmethM', -, -, -, -, -, -, hsigM⟩ := Cond.codeWith_spec hcode
  cases Option.some.inj (hn8.symm.trans hnamed)
  cases hmethM.symm.trans hmethM'
  obtain ⟨c2, r2, m2, q1, q2, q3, q4, kP, hkP, hkPi⟩ := Cond.selects_spec hsel
  cases hcls.symm.trans q1
  cases (State.methodFound?_of_named hnamed hy).symm.trans q2
  cases hnamed.symm.trans q3
  have hselP : selectMethod e.platform s.vm cellB.cls mk = .method mk := by rw [Launch.admits_selectMethod X.admits]; exact q4
  obtain ⟨vm₁, X₁, hstep₁⟩ := X.invokevirtual hexec hown hlink hnamed hmethM hstM hkP hkPi hy (a := b) (cell := cellB) hcell
    (fun z h => by rw [h] at hobj; cases hobj) hselP hmethM habM hkP hkPi (g := g) hg (argsL := argsL) (rest := rest) (hlen _ hsigM) hstack hdg
  obtain ⟨v, B, X', hpost, hsteps⟩ := hK m meth c ⟨T.setVm vm₁, locs, cells, slots⟩ { g with stack := rest } (.invokevirtual index) mk (Value.ref b :: argsL).toArray X₁ hg hsize hdg hW (X₁.named hnamed) (hpre vm₁ X₁.warmed)
  exact ⟨v, vm₁, B, X₁.warmed, X', hpost, fun target h => hstep₁ _ fun acts => by rw [doInvoke_state]; exact hsteps.trans h⟩
abbrev vx_CVW (R : Room) (s : State) (args : Array Value) (own C : String) (index : Nat) (y : MethodName) (bytes : ByteArray) (maxL : Nat) (ret : Option FieldType) (hh : List (Nat × Nat × Nat × Nat)) (ws : List Cond) (rm : Room) (mc ms n : Nat) : Prop :=
  (rm.cells = mc ∧ rm.slots = ms ∧ rm.frames + 1 ≤ R.frames ∧ 8 + (maxL + 11) + rm.locals ≤ R.locals ∧ (∀ w ∈ ws, ∀ (a' : Array Value) (U : State), s.WarmedH U.vm → w.before a' U = true) ∧ Cond.codeWith y bytes maxL ret hh ∈ ws) ∧
  (Cond.codeWith y bytes maxL ret hh).before args s = true ∧ (Cond.initialized y.cls).before args s = true ∧ (y.cls ≠ "java/lang/invoke/MethodHandle" ∧ y.cls ≠ "java/lang/invoke/VarHandle") ∧
  (∀ sig, parseMethodDescriptor y.desc = some sig → n = sig.parameters.length) ∧ (Cond.methodLink own index y).before args s = true ∧ (Cond.instanceMethod y).before args s = true ∧ (Cond.selects C y y).before args s = true
theorem vx_cwVW {own C : String} {index maxL mc ms : Nat} {y : MethodName} {bytes : ByteArray} {ret : Option FieldType} {hh : List (Nat × Nat × Nat × Nat)} {Ts ws ws' : List Cond} {rm : Room} (n : Nat) (ht : ∀ w ∈ Ts, w.before args s = true) (hT : GoodIn Ts (wsV own index C y ws)) (hw : ws = Cond.codeWith y bytes maxL ret hh :: ws') (hrc : rm.cells = mc) (hrs : rm.slots = ms)
    (hd : y.cls = C ∧ y.cls ≠ "java/lang/invoke/MethodHandle" ∧ y.cls ≠ "java/lang/invoke/VarHandle" ∧ (parseMethodDescriptor y.desc).map (fun d => d.parameters.length) = some n) (hR : rm.frames + 1 ≤ R.frames ∧ 8 + (maxL + 11) + rm.locals ≤ R.locals) :
    vx_CVW R s args own C index y bytes maxL ret hh ws rm mc ms n := by
  obtain ⟨hC, hd⟩ := hd
  subst hC
  have ok : ∀ w ∈ wsV own index y.cls y ws, w.before args s = true := fun w h => ht w (hT w h).1
  have hG : GoodIn Ts ws := fun w h => hT w (by unfold wsV; exact List.mem_append_right _ h)
  have hc : Cond.codeWith y bytes maxL ret hh ∈ ws := by rw [hw]; exact List.mem_cons_self
  refine ⟨⟨hrc, hrs, hR.1, hR.2, pay_in ht hG, hc⟩, ht _ (hG _ hc).1, ok _ (by simp [wsV]), ⟨hd.1, hd.2.1⟩, fun sig h => ?_, ok _ (by simp [wsV]), ok _ (by simp [wsV]), ok _ (by simp [wsV])⟩
  have h2 := hd.2.2
  rw [h] at h2
  exact (Option.some.inj h2).symm
theorem vx_runVW {y : MethodName} {bytes cc : ByteArray} {maxL nL mc ms n index : Nat} {ret : Option FieldType} {hh : List (Nat × Nat × Nat × Nat)} {ws : List Cond} {rm : Room} {Pc : Array Value → State → Prop} {Qc : Array Value → State → Outcome → State → Prop} {free : Addr → Prop} {Ts : List Cond} {own C : String} {b : Addr} {As rest : List Value} {g : JFrame}
    (S : CallFix p m c cc nL s args Ts own) (hM : Met l y ws rm Pc Qc mc ms free) (cw : vx_CVW R s args own C index y bytes maxL ret hh ws rm mc ms n) (hp : PreV s H C b Pc As)
    (hg : g.method = m) (hn : As.length = n) (hsize : g.locals.size = nL) (hstack : g.stack = As.reverse ++ .ref b :: rest) (hW : 2 * g.monitorRoom + (rest.map fun v => v.category).sum ≤ 8) (hdg : decode cc g.pc = .ok (.invokevirtual index, 3)) (hf : cells + mc ≤ R.cells ∧ slots + ms ≤ R.slots) :
    va_Run p l e R s m args below meth c H locs cells slots mc ms g rest (Qc (Value.ref b :: As).toArray) free := by
  obtain ⟨⟨hrc, hrs, hfr, hlo, hws, hcw⟩, hcode, hini, hy, hlen, hl, hin, hse⟩ := cw
  have hK : Back l R p e below s args y 3 8 (PreOf R mc ms Pc) (PostOf Qc mc ms free) := va_backW (hh := hh) (bytes := bytes) (maxL := maxL) (ret := ret) hM hp.1 hrc hrs hfr hlo hws hcw (fun a' U hW => word_at hW (Or.inl (by first | rfl | simp [Cond.onTables, Cond.keeps, Cond.steady])) hini)
  obtain ⟨hx, hb, hml, ho, -⟩ := S
  obtain ⟨-, ⟨cellB, hcB, hoB, hclB⟩, hPc⟩ := hp
  intro T hT X
  obtain ⟨v, vm₁, ⟨U', l2, c2, s2⟩, hW₁, X', ⟨g', mk, t, L, e1, e2, hq, h1, hL, h2, h3⟩, st⟩ := vx_callVW X hx (C := C) (hh := hh) (bytes := bytes) (maxL := maxL) (ret := ret) ho hl hin hse hcode hy hK (by rw [hT]; exact hcB) hoB hclB hg (hsize.trans hml.symm) (argsL := As) (rest := rest) (fun sig h => hn.trans (hlen sig h)) hstack hW (by rw [hb]; exact hdg)
    (fun vm₁ hW₁ => ⟨hf.1, hf.2, hPc (T.setVm vm₁) hT hW₁⟩)
  dsimp only [Pt.U, Pt.locs, Pt.cells, Pt.slots] at X' e1 e2 h1 h2 h3 st
  subst h1; subst h2; subst h3
  exact ⟨v, (T.setVm vm₁).calling g' mk (Value.ref b :: As).toArray, t, U', L, hT, X', hL, e1, e2, hq, st⟩
section
variable {y : MethodName} {bytes cc : ByteArray} {maxL nL mc ms n index : Nat} {ret : Option FieldType} {ws : List Cond} {rm : Room} {Pc : Array Value → State → Prop} {Qc : Array Value → State → Outcome → State → Prop} {XC : String → State → State → Prop} {free : Addr → Prop} {Ts : List Cond} {own C : String} {b : Addr} {As rest : List Value} {g : JFrame}
theorem vx_runVX {hh : List (Nat × Nat × Nat × Nat)} (S : CallFix p m c cc nL s args Ts own) (hM : vx_Met l y ws rm Pc Qc XC mc ms free) (cw : vx_CVW R s args own C index y bytes maxL ret hh ws rm mc ms n) (hp : PreV s H C b Pc As)
    (hg : g.method = m) (hn : As.length = n) (hsize : g.locals.size = nL) (hstack : g.stack = As.reverse ++ .ref b :: rest) (hW : 2 * g.monitorRoom + (rest.map fun v => v.category).sum ≤ 8) (hdg : decode cc g.pc = .ok (.invokevirtual index, 3)) (hf : cells + mc ≤ R.cells ∧ slots + ms ≤ R.slots) :
    vx_Run p l e R s m args below meth c H locs cells slots mc ms g rest (Qc (Value.ref b :: As).toArray) XC free := by
  obtain ⟨⟨hrc, hrs, hfr, hlo, hws, hcw⟩, hcode, hini, hy, hlen, hl, hin, hse⟩ := cw
  have hK : vx_Back l R p e below s args y 3 8 (PreOf R mc ms Pc) (PostOf Qc mc ms free) (vx_Post XC mc ms free) := vx_backW (hh := hh) (bytes := bytes) (maxL := maxL) (ret := ret) hM hp.1 hrc hrs hfr hlo hws hcw (fun a' U hW => word_at hW (Or.inl (by first | rfl | simp [Cond.onTables, Cond.keeps, Cond.steady])) hini)
  obtain ⟨hx, hb, hml, ho, -⟩ := S
  obtain ⟨-, ⟨cellB, hcB, hoB, hclB⟩, hPc⟩ := hp
  intro T hT X
  rcases vx_callVX X hx (C := C) (hh := hh) (bytes := bytes) (maxL := maxL) (ret := ret) ho hl hin hse hcode hy hK (by rw [hT]; exact hcB) hoB hclB hg (hsize.trans hml.symm) (argsL := As) (rest := rest) (fun sig h => hn.trans (hlen sig h)) hstack hW (by rw [hb]; exact hdg)
    (fun vm₁ hW₁ => ⟨hf.1, hf.2, hPc (T.setVm vm₁) hT hW₁⟩) with ⟨v, vm₁, ⟨U', l2, c2, s2⟩, hW₁, X', ⟨g', mk, t, L, e1, e2, hq, h1, hL, h2, h3⟩, st⟩ | ⟨q, vm₁, ⟨U', l2, c2, s2⟩, hW₁, X', ⟨g', mk, t, L, E, ce, e1, e2, hq, hce, hcv, hcl, h1, hL, h2, h3⟩, st⟩
  · dsimp only [Pt.U, Pt.locs, Pt.cells, Pt.slots] at X' e1 e2 h1 h2 h3 st
    subst h1; subst h2; subst h3
    exact Or.inl ⟨v, (T.setVm vm₁).calling g' mk (Value.ref b :: As).toArray, t, U', L, hT, X', hL, e1, e2, hq, st⟩
  · dsimp only [Pt.U, Pt.locs, Pt.cells, Pt.slots] at X' e1 e2 h1 h2 h3 st hcl
    subst h1; subst h2; subst h3
    exact Or.inr ⟨q, (T.setVm vm₁).calling g' mk (Value.ref b :: As).toArray, t, U', L, E, ce, hT, X', hL, e1, e2, hq, hce, hcv, vx_cls hW₁ hcl, st⟩
theorem vx_runSX {hh : List (Nat × Nat × Nat × Nat)} (S : CallFix p m c cc nL s args Ts own) (hM : vx_Met l y ws rm Pc Qc XC mc ms free) (cw : vx_CSW R s args own index y bytes maxL ret hh ws rm mc ms n) (hp : PreS s H Pc As)
    (hg : g.method = m) (hn : As.length = n) (hsize : g.locals.size = nL) (hstack : g.stack = As.reverse ++ rest) (hW : 2 * g.monitorRoom + (rest.map fun v => v.category).sum ≤ 8) (hdg : decode cc g.pc = .ok (.invokestatic index, 3)) (hf : cells + mc ≤ R.cells ∧ slots + ms ≤ R.slots) :
    vx_Run p l e R s m args below meth c H locs cells slots mc ms g rest (Qc As.toArray) XC free := by
  obtain ⟨⟨hrc, hrs, hfr, hlo, hws, hcw⟩, hcode, hini, hy, hlen, hl, hstt⟩ := cw
  have hK : vx_Back l R p e below s args y 3 8 (PreOf R mc ms Pc) (PostOf Qc mc ms free) (vx_Post XC mc ms free) := vx_backW (hh := hh) (bytes := bytes) (maxL := maxL) (ret := ret) hM hp.1 hrc hrs hfr hlo hws hcw (fun a' U hW => word_at hW (Or.inl (by first | rfl | simp [Cond.onTables, Cond.keeps, Cond.steady])) hini)
  obtain ⟨hx, hb, hml, ho, -⟩ := S
  intro T hT X
  rcases vx_callSX X hx (hh := hh) (bytes := bytes) (maxL := maxL) (ret := ret) ho hl hstt hini hcode hy hK hg (hsize.trans hml.symm) (argsL := As) (rest := rest) (fun sig h => hn.trans (hlen sig h)) hstack hW (by rw [hb]; exact hdg)
    (fun vm₁ hW₁ => ⟨hf.1, hf.2, hp.2 (T.setVm vm₁) hT hW₁⟩) with ⟨v, vm₁, ⟨U', l2, c2, s2⟩, hW₁, X', ⟨g', mk, t, L, e1, e2, hq, h1, hL, h2, h3⟩, st⟩ | ⟨q, vm₁, ⟨U', l2, c2, s2⟩, hW₁, X', ⟨g', mk, t, L, E, ce, e1, e2, hq, hce, hcv, hcl, h1, hL, h2, h3⟩, st⟩
  · dsimp only [Pt.U, Pt.locs, Pt.cells, Pt.slots] at X' e1 e2 h1 h2 h3 st
    subst h1; subst h2; subst h3
    exact Or.inl ⟨v, (T.setVm vm₁).calling g' mk As.toArray, t, U', L, hT, X', hL, e1, e2, hq, st⟩
  · dsimp only [Pt.U, Pt.locs, Pt.cells, Pt.slots] at X' e1 e2 h1 h2 h3 st hcl
    subst h1; subst h2; subst h3
    exact Or.inr ⟨q, (T.setVm vm₁).calling g' mk As.toArray, t, U', L, E, ce, hT, X', hL, e1, e2, hq, hce, hcv, vx_cls hW₁ hcl, st⟩
end
end VXH
theorem vx_ofWH {l : Launch} {y : MethodName} {ws ws' : List Cond} {rm : Room} {Pc : Array Value → State → Prop} {Qc : Array Value → State → Outcome → State → Prop} {XC : String → State → State → Prop} {mc ms : Nat} {free : Addr → Prop} {cc : ByteArray} {maxL : Nat} {ret : Option FieldType} {hh : List (Nat × Nat × Nat × Nat)}
    (hy : plainName y.cls = true) (hw : ws = Cond.codeWith y cc maxL ret hh :: ws')
    (body : ∀ p e s m args below meth c s₁, BodyLoose p l y (headSpec ws rm) cc maxL ret e s m args below meth c s₁ → c.maxLocals = maxL → Pc args s →
      W p l e (headSpec ws rm).room s m args below meth c s.heap [] 0 0 (vx_MQ below Qc XC args s mc ms free) (entryFrame m args maxL)) : vx_Met l y ws rm Pc Qc XC mc ms free := by
  refine MetFree.of_bodyS (code := cc) (maxLocals := maxL) (ret := ret) hy ?_ ?_
  · intro args s m h hn
    obtain ⟨m9, meth, c, hn9, h1, h2, h3, h4, -, h5, h6, -⟩ := Cond.codeWith_spec (atoms_spec (ws := ws) h _ (by rw [hw]; exact List.mem_cons_self))
    cases hn.symm.trans hn9
    exact ⟨meth, c, h1, h2, h3, h4, h5, h6⟩
  · intro p e s m args below meth c s₁ B hml hP _
    have hh0 : s₁.heap = s.heap := by rw [B.state]; rfl
    obtain ⟨t, a1, o, b1, b2, b3⟩ := body p e s m args below meth c s₁ B hml hP s₁ hh0 (Stand.of_body B)
    exact ⟨t, o, a1, b1, b2, b3⟩
/-! ===== END ===== -/
end
section
/-! ===== BEGIN printed: names, fields, word lists, decode rows ===== -/
def RX0 : String := "Nettle$Comparison"
def TX0 : u_T := fun k => match k with
  | 0 => ("Nettle$Comparison", "now", "LNettle$Wall;", true)
  | 1 => ("Nettle$Comparison", "old", "LNettle$Wall;", true)
  | 2 => ("Nettle$Comparison", "cuts", "LNettle$Cuts;", true)
  | 3 => ("Nettle$Comparison", "first", "[I", true)
  | 4 => ("Nettle$Comparison", "place", "[I", true)
  | 5 => ("Nettle$Comparison", "amount", "I", false)
  | _ => ("Nettle$Comparison", "isFresh", "Z", false)
def tyX0 : Nat → FieldType := fun k => match k with
  | 0 => .object "Nettle$Wall"
  | 1 => .object "Nettle$Wall"
  | 2 => .object "Nettle$Cuts"
  | 3 => .array .int
  | 4 => .array .int
  | 5 => .int
  | _ => .boolean
abbrev wsX00 : List Cond := u_ws RX0 TX0 7
theorem nmX0 : ∀ a, a < 7 → ∀ b, b < 7 → a ≠ b → (TX0 a).2.1 ≠ (TX0 b).2.1 := by decide +kernel
theorem tyX0_ok : ∀ k, k < 7 → parseFieldDescriptor (TX0 k).2.2.1 = some (tyX0 k) := by decide +kernel
abbrev cX0_init : ByteArray := prog_2_method_1_code
def yX0_init : MethodName := ⟨RX0, "<init>", "(LNettle$Wall;LNettle$Wall;LNettle$Cuts;)V"⟩
abbrev cX0_refresh : ByteArray := prog_2_method_2_code
def yX0_refresh : MethodName := ⟨RX0, "refresh", "()V"⟩
abbrev cX0_walk : ByteArray := prog_2_method_3_code
def yX0_walk : MethodName := ⟨RX0, "walk", "(LNettle$Comparison;III)V"⟩
abbrev cX0_isSettled : ByteArray := prog_2_method_4_code
def yX0_isSettled : MethodName := ⟨RX0, "isSettled", "(II)Z"⟩
abbrev cX0_judge : ByteArray := prog_2_method_5_code
def yX0_judge : MethodName := ⟨RX0, "judge", "(III)V"⟩
def RX1 : String := "Nettle$Cuts"
def TX1 : u_T := fun k => match k with
  | 0 => ("Nettle$Cuts", "now", "LNettle$Wall;", true)
  | 1 => ("Nettle$Cuts", "old", "LNettle$Wall;", true)
  | 2 => ("Nettle$Cuts", "counts", "[I", true)
  | 3 => ("Nettle$Cuts", "starts", "[I", true)
  | 4 => ("Nettle$Cuts", "masks", "[I", true)
  | _ => ("Nettle$Cuts", "isFresh", "Z", false)
def tyX1 : Nat → FieldType := fun k => match k with
  | 0 => .object "Nettle$Wall"
  | 1 => .object "Nettle$Wall"
  | 2 => .array .int
  | 3 => .array .int
  | 4 => .array .int
  | _ => .boolean
abbrev wsX10 : List Cond := u_ws RX1 TX1 6
theorem nmX1 : ∀ a, a < 6 → ∀ b, b < 6 → a ≠ b → (TX1 a).2.1 ≠ (TX1 b).2.1 := by decide +kernel
theorem tyX1_ok : ∀ k, k < 6 → parseFieldDescriptor (TX1 k).2.2.1 = some (tyX1 k) := by decide +kernel
abbrev cX1_init : ByteArray := prog_3_method_1_code
def yX1_init : MethodName := ⟨RX1, "<init>", "(LNettle$Wall;LNettle$Wall;)V"⟩
abbrev cX1_refresh : ByteArray := prog_3_method_2_code
def yX1_refresh : MethodName := ⟨RX1, "refresh", "()V"⟩
abbrev cX1_cut : ByteArray := prog_3_method_3_code
def yX1_cut : MethodName := ⟨RX1, "cut", "(I)V"⟩
abbrev cX1_start : ByteArray := prog_3_method_4_code
def yX1_start : MethodName := ⟨RX1, "start", "(II)I"⟩
abbrev cX1_mask : ByteArray := prog_3_method_5_code
def yX1_mask : MethodName := ⟨RX1, "mask", "(II)I"⟩
abbrev cX1_startsRun : ByteArray := prog_3_method_6_code
def yX1_startsRun : MethodName := ⟨RX1, "startsRun", "(III)Z"⟩
abbrev cX1_runEnd : ByteArray := prog_3_method_7_code
def yX1_runEnd : MethodName := ⟨RX1, "runEnd", "(III)I"⟩
def RX2 : String := "Nettle$Log"
def TX2 : u_T := fun k => match k with
  | 0 => ("Nettle$Log", "rows", "[I", true)
  | 1 => ("Nettle$Log", "size", "I", false)
  | 2 => ("Nettle$Log", "all", "I", false)
  | 3 => ("Nettle$Log", "passed", "I", false)
  | 4 => ("Nettle$Log", "remembered", "I", false)
  | _ => ("Nettle$Log", "byLastWord", "I", false)
def tyX2 : Nat → FieldType := fun k => match k with
  | 0 => .array .int
  | 1 => .int
  | 2 => .int
  | 3 => .int
  | 4 => .int
  | _ => .int
abbrev wsX20 : List Cond := u_ws RX2 TX2 6
theorem nmX2 : ∀ a, a < 6 → ∀ b, b < 6 → a ≠ b → (TX2 a).2.1 ≠ (TX2 b).2.1 := by decide +kernel
theorem tyX2_ok : ∀ k, k < 6 → parseFieldDescriptor (TX2 k).2.2.1 = some (tyX2 k) := by decide +kernel
abbrev cX2_init : ByteArray := prog_4_method_1_code
def yX2_init : MethodName := ⟨RX2, "<init>", "()V"⟩
def RX3 : String := "Nettle$Rule"
def TX3 : u_T := fun k => match k with
  | 0 => ("Nettle$Rule", "verdict", "I", false)
  | 1 => ("Nettle$Rule", "hits", "I", false)
  | 2 => ("Nettle$Rule", "lows", "[I", true)
  | _ => ("Nettle$Rule", "highs", "[I", true)
def tyX3 : Nat → FieldType := fun k => match k with
  | 0 => .int
  | 1 => .int
  | 2 => .array .int
  | _ => .array .int
abbrev wsX30 : List Cond := u_ws RX3 TX3 4
theorem nmX3 : ∀ a, a < 4 → ∀ b, b < 4 → a ≠ b → (TX3 a).2.1 ≠ (TX3 b).2.1 := by decide +kernel
theorem tyX3_ok : ∀ k, k < 4 → parseFieldDescriptor (TX3 k).2.2.1 = some (tyX3 k) := by decide +kernel
abbrev cX3_init : ByteArray := prog_5_method_1_code
def yX3_init : MethodName := ⟨RX3, "<init>", "()V"⟩
abbrev cX3_reset : ByteArray := prog_5_method_2_code
def yX3_reset : MethodName := ⟨RX3, "reset", "(I)V"⟩
abbrev cX3_takeFrom : ByteArray := prog_5_method_3_code
def yX3_takeFrom : MethodName := ⟨RX3, "takeFrom", "(LNettle$Rule;)V"⟩
abbrev cX3_isNote : ByteArray := prog_5_method_4_code
def yX3_isNote : MethodName := ⟨RX3, "isNote", "()Z"⟩
abbrev cX3_width : ByteArray := prog_5_method_5_code
def yX3_width : MethodName := ⟨RX3, "width", "(I)I"⟩
abbrev cX3_has : ByteArray := prog_5_method_6_code
def yX3_has : MethodName := ⟨RX3, "has", "(II)Z"⟩
abbrev cX3_isWholeFrom : ByteArray := prog_5_method_7_code
def yX3_isWholeFrom : MethodName := ⟨RX3, "isWholeFrom", "(I)Z"⟩
abbrev cX3_meets : ByteArray := prog_5_method_8_code
def yX3_meets : MethodName := ⟨RX3, "meets", "([I)Z"⟩
abbrev cX3_covers : ByteArray := prog_5_method_9_code
def yX3_covers : MethodName := ⟨RX3, "covers", "(LNettle$Rule;)Z"⟩
abbrev cX3_amountWith : ByteArray := prog_5_method_10_code
def yX3_amountWith : MethodName := ⟨RX3, "amountWith", "(LNettle$Rule;)I"⟩
abbrev cX3_isAgainst : ByteArray := prog_5_method_11_code
def yX3_isAgainst : MethodName := ⟨RX3, "isAgainst", "(LNettle$Rule;)Z"⟩
def RX4 : String := "Nettle$Survey"
def TX4 : u_T := fun k => match k with
  | 0 => ("Nettle$Survey", "wall", "LNettle$Wall;", true)
  | 1 => ("Nettle$Survey", "lows", "[I", true)
  | 2 => ("Nettle$Survey", "highs", "[I", true)
  | 3 => ("Nettle$Survey", "amounts", "[I", true)
  | _ => ("Nettle$Survey", "isFresh", "Z", false)
def tyX4 : Nat → FieldType := fun k => match k with
  | 0 => .object "Nettle$Wall"
  | 1 => .array .int
  | 2 => .array .int
  | 3 => .array .int
  | _ => .boolean
abbrev wsX40 : List Cond := u_ws RX4 TX4 5
theorem nmX4 : ∀ a, a < 5 → ∀ b, b < 5 → a ≠ b → (TX4 a).2.1 ≠ (TX4 b).2.1 := by decide +kernel
theorem tyX4_ok : ∀ k, k < 5 → parseFieldDescriptor (TX4 k).2.2.1 = some (tyX4 k) := by decide +kernel
abbrev cX4_init : ByteArray := prog_6_method_1_code
def yX4_init : MethodName := ⟨RX4, "<init>", "(LNettle$Wall;)V"⟩
abbrev cX4_refresh : ByteArray := prog_6_method_2_code
def yX4_refresh : MethodName := ⟨RX4, "refresh", "()V"⟩
abbrev cX4_setCount : ByteArray := prog_6_method_3_code
def yX4_setCount : MethodName := ⟨RX4, "setCount", "()I"⟩
abbrev cX4_measure : ByteArray := prog_6_method_4_code
def yX4_measure : MethodName := ⟨RX4, "measure", "(I)V"⟩
abbrev cX4_takeOutLarger : ByteArray := prog_6_method_5_code
def yX4_takeOutLarger : MethodName := ⟨RX4, "takeOutLarger", "()V"⟩
abbrev cX4_amountOf : ByteArray := prog_6_method_6_code
def yX4_amountOf : MethodName := ⟨RX4, "amountOf", "(I)I"⟩
abbrev cX4_amountAllowed : ByteArray := prog_6_method_7_code
def yX4_amountAllowed : MethodName := ⟨RX4, "amountAllowed", "(I)I"⟩
abbrev cX4_isDead : ByteArray := prog_6_method_8_code
def yX4_isDead : MethodName := ⟨RX4, "isDead", "(I)Z"⟩
abbrev cX4_isNeedless : ByteArray := prog_6_method_9_code
def yX4_isNeedless : MethodName := ⟨RX4, "isNeedless", "(I)Z"⟩
abbrev cX4_amountMoved : ByteArray := prog_6_method_10_code
def yX4_amountMoved : MethodName := ⟨RX4, "amountMoved", "(II)I"⟩
abbrev cX4_allowsMoved : ByteArray := prog_6_method_11_code
def yX4_allowsMoved : MethodName := ⟨RX4, "allowsMoved", "(III)Z"⟩
def RX5 : String := "Nettle$Tree"
def TX5 : u_T := fun k => match k with
  | 0 => ("Nettle$Tree", "wall", "LNettle$Wall;", true)
  | 1 => ("Nettle$Tree", "cuts", "LNettle$Cuts;", true)
  | 2 => ("Nettle$Tree", "numbers", "[I", true)
  | 3 => ("Nettle$Tree", "codes", "[I", true)
  | 4 => ("Nettle$Tree", "sums", "[I", true)
  | 5 => ("Nettle$Tree", "count", "I", false)
  | _ => ("Nettle$Tree", "isFresh", "Z", false)
def tyX5 : Nat → FieldType := fun k => match k with
  | 0 => .object "Nettle$Wall"
  | 1 => .object "Nettle$Cuts"
  | 2 => .array .int
  | 3 => .array .int
  | 4 => .array .int
  | 5 => .int
  | _ => .boolean
abbrev wsX50 : List Cond := u_ws RX5 TX5 7
theorem nmX5 : ∀ a, a < 7 → ∀ b, b < 7 → a ≠ b → (TX5 a).2.1 ≠ (TX5 b).2.1 := by decide +kernel
theorem tyX5_ok : ∀ k, k < 7 → parseFieldDescriptor (TX5 k).2.2.1 = some (tyX5 k) := by decide +kernel
abbrev cX5_init : ByteArray := prog_7_method_1_code
def yX5_init : MethodName := ⟨RX5, "<init>", "(LNettle$Wall;LNettle$Cuts;)V"⟩
abbrev cX5_refresh : ByteArray := prog_7_method_2_code
def yX5_refresh : MethodName := ⟨RX5, "refresh", "()V"⟩
abbrev cX5_find : ByteArray := prog_7_method_3_code
def yX5_find : MethodName := ⟨RX5, "find", "(LNettle$Tree;II)I"⟩
abbrev cX5_fieldOf : ByteArray := prog_7_method_4_code
def yX5_fieldOf : MethodName := ⟨RX5, "fieldOf", "(I)I"⟩
abbrev cX5_setOf : ByteArray := prog_7_method_5_code
def yX5_setOf : MethodName := ⟨RX5, "setOf", "(I)I"⟩
abbrev cX5_pieceCount : ByteArray := prog_7_method_6_code
def yX5_pieceCount : MethodName := ⟨RX5, "pieceCount", "(I)I"⟩
abbrev cX5_segmentOf : ByteArray := prog_7_method_7_code
def yX5_segmentOf : MethodName := ⟨RX5, "segmentOf", "(II)I"⟩
abbrev cX5_leadOf : ByteArray := prog_7_method_8_code
def yX5_leadOf : MethodName := ⟨RX5, "leadOf", "(II)I"⟩
abbrev cX5_allSteps : ByteArray := prog_7_method_9_code
def yX5_allSteps : MethodName := ⟨RX5, "allSteps", "()I"⟩
def RX6 : String := "Nettle$Wall"
def TX6 : u_T := fun k => match k with
  | 0 => ("Nettle$Wall", "rows", "[LNettle$Rule;", true)
  | 1 => ("Nettle$Wall", "count", "I", false)
  | _ => ("Nettle$Wall", "isLastAllow", "Z", false)
def tyX6 : Nat → FieldType := fun k => match k with
  | 0 => .array (.object "Nettle$Rule")
  | 1 => .int
  | _ => .boolean
abbrev wsX60 : List Cond := u_ws RX6 TX6 3
theorem nmX6 : ∀ a, a < 3 → ∀ b, b < 3 → a ≠ b → (TX6 a).2.1 ≠ (TX6 b).2.1 := by decide +kernel
theorem tyX6_ok : ∀ k, k < 3 → parseFieldDescriptor (TX6 k).2.2.1 = some (tyX6 k) := by decide +kernel
abbrev cX6_init : ByteArray := prog_8_method_1_code
def yX6_init : MethodName := ⟨RX6, "<init>", "()V"⟩
abbrev cX6_add : ByteArray := prog_8_method_2_code
def yX6_add : MethodName := ⟨RX6, "add", "(I)V"⟩
abbrev cX6_shift : ByteArray := prog_8_method_3_code
def yX6_shift : MethodName := ⟨RX6, "shift", "(II)V"⟩
abbrev cX6_remove : ByteArray := prog_8_method_4_code
def yX6_remove : MethodName := ⟨RX6, "remove", "(I)V"⟩
abbrev cX6_takeFrom : ByteArray := prog_8_method_5_code
def yX6_takeFrom : MethodName := ⟨RX6, "takeFrom", "(LNettle$Wall;)V"⟩
abbrev cX6_deciders : ByteArray := prog_8_method_6_code
def yX6_deciders : MethodName := ⟨RX6, "deciders", "()I"⟩
abbrev cX6_having : ByteArray := prog_8_method_7_code
def yX6_having : MethodName := ⟨RX6, "having", "(II)I"⟩
abbrev cX6_nextCut : ByteArray := prog_8_method_8_code
def yX6_nextCut : MethodName := ⟨RX6, "nextCut", "(II)I"⟩
abbrev cX6_firstOf : ByteArray := prog_8_method_9_code
def yX6_firstOf : MethodName := ⟨RX6, "firstOf", "(I)I"⟩
abbrev cX6_allows : ByteArray := prog_8_method_10_code
def yX6_allows : MethodName := ⟨RX6, "allows", "(I)Z"⟩
abbrev cX6_isSettled : ByteArray := prog_8_method_11_code
def yX6_isSettled : MethodName := ⟨RX6, "isSettled", "(II)Z"⟩
abbrev cX6_firstCover : ByteArray := prog_8_method_12_code
def yX6_firstCover : MethodName := ⟨RX6, "firstCover", "(I)I"⟩
def RX7 : String := "Nettle"
def TX7 : u_T := fun k => match k with
  | 0 => ("Nettle", "wall", "LNettle$Wall;", true)
  | 1 => ("Nettle", "copied", "LNettle$Wall;", true)
  | 2 => ("Nettle", "survey", "LNettle$Survey;", true)
  | 3 => ("Nettle", "cuts", "LNettle$Cuts;", true)
  | 4 => ("Nettle", "tree", "LNettle$Tree;", true)
  | 5 => ("Nettle", "comparison", "LNettle$Comparison;", true)
  | 6 => ("Nettle", "log", "LNettle$Log;", true)
  | _ => ("Nettle", "packet", "[I", true)
def tyX7 : Nat → FieldType := fun k => match k with
  | 0 => .object "Nettle$Wall"
  | 1 => .object "Nettle$Wall"
  | 2 => .object "Nettle$Survey"
  | 3 => .object "Nettle$Cuts"
  | 4 => .object "Nettle$Tree"
  | 5 => .object "Nettle$Comparison"
  | 6 => .object "Nettle$Log"
  | _ => .array .int
abbrev wsX70 : List Cond := u_ws RX7 TX7 8
theorem nmX7 : ∀ a, a < 8 → ∀ b, b < 8 → a ≠ b → (TX7 a).2.1 ≠ (TX7 b).2.1 := by decide +kernel
theorem tyX7_ok : ∀ k, k < 8 → parseFieldDescriptor (TX7 k).2.2.1 = some (tyX7 k) := by decide +kernel
abbrev cX7_init : ByteArray := prog_1_method_1_code
def yX7_init : MethodName := ⟨RX7, "<init>", "()V"⟩
abbrev cX7_rule : ByteArray := prog_1_method_2_code
def yX7_rule : MethodName := ⟨RX7, "rule", "(I)I"⟩
abbrev cX7_narrow : ByteArray := prog_1_method_3_code
def yX7_narrow : MethodName := ⟨RX7, "narrow", "(IIII)I"⟩
abbrev cX7_turn : ByteArray := prog_1_method_4_code
def yX7_turn : MethodName := ⟨RX7, "turn", "(II)I"⟩
abbrev cX7_move : ByteArray := prog_1_method_5_code
def yX7_move : MethodName := ⟨RX7, "move", "(II)I"⟩
abbrev cX7_drop : ByteArray := prog_1_method_6_code
def yX7_drop : MethodName := ⟨RX7, "drop", "(I)I"⟩
abbrev cX7_setLast : ByteArray := prog_1_method_7_code
def yX7_setLast : MethodName := ⟨RX7, "setLast", "(Z)Z"⟩
abbrev cX7_rules : ByteArray := prog_1_method_9_code
def yX7_rules : MethodName := ⟨RX7, "rules", "()I"⟩
abbrev cX7_ofRule : ByteArray := prog_1_method_10_code
def yX7_ofRule : MethodName := ⟨RX7, "ofRule", "(II)I"⟩
abbrev cX7_decides : ByteArray := prog_1_method_11_code
def yX7_decides : MethodName := ⟨RX7, "decides", "(I)I"⟩
abbrev cX7_allowed : ByteArray := prog_1_method_12_code
def yX7_allowed : MethodName := ⟨RX7, "allowed", "()I"⟩
abbrev cX7_state : ByteArray := prog_1_method_13_code
def yX7_state : MethodName := ⟨RX7, "state", "(I)I"⟩
abbrev cX7_coveredBy : ByteArray := prog_1_method_14_code
def yX7_coveredBy : MethodName := ⟨RX7, "coveredBy", "(I)I"⟩
abbrev cX7_shared : ByteArray := prog_1_method_15_code
def yX7_shared : MethodName := ⟨RX7, "shared", "(II)I"⟩
abbrev cX7_quarrels : ByteArray := prog_1_method_16_code
def yX7_quarrels : MethodName := ⟨RX7, "quarrels", "()I"⟩
abbrev cX7_decider : ByteArray := prog_1_method_17_code
def yX7_decider : MethodName := ⟨RX7, "decider", "(IIII)I"⟩
abbrev cX7_nodes : ByteArray := prog_1_method_18_code
def yX7_nodes : MethodName := ⟨RX7, "nodes", "()I"⟩
abbrev cX7_ofNode : ByteArray := prog_1_method_19_code
def yX7_ofNode : MethodName := ⟨RX7, "ofNode", "(II)I"⟩
abbrev cX7_piece : ByteArray := prog_1_method_20_code
def yX7_piece : MethodName := ⟨RX7, "piece", "(III)I"⟩
abbrev cX7_steps : ByteArray := prog_1_method_21_code
def yX7_steps : MethodName := ⟨RX7, "steps", "(IIII)I"⟩
abbrev cX7_meanSteps : ByteArray := prog_1_method_22_code
def yX7_meanSteps : MethodName := ⟨RX7, "meanSteps", "()D"⟩
abbrev cX7_sent : ByteArray := prog_1_method_24_code
def yX7_sent : MethodName := ⟨RX7, "sent", "(I)I"⟩
abbrev cX7_kept : ByteArray := prog_1_method_25_code
def yX7_kept : MethodName := ⟨RX7, "kept", "(II)I"⟩
abbrev cX7_copy : ByteArray := prog_1_method_27_code
def yX7_copy : MethodName := ⟨RX7, "copy", "()I"⟩
abbrev cX7_changed : ByteArray := prog_1_method_28_code
def yX7_changed : MethodName := ⟨RX7, "changed", "()I"⟩
abbrev cX7_witness : ByteArray := prog_1_method_29_code
def yX7_witness : MethodName := ⟨RX7, "witness", "(I)I"⟩
abbrev cX7_allowedWithout : ByteArray := prog_1_method_30_code
def yX7_allowedWithout : MethodName := ⟨RX7, "allowedWithout", "(I)I"⟩
abbrev cX7_changedByMove : ByteArray := prog_1_method_31_code
def yX7_changedByMove : MethodName := ⟨RX7, "changedByMove", "(II)I"⟩
abbrev cX7_digest : ByteArray := prog_1_method_32_code
def yX7_digest : MethodName := ⟨RX7, "digest", "()J"⟩
abbrev cX7_mix : ByteArray := prog_1_method_33_code
def yX7_mix : MethodName := ⟨RX7, "mix", "(JI)J"⟩
abbrev cX7_mixRule : ByteArray := prog_1_method_34_code
def yX7_mixRule : MethodName := ⟨RX7, "mixRule", "(JI)J"⟩
abbrev cX7_mixNode : ByteArray := prog_1_method_35_code
def yX7_mixNode : MethodName := ⟨RX7, "mixNode", "(JI)J"⟩
abbrev cX7_mixLog : ByteArray := prog_1_method_36_code
def yX7_mixLog : MethodName := ⟨RX7, "mixLog", "(J)J"⟩
abbrev cX7_needRule : ByteArray := prog_1_method_37_code
def yX7_needRule : MethodName := ⟨RX7, "needRule", "(I)V"⟩
abbrev cX7_needNode : ByteArray := prog_1_method_38_code
def yX7_needNode : MethodName := ⟨RX7, "needNode", "(LNettle$Tree;I)V"⟩
abbrev cX7_needVerdict : ByteArray := prog_1_method_39_code
def yX7_needVerdict : MethodName := ⟨RX7, "needVerdict", "(I)V"⟩
abbrev cX7_needWhat : ByteArray := prog_1_method_40_code
def yX7_needWhat : MethodName := ⟨RX7, "needWhat", "(II)V"⟩
abbrev cX7_isValue : ByteArray := prog_1_method_41_code
def yX7_isValue : MethodName := ⟨RX7, "isValue", "(II)Z"⟩
abbrev cX7_takePacket : ByteArray := prog_1_method_42_code
def yX7_takePacket : MethodName := ⟨RX7, "takePacket", "(IIII)V"⟩
abbrev cX7_outdate : ByteArray := prog_1_method_44_code
def yX7_outdate : MethodName := ⟨RX7, "outdate", "()V"⟩
abbrev cX7_surveyed : ByteArray := prog_1_method_45_code
def yX7_surveyed : MethodName := ⟨RX7, "surveyed", "()LNettle$Survey;"⟩
abbrev cX7_compiled : ByteArray := prog_1_method_46_code
def yX7_compiled : MethodName := ⟨RX7, "compiled", "()LNettle$Tree;"⟩
abbrev cX7_compared : ByteArray := prog_1_method_47_code
def yX7_compared : MethodName := ⟨RX7, "compared", "()LNettle$Comparison;"⟩
def RX8 : String := "NettleLaw$Hedge"
def TX8 : u_T := fun k => match k with
  | 0 => ("NettleLaw$Hedge", "m", "LNettle;", true)
  | 1 => ("NettleLaw$Hedge", "s", "[I", true)
  | 2 => ("NettleLaw$Hedge", "draws", "I", false)
  | 3 => ("NettleLaw$Hedge", "cut", "[[I", true)
  | 4 => ("NettleLaw$Hedge", "rules", "[[I", false)
  | 5 => ("NettleLaw$Hedge", "last", "I", false)
  | 6 => ("NettleLaw$Hedge", "copy", "[[I", false)
  | 7 => ("NettleLaw$Hedge", "copyLast", "I", false)
  | 8 => ("NettleLaw$Hedge", "nodes", "I", false)
  | _ => ("NettleLaw$Hedge", "node", "[[I", true)
def tyX8 : Nat → FieldType := fun k => match k with
  | 0 => .object "Nettle"
  | 1 => .array .int
  | 2 => .int
  | 3 => .array (.array .int)
  | 4 => .array (.array .int)
  | 5 => .int
  | 6 => .array (.array .int)
  | 7 => .int
  | 8 => .int
  | _ => .array (.array .int)
abbrev wsX80 : List Cond := u_ws RX8 TX8 10
theorem nmX8 : ∀ a, a < 10 → ∀ b, b < 10 → a ≠ b → (TX8 a).2.1 ≠ (TX8 b).2.1 := by decide +kernel
theorem tyX8_ok : ∀ k, k < 10 → parseFieldDescriptor (TX8 k).2.2.1 = some (tyX8 k) := by decide +kernel
abbrev cX8_init : ByteArray := prog_10_method_1_code
def yX8_init : MethodName := ⟨RX8, "<init>", "([II)V"⟩
abbrev cX8_draw : ByteArray := prog_10_method_2_code
def yX8_draw : MethodName := ⟨RX8, "draw", "(I)I"⟩
abbrev cX8_with : ByteArray := prog_10_method_3_code
def yX8_with : MethodName := ⟨RX8, "with", "([[II[I)[[I"⟩
abbrev cX8_without : ByteArray := prog_10_method_4_code
def yX8_without : MethodName := ⟨RX8, "without", "([[II)[[I"⟩
abbrev cX8_pieces : ByteArray := prog_10_method_5_code
def yX8_pieces : MethodName := ⟨RX8, "pieces", "(I)I"⟩
abbrev cX8_add : ByteArray := prog_10_method_6_code
def yX8_add : MethodName := ⟨RX8, "add", "()Z"⟩
abbrev cX8_narrow : ByteArray := prog_10_method_7_code
def yX8_narrow : MethodName := ⟨RX8, "narrow", "(II)Z"⟩
abbrev cX8_drop : ByteArray := prog_10_method_8_code
def yX8_drop : MethodName := ⟨RX8, "drop", "()Z"⟩
abbrev cX8_move : ByteArray := prog_10_method_9_code
def yX8_move : MethodName := ⟨RX8, "move", "()Z"⟩
abbrev cX8_change : ByteArray := prog_10_method_10_code
def yX8_change : MethodName := ⟨RX8, "change", "()Z"⟩
abbrev cX8_found : ByteArray := prog_10_method_11_code
def yX8_found : MethodName := ⟨RX8, "found", "()Z"⟩
abbrev cX8_all : ByteArray := prog_10_method_24_code
def yX8_all : MethodName := ⟨RX8, "all", "()I"⟩
def RX9 : String := "NettleModel$Wall"
def TX9 : u_T := fun k => match k with
  | _ => ("", "", "", false)
def tyX9 : Nat → FieldType := fun k => match k with
  | _ => .int
abbrev wsX90 : List Cond := u_ws RX9 TX9 0
theorem nmX9 : ∀ a, a < 0 → ∀ b, b < 0 → a ≠ b → (TX9 a).2.1 ≠ (TX9 b).2.1 := by decide +kernel
theorem tyX9_ok : ∀ k, k < 0 → parseFieldDescriptor (TX9 k).2.2.1 = some (tyX9 k) := by decide +kernel
def RX10 : String := "NettleModel"
def TX10 : u_T := fun k => match k with
  | _ => ("", "", "", false)
def tyX10 : Nat → FieldType := fun k => match k with
  | _ => .int
abbrev wsX100 : List Cond := u_ws RX10 TX10 0
theorem nmX10 : ∀ a, a < 0 → ∀ b, b < 0 → a ≠ b → (TX10 a).2.1 ≠ (TX10 b).2.1 := by decide +kernel
theorem tyX10_ok : ∀ k, k < 0 → parseFieldDescriptor (TX10 k).2.2.1 = some (tyX10 k) := by decide +kernel
def RJ9 : String := "java/lang/Math"
def TJ9 : u_T := fun k => match k with
  | _ => ("", "", "", false)
def tyJ9 : Nat → FieldType := fun k => match k with
  | _ => .int
abbrev wsJ90 : List Cond := u_ws RJ9 TJ9 0
theorem nmJ9 : ∀ a, a < 0 → ∀ b, b < 0 → a ≠ b → (TJ9 a).2.1 ≠ (TJ9 b).2.1 := by decide +kernel
theorem tyJ9_ok : ∀ k, k < 0 → parseFieldDescriptor (TJ9 k).2.2.1 = some (tyJ9 k) := by decide +kernel
abbrev cJ9_abs_0f7a4 : ByteArray := prog_17_method_59_code
def yJ9_abs_0f7a4 : MethodName := ⟨RJ9, "abs", "(I)I"⟩
abbrev cJ9_max_7cf53 : ByteArray := prog_17_method_65_code
def yJ9_max_7cf53 : MethodName := ⟨RJ9, "max", "(II)I"⟩
abbrev cJ9_min_7cf53 : ByteArray := prog_17_method_69_code
def yJ9_min_7cf53 : MethodName := ⟨RJ9, "min", "(II)I"⟩
def RJ0 : String := "java/lang/String"
def TJ0 : u_T := fun k => match k with
  | _ => ("", "", "", false)
def tyJ0 : Nat → FieldType := fun k => match k with
  | _ => .int
abbrev wsJ00 : List Cond := u_ws RJ0 TJ0 0
theorem nmJ0 : ∀ a, a < 0 → ∀ b, b < 0 → a ≠ b → (TJ0 a).2.1 ≠ (TJ0 b).2.1 := by decide +kernel
theorem tyJ0_ok : ∀ k, k < 0 → parseFieldDescriptor (TJ0 k).2.2.1 = some (tyJ0 k) := by decide +kernel
def RJ10 : String := "java/lang/System"
def TJ10 : u_T := fun k => match k with
  | _ => ("", "", "", false)
def tyJ10 : Nat → FieldType := fun k => match k with
  | _ => .int
abbrev wsJ100 : List Cond := u_ws RJ10 TJ10 0
theorem nmJ10 : ∀ a, a < 0 → ∀ b, b < 0 → a ≠ b → (TJ10 a).2.1 ≠ (TJ10 b).2.1 := by decide +kernel
theorem tyJ10_ok : ∀ k, k < 0 → parseFieldDescriptor (TJ10 k).2.2.1 = some (tyJ10 k) := by decide +kernel
def RL : String := "NettleLaw"
abbrev cL_below : ByteArray := method_2_code
def yL_below : MethodName := ⟨RL, "below", "(II)I"⟩
abbrev cL_cell : ByteArray := method_3_code
def yL_cell : MethodName := ⟨RL, "cell", "([II)I"⟩
abbrev cL_law : ByteArray := code
def yL_law : MethodName := ⟨RL, "law", "([I)Z"⟩
def wsX0_init : List Cond := .code yX0_init cX0_init 4 none :: ([.methodLink RX0 3 objectInit, .instanceMethod objectInit, .code objectInit ⟨#[0xb1]⟩ 1 none, .arrayClass .int, .fieldLink RX0 9 "Nettle$Comparison" "first" "[I", .fieldLink RX0 15 "Nettle$Comparison" "place" "[I", .fieldLink RX0 18 "Nettle$Comparison" "now" "LNettle$Wall;", .fieldLink RX0 22 "Nettle$Comparison" "old" "LNettle$Wall;", .fieldLink RX0 25 "Nettle$Comparison" "cuts" "LNettle$Cuts;"] ++ wsX00)
def wsX3_isNote : List Cond := .code yX3_isNote cX3_isNote 1 (some .boolean) :: ([.fieldLink RX3 18 "Nettle$Rule" "verdict" "I"] ++ wsX30)
def wsX6_deciders : List Cond := .code yX6_deciders cX6_deciders 3 (some .int) :: ([.fieldLink RX6 18 "Nettle$Wall" "count" "I", .fieldLink RX6 11 "Nettle$Wall" "rows" "[LNettle$Rule;", .methodLink RX6 38 yX3_isNote, .instanceMethod yX3_isNote, .selects RX3 yX3_isNote yX3_isNote, .initialized RX3, .code yX3_isNote cX3_isNote 1 (some .boolean), .fieldLink RX3 18 "Nettle$Rule" "verdict" "I"] ++ wsX60 ++ wsX30)
def wsX6_firstOf : List Cond := .code yX6_firstOf cX6_firstOf 3 (some .int) :: ([.fieldLink RX6 18 "Nettle$Wall" "count" "I"] ++ wsX60)
def wsX3_isWholeFrom : List Cond := .code yX3_isWholeFrom cX3_isWholeFrom 3 (some .boolean) :: ([.fieldLink RX3 9 "Nettle$Rule" "lows" "[I", .fieldLink RX3 15 "Nettle$Rule" "highs" "[I"] ++ wsX30)
def wsX6_isSettled : List Cond := .code yX6_isSettled cX6_isSettled 4 (some .boolean) :: ([.fieldLink RX6 11 "Nettle$Wall" "rows" "[LNettle$Rule;", .methodLink RX6 62 yX6_firstOf, .instanceMethod yX6_firstOf, .selects RX6 yX6_firstOf yX6_firstOf, .initialized RX6, .code yX6_firstOf cX6_firstOf 3 (some .int), .fieldLink RX6 18 "Nettle$Wall" "count" "I", .methodLink RX6 69 yX3_isWholeFrom, .instanceMethod yX3_isWholeFrom, .selects RX3 yX3_isWholeFrom yX3_isWholeFrom, .initialized RX3, .code yX3_isWholeFrom cX3_isWholeFrom 3 (some .boolean), .fieldLink RX3 9 "Nettle$Rule" "lows" "[I", .fieldLink RX3 15 "Nettle$Rule" "highs" "[I"] ++ wsX60 ++ wsX30)
def wsX0_isSettled : List Cond := .code yX0_isSettled cX0_isSettled 3 (some .boolean) :: ([.fieldLink RX0 18 "Nettle$Comparison" "now" "LNettle$Wall;", .fieldLink RX0 22 "Nettle$Comparison" "old" "LNettle$Wall;", .methodLink RX0 75 yX6_isSettled, .instanceMethod yX6_isSettled, .selects RX6 yX6_isSettled yX6_isSettled, .initialized RX6, .code yX6_isSettled cX6_isSettled 4 (some .boolean), .fieldLink RX6 11 "Nettle$Wall" "rows" "[LNettle$Rule;", .methodLink RX6 62 yX6_firstOf, .instanceMethod yX6_firstOf, .selects RX6 yX6_firstOf yX6_firstOf, .code yX6_firstOf cX6_firstOf 3 (some .int), .fieldLink RX6 18 "Nettle$Wall" "count" "I", .methodLink RX6 69 yX3_isWholeFrom, .instanceMethod yX3_isWholeFrom, .selects RX3 yX3_isWholeFrom yX3_isWholeFrom, .initialized RX3, .code yX3_isWholeFrom cX3_isWholeFrom 3 (some .boolean), .fieldLink RX3 9 "Nettle$Rule" "lows" "[I", .fieldLink RX3 15 "Nettle$Rule" "highs" "[I"] ++ wsX00 ++ wsX60 ++ wsX30)
def wsX6_allows : List Cond := .code yX6_allows cX6_allows 3 (some .boolean) :: ([.fieldLink RX6 34 "Nettle$Wall" "isLastAllow" "Z", .fieldLink RX6 11 "Nettle$Wall" "rows" "[LNettle$Rule;", .fieldLink RX6 66 "Nettle$Rule" "verdict" "I", .methodLink RX6 62 yX6_firstOf, .instanceMethod yX6_firstOf, .selects RX6 yX6_firstOf yX6_firstOf, .initialized RX6, .code yX6_firstOf cX6_firstOf 3 (some .int), .fieldLink RX6 18 "Nettle$Wall" "count" "I"] ++ wsX60 ++ wsX30)
def wsX0_judge : List Cond := .code yX0_judge cX0_judge 5 none :: ([.fieldLink RX0 18 "Nettle$Comparison" "now" "LNettle$Wall;", .fieldLink RX0 22 "Nettle$Comparison" "old" "LNettle$Wall;", .fieldLink RX0 33 "Nettle$Comparison" "amount" "I", .fieldLink RX0 9 "Nettle$Comparison" "first" "[I", .fieldLink RX0 15 "Nettle$Comparison" "place" "[I", .methodLink RX0 76 yX6_allows, .instanceMethod yX6_allows, .selects RX6 yX6_allows yX6_allows, .initialized RX6, .code yX6_allows cX6_allows 3 (some .boolean), .fieldLink RX6 34 "Nettle$Wall" "isLastAllow" "Z", .fieldLink RX6 11 "Nettle$Wall" "rows" "[LNettle$Rule;", .fieldLink RX6 66 "Nettle$Rule" "verdict" "I", .methodLink RX6 62 yX6_firstOf, .instanceMethod yX6_firstOf, .selects RX6 yX6_firstOf yX6_firstOf, .code yX6_firstOf cX6_firstOf 3 (some .int), .fieldLink RX6 18 "Nettle$Wall" "count" "I"] ++ wsX00 ++ wsX60 ++ wsX30)
def wsX1_mask : List Cond := .code yX1_mask cX1_mask 3 (some .int) :: ([.fieldLink RX1 18 "Nettle$Cuts" "masks" "[I"] ++ wsX10)
def wsX1_startsRun : List Cond := .code yX1_startsRun cX1_startsRun 4 (some .boolean) :: ([.methodLink RX1 53 yX1_mask, .instanceMethod yX1_mask, .selects RX1 yX1_mask yX1_mask, .initialized RX1, .code yX1_mask cX1_mask 3 (some .int), .fieldLink RX1 18 "Nettle$Cuts" "masks" "[I"] ++ wsX10)
def wsX1_start : List Cond := .code yX1_start cX1_start 3 (some .int) :: ([.fieldLink RX1 9 "Nettle$Cuts" "counts" "[I", .fieldLink RX1 15 "Nettle$Cuts" "starts" "[I"] ++ wsX10)
def wsX1_runEnd : List Cond := .code yX1_runEnd cX1_runEnd 5 (some .int) :: ([.fieldLink RX1 9 "Nettle$Cuts" "counts" "[I", .methodLink RX1 56 yX1_startsRun, .instanceMethod yX1_startsRun, .selects RX1 yX1_startsRun yX1_startsRun, .initialized RX1, .code yX1_startsRun cX1_startsRun 4 (some .boolean), .methodLink RX1 53 yX1_mask, .instanceMethod yX1_mask, .selects RX1 yX1_mask yX1_mask, .code yX1_mask cX1_mask 3 (some .int), .fieldLink RX1 18 "Nettle$Cuts" "masks" "[I", .methodLink RX1 60 yX1_start, .instanceMethod yX1_start, .selects RX1 yX1_start yX1_start, .code yX1_start cX1_start 3 (some .int), .fieldLink RX1 15 "Nettle$Cuts" "starts" "[I"] ++ wsX10)
def wsX0_walk_r1 : List Cond := [Cond.fieldLink RX0 25 "Nettle$Comparison" "cuts" "LNettle$Cuts;", Cond.fieldLink RX0 55 "Nettle$Cuts" "counts" "[I", Cond.fieldLink RX0 15 "Nettle$Comparison" "place" "[I", Cond.methodLink RX0 47 yX0_isSettled, Cond.instanceMethod yX0_isSettled, Cond.selects RX0 yX0_isSettled yX0_isSettled, Cond.initialized RX0, Cond.code yX0_isSettled cX0_isSettled 3 (some .boolean), Cond.fieldLink RX0 18 "Nettle$Comparison" "now" "LNettle$Wall;", Cond.fieldLink RX0 22 "Nettle$Comparison" "old" "LNettle$Wall;", Cond.methodLink RX0 75 yX6_isSettled, Cond.instanceMethod yX6_isSettled, Cond.selects RX6 yX6_isSettled yX6_isSettled, Cond.initialized RX6, Cond.code yX6_isSettled cX6_isSettled 4 (some .boolean), Cond.fieldLink RX6 11 "Nettle$Wall" "rows" "[LNettle$Rule;", Cond.methodLink RX6 62 yX6_firstOf, Cond.instanceMethod yX6_firstOf, Cond.selects RX6 yX6_firstOf yX6_firstOf, Cond.code yX6_firstOf cX6_firstOf 3 (some .int), Cond.fieldLink RX6 18 "Nettle$Wall" "count" "I", Cond.methodLink RX6 69 yX3_isWholeFrom, Cond.instanceMethod yX3_isWholeFrom, Cond.selects RX3 yX3_isWholeFrom yX3_isWholeFrom]
def wsX0_walk_r2 : List Cond := [Cond.initialized RX3, Cond.code yX3_isWholeFrom cX3_isWholeFrom 3 (some .boolean), Cond.fieldLink RX3 9 "Nettle$Rule" "lows" "[I", Cond.fieldLink RX3 15 "Nettle$Rule" "highs" "[I", Cond.methodLink RX0 51 yX0_judge, Cond.instanceMethod yX0_judge, Cond.selects RX0 yX0_judge yX0_judge, Cond.code yX0_judge cX0_judge 5 none, Cond.fieldLink RX0 33 "Nettle$Comparison" "amount" "I", Cond.fieldLink RX0 9 "Nettle$Comparison" "first" "[I", Cond.methodLink RX0 76 yX6_allows, Cond.instanceMethod yX6_allows, Cond.selects RX6 yX6_allows yX6_allows, Cond.code yX6_allows cX6_allows 3 (some .boolean), Cond.fieldLink RX6 34 "Nettle$Wall" "isLastAllow" "Z", Cond.fieldLink RX6 66 "Nettle$Rule" "verdict" "I", Cond.methodLink RX0 60 yX1_startsRun, Cond.instanceMethod yX1_startsRun, Cond.selects RX1 yX1_startsRun yX1_startsRun, Cond.initialized RX1, Cond.code yX1_startsRun cX1_startsRun 4 (some .boolean), Cond.methodLink RX1 53 yX1_mask, Cond.instanceMethod yX1_mask, Cond.selects RX1 yX1_mask yX1_mask]
def wsX0_walk_r3 : List Cond := [Cond.code yX1_mask cX1_mask 3 (some .int), Cond.fieldLink RX1 18 "Nettle$Cuts" "masks" "[I", Cond.methodLink RX0 64 yX1_start, Cond.instanceMethod yX1_start, Cond.selects RX1 yX1_start yX1_start, Cond.code yX1_start cX1_start 3 (some .int), Cond.fieldLink RX1 9 "Nettle$Cuts" "counts" "[I", Cond.fieldLink RX1 15 "Nettle$Cuts" "starts" "[I", Cond.methodLink RX0 68 yX1_runEnd, Cond.instanceMethod yX1_runEnd, Cond.selects RX1 yX1_runEnd yX1_runEnd, Cond.code yX1_runEnd cX1_runEnd 5 (some .int), Cond.methodLink RX1 56 yX1_startsRun, Cond.methodLink RX1 60 yX1_start, Cond.methodLink RX0 72 yX1_mask, Cond.methodLink RX0 43 yX0_walk, Cond.static yX0_walk]
def wsX0_walk : List Cond := .code yX0_walk cX0_walk 8 none :: ((wsX0_walk_r1 ++ (wsX0_walk_r2 ++ wsX0_walk_r3)) ++ wsX00 ++ wsX10 ++ wsX60 ++ wsX30)
def wsX0_refresh_r1 : List Cond := [Cond.fieldLink RX0 29 "Nettle$Comparison" "isFresh" "Z", Cond.fieldLink RX0 33 "Nettle$Comparison" "amount" "I", Cond.fieldLink RX0 9 "Nettle$Comparison" "first" "[I", Cond.fieldLink RX0 18 "Nettle$Comparison" "now" "LNettle$Wall;", Cond.fieldLink RX0 22 "Nettle$Comparison" "old" "LNettle$Wall;", Cond.methodLink RX0 37 yX6_deciders, Cond.instanceMethod yX6_deciders, Cond.selects RX6 yX6_deciders yX6_deciders, Cond.initialized RX6, Cond.code yX6_deciders cX6_deciders 3 (some .int), Cond.fieldLink RX6 18 "Nettle$Wall" "count" "I", Cond.fieldLink RX6 11 "Nettle$Wall" "rows" "[LNettle$Rule;", Cond.methodLink RX6 38 yX3_isNote, Cond.instanceMethod yX3_isNote, Cond.selects RX3 yX3_isNote yX3_isNote, Cond.initialized RX3, Cond.code yX3_isNote cX3_isNote 1 (some .boolean), Cond.fieldLink RX3 18 "Nettle$Rule" "verdict" "I", Cond.methodLink RX0 43 yX0_walk, Cond.static yX0_walk, Cond.initialized RX0, Cond.code yX0_walk cX0_walk 8 none, Cond.fieldLink RX0 25 "Nettle$Comparison" "cuts" "LNettle$Cuts;", Cond.fieldLink RX0 55 "Nettle$Cuts" "counts" "[I"]
def wsX0_refresh_r2 : List Cond := [Cond.fieldLink RX0 15 "Nettle$Comparison" "place" "[I", Cond.methodLink RX0 47 yX0_isSettled, Cond.instanceMethod yX0_isSettled, Cond.selects RX0 yX0_isSettled yX0_isSettled, Cond.code yX0_isSettled cX0_isSettled 3 (some .boolean), Cond.methodLink RX0 75 yX6_isSettled, Cond.instanceMethod yX6_isSettled, Cond.selects RX6 yX6_isSettled yX6_isSettled, Cond.code yX6_isSettled cX6_isSettled 4 (some .boolean), Cond.methodLink RX6 62 yX6_firstOf, Cond.instanceMethod yX6_firstOf, Cond.selects RX6 yX6_firstOf yX6_firstOf, Cond.code yX6_firstOf cX6_firstOf 3 (some .int), Cond.methodLink RX6 69 yX3_isWholeFrom, Cond.instanceMethod yX3_isWholeFrom, Cond.selects RX3 yX3_isWholeFrom yX3_isWholeFrom, Cond.code yX3_isWholeFrom cX3_isWholeFrom 3 (some .boolean), Cond.fieldLink RX3 9 "Nettle$Rule" "lows" "[I", Cond.fieldLink RX3 15 "Nettle$Rule" "highs" "[I", Cond.methodLink RX0 51 yX0_judge, Cond.instanceMethod yX0_judge, Cond.selects RX0 yX0_judge yX0_judge, Cond.code yX0_judge cX0_judge 5 none, Cond.methodLink RX0 76 yX6_allows]
def wsX0_refresh_r3 : List Cond := [Cond.instanceMethod yX6_allows, Cond.selects RX6 yX6_allows yX6_allows, Cond.code yX6_allows cX6_allows 3 (some .boolean), Cond.fieldLink RX6 34 "Nettle$Wall" "isLastAllow" "Z", Cond.fieldLink RX6 66 "Nettle$Rule" "verdict" "I", Cond.methodLink RX0 60 yX1_startsRun, Cond.instanceMethod yX1_startsRun, Cond.selects RX1 yX1_startsRun yX1_startsRun, Cond.initialized RX1, Cond.code yX1_startsRun cX1_startsRun 4 (some .boolean), Cond.methodLink RX1 53 yX1_mask, Cond.instanceMethod yX1_mask, Cond.selects RX1 yX1_mask yX1_mask, Cond.code yX1_mask cX1_mask 3 (some .int), Cond.fieldLink RX1 18 "Nettle$Cuts" "masks" "[I", Cond.methodLink RX0 64 yX1_start, Cond.instanceMethod yX1_start, Cond.selects RX1 yX1_start yX1_start, Cond.code yX1_start cX1_start 3 (some .int), Cond.fieldLink RX1 9 "Nettle$Cuts" "counts" "[I", Cond.fieldLink RX1 15 "Nettle$Cuts" "starts" "[I", Cond.methodLink RX0 68 yX1_runEnd, Cond.instanceMethod yX1_runEnd, Cond.selects RX1 yX1_runEnd yX1_runEnd]
def wsX0_refresh_r4 : List Cond := [Cond.code yX1_runEnd cX1_runEnd 5 (some .int), Cond.methodLink RX1 56 yX1_startsRun, Cond.methodLink RX1 60 yX1_start, Cond.methodLink RX0 72 yX1_mask]
def wsX0_refresh : List Cond := .code yX0_refresh cX0_refresh 2 none :: ((wsX0_refresh_r1 ++ (wsX0_refresh_r2 ++ (wsX0_refresh_r3 ++ wsX0_refresh_r4))) ++ wsX00 ++ wsX60 ++ wsX30 ++ wsX10)
def wsX1_init : List Cond := .code yX1_init cX1_init 3 none :: ([.methodLink RX1 3 objectInit, .instanceMethod objectInit, .code objectInit ⟨#[0xb1]⟩ 1 none, .arrayClass .int, .fieldLink RX1 9 "Nettle$Cuts" "counts" "[I", .fieldLink RX1 15 "Nettle$Cuts" "starts" "[I", .fieldLink RX1 18 "Nettle$Cuts" "masks" "[I", .fieldLink RX1 21 "Nettle$Cuts" "now" "LNettle$Wall;", .fieldLink RX1 25 "Nettle$Cuts" "old" "LNettle$Wall;"] ++ wsX10)
def wsX3_has : List Cond := .code yX3_has cX3_has 3 (some .boolean) :: ([.fieldLink RX3 9 "Nettle$Rule" "lows" "[I", .fieldLink RX3 15 "Nettle$Rule" "highs" "[I"] ++ wsX30)
def wsX6_having : List Cond := .code yX6_having cX6_having 5 (some .int) :: ([.fieldLink RX6 18 "Nettle$Wall" "count" "I", .fieldLink RX6 11 "Nettle$Wall" "rows" "[LNettle$Rule;", .methodLink RX6 42 yX3_has, .instanceMethod yX3_has, .selects RX3 yX3_has yX3_has, .initialized RX3, .code yX3_has cX3_has 3 (some .boolean), .fieldLink RX3 9 "Nettle$Rule" "lows" "[I", .fieldLink RX3 15 "Nettle$Rule" "highs" "[I"] ++ wsX60 ++ wsX30)
def wsX6_nextCut : List Cond := .code yX6_nextCut cX6_nextCut 5 (some .int) :: ([.fieldLink RX6 18 "Nettle$Wall" "count" "I", .fieldLink RX6 11 "Nettle$Wall" "rows" "[LNettle$Rule;", .fieldLink RX6 50 "Nettle$Rule" "lows" "[I", .methodLink RX6 53 Lib.Math.min.name, .static Lib.Math.min.name, .initialized "java/lang/Math", .code Lib.Math.min.name Lib.Math.min.code 2 (some .int), .fieldLink RX6 59 "Nettle$Rule" "highs" "[I"] ++ wsX60 ++ wsX30)
def wsX1_cut_r1 : List Cond := [Cond.fieldLink RX1 15 "Nettle$Cuts" "starts" "[I", Cond.fieldLink RX1 18 "Nettle$Cuts" "masks" "[I", Cond.fieldLink RX1 21 "Nettle$Cuts" "now" "LNettle$Wall;", Cond.fieldLink RX1 25 "Nettle$Cuts" "old" "LNettle$Wall;", Cond.methodLink RX1 48 Lib.Math.min.name, Cond.static Lib.Math.min.name, Cond.initialized "java/lang/Math", Cond.code Lib.Math.min.name Lib.Math.min.code 2 (some .int), Cond.fieldLink RX1 9 "Nettle$Cuts" "counts" "[I", Cond.methodLink RX1 39 yX6_having, Cond.instanceMethod yX6_having, Cond.selects RX6 yX6_having yX6_having, Cond.initialized RX6, Cond.code yX6_having cX6_having 5 (some .int), Cond.fieldLink RX6 18 "Nettle$Wall" "count" "I", Cond.fieldLink RX6 11 "Nettle$Wall" "rows" "[LNettle$Rule;", Cond.methodLink RX6 42 yX3_has, Cond.instanceMethod yX3_has, Cond.selects RX3 yX3_has yX3_has, Cond.initialized RX3, Cond.code yX3_has cX3_has 3 (some .boolean), Cond.fieldLink RX3 9 "Nettle$Rule" "lows" "[I", Cond.fieldLink RX3 15 "Nettle$Rule" "highs" "[I", Cond.methodLink RX1 45 yX6_nextCut]
def wsX1_cut_r2 : List Cond := [Cond.instanceMethod yX6_nextCut, Cond.selects RX6 yX6_nextCut yX6_nextCut, Cond.code yX6_nextCut cX6_nextCut 5 (some .int), Cond.fieldLink RX6 50 "Nettle$Rule" "lows" "[I", Cond.methodLink RX6 53 Lib.Math.min.name, Cond.fieldLink RX6 59 "Nettle$Rule" "highs" "[I"]
def wsX1_cut : List Cond := .code yX1_cut cX1_cut 4 none :: ((wsX1_cut_r1 ++ wsX1_cut_r2) ++ wsX10 ++ wsX60 ++ wsX30)
def wsX1_refresh_r1 : List Cond := [Cond.fieldLink RX1 28 "Nettle$Cuts" "isFresh" "Z", Cond.methodLink RX1 32 yX1_cut, Cond.instanceMethod yX1_cut, Cond.selects RX1 yX1_cut yX1_cut, Cond.initialized RX1, Cond.code yX1_cut cX1_cut 4 none, Cond.fieldLink RX1 15 "Nettle$Cuts" "starts" "[I", Cond.fieldLink RX1 18 "Nettle$Cuts" "masks" "[I", Cond.fieldLink RX1 21 "Nettle$Cuts" "now" "LNettle$Wall;", Cond.fieldLink RX1 25 "Nettle$Cuts" "old" "LNettle$Wall;", Cond.methodLink RX1 48 Lib.Math.min.name, Cond.static Lib.Math.min.name, Cond.initialized "java/lang/Math", Cond.code Lib.Math.min.name Lib.Math.min.code 2 (some .int), Cond.fieldLink RX1 9 "Nettle$Cuts" "counts" "[I", Cond.methodLink RX1 39 yX6_having, Cond.instanceMethod yX6_having, Cond.selects RX6 yX6_having yX6_having, Cond.initialized RX6, Cond.code yX6_having cX6_having 5 (some .int), Cond.fieldLink RX6 18 "Nettle$Wall" "count" "I", Cond.fieldLink RX6 11 "Nettle$Wall" "rows" "[LNettle$Rule;", Cond.methodLink RX6 42 yX3_has, Cond.instanceMethod yX3_has]
def wsX1_refresh_r2 : List Cond := [Cond.selects RX3 yX3_has yX3_has, Cond.initialized RX3, Cond.code yX3_has cX3_has 3 (some .boolean), Cond.fieldLink RX3 9 "Nettle$Rule" "lows" "[I", Cond.fieldLink RX3 15 "Nettle$Rule" "highs" "[I", Cond.methodLink RX1 45 yX6_nextCut, Cond.instanceMethod yX6_nextCut, Cond.selects RX6 yX6_nextCut yX6_nextCut, Cond.code yX6_nextCut cX6_nextCut 5 (some .int), Cond.fieldLink RX6 50 "Nettle$Rule" "lows" "[I", Cond.methodLink RX6 53 Lib.Math.min.name, Cond.fieldLink RX6 59 "Nettle$Rule" "highs" "[I"]
def wsX1_refresh : List Cond := .code yX1_refresh cX1_refresh 2 none :: ((wsX1_refresh_r1 ++ wsX1_refresh_r2) ++ wsX10 ++ wsX60 ++ wsX30)
def wsX2_init : List Cond := .code yX2_init cX2_init 1 none :: ([.methodLink RX2 3 objectInit, .instanceMethod objectInit, .code objectInit ⟨#[0xb1]⟩ 1 none, .arrayClass .int, .fieldLink RX2 9 "Nettle$Log" "rows" "[I"] ++ wsX20)
def wsX3_init : List Cond := .code yX3_init cX3_init 1 none :: ([.methodLink RX3 3 objectInit, .instanceMethod objectInit, .code objectInit ⟨#[0xb1]⟩ 1 none, .arrayClass .int, .fieldLink RX3 9 "Nettle$Rule" "lows" "[I", .fieldLink RX3 15 "Nettle$Rule" "highs" "[I"] ++ wsX30)
def wsX3_reset : List Cond := .code yX3_reset cX3_reset 3 none :: ([.fieldLink RX3 18 "Nettle$Rule" "verdict" "I", .fieldLink RX3 22 "Nettle$Rule" "hits" "I", .fieldLink RX3 9 "Nettle$Rule" "lows" "[I", .fieldLink RX3 15 "Nettle$Rule" "highs" "[I"] ++ wsX30)
def wsX3_takeFrom : List Cond := .code yX3_takeFrom cX3_takeFrom 3 none :: ([.fieldLink RX3 18 "Nettle$Rule" "verdict" "I", .fieldLink RX3 9 "Nettle$Rule" "lows" "[I", .fieldLink RX3 15 "Nettle$Rule" "highs" "[I"] ++ wsX30)
def wsX3_width : List Cond := .code yX3_width cX3_width 2 (some .int) :: ([.fieldLink RX3 15 "Nettle$Rule" "highs" "[I", .fieldLink RX3 9 "Nettle$Rule" "lows" "[I"] ++ wsX30)
def wsX3_meets : List Cond := .code yX3_meets cX3_meets 3 (some .boolean) :: ([.methodLink RX3 28 yX3_has, .instanceMethod yX3_has, .selects RX3 yX3_has yX3_has, .initialized RX3, .code yX3_has cX3_has 3 (some .boolean), .fieldLink RX3 9 "Nettle$Rule" "lows" "[I", .fieldLink RX3 15 "Nettle$Rule" "highs" "[I"] ++ wsX30)
def wsX3_covers : List Cond := .code yX3_covers cX3_covers 3 (some .boolean) :: ([.fieldLink RX3 9 "Nettle$Rule" "lows" "[I", .fieldLink RX3 15 "Nettle$Rule" "highs" "[I"] ++ wsX30)
def wsX3_amountWith : List Cond := .code yX3_amountWith cX3_amountWith 6 (some .int) :: ([.fieldLink RX3 9 "Nettle$Rule" "lows" "[I", .methodLink RX3 32 Lib.Math.max.name, .static Lib.Math.max.name, .initialized "java/lang/Math", .code Lib.Math.max.name Lib.Math.max.code 2 (some .int), .fieldLink RX3 15 "Nettle$Rule" "highs" "[I", .methodLink RX3 38 Lib.Math.min.name, .static Lib.Math.min.name, .code Lib.Math.min.name Lib.Math.min.code 2 (some .int)] ++ wsX30)
def wsX3_isAgainst : List Cond := .code yX3_isAgainst cX3_isAgainst 2 (some .boolean) :: ([.fieldLink RX3 18 "Nettle$Rule" "verdict" "I", .methodLink RX3 41 yX3_isNote, .instanceMethod yX3_isNote, .selects RX3 yX3_isNote yX3_isNote, .initialized RX3, .code yX3_isNote cX3_isNote 1 (some .boolean), .methodLink RX3 45 yX3_amountWith, .instanceMethod yX3_amountWith, .selects RX3 yX3_amountWith yX3_amountWith, .code yX3_amountWith cX3_amountWith 6 (some .int), .fieldLink RX3 9 "Nettle$Rule" "lows" "[I", .methodLink RX3 32 Lib.Math.max.name, .static Lib.Math.max.name, .initialized "java/lang/Math", .code Lib.Math.max.name Lib.Math.max.code 2 (some .int), .fieldLink RX3 15 "Nettle$Rule" "highs" "[I", .methodLink RX3 38 Lib.Math.min.name, .static Lib.Math.min.name, .code Lib.Math.min.name Lib.Math.min.code 2 (some .int)] ++ wsX30)
def wsX4_init : List Cond := .code yX4_init cX4_init 2 none :: ([.methodLink RX4 3 objectInit, .instanceMethod objectInit, .code objectInit ⟨#[0xb1]⟩ 1 none, .arrayClass .int, .fieldLink RX4 9 "Nettle$Survey" "lows" "[I", .fieldLink RX4 15 "Nettle$Survey" "highs" "[I", .fieldLink RX4 18 "Nettle$Survey" "amounts" "[I", .fieldLink RX4 21 "Nettle$Survey" "wall" "LNettle$Wall;"] ++ wsX40)
def wsX4_setCount : List Cond := .code yX4_setCount cX4_setCount 1 (some .int) :: ([.fieldLink RX4 21 "Nettle$Survey" "wall" "LNettle$Wall;", .fieldLink RX4 46 "Nettle$Wall" "count" "I"] ++ wsX40 ++ wsX60)
def wsX4_measure : List Cond := .code yX4_measure cX4_measure 9 none :: ([.fieldLink RX4 21 "Nettle$Survey" "wall" "LNettle$Wall;", .fieldLink RX4 56 "Nettle$Wall" "rows" "[LNettle$Rule;", .fieldLink RX4 60 "Nettle$Rule" "lows" "[I", .fieldLink RX4 9 "Nettle$Survey" "lows" "[I", .methodLink RX4 63 Lib.Math.max.name, .static Lib.Math.max.name, .initialized "java/lang/Math", .code Lib.Math.max.name Lib.Math.max.code 2 (some .int), .fieldLink RX4 69 "Nettle$Rule" "highs" "[I", .fieldLink RX4 15 "Nettle$Survey" "highs" "[I", .methodLink RX4 70 Lib.Math.min.name, .static Lib.Math.min.name, .code Lib.Math.min.name Lib.Math.min.code 2 (some .int), .fieldLink RX4 18 "Nettle$Survey" "amounts" "[I", .methodLink RX4 52 yX6_firstOf, .instanceMethod yX6_firstOf, .selects RX6 yX6_firstOf yX6_firstOf, .initialized RX6, .code yX6_firstOf cX6_firstOf 3 (some .int), .fieldLink RX6 18 "Nettle$Wall" "count" "I"] ++ wsX40 ++ wsX60 ++ wsX30)
def wsX4_takeOutLarger : List Cond := .code yX4_takeOutLarger cX4_takeOutLarger 4 none :: ([.fieldLink RX4 21 "Nettle$Survey" "wall" "LNettle$Wall;", .fieldLink RX4 46 "Nettle$Wall" "count" "I", .fieldLink RX4 18 "Nettle$Survey" "amounts" "[I", .methodLink RX4 35 yX4_setCount, .instanceMethod yX4_setCount, .selects RX4 yX4_setCount yX4_setCount, .initialized RX4, .code yX4_setCount cX4_setCount 1 (some .int)] ++ wsX40 ++ wsX60)
def wsX4_refresh_r1 : List Cond := [Cond.fieldLink RX4 25 "Nettle$Survey" "isFresh" "Z", Cond.fieldLink RX4 9 "Nettle$Survey" "lows" "[I", Cond.fieldLink RX4 15 "Nettle$Survey" "highs" "[I", Cond.fieldLink RX4 18 "Nettle$Survey" "amounts" "[I", Cond.methodLink RX4 35 yX4_setCount, Cond.instanceMethod yX4_setCount, Cond.selects RX4 yX4_setCount yX4_setCount, Cond.initialized RX4, Cond.code yX4_setCount cX4_setCount 1 (some .int), Cond.fieldLink RX4 21 "Nettle$Survey" "wall" "LNettle$Wall;", Cond.fieldLink RX4 46 "Nettle$Wall" "count" "I", Cond.methodLink RX4 39 yX4_measure, Cond.instanceMethod yX4_measure, Cond.selects RX4 yX4_measure yX4_measure, Cond.code yX4_measure cX4_measure 9 none, Cond.fieldLink RX4 56 "Nettle$Wall" "rows" "[LNettle$Rule;", Cond.fieldLink RX4 60 "Nettle$Rule" "lows" "[I", Cond.methodLink RX4 63 Lib.Math.max.name, Cond.static Lib.Math.max.name, Cond.initialized "java/lang/Math", Cond.code Lib.Math.max.name Lib.Math.max.code 2 (some .int), Cond.fieldLink RX4 69 "Nettle$Rule" "highs" "[I", Cond.methodLink RX4 70 Lib.Math.min.name, Cond.static Lib.Math.min.name]
def wsX4_refresh_r2 : List Cond := [Cond.code Lib.Math.min.name Lib.Math.min.code 2 (some .int), Cond.methodLink RX4 52 yX6_firstOf, Cond.instanceMethod yX6_firstOf, Cond.selects RX6 yX6_firstOf yX6_firstOf, Cond.initialized RX6, Cond.code yX6_firstOf cX6_firstOf 3 (some .int), Cond.fieldLink RX6 18 "Nettle$Wall" "count" "I", Cond.methodLink RX4 43 yX4_takeOutLarger, Cond.instanceMethod yX4_takeOutLarger, Cond.selects RX4 yX4_takeOutLarger yX4_takeOutLarger, Cond.code yX4_takeOutLarger cX4_takeOutLarger 4 none]
def wsX4_refresh : List Cond := .code yX4_refresh cX4_refresh 2 none :: ((wsX4_refresh_r1 ++ wsX4_refresh_r2) ++ wsX40 ++ wsX60 ++ wsX30)
def wsX4_amountOf : List Cond := .code yX4_amountOf cX4_amountOf 6 (some .int) :: ([.fieldLink RX4 21 "Nettle$Survey" "wall" "LNettle$Wall;", .fieldLink RX4 18 "Nettle$Survey" "amounts" "[I", .methodLink RX4 73 yX6_deciders, .instanceMethod yX6_deciders, .selects RX6 yX6_deciders yX6_deciders, .initialized RX6, .code yX6_deciders cX6_deciders 3 (some .int), .fieldLink RX6 18 "Nettle$Wall" "count" "I", .fieldLink RX6 11 "Nettle$Wall" "rows" "[LNettle$Rule;", .methodLink RX6 38 yX3_isNote, .instanceMethod yX3_isNote, .selects RX3 yX3_isNote yX3_isNote, .initialized RX3, .code yX3_isNote cX3_isNote 1 (some .boolean), .fieldLink RX3 18 "Nettle$Rule" "verdict" "I", .methodLink RX4 35 yX4_setCount, .instanceMethod yX4_setCount, .selects RX4 yX4_setCount yX4_setCount, .initialized RX4, .code yX4_setCount cX4_setCount 1 (some .int), .fieldLink RX4 46 "Nettle$Wall" "count" "I"] ++ wsX40 ++ wsX60 ++ wsX30)
def wsX4_amountAllowed_r1 : List Cond := [Cond.fieldLink RX4 21 "Nettle$Survey" "wall" "LNettle$Wall;", Cond.fieldLink RX4 18 "Nettle$Survey" "amounts" "[I", Cond.methodLink RX4 73 yX6_deciders, Cond.instanceMethod yX6_deciders, Cond.selects RX6 yX6_deciders yX6_deciders, Cond.initialized RX6, Cond.code yX6_deciders cX6_deciders 3 (some .int), Cond.fieldLink RX6 18 "Nettle$Wall" "count" "I", Cond.fieldLink RX6 11 "Nettle$Wall" "rows" "[LNettle$Rule;", Cond.methodLink RX6 38 yX3_isNote, Cond.instanceMethod yX3_isNote, Cond.selects RX3 yX3_isNote yX3_isNote, Cond.initialized RX3, Cond.code yX3_isNote cX3_isNote 1 (some .boolean), Cond.fieldLink RX3 18 "Nettle$Rule" "verdict" "I", Cond.methodLink RX4 35 yX4_setCount, Cond.instanceMethod yX4_setCount, Cond.selects RX4 yX4_setCount yX4_setCount, Cond.initialized RX4, Cond.code yX4_setCount cX4_setCount 1 (some .int), Cond.fieldLink RX4 46 "Nettle$Wall" "count" "I", Cond.methodLink RX4 76 yX6_allows, Cond.instanceMethod yX6_allows, Cond.selects RX6 yX6_allows yX6_allows]
def wsX4_amountAllowed_r2 : List Cond := [Cond.code yX6_allows cX6_allows 3 (some .boolean), Cond.fieldLink RX6 34 "Nettle$Wall" "isLastAllow" "Z", Cond.fieldLink RX6 66 "Nettle$Rule" "verdict" "I", Cond.methodLink RX6 62 yX6_firstOf, Cond.instanceMethod yX6_firstOf, Cond.selects RX6 yX6_firstOf yX6_firstOf, Cond.code yX6_firstOf cX6_firstOf 3 (some .int)]
def wsX4_amountAllowed : List Cond := .code yX4_amountAllowed cX4_amountAllowed 5 (some .int) :: ((wsX4_amountAllowed_r1 ++ wsX4_amountAllowed_r2) ++ wsX40 ++ wsX60 ++ wsX30)
def wsX4_isDead_r1 : List Cond := [Cond.methodLink RX4 80 yX4_amountOf, Cond.instanceMethod yX4_amountOf, Cond.selects RX4 yX4_amountOf yX4_amountOf, Cond.initialized RX4, Cond.code yX4_amountOf cX4_amountOf 6 (some .int), Cond.fieldLink RX4 21 "Nettle$Survey" "wall" "LNettle$Wall;", Cond.fieldLink RX4 18 "Nettle$Survey" "amounts" "[I", Cond.methodLink RX4 73 yX6_deciders, Cond.instanceMethod yX6_deciders, Cond.selects RX6 yX6_deciders yX6_deciders, Cond.initialized RX6, Cond.code yX6_deciders cX6_deciders 3 (some .int), Cond.fieldLink RX6 18 "Nettle$Wall" "count" "I", Cond.fieldLink RX6 11 "Nettle$Wall" "rows" "[LNettle$Rule;", Cond.methodLink RX6 38 yX3_isNote, Cond.instanceMethod yX3_isNote, Cond.selects RX3 yX3_isNote yX3_isNote, Cond.initialized RX3, Cond.code yX3_isNote cX3_isNote 1 (some .boolean), Cond.fieldLink RX3 18 "Nettle$Rule" "verdict" "I", Cond.methodLink RX4 35 yX4_setCount, Cond.instanceMethod yX4_setCount, Cond.selects RX4 yX4_setCount yX4_setCount, Cond.code yX4_setCount cX4_setCount 1 (some .int)]
def wsX4_isDead_r2 : List Cond := [Cond.fieldLink RX4 46 "Nettle$Wall" "count" "I"]
def wsX4_isDead : List Cond := .code yX4_isDead cX4_isDead 2 (some .boolean) :: ((wsX4_isDead_r1 ++ wsX4_isDead_r2) ++ wsX40 ++ wsX60 ++ wsX30)
def wsX4_isNeedless_r1 : List Cond := [Cond.fieldLink RX4 21 "Nettle$Survey" "wall" "LNettle$Wall;", Cond.fieldLink RX4 56 "Nettle$Wall" "rows" "[LNettle$Rule;", Cond.fieldLink RX4 18 "Nettle$Survey" "amounts" "[I", Cond.methodLink RX4 83 yX3_isNote, Cond.instanceMethod yX3_isNote, Cond.selects RX3 yX3_isNote yX3_isNote, Cond.initialized RX3, Cond.code yX3_isNote cX3_isNote 1 (some .boolean), Cond.fieldLink RX3 18 "Nettle$Rule" "verdict" "I", Cond.methodLink RX4 73 yX6_deciders, Cond.instanceMethod yX6_deciders, Cond.selects RX6 yX6_deciders yX6_deciders, Cond.initialized RX6, Cond.code yX6_deciders cX6_deciders 3 (some .int), Cond.fieldLink RX6 18 "Nettle$Wall" "count" "I", Cond.fieldLink RX6 11 "Nettle$Wall" "rows" "[LNettle$Rule;", Cond.methodLink RX6 38 yX3_isNote, Cond.methodLink RX4 35 yX4_setCount, Cond.instanceMethod yX4_setCount, Cond.selects RX4 yX4_setCount yX4_setCount, Cond.initialized RX4, Cond.code yX4_setCount cX4_setCount 1 (some .int), Cond.fieldLink RX4 46 "Nettle$Wall" "count" "I", Cond.methodLink RX4 76 yX6_allows]
def wsX4_isNeedless_r2 : List Cond := [Cond.instanceMethod yX6_allows, Cond.selects RX6 yX6_allows yX6_allows, Cond.code yX6_allows cX6_allows 3 (some .boolean), Cond.fieldLink RX6 34 "Nettle$Wall" "isLastAllow" "Z", Cond.fieldLink RX6 66 "Nettle$Rule" "verdict" "I", Cond.methodLink RX6 62 yX6_firstOf, Cond.instanceMethod yX6_firstOf, Cond.selects RX6 yX6_firstOf yX6_firstOf, Cond.code yX6_firstOf cX6_firstOf 3 (some .int)]
def wsX4_isNeedless : List Cond := .code yX4_isNeedless cX4_isNeedless 5 (some .boolean) :: ((wsX4_isNeedless_r1 ++ wsX4_isNeedless_r2) ++ wsX40 ++ wsX60 ++ wsX30)
def wsX4_allowsMoved : List Cond := .code yX4_allowsMoved cX4_allowsMoved 7 (some .boolean) :: ([.fieldLink RX4 21 "Nettle$Survey" "wall" "LNettle$Wall;", .methodLink RX4 76 yX6_allows, .instanceMethod yX6_allows, .selects RX6 yX6_allows yX6_allows, .initialized RX6, .code yX6_allows cX6_allows 3 (some .boolean), .fieldLink RX6 34 "Nettle$Wall" "isLastAllow" "Z", .fieldLink RX6 11 "Nettle$Wall" "rows" "[LNettle$Rule;", .fieldLink RX6 66 "Nettle$Rule" "verdict" "I", .methodLink RX6 62 yX6_firstOf, .instanceMethod yX6_firstOf, .selects RX6 yX6_firstOf yX6_firstOf, .code yX6_firstOf cX6_firstOf 3 (some .int), .fieldLink RX6 18 "Nettle$Wall" "count" "I"] ++ wsX40 ++ wsX60 ++ wsX30)
def wsX4_amountMoved_r1 : List Cond := [Cond.fieldLink RX4 21 "Nettle$Survey" "wall" "LNettle$Wall;", Cond.fieldLink RX4 18 "Nettle$Survey" "amounts" "[I", Cond.methodLink RX4 73 yX6_deciders, Cond.instanceMethod yX6_deciders, Cond.selects RX6 yX6_deciders yX6_deciders, Cond.initialized RX6, Cond.code yX6_deciders cX6_deciders 3 (some .int), Cond.fieldLink RX6 18 "Nettle$Wall" "count" "I", Cond.fieldLink RX6 11 "Nettle$Wall" "rows" "[LNettle$Rule;", Cond.methodLink RX6 38 yX3_isNote, Cond.instanceMethod yX3_isNote, Cond.selects RX3 yX3_isNote yX3_isNote, Cond.initialized RX3, Cond.code yX3_isNote cX3_isNote 1 (some .boolean), Cond.fieldLink RX3 18 "Nettle$Rule" "verdict" "I", Cond.methodLink RX4 35 yX4_setCount, Cond.instanceMethod yX4_setCount, Cond.selects RX4 yX4_setCount yX4_setCount, Cond.initialized RX4, Cond.code yX4_setCount cX4_setCount 1 (some .int), Cond.fieldLink RX4 46 "Nettle$Wall" "count" "I", Cond.methodLink RX4 76 yX6_allows, Cond.instanceMethod yX6_allows, Cond.selects RX6 yX6_allows yX6_allows]
def wsX4_amountMoved_r2 : List Cond := [Cond.code yX6_allows cX6_allows 3 (some .boolean), Cond.fieldLink RX6 34 "Nettle$Wall" "isLastAllow" "Z", Cond.fieldLink RX6 66 "Nettle$Rule" "verdict" "I", Cond.methodLink RX6 62 yX6_firstOf, Cond.instanceMethod yX6_firstOf, Cond.selects RX6 yX6_firstOf yX6_firstOf, Cond.code yX6_firstOf cX6_firstOf 3 (some .int), Cond.methodLink RX4 87 yX4_allowsMoved, Cond.instanceMethod yX4_allowsMoved, Cond.selects RX4 yX4_allowsMoved yX4_allowsMoved, Cond.code yX4_allowsMoved cX4_allowsMoved 7 (some .boolean)]
def wsX4_amountMoved : List Cond := .code yX4_amountMoved cX4_amountMoved 6 (some .int) :: ((wsX4_amountMoved_r1 ++ wsX4_amountMoved_r2) ++ wsX40 ++ wsX60 ++ wsX30)
def wsX5_init : List Cond := .code yX5_init cX5_init 3 none :: ([.methodLink RX5 3 objectInit, .instanceMethod objectInit, .code objectInit ⟨#[0xb1]⟩ 1 none, .arrayClass .int, .fieldLink RX5 9 "Nettle$Tree" "numbers" "[I", .fieldLink RX5 15 "Nettle$Tree" "codes" "[I", .fieldLink RX5 18 "Nettle$Tree" "sums" "[I", .fieldLink RX5 21 "Nettle$Tree" "wall" "LNettle$Wall;", .fieldLink RX5 25 "Nettle$Tree" "cuts" "LNettle$Cuts;"] ++ wsX50)
def wsX5_find_r1 : List Cond := [Cond.fieldLink RX5 21 "Nettle$Tree" "wall" "LNettle$Wall;", Cond.fieldLink RX5 9 "Nettle$Tree" "numbers" "[I", Cond.fieldLink RX5 33 "Nettle$Tree" "count" "I", Cond.fieldLink RX5 15 "Nettle$Tree" "codes" "[I", Cond.fieldLink RX5 25 "Nettle$Tree" "cuts" "LNettle$Cuts;", Cond.fieldLink RX5 58 "Nettle$Cuts" "counts" "[I", Cond.fieldLink RX5 18 "Nettle$Tree" "sums" "[I", Cond.methodLink RX5 47 yX6_isSettled, Cond.instanceMethod yX6_isSettled, Cond.selects RX6 yX6_isSettled yX6_isSettled, Cond.initialized RX6, Cond.code yX6_isSettled cX6_isSettled 4 (some .boolean), Cond.fieldLink RX6 11 "Nettle$Wall" "rows" "[LNettle$Rule;", Cond.methodLink RX6 62 yX6_firstOf, Cond.instanceMethod yX6_firstOf, Cond.selects RX6 yX6_firstOf yX6_firstOf, Cond.code yX6_firstOf cX6_firstOf 3 (some .int), Cond.fieldLink RX6 18 "Nettle$Wall" "count" "I", Cond.methodLink RX6 69 yX3_isWholeFrom, Cond.instanceMethod yX3_isWholeFrom, Cond.selects RX3 yX3_isWholeFrom yX3_isWholeFrom, Cond.initialized RX3, Cond.code yX3_isWholeFrom cX3_isWholeFrom 3 (some .boolean), Cond.fieldLink RX3 9 "Nettle$Rule" "lows" "[I"]
def wsX5_find_r2 : List Cond := [Cond.fieldLink RX3 15 "Nettle$Rule" "highs" "[I", Cond.methodLink RX5 51 yX6_firstOf, Cond.methodLink RX5 63 yX1_mask, Cond.instanceMethod yX1_mask, Cond.selects RX1 yX1_mask yX1_mask, Cond.initialized RX1, Cond.code yX1_mask cX1_mask 3 (some .int), Cond.fieldLink RX1 18 "Nettle$Cuts" "masks" "[I", Cond.methodLink RX5 43 yX5_find, Cond.static yX5_find, Cond.initialized RX5, Cond.methodLink RX5 67 yX1_start, Cond.instanceMethod yX1_start, Cond.selects RX1 yX1_start yX1_start, Cond.code yX1_start cX1_start 3 (some .int), Cond.fieldLink RX1 9 "Nettle$Cuts" "counts" "[I", Cond.fieldLink RX1 15 "Nettle$Cuts" "starts" "[I"]
def wsX5_find : List Cond := .code yX5_find cX5_find 9 (some .int) :: ((wsX5_find_r1 ++ wsX5_find_r2) ++ wsX50 ++ wsX10 ++ wsX60 ++ wsX30)
def wsX5_refresh_r1 : List Cond := [Cond.fieldLink RX5 29 "Nettle$Tree" "isFresh" "Z", Cond.fieldLink RX5 33 "Nettle$Tree" "count" "I", Cond.fieldLink RX5 9 "Nettle$Tree" "numbers" "[I", Cond.fieldLink RX5 21 "Nettle$Tree" "wall" "LNettle$Wall;", Cond.methodLink RX5 37 yX6_deciders, Cond.instanceMethod yX6_deciders, Cond.selects RX6 yX6_deciders yX6_deciders, Cond.initialized RX6, Cond.code yX6_deciders cX6_deciders 3 (some .int), Cond.fieldLink RX6 18 "Nettle$Wall" "count" "I", Cond.fieldLink RX6 11 "Nettle$Wall" "rows" "[LNettle$Rule;", Cond.methodLink RX6 38 yX3_isNote, Cond.instanceMethod yX3_isNote, Cond.selects RX3 yX3_isNote yX3_isNote, Cond.initialized RX3, Cond.code yX3_isNote cX3_isNote 1 (some .boolean), Cond.fieldLink RX3 18 "Nettle$Rule" "verdict" "I", Cond.methodLink RX5 43 yX5_find, Cond.static yX5_find, Cond.initialized RX5, Cond.code yX5_find cX5_find 9 (some .int), Cond.fieldLink RX5 15 "Nettle$Tree" "codes" "[I", Cond.fieldLink RX5 25 "Nettle$Tree" "cuts" "LNettle$Cuts;", Cond.fieldLink RX5 58 "Nettle$Cuts" "counts" "[I"]
def wsX5_refresh_r2 : List Cond := [Cond.fieldLink RX5 18 "Nettle$Tree" "sums" "[I", Cond.methodLink RX5 47 yX6_isSettled, Cond.instanceMethod yX6_isSettled, Cond.selects RX6 yX6_isSettled yX6_isSettled, Cond.code yX6_isSettled cX6_isSettled 4 (some .boolean), Cond.methodLink RX6 62 yX6_firstOf, Cond.instanceMethod yX6_firstOf, Cond.selects RX6 yX6_firstOf yX6_firstOf, Cond.code yX6_firstOf cX6_firstOf 3 (some .int), Cond.methodLink RX6 69 yX3_isWholeFrom, Cond.instanceMethod yX3_isWholeFrom, Cond.selects RX3 yX3_isWholeFrom yX3_isWholeFrom, Cond.code yX3_isWholeFrom cX3_isWholeFrom 3 (some .boolean), Cond.fieldLink RX3 9 "Nettle$Rule" "lows" "[I", Cond.fieldLink RX3 15 "Nettle$Rule" "highs" "[I", Cond.methodLink RX5 51 yX6_firstOf, Cond.methodLink RX5 63 yX1_mask, Cond.instanceMethod yX1_mask, Cond.selects RX1 yX1_mask yX1_mask, Cond.initialized RX1, Cond.code yX1_mask cX1_mask 3 (some .int), Cond.fieldLink RX1 18 "Nettle$Cuts" "masks" "[I", Cond.methodLink RX5 67 yX1_start, Cond.instanceMethod yX1_start]
def wsX5_refresh_r3 : List Cond := [Cond.selects RX1 yX1_start yX1_start, Cond.code yX1_start cX1_start 3 (some .int), Cond.fieldLink RX1 9 "Nettle$Cuts" "counts" "[I", Cond.fieldLink RX1 15 "Nettle$Cuts" "starts" "[I"]
def wsX5_refresh : List Cond := .code yX5_refresh cX5_refresh 2 none :: ((wsX5_refresh_r1 ++ (wsX5_refresh_r2 ++ wsX5_refresh_r3)) ++ wsX50 ++ wsX60 ++ wsX30 ++ wsX10)
def wsX5_fieldOf : List Cond := .code yX5_fieldOf cX5_fieldOf 2 (some .int) :: ([.fieldLink RX5 15 "Nettle$Tree" "codes" "[I"] ++ wsX50)
def wsX5_setOf : List Cond := .code yX5_setOf cX5_setOf 2 (some .int) :: ([.fieldLink RX5 15 "Nettle$Tree" "codes" "[I"] ++ wsX50)
def wsX5_pieceCount : List Cond := .code yX5_pieceCount cX5_pieceCount 4 (some .int) :: ([.fieldLink RX5 25 "Nettle$Tree" "cuts" "LNettle$Cuts;", .fieldLink RX5 58 "Nettle$Cuts" "counts" "[I", .methodLink RX5 70 yX5_fieldOf, .instanceMethod yX5_fieldOf, .selects RX5 yX5_fieldOf yX5_fieldOf, .initialized RX5, .code yX5_fieldOf cX5_fieldOf 2 (some .int), .fieldLink RX5 15 "Nettle$Tree" "codes" "[I", .methodLink RX5 73 yX5_setOf, .instanceMethod yX5_setOf, .selects RX5 yX5_setOf yX5_setOf, .code yX5_setOf cX5_setOf 2 (some .int), .methodLink RX5 76 yX1_startsRun, .instanceMethod yX1_startsRun, .selects RX1 yX1_startsRun yX1_startsRun, .initialized RX1, .code yX1_startsRun cX1_startsRun 4 (some .boolean), .methodLink RX1 53 yX1_mask, .instanceMethod yX1_mask, .selects RX1 yX1_mask yX1_mask, .code yX1_mask cX1_mask 3 (some .int), .fieldLink RX1 18 "Nettle$Cuts" "masks" "[I"] ++ wsX50 ++ wsX10)
def wsX5_segmentOf : List Cond := .code yX5_segmentOf cX5_segmentOf 5 (some .int) :: ([.fieldLink RX5 25 "Nettle$Tree" "cuts" "LNettle$Cuts;", .fieldLink RX5 58 "Nettle$Cuts" "counts" "[I", .methodLink RX5 70 yX5_fieldOf, .instanceMethod yX5_fieldOf, .selects RX5 yX5_fieldOf yX5_fieldOf, .initialized RX5, .code yX5_fieldOf cX5_fieldOf 2 (some .int), .fieldLink RX5 15 "Nettle$Tree" "codes" "[I", .methodLink RX5 73 yX5_setOf, .instanceMethod yX5_setOf, .selects RX5 yX5_setOf yX5_setOf, .code yX5_setOf cX5_setOf 2 (some .int), .methodLink RX5 76 yX1_startsRun, .instanceMethod yX1_startsRun, .selects RX1 yX1_startsRun yX1_startsRun, .initialized RX1, .code yX1_startsRun cX1_startsRun 4 (some .boolean), .methodLink RX1 53 yX1_mask, .instanceMethod yX1_mask, .selects RX1 yX1_mask yX1_mask, .code yX1_mask cX1_mask 3 (some .int), .fieldLink RX1 18 "Nettle$Cuts" "masks" "[I"] ++ wsX50 ++ wsX10)
def wsX5_leadOf_r1 : List Cond := [Cond.fieldLink RX5 25 "Nettle$Tree" "cuts" "LNettle$Cuts;", Cond.methodLink RX5 70 yX5_fieldOf, Cond.instanceMethod yX5_fieldOf, Cond.selects RX5 yX5_fieldOf yX5_fieldOf, Cond.initialized RX5, Cond.code yX5_fieldOf cX5_fieldOf 2 (some .int), Cond.fieldLink RX5 15 "Nettle$Tree" "codes" "[I", Cond.methodLink RX5 73 yX5_setOf, Cond.instanceMethod yX5_setOf, Cond.selects RX5 yX5_setOf yX5_setOf, Cond.code yX5_setOf cX5_setOf 2 (some .int), Cond.methodLink RX5 63 yX1_mask, Cond.instanceMethod yX1_mask, Cond.selects RX1 yX1_mask yX1_mask, Cond.initialized RX1, Cond.code yX1_mask cX1_mask 3 (some .int), Cond.fieldLink RX1 18 "Nettle$Cuts" "masks" "[I", Cond.methodLink RX5 43 yX5_find, Cond.static yX5_find, Cond.code yX5_find cX5_find 9 (some .int), Cond.fieldLink RX5 21 "Nettle$Tree" "wall" "LNettle$Wall;", Cond.fieldLink RX5 9 "Nettle$Tree" "numbers" "[I", Cond.fieldLink RX5 33 "Nettle$Tree" "count" "I", Cond.fieldLink RX5 58 "Nettle$Cuts" "counts" "[I"]
def wsX5_leadOf_r2 : List Cond := [Cond.fieldLink RX5 18 "Nettle$Tree" "sums" "[I", Cond.methodLink RX5 47 yX6_isSettled, Cond.instanceMethod yX6_isSettled, Cond.selects RX6 yX6_isSettled yX6_isSettled, Cond.initialized RX6, Cond.code yX6_isSettled cX6_isSettled 4 (some .boolean), Cond.fieldLink RX6 11 "Nettle$Wall" "rows" "[LNettle$Rule;", Cond.methodLink RX6 62 yX6_firstOf, Cond.instanceMethod yX6_firstOf, Cond.selects RX6 yX6_firstOf yX6_firstOf, Cond.code yX6_firstOf cX6_firstOf 3 (some .int), Cond.fieldLink RX6 18 "Nettle$Wall" "count" "I", Cond.methodLink RX6 69 yX3_isWholeFrom, Cond.instanceMethod yX3_isWholeFrom, Cond.selects RX3 yX3_isWholeFrom yX3_isWholeFrom, Cond.initialized RX3, Cond.code yX3_isWholeFrom cX3_isWholeFrom 3 (some .boolean), Cond.fieldLink RX3 9 "Nettle$Rule" "lows" "[I", Cond.fieldLink RX3 15 "Nettle$Rule" "highs" "[I", Cond.methodLink RX5 51 yX6_firstOf, Cond.methodLink RX5 67 yX1_start, Cond.instanceMethod yX1_start, Cond.selects RX1 yX1_start yX1_start, Cond.code yX1_start cX1_start 3 (some .int)]
def wsX5_leadOf_r3 : List Cond := [Cond.fieldLink RX1 9 "Nettle$Cuts" "counts" "[I", Cond.fieldLink RX1 15 "Nettle$Cuts" "starts" "[I"]
def wsX5_leadOf : List Cond := .code yX5_leadOf cX5_leadOf 4 (some .int) :: ((wsX5_leadOf_r1 ++ (wsX5_leadOf_r2 ++ wsX5_leadOf_r3)) ++ wsX50 ++ wsX10 ++ wsX60 ++ wsX30)
def wsX5_allSteps : List Cond := .code yX5_allSteps cX5_allSteps 1 (some .int) :: ([.fieldLink RX5 33 "Nettle$Tree" "count" "I", .fieldLink RX5 18 "Nettle$Tree" "sums" "[I"] ++ wsX50)
def wsX6_init : List Cond := .code yX6_init cX6_init 2 none :: ([.methodLink RX6 3 objectInit, .instanceMethod objectInit, .code objectInit ⟨#[0xb1]⟩ 1 none, .classLink RX6 9 RX3, .fieldLink RX6 11 "Nettle$Wall" "rows" "[LNettle$Rule;", .instantiable RX3 4, .initialized RX3, .instanceMethod yX3_init, .code yX3_init cX3_init 1 none, .methodLink RX3 3 objectInit, .arrayClass .int, .fieldLink RX3 9 "Nettle$Rule" "lows" "[I", .fieldLink RX3 15 "Nettle$Rule" "highs" "[I"] ++ wsX60 ++ wsX30)
def wsX6_add : List Cond := .code yX6_add cX6_add 2 none :: ([.fieldLink RX6 11 "Nettle$Wall" "rows" "[LNettle$Rule;", .fieldLink RX6 18 "Nettle$Wall" "count" "I", .methodLink RX6 22 yX3_reset, .instanceMethod yX3_reset, .selects RX3 yX3_reset yX3_reset, .initialized RX3, .code yX3_reset cX3_reset 3 none, .fieldLink RX3 18 "Nettle$Rule" "verdict" "I", .fieldLink RX3 22 "Nettle$Rule" "hits" "I", .fieldLink RX3 9 "Nettle$Rule" "lows" "[I", .fieldLink RX3 15 "Nettle$Rule" "highs" "[I"] ++ wsX60 ++ wsX30)
def wsX6_shift : List Cond := .code yX6_shift cX6_shift 5 none :: ([.fieldLink RX6 11 "Nettle$Wall" "rows" "[LNettle$Rule;"] ++ wsX60)
def wsX6_remove : List Cond := .code yX6_remove cX6_remove 2 none :: ([.fieldLink RX6 18 "Nettle$Wall" "count" "I", .methodLink RX6 26 yX6_shift, .instanceMethod yX6_shift, .selects RX6 yX6_shift yX6_shift, .initialized RX6, .code yX6_shift cX6_shift 5 none, .fieldLink RX6 11 "Nettle$Wall" "rows" "[LNettle$Rule;"] ++ wsX60)
def wsX6_takeFrom : List Cond := .code yX6_takeFrom cX6_takeFrom 3 none :: ([.fieldLink RX6 18 "Nettle$Wall" "count" "I", .fieldLink RX6 11 "Nettle$Wall" "rows" "[LNettle$Rule;", .fieldLink RX6 34 "Nettle$Wall" "isLastAllow" "Z", .methodLink RX6 30 yX3_takeFrom, .instanceMethod yX3_takeFrom, .selects RX3 yX3_takeFrom yX3_takeFrom, .initialized RX3, .code yX3_takeFrom cX3_takeFrom 3 none, .fieldLink RX3 18 "Nettle$Rule" "verdict" "I", .fieldLink RX3 9 "Nettle$Rule" "lows" "[I", .fieldLink RX3 15 "Nettle$Rule" "highs" "[I"] ++ wsX60 ++ wsX30)
def wsX6_firstCover : List Cond := .code yX6_firstCover cX6_firstCover 3 (some .int) :: ([.fieldLink RX6 11 "Nettle$Wall" "rows" "[LNettle$Rule;", .methodLink RX6 38 yX3_isNote, .instanceMethod yX3_isNote, .selects RX3 yX3_isNote yX3_isNote, .initialized RX3, .code yX3_isNote cX3_isNote 1 (some .boolean), .fieldLink RX3 18 "Nettle$Rule" "verdict" "I", .methodLink RX6 73 yX3_covers, .instanceMethod yX3_covers, .selects RX3 yX3_covers yX3_covers, .code yX3_covers cX3_covers 3 (some .boolean), .fieldLink RX3 9 "Nettle$Rule" "lows" "[I", .fieldLink RX3 15 "Nettle$Rule" "highs" "[I"] ++ wsX60 ++ wsX30)
def wsX7_init_r1 : List Cond := [Cond.methodLink RX7 1 objectInit, Cond.instanceMethod objectInit, Cond.code objectInit ⟨#[0xb1]⟩ 1 none, Cond.classLink RX7 7 RX6, Cond.instantiable RX6 3, Cond.initialized RX6, Cond.fieldLink RX7 10 "Nettle" "wall" "LNettle$Wall;", Cond.fieldLink RX7 16 "Nettle" "copied" "LNettle$Wall;", Cond.classLink RX7 19 RX4, Cond.instantiable RX4 5, Cond.initialized RX4, Cond.fieldLink RX7 24 "Nettle" "survey" "LNettle$Survey;", Cond.classLink RX7 28 RX1, Cond.instantiable RX1 6, Cond.initialized RX1, Cond.fieldLink RX7 33 "Nettle" "cuts" "LNettle$Cuts;", Cond.classLink RX7 37 RX5, Cond.instantiable RX5 7, Cond.initialized RX5, Cond.fieldLink RX7 42 "Nettle" "tree" "LNettle$Tree;", Cond.classLink RX7 46 RX0, Cond.instantiable RX0 7, Cond.initialized RX0, Cond.fieldLink RX7 51 "Nettle" "comparison" "LNettle$Comparison;"]
def wsX7_init_r2 : List Cond := [Cond.classLink RX7 55 RX2, Cond.instantiable RX2 6, Cond.initialized RX2, Cond.fieldLink RX7 58 "Nettle" "log" "LNettle$Log;", Cond.arrayClass .int, Cond.fieldLink RX7 62 "Nettle" "packet" "[I", Cond.methodLink RX7 9 yX6_init, Cond.instanceMethod yX6_init, Cond.code yX6_init cX6_init 2 none, Cond.methodLink RX6 3 objectInit, Cond.classLink RX6 9 RX3, Cond.fieldLink RX6 11 "Nettle$Wall" "rows" "[LNettle$Rule;", Cond.instantiable RX3 4, Cond.initialized RX3, Cond.instanceMethod yX3_init, Cond.code yX3_init cX3_init 1 none, Cond.methodLink RX3 3 objectInit, Cond.fieldLink RX3 9 "Nettle$Rule" "lows" "[I", Cond.fieldLink RX3 15 "Nettle$Rule" "highs" "[I", Cond.methodLink RX7 21 yX4_init, Cond.instanceMethod yX4_init, Cond.code yX4_init cX4_init 2 none, Cond.methodLink RX4 3 objectInit, Cond.fieldLink RX4 9 "Nettle$Survey" "lows" "[I"]
def wsX7_init_r3 : List Cond := [Cond.fieldLink RX4 15 "Nettle$Survey" "highs" "[I", Cond.fieldLink RX4 18 "Nettle$Survey" "amounts" "[I", Cond.fieldLink RX4 21 "Nettle$Survey" "wall" "LNettle$Wall;", Cond.methodLink RX7 30 yX1_init, Cond.instanceMethod yX1_init, Cond.code yX1_init cX1_init 3 none, Cond.methodLink RX1 3 objectInit, Cond.fieldLink RX1 9 "Nettle$Cuts" "counts" "[I", Cond.fieldLink RX1 15 "Nettle$Cuts" "starts" "[I", Cond.fieldLink RX1 18 "Nettle$Cuts" "masks" "[I", Cond.fieldLink RX1 21 "Nettle$Cuts" "now" "LNettle$Wall;", Cond.fieldLink RX1 25 "Nettle$Cuts" "old" "LNettle$Wall;", Cond.methodLink RX7 39 yX5_init, Cond.instanceMethod yX5_init, Cond.code yX5_init cX5_init 3 none, Cond.methodLink RX5 3 objectInit, Cond.fieldLink RX5 9 "Nettle$Tree" "numbers" "[I", Cond.fieldLink RX5 15 "Nettle$Tree" "codes" "[I", Cond.fieldLink RX5 18 "Nettle$Tree" "sums" "[I", Cond.fieldLink RX5 21 "Nettle$Tree" "wall" "LNettle$Wall;", Cond.fieldLink RX5 25 "Nettle$Tree" "cuts" "LNettle$Cuts;", Cond.methodLink RX7 48 yX0_init, Cond.instanceMethod yX0_init, Cond.code yX0_init cX0_init 4 none]
def wsX7_init_r4 : List Cond := [Cond.methodLink RX0 3 objectInit, Cond.fieldLink RX0 9 "Nettle$Comparison" "first" "[I", Cond.fieldLink RX0 15 "Nettle$Comparison" "place" "[I", Cond.fieldLink RX0 18 "Nettle$Comparison" "now" "LNettle$Wall;", Cond.fieldLink RX0 22 "Nettle$Comparison" "old" "LNettle$Wall;", Cond.fieldLink RX0 25 "Nettle$Comparison" "cuts" "LNettle$Cuts;", Cond.instanceMethod yX2_init, Cond.code yX2_init cX2_init 1 none, Cond.methodLink RX2 3 objectInit, Cond.fieldLink RX2 9 "Nettle$Log" "rows" "[I"]
def wsX7_init : List Cond := .code yX7_init cX7_init 1 none :: ((wsX7_init_r1 ++ (wsX7_init_r2 ++ (wsX7_init_r3 ++ wsX7_init_r4))) ++ wsX60 ++ wsX70 ++ wsX40 ++ wsX10 ++ wsX50 ++ wsX00 ++ wsX20 ++ wsX30)
def wsX7_needVerdict : List Cond := .code yX7_needVerdict cX7_needVerdict 1 none :: ([.classLink RX7 99 "java/lang/IllegalArgumentException", .initialized "java/lang/IllegalArgumentException"] ++ (vx_atS RX7 103 "java/lang/IllegalArgumentException" ["java/lang/RuntimeException", "java/lang/Exception"]).filter goodWord)
def wsX7_outdate : List Cond := .code yX7_outdate cX7_outdate 1 none :: ([.fieldLink RX7 24 "Nettle" "survey" "LNettle$Survey;", .fieldLink RX7 371 "Nettle$Survey" "isFresh" "Z", .fieldLink RX7 33 "Nettle" "cuts" "LNettle$Cuts;", .fieldLink RX7 374 "Nettle$Cuts" "isFresh" "Z", .fieldLink RX7 42 "Nettle" "tree" "LNettle$Tree;", .fieldLink RX7 375 "Nettle$Tree" "isFresh" "Z", .fieldLink RX7 51 "Nettle" "comparison" "LNettle$Comparison;", .fieldLink RX7 376 "Nettle$Comparison" "isFresh" "Z"] ++ wsX70 ++ wsX40 ++ wsX10 ++ wsX50 ++ wsX00)
def wsX7_rule_r1 : List Cond := [Cond.classLink RX7 74 "java/lang/IllegalStateException", Cond.initialized "java/lang/IllegalStateException", Cond.fieldLink RX7 10 "Nettle" "wall" "LNettle$Wall;", Cond.fieldLink RX7 70 "Nettle$Wall" "count" "I", Cond.methodLink RX7 66 yX7_needVerdict, Cond.static yX7_needVerdict, Cond.initialized RX7, Cond.code yX7_needVerdict cX7_needVerdict 1 none, Cond.classLink RX7 99 "java/lang/IllegalArgumentException", Cond.initialized "java/lang/IllegalArgumentException", Cond.methodLink RX7 81 yX6_add, Cond.instanceMethod yX6_add, Cond.selects RX6 yX6_add yX6_add, Cond.initialized RX6, Cond.code yX6_add cX6_add 2 none, Cond.fieldLink RX6 11 "Nettle$Wall" "rows" "[LNettle$Rule;", Cond.fieldLink RX6 18 "Nettle$Wall" "count" "I", Cond.methodLink RX6 22 yX3_reset, Cond.instanceMethod yX3_reset, Cond.selects RX3 yX3_reset yX3_reset, Cond.initialized RX3, Cond.code yX3_reset cX3_reset 3 none, Cond.fieldLink RX3 18 "Nettle$Rule" "verdict" "I", Cond.fieldLink RX3 22 "Nettle$Rule" "hits" "I"]
def wsX7_rule_r2 : List Cond := [Cond.fieldLink RX3 9 "Nettle$Rule" "lows" "[I", Cond.fieldLink RX3 15 "Nettle$Rule" "highs" "[I", Cond.methodLink RX7 84 yX7_outdate, Cond.instanceMethod yX7_outdate, Cond.selects RX7 yX7_outdate yX7_outdate, Cond.code yX7_outdate cX7_outdate 1 none, Cond.fieldLink RX7 24 "Nettle" "survey" "LNettle$Survey;", Cond.fieldLink RX7 371 "Nettle$Survey" "isFresh" "Z", Cond.fieldLink RX7 33 "Nettle" "cuts" "LNettle$Cuts;", Cond.fieldLink RX7 374 "Nettle$Cuts" "isFresh" "Z", Cond.fieldLink RX7 42 "Nettle" "tree" "LNettle$Tree;", Cond.fieldLink RX7 375 "Nettle$Tree" "isFresh" "Z", Cond.fieldLink RX7 51 "Nettle" "comparison" "LNettle$Comparison;", Cond.fieldLink RX7 376 "Nettle$Comparison" "isFresh" "Z"]
def wsX7_rule : List Cond := .code yX7_rule cX7_rule 2 (some .int) :: ((wsX7_rule_r1 ++ wsX7_rule_r2) ++ wsX70 ++ wsX60 ++ wsX30 ++ wsX40 ++ wsX10 ++ wsX50 ++ wsX00 ++ (vx_atS RX7 78 "java/lang/IllegalStateException" ["java/lang/RuntimeException", "java/lang/Exception"]).filter goodWord ++ (vx_atS RX7 103 "java/lang/IllegalArgumentException" ["java/lang/RuntimeException", "java/lang/Exception"]).filter goodWord)
def wsX7_needRule : List Cond := .code yX7_needRule cX7_needRule 2 none :: ([.classLink RX7 90 "java/lang/IndexOutOfBoundsException", .initialized "java/lang/IndexOutOfBoundsException", .fieldLink RX7 10 "Nettle" "wall" "LNettle$Wall;", .fieldLink RX7 70 "Nettle$Wall" "count" "I"] ++ wsX70 ++ wsX60 ++ (vx_atS RX7 94 "java/lang/IndexOutOfBoundsException" ["java/lang/RuntimeException", "java/lang/Exception"]).filter goodWord)
def wsX7_isValue : List Cond := .code yX7_isValue cX7_isValue 2 (some .boolean) :: ([.fieldLink RX7 366 "Nettle" "SIZES" "[I"])
def wsX7_narrow_r1 : List Cond := [Cond.classLink RX7 90 "java/lang/IndexOutOfBoundsException", Cond.initialized "java/lang/IndexOutOfBoundsException", Cond.classLink RX7 99 "java/lang/IllegalArgumentException", Cond.initialized "java/lang/IllegalArgumentException", Cond.fieldLink RX7 10 "Nettle" "wall" "LNettle$Wall;", Cond.fieldLink RX7 104 "Nettle$Wall" "rows" "[LNettle$Rule;", Cond.fieldLink RX7 114 "Nettle$Rule" "lows" "[I", Cond.fieldLink RX7 117 "Nettle$Rule" "highs" "[I", Cond.methodLink RX7 87 yX7_needRule, Cond.instanceMethod yX7_needRule, Cond.selects RX7 yX7_needRule yX7_needRule, Cond.initialized RX7, Cond.code yX7_needRule cX7_needRule 2 none, Cond.fieldLink RX7 70 "Nettle$Wall" "count" "I", Cond.methodLink RX7 95 yX7_isValue, Cond.static yX7_isValue, Cond.code yX7_isValue cX7_isValue 2 (some .boolean), Cond.fieldLink RX7 366 "Nettle" "SIZES" "[I", Cond.methodLink RX7 108 yX3_width, Cond.instanceMethod yX3_width, Cond.selects RX3 yX3_width yX3_width, Cond.initialized RX3, Cond.code yX3_width cX3_width 2 (some .int), Cond.fieldLink RX3 15 "Nettle$Rule" "highs" "[I"]
def wsX7_narrow_r2 : List Cond := [Cond.fieldLink RX3 9 "Nettle$Rule" "lows" "[I", Cond.methodLink RX7 84 yX7_outdate, Cond.instanceMethod yX7_outdate, Cond.selects RX7 yX7_outdate yX7_outdate, Cond.code yX7_outdate cX7_outdate 1 none, Cond.fieldLink RX7 24 "Nettle" "survey" "LNettle$Survey;", Cond.fieldLink RX7 371 "Nettle$Survey" "isFresh" "Z", Cond.fieldLink RX7 33 "Nettle" "cuts" "LNettle$Cuts;", Cond.fieldLink RX7 374 "Nettle$Cuts" "isFresh" "Z", Cond.fieldLink RX7 42 "Nettle" "tree" "LNettle$Tree;", Cond.fieldLink RX7 375 "Nettle$Tree" "isFresh" "Z", Cond.fieldLink RX7 51 "Nettle" "comparison" "LNettle$Comparison;", Cond.fieldLink RX7 376 "Nettle$Comparison" "isFresh" "Z"]
def wsX7_narrow : List Cond := .code yX7_narrow cX7_narrow 6 (some .int) :: ((wsX7_narrow_r1 ++ wsX7_narrow_r2) ++ wsX70 ++ wsX60 ++ wsX30 ++ wsX40 ++ wsX10 ++ wsX50 ++ wsX00 ++ (vx_atS RX7 94 "java/lang/IndexOutOfBoundsException" ["java/lang/RuntimeException", "java/lang/Exception"]).filter goodWord ++ (vx_atS RX7 103 "java/lang/IllegalArgumentException" ["java/lang/RuntimeException", "java/lang/Exception"]).filter goodWord)
def wsX7_turn_r1 : List Cond := [Cond.fieldLink RX7 10 "Nettle" "wall" "LNettle$Wall;", Cond.fieldLink RX7 104 "Nettle$Wall" "rows" "[LNettle$Rule;", Cond.fieldLink RX7 120 "Nettle$Rule" "verdict" "I", Cond.methodLink RX7 87 yX7_needRule, Cond.instanceMethod yX7_needRule, Cond.selects RX7 yX7_needRule yX7_needRule, Cond.initialized RX7, Cond.code yX7_needRule cX7_needRule 2 none, Cond.classLink RX7 90 "java/lang/IndexOutOfBoundsException", Cond.initialized "java/lang/IndexOutOfBoundsException", Cond.fieldLink RX7 70 "Nettle$Wall" "count" "I", Cond.methodLink RX7 66 yX7_needVerdict, Cond.static yX7_needVerdict, Cond.code yX7_needVerdict cX7_needVerdict 1 none, Cond.classLink RX7 99 "java/lang/IllegalArgumentException", Cond.initialized "java/lang/IllegalArgumentException", Cond.methodLink RX7 84 yX7_outdate, Cond.instanceMethod yX7_outdate, Cond.selects RX7 yX7_outdate yX7_outdate, Cond.code yX7_outdate cX7_outdate 1 none, Cond.fieldLink RX7 24 "Nettle" "survey" "LNettle$Survey;", Cond.fieldLink RX7 371 "Nettle$Survey" "isFresh" "Z", Cond.fieldLink RX7 33 "Nettle" "cuts" "LNettle$Cuts;", Cond.fieldLink RX7 374 "Nettle$Cuts" "isFresh" "Z"]
def wsX7_turn_r2 : List Cond := [Cond.fieldLink RX7 42 "Nettle" "tree" "LNettle$Tree;", Cond.fieldLink RX7 375 "Nettle$Tree" "isFresh" "Z", Cond.fieldLink RX7 51 "Nettle" "comparison" "LNettle$Comparison;", Cond.fieldLink RX7 376 "Nettle$Comparison" "isFresh" "Z"]
def wsX7_turn : List Cond := .code yX7_turn cX7_turn 4 (some .int) :: ((wsX7_turn_r1 ++ wsX7_turn_r2) ++ wsX70 ++ wsX60 ++ wsX30 ++ wsX40 ++ wsX10 ++ wsX50 ++ wsX00 ++ (vx_atS RX7 94 "java/lang/IndexOutOfBoundsException" ["java/lang/RuntimeException", "java/lang/Exception"]).filter goodWord ++ (vx_atS RX7 103 "java/lang/IllegalArgumentException" ["java/lang/RuntimeException", "java/lang/Exception"]).filter goodWord)
def wsX7_move_r1 : List Cond := [Cond.fieldLink RX7 10 "Nettle" "wall" "LNettle$Wall;", Cond.methodLink RX7 127 Lib.Math.abs.name, Cond.static Lib.Math.abs.name, Cond.initialized "java/lang/Math", Cond.code Lib.Math.abs.name Lib.Math.abs.code 1 (some .int), Cond.methodLink RX7 87 yX7_needRule, Cond.instanceMethod yX7_needRule, Cond.selects RX7 yX7_needRule yX7_needRule, Cond.initialized RX7, Cond.code yX7_needRule cX7_needRule 2 none, Cond.classLink RX7 90 "java/lang/IndexOutOfBoundsException", Cond.initialized "java/lang/IndexOutOfBoundsException", Cond.fieldLink RX7 70 "Nettle$Wall" "count" "I", Cond.methodLink RX7 123 yX6_shift, Cond.instanceMethod yX6_shift, Cond.selects RX6 yX6_shift yX6_shift, Cond.initialized RX6, Cond.code yX6_shift cX6_shift 5 none, Cond.fieldLink RX6 11 "Nettle$Wall" "rows" "[LNettle$Rule;", Cond.methodLink RX7 84 yX7_outdate, Cond.instanceMethod yX7_outdate, Cond.selects RX7 yX7_outdate yX7_outdate, Cond.code yX7_outdate cX7_outdate 1 none, Cond.fieldLink RX7 24 "Nettle" "survey" "LNettle$Survey;"]
def wsX7_move_r2 : List Cond := [Cond.fieldLink RX7 371 "Nettle$Survey" "isFresh" "Z", Cond.fieldLink RX7 33 "Nettle" "cuts" "LNettle$Cuts;", Cond.fieldLink RX7 374 "Nettle$Cuts" "isFresh" "Z", Cond.fieldLink RX7 42 "Nettle" "tree" "LNettle$Tree;", Cond.fieldLink RX7 375 "Nettle$Tree" "isFresh" "Z", Cond.fieldLink RX7 51 "Nettle" "comparison" "LNettle$Comparison;", Cond.fieldLink RX7 376 "Nettle$Comparison" "isFresh" "Z"]
def wsX7_move : List Cond := .code yX7_move cX7_move 3 (some .int) :: ((wsX7_move_r1 ++ wsX7_move_r2) ++ wsX70 ++ wsX60 ++ wsX40 ++ wsX10 ++ wsX50 ++ wsX00 ++ (vx_atS RX7 94 "java/lang/IndexOutOfBoundsException" ["java/lang/RuntimeException", "java/lang/Exception"]).filter goodWord)
def wsX7_drop_r1 : List Cond := [Cond.fieldLink RX7 10 "Nettle" "wall" "LNettle$Wall;", Cond.fieldLink RX7 70 "Nettle$Wall" "count" "I", Cond.methodLink RX7 87 yX7_needRule, Cond.instanceMethod yX7_needRule, Cond.selects RX7 yX7_needRule yX7_needRule, Cond.initialized RX7, Cond.code yX7_needRule cX7_needRule 2 none, Cond.classLink RX7 90 "java/lang/IndexOutOfBoundsException", Cond.initialized "java/lang/IndexOutOfBoundsException", Cond.methodLink RX7 132 yX6_remove, Cond.instanceMethod yX6_remove, Cond.selects RX6 yX6_remove yX6_remove, Cond.initialized RX6, Cond.code yX6_remove cX6_remove 2 none, Cond.fieldLink RX6 18 "Nettle$Wall" "count" "I", Cond.methodLink RX6 26 yX6_shift, Cond.instanceMethod yX6_shift, Cond.selects RX6 yX6_shift yX6_shift, Cond.code yX6_shift cX6_shift 5 none, Cond.fieldLink RX6 11 "Nettle$Wall" "rows" "[LNettle$Rule;", Cond.methodLink RX7 84 yX7_outdate, Cond.instanceMethod yX7_outdate, Cond.selects RX7 yX7_outdate yX7_outdate, Cond.code yX7_outdate cX7_outdate 1 none]
def wsX7_drop_r2 : List Cond := [Cond.fieldLink RX7 24 "Nettle" "survey" "LNettle$Survey;", Cond.fieldLink RX7 371 "Nettle$Survey" "isFresh" "Z", Cond.fieldLink RX7 33 "Nettle" "cuts" "LNettle$Cuts;", Cond.fieldLink RX7 374 "Nettle$Cuts" "isFresh" "Z", Cond.fieldLink RX7 42 "Nettle" "tree" "LNettle$Tree;", Cond.fieldLink RX7 375 "Nettle$Tree" "isFresh" "Z", Cond.fieldLink RX7 51 "Nettle" "comparison" "LNettle$Comparison;", Cond.fieldLink RX7 376 "Nettle$Comparison" "isFresh" "Z"]
def wsX7_drop : List Cond := .code yX7_drop cX7_drop 2 (some .int) :: ((wsX7_drop_r1 ++ wsX7_drop_r2) ++ wsX70 ++ wsX60 ++ wsX40 ++ wsX10 ++ wsX50 ++ wsX00 ++ (vx_atS RX7 94 "java/lang/IndexOutOfBoundsException" ["java/lang/RuntimeException", "java/lang/Exception"]).filter goodWord)
def wsX7_setLast : List Cond := .code yX7_setLast cX7_setLast 3 (some .boolean) :: ([.fieldLink RX7 10 "Nettle" "wall" "LNettle$Wall;", .fieldLink RX7 135 "Nettle$Wall" "isLastAllow" "Z", .methodLink RX7 84 yX7_outdate, .instanceMethod yX7_outdate, .selects RX7 yX7_outdate yX7_outdate, .initialized RX7, .code yX7_outdate cX7_outdate 1 none, .fieldLink RX7 24 "Nettle" "survey" "LNettle$Survey;", .fieldLink RX7 371 "Nettle$Survey" "isFresh" "Z", .fieldLink RX7 33 "Nettle" "cuts" "LNettle$Cuts;", .fieldLink RX7 374 "Nettle$Cuts" "isFresh" "Z", .fieldLink RX7 42 "Nettle" "tree" "LNettle$Tree;", .fieldLink RX7 375 "Nettle$Tree" "isFresh" "Z", .fieldLink RX7 51 "Nettle" "comparison" "LNettle$Comparison;", .fieldLink RX7 376 "Nettle$Comparison" "isFresh" "Z"] ++ wsX70 ++ wsX60 ++ wsX40 ++ wsX10 ++ wsX50 ++ wsX00)
def wsX7_rules : List Cond := .code yX7_rules cX7_rules 1 (some .int) :: ([.fieldLink RX7 10 "Nettle" "wall" "LNettle$Wall;", .fieldLink RX7 70 "Nettle$Wall" "count" "I"] ++ wsX70 ++ wsX60)
def wsX7_needWhat : List Cond := .code yX7_needWhat cX7_needWhat 2 none :: ([.classLink RX7 99 "java/lang/IllegalArgumentException", .initialized "java/lang/IllegalArgumentException"] ++ (vx_atS RX7 103 "java/lang/IllegalArgumentException" ["java/lang/RuntimeException", "java/lang/Exception"]).filter goodWord)
def wsX7_ofRule : List Cond := .code yX7_ofRule cX7_ofRule 5 (some .int) :: ([.fieldLink RX7 10 "Nettle" "wall" "LNettle$Wall;", .fieldLink RX7 104 "Nettle$Wall" "rows" "[LNettle$Rule;", .fieldLink RX7 120 "Nettle$Rule" "verdict" "I", .fieldLink RX7 146 "Nettle$Rule" "hits" "I", .fieldLink RX7 114 "Nettle$Rule" "lows" "[I", .fieldLink RX7 117 "Nettle$Rule" "highs" "[I", .methodLink RX7 87 yX7_needRule, .instanceMethod yX7_needRule, .selects RX7 yX7_needRule yX7_needRule, .initialized RX7, .code yX7_needRule cX7_needRule 2 none, .classLink RX7 90 "java/lang/IndexOutOfBoundsException", .initialized "java/lang/IndexOutOfBoundsException", .fieldLink RX7 70 "Nettle$Wall" "count" "I", .methodLink RX7 143 yX7_needWhat, .static yX7_needWhat, .code yX7_needWhat cX7_needWhat 2 none, .classLink RX7 99 "java/lang/IllegalArgumentException", .initialized "java/lang/IllegalArgumentException"] ++ wsX70 ++ wsX60 ++ wsX30 ++ (vx_atS RX7 94 "java/lang/IndexOutOfBoundsException" ["java/lang/RuntimeException", "java/lang/Exception"]).filter goodWord ++ (vx_atS RX7 103 "java/lang/IllegalArgumentException" ["java/lang/RuntimeException", "java/lang/Exception"]).filter goodWord)
def wsX7_surveyed_r1 : List Cond := [Cond.fieldLink RX7 24 "Nettle" "survey" "LNettle$Survey;", Cond.methodLink RX7 377 yX4_refresh, Cond.instanceMethod yX4_refresh, Cond.selects RX4 yX4_refresh yX4_refresh, Cond.initialized RX4, Cond.code yX4_refresh cX4_refresh 2 none, Cond.fieldLink RX4 25 "Nettle$Survey" "isFresh" "Z", Cond.fieldLink RX4 9 "Nettle$Survey" "lows" "[I", Cond.fieldLink RX4 15 "Nettle$Survey" "highs" "[I", Cond.fieldLink RX4 18 "Nettle$Survey" "amounts" "[I", Cond.methodLink RX4 35 yX4_setCount, Cond.instanceMethod yX4_setCount, Cond.selects RX4 yX4_setCount yX4_setCount, Cond.code yX4_setCount cX4_setCount 1 (some .int), Cond.fieldLink RX4 21 "Nettle$Survey" "wall" "LNettle$Wall;", Cond.fieldLink RX4 46 "Nettle$Wall" "count" "I", Cond.methodLink RX4 39 yX4_measure, Cond.instanceMethod yX4_measure, Cond.selects RX4 yX4_measure yX4_measure, Cond.code yX4_measure cX4_measure 9 none, Cond.fieldLink RX4 56 "Nettle$Wall" "rows" "[LNettle$Rule;", Cond.fieldLink RX4 60 "Nettle$Rule" "lows" "[I", Cond.methodLink RX4 63 Lib.Math.max.name, Cond.static Lib.Math.max.name]
def wsX7_surveyed_r2 : List Cond := [Cond.initialized "java/lang/Math", Cond.code Lib.Math.max.name Lib.Math.max.code 2 (some .int), Cond.fieldLink RX4 69 "Nettle$Rule" "highs" "[I", Cond.methodLink RX4 70 Lib.Math.min.name, Cond.static Lib.Math.min.name, Cond.code Lib.Math.min.name Lib.Math.min.code 2 (some .int), Cond.methodLink RX4 52 yX6_firstOf, Cond.instanceMethod yX6_firstOf, Cond.selects RX6 yX6_firstOf yX6_firstOf, Cond.initialized RX6, Cond.code yX6_firstOf cX6_firstOf 3 (some .int), Cond.fieldLink RX6 18 "Nettle$Wall" "count" "I", Cond.methodLink RX4 43 yX4_takeOutLarger, Cond.instanceMethod yX4_takeOutLarger, Cond.selects RX4 yX4_takeOutLarger yX4_takeOutLarger, Cond.code yX4_takeOutLarger cX4_takeOutLarger 4 none]
def wsX7_surveyed : List Cond := .code yX7_surveyed cX7_surveyed 1 (some (.object "Nettle$Survey")) :: ((wsX7_surveyed_r1 ++ wsX7_surveyed_r2) ++ wsX70 ++ wsX40 ++ wsX60 ++ wsX30)
def wsX7_decides_r1 : List Cond := [Cond.methodLink RX7 87 yX7_needRule, Cond.instanceMethod yX7_needRule, Cond.selects RX7 yX7_needRule yX7_needRule, Cond.initialized RX7, Cond.code yX7_needRule cX7_needRule 2 none, Cond.classLink RX7 90 "java/lang/IndexOutOfBoundsException", Cond.initialized "java/lang/IndexOutOfBoundsException", Cond.fieldLink RX7 10 "Nettle" "wall" "LNettle$Wall;", Cond.fieldLink RX7 70 "Nettle$Wall" "count" "I", Cond.methodLink RX7 149 yX7_surveyed, Cond.instanceMethod yX7_surveyed, Cond.selects RX7 yX7_surveyed yX7_surveyed, Cond.code yX7_surveyed cX7_surveyed 1 (some (.object "Nettle$Survey")), Cond.fieldLink RX7 24 "Nettle" "survey" "LNettle$Survey;", Cond.methodLink RX7 377 yX4_refresh, Cond.instanceMethod yX4_refresh, Cond.selects RX4 yX4_refresh yX4_refresh, Cond.initialized RX4, Cond.code yX4_refresh cX4_refresh 2 none, Cond.fieldLink RX4 25 "Nettle$Survey" "isFresh" "Z", Cond.fieldLink RX4 9 "Nettle$Survey" "lows" "[I", Cond.fieldLink RX4 15 "Nettle$Survey" "highs" "[I", Cond.fieldLink RX4 18 "Nettle$Survey" "amounts" "[I", Cond.methodLink RX4 35 yX4_setCount]
def wsX7_decides_r2 : List Cond := [Cond.instanceMethod yX4_setCount, Cond.selects RX4 yX4_setCount yX4_setCount, Cond.code yX4_setCount cX4_setCount 1 (some .int), Cond.fieldLink RX4 21 "Nettle$Survey" "wall" "LNettle$Wall;", Cond.fieldLink RX4 46 "Nettle$Wall" "count" "I", Cond.methodLink RX4 39 yX4_measure, Cond.instanceMethod yX4_measure, Cond.selects RX4 yX4_measure yX4_measure, Cond.code yX4_measure cX4_measure 9 none, Cond.fieldLink RX4 56 "Nettle$Wall" "rows" "[LNettle$Rule;", Cond.fieldLink RX4 60 "Nettle$Rule" "lows" "[I", Cond.methodLink RX4 63 Lib.Math.max.name, Cond.static Lib.Math.max.name, Cond.initialized "java/lang/Math", Cond.code Lib.Math.max.name Lib.Math.max.code 2 (some .int), Cond.fieldLink RX4 69 "Nettle$Rule" "highs" "[I", Cond.methodLink RX4 70 Lib.Math.min.name, Cond.static Lib.Math.min.name, Cond.code Lib.Math.min.name Lib.Math.min.code 2 (some .int), Cond.methodLink RX4 52 yX6_firstOf, Cond.instanceMethod yX6_firstOf, Cond.selects RX6 yX6_firstOf yX6_firstOf, Cond.initialized RX6, Cond.code yX6_firstOf cX6_firstOf 3 (some .int)]
def wsX7_decides_r3 : List Cond := [Cond.fieldLink RX6 18 "Nettle$Wall" "count" "I", Cond.methodLink RX4 43 yX4_takeOutLarger, Cond.instanceMethod yX4_takeOutLarger, Cond.selects RX4 yX4_takeOutLarger yX4_takeOutLarger, Cond.code yX4_takeOutLarger cX4_takeOutLarger 4 none, Cond.methodLink RX7 153 yX4_amountOf, Cond.instanceMethod yX4_amountOf, Cond.selects RX4 yX4_amountOf yX4_amountOf, Cond.code yX4_amountOf cX4_amountOf 6 (some .int), Cond.methodLink RX4 73 yX6_deciders, Cond.instanceMethod yX6_deciders, Cond.selects RX6 yX6_deciders yX6_deciders, Cond.code yX6_deciders cX6_deciders 3 (some .int), Cond.fieldLink RX6 11 "Nettle$Wall" "rows" "[LNettle$Rule;", Cond.methodLink RX6 38 yX3_isNote, Cond.instanceMethod yX3_isNote, Cond.selects RX3 yX3_isNote yX3_isNote, Cond.initialized RX3, Cond.code yX3_isNote cX3_isNote 1 (some .boolean), Cond.fieldLink RX3 18 "Nettle$Rule" "verdict" "I"]
def wsX7_decides : List Cond := .code yX7_decides cX7_decides 2 (some .int) :: ((wsX7_decides_r1 ++ (wsX7_decides_r2 ++ wsX7_decides_r3)) ++ wsX70 ++ wsX60 ++ wsX40 ++ wsX30 ++ (vx_atS RX7 94 "java/lang/IndexOutOfBoundsException" ["java/lang/RuntimeException", "java/lang/Exception"]).filter goodWord)
def wsX7_allowed_r1 : List Cond := [Cond.methodLink RX7 149 yX7_surveyed, Cond.instanceMethod yX7_surveyed, Cond.selects RX7 yX7_surveyed yX7_surveyed, Cond.initialized RX7, Cond.code yX7_surveyed cX7_surveyed 1 (some (.object "Nettle$Survey")), Cond.fieldLink RX7 24 "Nettle" "survey" "LNettle$Survey;", Cond.methodLink RX7 377 yX4_refresh, Cond.instanceMethod yX4_refresh, Cond.selects RX4 yX4_refresh yX4_refresh, Cond.initialized RX4, Cond.code yX4_refresh cX4_refresh 2 none, Cond.fieldLink RX4 25 "Nettle$Survey" "isFresh" "Z", Cond.fieldLink RX4 9 "Nettle$Survey" "lows" "[I", Cond.fieldLink RX4 15 "Nettle$Survey" "highs" "[I", Cond.fieldLink RX4 18 "Nettle$Survey" "amounts" "[I", Cond.methodLink RX4 35 yX4_setCount, Cond.instanceMethod yX4_setCount, Cond.selects RX4 yX4_setCount yX4_setCount, Cond.code yX4_setCount cX4_setCount 1 (some .int), Cond.fieldLink RX4 21 "Nettle$Survey" "wall" "LNettle$Wall;", Cond.fieldLink RX4 46 "Nettle$Wall" "count" "I", Cond.methodLink RX4 39 yX4_measure, Cond.instanceMethod yX4_measure, Cond.selects RX4 yX4_measure yX4_measure]
def wsX7_allowed_r2 : List Cond := [Cond.code yX4_measure cX4_measure 9 none, Cond.fieldLink RX4 56 "Nettle$Wall" "rows" "[LNettle$Rule;", Cond.fieldLink RX4 60 "Nettle$Rule" "lows" "[I", Cond.methodLink RX4 63 Lib.Math.max.name, Cond.static Lib.Math.max.name, Cond.initialized "java/lang/Math", Cond.code Lib.Math.max.name Lib.Math.max.code 2 (some .int), Cond.fieldLink RX4 69 "Nettle$Rule" "highs" "[I", Cond.methodLink RX4 70 Lib.Math.min.name, Cond.static Lib.Math.min.name, Cond.code Lib.Math.min.name Lib.Math.min.code 2 (some .int), Cond.methodLink RX4 52 yX6_firstOf, Cond.instanceMethod yX6_firstOf, Cond.selects RX6 yX6_firstOf yX6_firstOf, Cond.initialized RX6, Cond.code yX6_firstOf cX6_firstOf 3 (some .int), Cond.fieldLink RX6 18 "Nettle$Wall" "count" "I", Cond.methodLink RX4 43 yX4_takeOutLarger, Cond.instanceMethod yX4_takeOutLarger, Cond.selects RX4 yX4_takeOutLarger yX4_takeOutLarger, Cond.code yX4_takeOutLarger cX4_takeOutLarger 4 none, Cond.methodLink RX7 156 yX4_amountAllowed, Cond.instanceMethod yX4_amountAllowed, Cond.selects RX4 yX4_amountAllowed yX4_amountAllowed]
def wsX7_allowed_r3 : List Cond := [Cond.code yX4_amountAllowed cX4_amountAllowed 5 (some .int), Cond.methodLink RX4 73 yX6_deciders, Cond.instanceMethod yX6_deciders, Cond.selects RX6 yX6_deciders yX6_deciders, Cond.code yX6_deciders cX6_deciders 3 (some .int), Cond.fieldLink RX6 11 "Nettle$Wall" "rows" "[LNettle$Rule;", Cond.methodLink RX6 38 yX3_isNote, Cond.instanceMethod yX3_isNote, Cond.selects RX3 yX3_isNote yX3_isNote, Cond.initialized RX3, Cond.code yX3_isNote cX3_isNote 1 (some .boolean), Cond.fieldLink RX3 18 "Nettle$Rule" "verdict" "I", Cond.methodLink RX4 76 yX6_allows, Cond.instanceMethod yX6_allows, Cond.selects RX6 yX6_allows yX6_allows, Cond.code yX6_allows cX6_allows 3 (some .boolean), Cond.fieldLink RX6 34 "Nettle$Wall" "isLastAllow" "Z", Cond.fieldLink RX6 66 "Nettle$Rule" "verdict" "I", Cond.methodLink RX6 62 yX6_firstOf]
def wsX7_allowed : List Cond := .code yX7_allowed cX7_allowed 1 (some .int) :: ((wsX7_allowed_r1 ++ (wsX7_allowed_r2 ++ wsX7_allowed_r3)) ++ wsX70 ++ wsX40 ++ wsX60 ++ wsX30)
def wsX7_state_r1 : List Cond := [Cond.fieldLink RX7 10 "Nettle" "wall" "LNettle$Wall;", Cond.fieldLink RX7 104 "Nettle$Wall" "rows" "[LNettle$Rule;", Cond.fieldLink RX7 120 "Nettle$Rule" "verdict" "I", Cond.methodLink RX7 87 yX7_needRule, Cond.instanceMethod yX7_needRule, Cond.selects RX7 yX7_needRule yX7_needRule, Cond.initialized RX7, Cond.code yX7_needRule cX7_needRule 2 none, Cond.classLink RX7 90 "java/lang/IndexOutOfBoundsException", Cond.initialized "java/lang/IndexOutOfBoundsException", Cond.fieldLink RX7 70 "Nettle$Wall" "count" "I", Cond.methodLink RX7 149 yX7_surveyed, Cond.instanceMethod yX7_surveyed, Cond.selects RX7 yX7_surveyed yX7_surveyed, Cond.code yX7_surveyed cX7_surveyed 1 (some (.object "Nettle$Survey")), Cond.fieldLink RX7 24 "Nettle" "survey" "LNettle$Survey;", Cond.methodLink RX7 377 yX4_refresh, Cond.instanceMethod yX4_refresh, Cond.selects RX4 yX4_refresh yX4_refresh, Cond.initialized RX4, Cond.code yX4_refresh cX4_refresh 2 none, Cond.fieldLink RX4 25 "Nettle$Survey" "isFresh" "Z", Cond.fieldLink RX4 9 "Nettle$Survey" "lows" "[I", Cond.fieldLink RX4 15 "Nettle$Survey" "highs" "[I"]
def wsX7_state_r2 : List Cond := [Cond.fieldLink RX4 18 "Nettle$Survey" "amounts" "[I", Cond.methodLink RX4 35 yX4_setCount, Cond.instanceMethod yX4_setCount, Cond.selects RX4 yX4_setCount yX4_setCount, Cond.code yX4_setCount cX4_setCount 1 (some .int), Cond.fieldLink RX4 21 "Nettle$Survey" "wall" "LNettle$Wall;", Cond.fieldLink RX4 46 "Nettle$Wall" "count" "I", Cond.methodLink RX4 39 yX4_measure, Cond.instanceMethod yX4_measure, Cond.selects RX4 yX4_measure yX4_measure, Cond.code yX4_measure cX4_measure 9 none, Cond.fieldLink RX4 56 "Nettle$Wall" "rows" "[LNettle$Rule;", Cond.fieldLink RX4 60 "Nettle$Rule" "lows" "[I", Cond.methodLink RX4 63 Lib.Math.max.name, Cond.static Lib.Math.max.name, Cond.initialized "java/lang/Math", Cond.code Lib.Math.max.name Lib.Math.max.code 2 (some .int), Cond.fieldLink RX4 69 "Nettle$Rule" "highs" "[I", Cond.methodLink RX4 70 Lib.Math.min.name, Cond.static Lib.Math.min.name, Cond.code Lib.Math.min.name Lib.Math.min.code 2 (some .int), Cond.methodLink RX4 52 yX6_firstOf, Cond.instanceMethod yX6_firstOf, Cond.selects RX6 yX6_firstOf yX6_firstOf]
def wsX7_state_r3 : List Cond := [Cond.initialized RX6, Cond.code yX6_firstOf cX6_firstOf 3 (some .int), Cond.fieldLink RX6 18 "Nettle$Wall" "count" "I", Cond.methodLink RX4 43 yX4_takeOutLarger, Cond.instanceMethod yX4_takeOutLarger, Cond.selects RX4 yX4_takeOutLarger yX4_takeOutLarger, Cond.code yX4_takeOutLarger cX4_takeOutLarger 4 none, Cond.methodLink RX7 159 yX4_isDead, Cond.instanceMethod yX4_isDead, Cond.selects RX4 yX4_isDead yX4_isDead, Cond.code yX4_isDead cX4_isDead 2 (some .boolean), Cond.methodLink RX4 80 yX4_amountOf, Cond.instanceMethod yX4_amountOf, Cond.selects RX4 yX4_amountOf yX4_amountOf, Cond.code yX4_amountOf cX4_amountOf 6 (some .int), Cond.methodLink RX4 73 yX6_deciders, Cond.instanceMethod yX6_deciders, Cond.selects RX6 yX6_deciders yX6_deciders, Cond.code yX6_deciders cX6_deciders 3 (some .int), Cond.fieldLink RX6 11 "Nettle$Wall" "rows" "[LNettle$Rule;", Cond.methodLink RX6 38 yX3_isNote, Cond.instanceMethod yX3_isNote, Cond.selects RX3 yX3_isNote yX3_isNote, Cond.initialized RX3]
def wsX7_state_r4 : List Cond := [Cond.code yX3_isNote cX3_isNote 1 (some .boolean), Cond.fieldLink RX3 18 "Nettle$Rule" "verdict" "I", Cond.methodLink RX7 163 yX4_isNeedless, Cond.instanceMethod yX4_isNeedless, Cond.selects RX4 yX4_isNeedless yX4_isNeedless, Cond.code yX4_isNeedless cX4_isNeedless 5 (some .boolean), Cond.methodLink RX4 83 yX3_isNote, Cond.methodLink RX4 76 yX6_allows, Cond.instanceMethod yX6_allows, Cond.selects RX6 yX6_allows yX6_allows, Cond.code yX6_allows cX6_allows 3 (some .boolean), Cond.fieldLink RX6 34 "Nettle$Wall" "isLastAllow" "Z", Cond.fieldLink RX6 66 "Nettle$Rule" "verdict" "I", Cond.methodLink RX6 62 yX6_firstOf, Cond.methodLink RX7 166 yX6_firstCover, Cond.instanceMethod yX6_firstCover, Cond.selects RX6 yX6_firstCover yX6_firstCover, Cond.code yX6_firstCover cX6_firstCover 3 (some .int), Cond.methodLink RX6 73 yX3_covers, Cond.instanceMethod yX3_covers, Cond.selects RX3 yX3_covers yX3_covers, Cond.code yX3_covers cX3_covers 3 (some .boolean), Cond.fieldLink RX3 9 "Nettle$Rule" "lows" "[I", Cond.fieldLink RX3 15 "Nettle$Rule" "highs" "[I"]
def wsX7_state : List Cond := .code yX7_state cX7_state 3 (some .int) :: ((wsX7_state_r1 ++ (wsX7_state_r2 ++ (wsX7_state_r3 ++ wsX7_state_r4))) ++ wsX70 ++ wsX60 ++ wsX30 ++ wsX40 ++ (vx_atS RX7 94 "java/lang/IndexOutOfBoundsException" ["java/lang/RuntimeException", "java/lang/Exception"]).filter goodWord)
def wsX7_coveredBy_r1 : List Cond := [Cond.fieldLink RX7 10 "Nettle" "wall" "LNettle$Wall;", Cond.methodLink RX7 87 yX7_needRule, Cond.instanceMethod yX7_needRule, Cond.selects RX7 yX7_needRule yX7_needRule, Cond.initialized RX7, Cond.code yX7_needRule cX7_needRule 2 none, Cond.classLink RX7 90 "java/lang/IndexOutOfBoundsException", Cond.initialized "java/lang/IndexOutOfBoundsException", Cond.fieldLink RX7 70 "Nettle$Wall" "count" "I", Cond.methodLink RX7 166 yX6_firstCover, Cond.instanceMethod yX6_firstCover, Cond.selects RX6 yX6_firstCover yX6_firstCover, Cond.initialized RX6, Cond.code yX6_firstCover cX6_firstCover 3 (some .int), Cond.fieldLink RX6 11 "Nettle$Wall" "rows" "[LNettle$Rule;", Cond.methodLink RX6 38 yX3_isNote, Cond.instanceMethod yX3_isNote, Cond.selects RX3 yX3_isNote yX3_isNote, Cond.initialized RX3, Cond.code yX3_isNote cX3_isNote 1 (some .boolean), Cond.fieldLink RX3 18 "Nettle$Rule" "verdict" "I", Cond.methodLink RX6 73 yX3_covers, Cond.instanceMethod yX3_covers, Cond.selects RX3 yX3_covers yX3_covers]
def wsX7_coveredBy_r2 : List Cond := [Cond.code yX3_covers cX3_covers 3 (some .boolean), Cond.fieldLink RX3 9 "Nettle$Rule" "lows" "[I", Cond.fieldLink RX3 15 "Nettle$Rule" "highs" "[I"]
def wsX7_coveredBy : List Cond := .code yX7_coveredBy cX7_coveredBy 2 (some .int) :: ((wsX7_coveredBy_r1 ++ wsX7_coveredBy_r2) ++ wsX70 ++ wsX60 ++ wsX30 ++ (vx_atS RX7 94 "java/lang/IndexOutOfBoundsException" ["java/lang/RuntimeException", "java/lang/Exception"]).filter goodWord)
def wsX7_shared : List Cond := .code yX7_shared cX7_shared 3 (some .int) :: ([.fieldLink RX7 10 "Nettle" "wall" "LNettle$Wall;", .fieldLink RX7 104 "Nettle$Wall" "rows" "[LNettle$Rule;", .methodLink RX7 87 yX7_needRule, .instanceMethod yX7_needRule, .selects RX7 yX7_needRule yX7_needRule, .initialized RX7, .code yX7_needRule cX7_needRule 2 none, .classLink RX7 90 "java/lang/IndexOutOfBoundsException", .initialized "java/lang/IndexOutOfBoundsException", .fieldLink RX7 70 "Nettle$Wall" "count" "I", .methodLink RX7 169 yX3_amountWith, .instanceMethod yX3_amountWith, .selects RX3 yX3_amountWith yX3_amountWith, .initialized RX3, .code yX3_amountWith cX3_amountWith 6 (some .int), .fieldLink RX3 9 "Nettle$Rule" "lows" "[I", .methodLink RX3 32 Lib.Math.max.name, .static Lib.Math.max.name, .initialized "java/lang/Math", .code Lib.Math.max.name Lib.Math.max.code 2 (some .int), .fieldLink RX3 15 "Nettle$Rule" "highs" "[I", .methodLink RX3 38 Lib.Math.min.name, .static Lib.Math.min.name, .code Lib.Math.min.name Lib.Math.min.code 2 (some .int)] ++ wsX70 ++ wsX60 ++ wsX30 ++ (vx_atS RX7 94 "java/lang/IndexOutOfBoundsException" ["java/lang/RuntimeException", "java/lang/Exception"]).filter goodWord)
def wsX7_quarrels_r1 : List Cond := [Cond.fieldLink RX7 10 "Nettle" "wall" "LNettle$Wall;", Cond.fieldLink RX7 70 "Nettle$Wall" "count" "I", Cond.fieldLink RX7 104 "Nettle$Wall" "rows" "[LNettle$Rule;", Cond.methodLink RX7 173 yX3_isAgainst, Cond.instanceMethod yX3_isAgainst, Cond.selects RX3 yX3_isAgainst yX3_isAgainst, Cond.initialized RX3, Cond.code yX3_isAgainst cX3_isAgainst 2 (some .boolean), Cond.fieldLink RX3 18 "Nettle$Rule" "verdict" "I", Cond.methodLink RX3 41 yX3_isNote, Cond.instanceMethod yX3_isNote, Cond.selects RX3 yX3_isNote yX3_isNote, Cond.code yX3_isNote cX3_isNote 1 (some .boolean), Cond.methodLink RX3 45 yX3_amountWith, Cond.instanceMethod yX3_amountWith, Cond.selects RX3 yX3_amountWith yX3_amountWith, Cond.code yX3_amountWith cX3_amountWith 6 (some .int), Cond.fieldLink RX3 9 "Nettle$Rule" "lows" "[I", Cond.methodLink RX3 32 Lib.Math.max.name, Cond.static Lib.Math.max.name, Cond.initialized "java/lang/Math", Cond.code Lib.Math.max.name Lib.Math.max.code 2 (some .int), Cond.fieldLink RX3 15 "Nettle$Rule" "highs" "[I", Cond.methodLink RX3 38 Lib.Math.min.name]
def wsX7_quarrels_r2 : List Cond := [Cond.static Lib.Math.min.name, Cond.code Lib.Math.min.name Lib.Math.min.code 2 (some .int)]
def wsX7_quarrels : List Cond := .code yX7_quarrels cX7_quarrels 4 (some .int) :: ((wsX7_quarrels_r1 ++ wsX7_quarrels_r2) ++ wsX70 ++ wsX60 ++ wsX30)
def wsX7_takePacket : List Cond := .code yX7_takePacket cX7_takePacket 5 none :: ([.classLink RX7 99 "java/lang/IllegalArgumentException", .initialized "java/lang/IllegalArgumentException", .fieldLink RX7 62 "Nettle" "packet" "[I", .methodLink RX7 95 yX7_isValue, .static yX7_isValue, .initialized RX7, .code yX7_isValue cX7_isValue 2 (some .boolean), .fieldLink RX7 366 "Nettle" "SIZES" "[I"] ++ wsX70 ++ (vx_atS RX7 103 "java/lang/IllegalArgumentException" ["java/lang/RuntimeException", "java/lang/Exception"]).filter goodWord)
def wsX7_decider_r1 : List Cond := [Cond.fieldLink RX7 10 "Nettle" "wall" "LNettle$Wall;", Cond.fieldLink RX7 70 "Nettle$Wall" "count" "I", Cond.fieldLink RX7 104 "Nettle$Wall" "rows" "[LNettle$Rule;", Cond.fieldLink RX7 62 "Nettle" "packet" "[I", Cond.methodLink RX7 177 yX7_takePacket, Cond.instanceMethod yX7_takePacket, Cond.selects RX7 yX7_takePacket yX7_takePacket, Cond.initialized RX7, Cond.code yX7_takePacket cX7_takePacket 5 none, Cond.classLink RX7 99 "java/lang/IllegalArgumentException", Cond.initialized "java/lang/IllegalArgumentException", Cond.methodLink RX7 95 yX7_isValue, Cond.static yX7_isValue, Cond.code yX7_isValue cX7_isValue 2 (some .boolean), Cond.fieldLink RX7 366 "Nettle" "SIZES" "[I", Cond.methodLink RX7 181 yX3_isNote, Cond.instanceMethod yX3_isNote, Cond.selects RX3 yX3_isNote yX3_isNote, Cond.initialized RX3, Cond.code yX3_isNote cX3_isNote 1 (some .boolean), Cond.fieldLink RX3 18 "Nettle$Rule" "verdict" "I", Cond.methodLink RX7 185 yX3_meets, Cond.instanceMethod yX3_meets, Cond.selects RX3 yX3_meets yX3_meets]
def wsX7_decider_r2 : List Cond := [Cond.code yX3_meets cX3_meets 3 (some .boolean), Cond.methodLink RX3 28 yX3_has, Cond.instanceMethod yX3_has, Cond.selects RX3 yX3_has yX3_has, Cond.code yX3_has cX3_has 3 (some .boolean), Cond.fieldLink RX3 9 "Nettle$Rule" "lows" "[I", Cond.fieldLink RX3 15 "Nettle$Rule" "highs" "[I"]
def wsX7_decider : List Cond := .code yX7_decider cX7_decider 6 (some .int) :: ((wsX7_decider_r1 ++ wsX7_decider_r2) ++ wsX70 ++ wsX60 ++ wsX30 ++ (vx_atS RX7 103 "java/lang/IllegalArgumentException" ["java/lang/RuntimeException", "java/lang/Exception"]).filter goodWord)
def wsX7_compiled_r1 : List Cond := [Cond.fieldLink RX7 33 "Nettle" "cuts" "LNettle$Cuts;", Cond.fieldLink RX7 42 "Nettle" "tree" "LNettle$Tree;", Cond.methodLink RX7 380 yX1_refresh, Cond.instanceMethod yX1_refresh, Cond.selects RX1 yX1_refresh yX1_refresh, Cond.initialized RX1, Cond.code yX1_refresh cX1_refresh 2 none, Cond.fieldLink RX1 28 "Nettle$Cuts" "isFresh" "Z", Cond.methodLink RX1 32 yX1_cut, Cond.instanceMethod yX1_cut, Cond.selects RX1 yX1_cut yX1_cut, Cond.code yX1_cut cX1_cut 4 none, Cond.fieldLink RX1 15 "Nettle$Cuts" "starts" "[I", Cond.fieldLink RX1 18 "Nettle$Cuts" "masks" "[I", Cond.fieldLink RX1 21 "Nettle$Cuts" "now" "LNettle$Wall;", Cond.fieldLink RX1 25 "Nettle$Cuts" "old" "LNettle$Wall;", Cond.methodLink RX1 48 Lib.Math.min.name, Cond.static Lib.Math.min.name, Cond.initialized "java/lang/Math", Cond.code Lib.Math.min.name Lib.Math.min.code 2 (some .int), Cond.fieldLink RX1 9 "Nettle$Cuts" "counts" "[I", Cond.methodLink RX1 39 yX6_having, Cond.instanceMethod yX6_having, Cond.selects RX6 yX6_having yX6_having]
def wsX7_compiled_r2 : List Cond := [Cond.initialized RX6, Cond.code yX6_having cX6_having 5 (some .int), Cond.fieldLink RX6 18 "Nettle$Wall" "count" "I", Cond.fieldLink RX6 11 "Nettle$Wall" "rows" "[LNettle$Rule;", Cond.methodLink RX6 42 yX3_has, Cond.instanceMethod yX3_has, Cond.selects RX3 yX3_has yX3_has, Cond.initialized RX3, Cond.code yX3_has cX3_has 3 (some .boolean), Cond.fieldLink RX3 9 "Nettle$Rule" "lows" "[I", Cond.fieldLink RX3 15 "Nettle$Rule" "highs" "[I", Cond.methodLink RX1 45 yX6_nextCut, Cond.instanceMethod yX6_nextCut, Cond.selects RX6 yX6_nextCut yX6_nextCut, Cond.code yX6_nextCut cX6_nextCut 5 (some .int), Cond.fieldLink RX6 50 "Nettle$Rule" "lows" "[I", Cond.methodLink RX6 53 Lib.Math.min.name, Cond.fieldLink RX6 59 "Nettle$Rule" "highs" "[I", Cond.methodLink RX7 381 yX5_refresh, Cond.instanceMethod yX5_refresh, Cond.selects RX5 yX5_refresh yX5_refresh, Cond.initialized RX5, Cond.code yX5_refresh cX5_refresh 2 none, Cond.fieldLink RX5 29 "Nettle$Tree" "isFresh" "Z"]
def wsX7_compiled_r3 : List Cond := [Cond.fieldLink RX5 33 "Nettle$Tree" "count" "I", Cond.fieldLink RX5 9 "Nettle$Tree" "numbers" "[I", Cond.fieldLink RX5 21 "Nettle$Tree" "wall" "LNettle$Wall;", Cond.methodLink RX5 37 yX6_deciders, Cond.instanceMethod yX6_deciders, Cond.selects RX6 yX6_deciders yX6_deciders, Cond.code yX6_deciders cX6_deciders 3 (some .int), Cond.methodLink RX6 38 yX3_isNote, Cond.instanceMethod yX3_isNote, Cond.selects RX3 yX3_isNote yX3_isNote, Cond.code yX3_isNote cX3_isNote 1 (some .boolean), Cond.fieldLink RX3 18 "Nettle$Rule" "verdict" "I", Cond.methodLink RX5 43 yX5_find, Cond.static yX5_find, Cond.code yX5_find cX5_find 9 (some .int), Cond.fieldLink RX5 15 "Nettle$Tree" "codes" "[I", Cond.fieldLink RX5 25 "Nettle$Tree" "cuts" "LNettle$Cuts;", Cond.fieldLink RX5 58 "Nettle$Cuts" "counts" "[I", Cond.fieldLink RX5 18 "Nettle$Tree" "sums" "[I", Cond.methodLink RX5 47 yX6_isSettled, Cond.instanceMethod yX6_isSettled, Cond.selects RX6 yX6_isSettled yX6_isSettled, Cond.code yX6_isSettled cX6_isSettled 4 (some .boolean), Cond.methodLink RX6 62 yX6_firstOf]
def wsX7_compiled_r4 : List Cond := [Cond.instanceMethod yX6_firstOf, Cond.selects RX6 yX6_firstOf yX6_firstOf, Cond.code yX6_firstOf cX6_firstOf 3 (some .int), Cond.methodLink RX6 69 yX3_isWholeFrom, Cond.instanceMethod yX3_isWholeFrom, Cond.selects RX3 yX3_isWholeFrom yX3_isWholeFrom, Cond.code yX3_isWholeFrom cX3_isWholeFrom 3 (some .boolean), Cond.methodLink RX5 51 yX6_firstOf, Cond.methodLink RX5 63 yX1_mask, Cond.instanceMethod yX1_mask, Cond.selects RX1 yX1_mask yX1_mask, Cond.code yX1_mask cX1_mask 3 (some .int), Cond.methodLink RX5 67 yX1_start, Cond.instanceMethod yX1_start, Cond.selects RX1 yX1_start yX1_start, Cond.code yX1_start cX1_start 3 (some .int)]
def wsX7_compiled : List Cond := .code yX7_compiled cX7_compiled 1 (some (.object "Nettle$Tree")) :: ((wsX7_compiled_r1 ++ (wsX7_compiled_r2 ++ (wsX7_compiled_r3 ++ wsX7_compiled_r4))) ++ wsX70 ++ wsX10 ++ wsX60 ++ wsX30 ++ wsX50)
def wsX7_nodes_r1 : List Cond := [Cond.fieldLink RX7 193 "Nettle$Tree" "count" "I", Cond.methodLink RX7 189 yX7_compiled, Cond.instanceMethod yX7_compiled, Cond.selects RX7 yX7_compiled yX7_compiled, Cond.initialized RX7, Cond.code yX7_compiled cX7_compiled 1 (some (.object "Nettle$Tree")), Cond.fieldLink RX7 33 "Nettle" "cuts" "LNettle$Cuts;", Cond.fieldLink RX7 42 "Nettle" "tree" "LNettle$Tree;", Cond.methodLink RX7 380 yX1_refresh, Cond.instanceMethod yX1_refresh, Cond.selects RX1 yX1_refresh yX1_refresh, Cond.initialized RX1, Cond.code yX1_refresh cX1_refresh 2 none, Cond.fieldLink RX1 28 "Nettle$Cuts" "isFresh" "Z", Cond.methodLink RX1 32 yX1_cut, Cond.instanceMethod yX1_cut, Cond.selects RX1 yX1_cut yX1_cut, Cond.code yX1_cut cX1_cut 4 none, Cond.fieldLink RX1 15 "Nettle$Cuts" "starts" "[I", Cond.fieldLink RX1 18 "Nettle$Cuts" "masks" "[I", Cond.fieldLink RX1 21 "Nettle$Cuts" "now" "LNettle$Wall;", Cond.fieldLink RX1 25 "Nettle$Cuts" "old" "LNettle$Wall;", Cond.methodLink RX1 48 Lib.Math.min.name, Cond.static Lib.Math.min.name]
def wsX7_nodes_r2 : List Cond := [Cond.initialized "java/lang/Math", Cond.code Lib.Math.min.name Lib.Math.min.code 2 (some .int), Cond.fieldLink RX1 9 "Nettle$Cuts" "counts" "[I", Cond.methodLink RX1 39 yX6_having, Cond.instanceMethod yX6_having, Cond.selects RX6 yX6_having yX6_having, Cond.initialized RX6, Cond.code yX6_having cX6_having 5 (some .int), Cond.fieldLink RX6 18 "Nettle$Wall" "count" "I", Cond.fieldLink RX6 11 "Nettle$Wall" "rows" "[LNettle$Rule;", Cond.methodLink RX6 42 yX3_has, Cond.instanceMethod yX3_has, Cond.selects RX3 yX3_has yX3_has, Cond.initialized RX3, Cond.code yX3_has cX3_has 3 (some .boolean), Cond.fieldLink RX3 9 "Nettle$Rule" "lows" "[I", Cond.fieldLink RX3 15 "Nettle$Rule" "highs" "[I", Cond.methodLink RX1 45 yX6_nextCut, Cond.instanceMethod yX6_nextCut, Cond.selects RX6 yX6_nextCut yX6_nextCut, Cond.code yX6_nextCut cX6_nextCut 5 (some .int), Cond.fieldLink RX6 50 "Nettle$Rule" "lows" "[I", Cond.methodLink RX6 53 Lib.Math.min.name, Cond.fieldLink RX6 59 "Nettle$Rule" "highs" "[I"]
def wsX7_nodes_r3 : List Cond := [Cond.methodLink RX7 381 yX5_refresh, Cond.instanceMethod yX5_refresh, Cond.selects RX5 yX5_refresh yX5_refresh, Cond.initialized RX5, Cond.code yX5_refresh cX5_refresh 2 none, Cond.fieldLink RX5 29 "Nettle$Tree" "isFresh" "Z", Cond.fieldLink RX5 33 "Nettle$Tree" "count" "I", Cond.fieldLink RX5 9 "Nettle$Tree" "numbers" "[I", Cond.fieldLink RX5 21 "Nettle$Tree" "wall" "LNettle$Wall;", Cond.methodLink RX5 37 yX6_deciders, Cond.instanceMethod yX6_deciders, Cond.selects RX6 yX6_deciders yX6_deciders, Cond.code yX6_deciders cX6_deciders 3 (some .int), Cond.methodLink RX6 38 yX3_isNote, Cond.instanceMethod yX3_isNote, Cond.selects RX3 yX3_isNote yX3_isNote, Cond.code yX3_isNote cX3_isNote 1 (some .boolean), Cond.fieldLink RX3 18 "Nettle$Rule" "verdict" "I", Cond.methodLink RX5 43 yX5_find, Cond.static yX5_find, Cond.code yX5_find cX5_find 9 (some .int), Cond.fieldLink RX5 15 "Nettle$Tree" "codes" "[I", Cond.fieldLink RX5 25 "Nettle$Tree" "cuts" "LNettle$Cuts;", Cond.fieldLink RX5 58 "Nettle$Cuts" "counts" "[I"]
def wsX7_nodes_r4 : List Cond := [Cond.fieldLink RX5 18 "Nettle$Tree" "sums" "[I", Cond.methodLink RX5 47 yX6_isSettled, Cond.instanceMethod yX6_isSettled, Cond.selects RX6 yX6_isSettled yX6_isSettled, Cond.code yX6_isSettled cX6_isSettled 4 (some .boolean), Cond.methodLink RX6 62 yX6_firstOf, Cond.instanceMethod yX6_firstOf, Cond.selects RX6 yX6_firstOf yX6_firstOf, Cond.code yX6_firstOf cX6_firstOf 3 (some .int), Cond.methodLink RX6 69 yX3_isWholeFrom, Cond.instanceMethod yX3_isWholeFrom, Cond.selects RX3 yX3_isWholeFrom yX3_isWholeFrom, Cond.code yX3_isWholeFrom cX3_isWholeFrom 3 (some .boolean), Cond.methodLink RX5 51 yX6_firstOf, Cond.methodLink RX5 63 yX1_mask, Cond.instanceMethod yX1_mask, Cond.selects RX1 yX1_mask yX1_mask, Cond.code yX1_mask cX1_mask 3 (some .int), Cond.methodLink RX5 67 yX1_start, Cond.instanceMethod yX1_start, Cond.selects RX1 yX1_start yX1_start, Cond.code yX1_start cX1_start 3 (some .int)]
def wsX7_nodes : List Cond := .code yX7_nodes cX7_nodes 1 (some .int) :: ((wsX7_nodes_r1 ++ (wsX7_nodes_r2 ++ (wsX7_nodes_r3 ++ wsX7_nodes_r4))) ++ wsX50 ++ wsX70 ++ wsX10 ++ wsX60 ++ wsX30)
def wsX7_needNode : List Cond := .code yX7_needNode cX7_needNode 2 none :: ([.classLink RX7 90 "java/lang/IndexOutOfBoundsException", .initialized "java/lang/IndexOutOfBoundsException", .fieldLink RX7 193 "Nettle$Tree" "count" "I"] ++ wsX50 ++ (vx_atS RX7 94 "java/lang/IndexOutOfBoundsException" ["java/lang/RuntimeException", "java/lang/Exception"]).filter goodWord)
def wsX7_ofNode_r1 : List Cond := [Cond.methodLink RX7 189 yX7_compiled, Cond.instanceMethod yX7_compiled, Cond.selects RX7 yX7_compiled yX7_compiled, Cond.initialized RX7, Cond.code yX7_compiled cX7_compiled 1 (some (.object "Nettle$Tree")), Cond.fieldLink RX7 33 "Nettle" "cuts" "LNettle$Cuts;", Cond.fieldLink RX7 42 "Nettle" "tree" "LNettle$Tree;", Cond.methodLink RX7 380 yX1_refresh, Cond.instanceMethod yX1_refresh, Cond.selects RX1 yX1_refresh yX1_refresh, Cond.initialized RX1, Cond.code yX1_refresh cX1_refresh 2 none, Cond.fieldLink RX1 28 "Nettle$Cuts" "isFresh" "Z", Cond.methodLink RX1 32 yX1_cut, Cond.instanceMethod yX1_cut, Cond.selects RX1 yX1_cut yX1_cut, Cond.code yX1_cut cX1_cut 4 none, Cond.fieldLink RX1 15 "Nettle$Cuts" "starts" "[I", Cond.fieldLink RX1 18 "Nettle$Cuts" "masks" "[I", Cond.fieldLink RX1 21 "Nettle$Cuts" "now" "LNettle$Wall;", Cond.fieldLink RX1 25 "Nettle$Cuts" "old" "LNettle$Wall;", Cond.methodLink RX1 48 Lib.Math.min.name, Cond.static Lib.Math.min.name, Cond.initialized "java/lang/Math"]
def wsX7_ofNode_r2 : List Cond := [Cond.code Lib.Math.min.name Lib.Math.min.code 2 (some .int), Cond.fieldLink RX1 9 "Nettle$Cuts" "counts" "[I", Cond.methodLink RX1 39 yX6_having, Cond.instanceMethod yX6_having, Cond.selects RX6 yX6_having yX6_having, Cond.initialized RX6, Cond.code yX6_having cX6_having 5 (some .int), Cond.fieldLink RX6 18 "Nettle$Wall" "count" "I", Cond.fieldLink RX6 11 "Nettle$Wall" "rows" "[LNettle$Rule;", Cond.methodLink RX6 42 yX3_has, Cond.instanceMethod yX3_has, Cond.selects RX3 yX3_has yX3_has, Cond.initialized RX3, Cond.code yX3_has cX3_has 3 (some .boolean), Cond.fieldLink RX3 9 "Nettle$Rule" "lows" "[I", Cond.fieldLink RX3 15 "Nettle$Rule" "highs" "[I", Cond.methodLink RX1 45 yX6_nextCut, Cond.instanceMethod yX6_nextCut, Cond.selects RX6 yX6_nextCut yX6_nextCut, Cond.code yX6_nextCut cX6_nextCut 5 (some .int), Cond.fieldLink RX6 50 "Nettle$Rule" "lows" "[I", Cond.methodLink RX6 53 Lib.Math.min.name, Cond.fieldLink RX6 59 "Nettle$Rule" "highs" "[I", Cond.methodLink RX7 381 yX5_refresh]
def wsX7_ofNode_r3 : List Cond := [Cond.instanceMethod yX5_refresh, Cond.selects RX5 yX5_refresh yX5_refresh, Cond.initialized RX5, Cond.code yX5_refresh cX5_refresh 2 none, Cond.fieldLink RX5 29 "Nettle$Tree" "isFresh" "Z", Cond.fieldLink RX5 33 "Nettle$Tree" "count" "I", Cond.fieldLink RX5 9 "Nettle$Tree" "numbers" "[I", Cond.fieldLink RX5 21 "Nettle$Tree" "wall" "LNettle$Wall;", Cond.methodLink RX5 37 yX6_deciders, Cond.instanceMethod yX6_deciders, Cond.selects RX6 yX6_deciders yX6_deciders, Cond.code yX6_deciders cX6_deciders 3 (some .int), Cond.methodLink RX6 38 yX3_isNote, Cond.instanceMethod yX3_isNote, Cond.selects RX3 yX3_isNote yX3_isNote, Cond.code yX3_isNote cX3_isNote 1 (some .boolean), Cond.fieldLink RX3 18 "Nettle$Rule" "verdict" "I", Cond.methodLink RX5 43 yX5_find, Cond.static yX5_find, Cond.code yX5_find cX5_find 9 (some .int), Cond.fieldLink RX5 15 "Nettle$Tree" "codes" "[I", Cond.fieldLink RX5 25 "Nettle$Tree" "cuts" "LNettle$Cuts;", Cond.fieldLink RX5 58 "Nettle$Cuts" "counts" "[I", Cond.fieldLink RX5 18 "Nettle$Tree" "sums" "[I"]
def wsX7_ofNode_r4 : List Cond := [Cond.methodLink RX5 47 yX6_isSettled, Cond.instanceMethod yX6_isSettled, Cond.selects RX6 yX6_isSettled yX6_isSettled, Cond.code yX6_isSettled cX6_isSettled 4 (some .boolean), Cond.methodLink RX6 62 yX6_firstOf, Cond.instanceMethod yX6_firstOf, Cond.selects RX6 yX6_firstOf yX6_firstOf, Cond.code yX6_firstOf cX6_firstOf 3 (some .int), Cond.methodLink RX6 69 yX3_isWholeFrom, Cond.instanceMethod yX3_isWholeFrom, Cond.selects RX3 yX3_isWholeFrom yX3_isWholeFrom, Cond.code yX3_isWholeFrom cX3_isWholeFrom 3 (some .boolean), Cond.methodLink RX5 51 yX6_firstOf, Cond.methodLink RX5 63 yX1_mask, Cond.instanceMethod yX1_mask, Cond.selects RX1 yX1_mask yX1_mask, Cond.code yX1_mask cX1_mask 3 (some .int), Cond.methodLink RX5 67 yX1_start, Cond.instanceMethod yX1_start, Cond.selects RX1 yX1_start yX1_start, Cond.code yX1_start cX1_start 3 (some .int), Cond.methodLink RX7 194 yX7_needNode, Cond.static yX7_needNode, Cond.code yX7_needNode cX7_needNode 2 none]
def wsX7_ofNode_r5 : List Cond := [Cond.classLink RX7 90 "java/lang/IndexOutOfBoundsException", Cond.initialized "java/lang/IndexOutOfBoundsException", Cond.fieldLink RX7 193 "Nettle$Tree" "count" "I", Cond.methodLink RX7 143 yX7_needWhat, Cond.static yX7_needWhat, Cond.code yX7_needWhat cX7_needWhat 2 none, Cond.classLink RX7 99 "java/lang/IllegalArgumentException", Cond.initialized "java/lang/IllegalArgumentException", Cond.methodLink RX7 198 yX5_fieldOf, Cond.instanceMethod yX5_fieldOf, Cond.selects RX5 yX5_fieldOf yX5_fieldOf, Cond.code yX5_fieldOf cX5_fieldOf 2 (some .int), Cond.methodLink RX7 201 yX5_setOf, Cond.instanceMethod yX5_setOf, Cond.selects RX5 yX5_setOf yX5_setOf, Cond.code yX5_setOf cX5_setOf 2 (some .int), Cond.methodLink RX7 204 yX5_pieceCount, Cond.instanceMethod yX5_pieceCount, Cond.selects RX5 yX5_pieceCount yX5_pieceCount, Cond.code yX5_pieceCount cX5_pieceCount 4 (some .int), Cond.methodLink RX5 70 yX5_fieldOf, Cond.methodLink RX5 73 yX5_setOf, Cond.methodLink RX5 76 yX1_startsRun, Cond.instanceMethod yX1_startsRun]
def wsX7_ofNode_r6 : List Cond := [Cond.selects RX1 yX1_startsRun yX1_startsRun, Cond.code yX1_startsRun cX1_startsRun 4 (some .boolean), Cond.methodLink RX1 53 yX1_mask]
def wsX7_ofNode : List Cond := .code yX7_ofNode cX7_ofNode 4 (some .int) :: ((wsX7_ofNode_r1 ++ (wsX7_ofNode_r2 ++ (wsX7_ofNode_r3 ++ (wsX7_ofNode_r4 ++ (wsX7_ofNode_r5 ++ wsX7_ofNode_r6))))) ++ wsX70 ++ wsX10 ++ wsX60 ++ wsX30 ++ wsX50 ++ (vx_atS RX7 94 "java/lang/IndexOutOfBoundsException" ["java/lang/RuntimeException", "java/lang/Exception"]).filter goodWord ++ (vx_atS RX7 103 "java/lang/IllegalArgumentException" ["java/lang/RuntimeException", "java/lang/Exception"]).filter goodWord)
def wsX7_piece_r1 : List Cond := [Cond.classLink RX7 90 "java/lang/IndexOutOfBoundsException", Cond.initialized "java/lang/IndexOutOfBoundsException", Cond.fieldLink RX7 33 "Nettle" "cuts" "LNettle$Cuts;", Cond.methodLink RX7 189 yX7_compiled, Cond.instanceMethod yX7_compiled, Cond.selects RX7 yX7_compiled yX7_compiled, Cond.initialized RX7, Cond.code yX7_compiled cX7_compiled 1 (some (.object "Nettle$Tree")), Cond.fieldLink RX7 42 "Nettle" "tree" "LNettle$Tree;", Cond.methodLink RX7 380 yX1_refresh, Cond.instanceMethod yX1_refresh, Cond.selects RX1 yX1_refresh yX1_refresh, Cond.initialized RX1, Cond.code yX1_refresh cX1_refresh 2 none, Cond.fieldLink RX1 28 "Nettle$Cuts" "isFresh" "Z", Cond.methodLink RX1 32 yX1_cut, Cond.instanceMethod yX1_cut, Cond.selects RX1 yX1_cut yX1_cut, Cond.code yX1_cut cX1_cut 4 none, Cond.fieldLink RX1 15 "Nettle$Cuts" "starts" "[I", Cond.fieldLink RX1 18 "Nettle$Cuts" "masks" "[I", Cond.fieldLink RX1 21 "Nettle$Cuts" "now" "LNettle$Wall;", Cond.fieldLink RX1 25 "Nettle$Cuts" "old" "LNettle$Wall;", Cond.methodLink RX1 48 Lib.Math.min.name]
def wsX7_piece_r2 : List Cond := [Cond.static Lib.Math.min.name, Cond.initialized "java/lang/Math", Cond.code Lib.Math.min.name Lib.Math.min.code 2 (some .int), Cond.fieldLink RX1 9 "Nettle$Cuts" "counts" "[I", Cond.methodLink RX1 39 yX6_having, Cond.instanceMethod yX6_having, Cond.selects RX6 yX6_having yX6_having, Cond.initialized RX6, Cond.code yX6_having cX6_having 5 (some .int), Cond.fieldLink RX6 18 "Nettle$Wall" "count" "I", Cond.fieldLink RX6 11 "Nettle$Wall" "rows" "[LNettle$Rule;", Cond.methodLink RX6 42 yX3_has, Cond.instanceMethod yX3_has, Cond.selects RX3 yX3_has yX3_has, Cond.initialized RX3, Cond.code yX3_has cX3_has 3 (some .boolean), Cond.fieldLink RX3 9 "Nettle$Rule" "lows" "[I", Cond.fieldLink RX3 15 "Nettle$Rule" "highs" "[I", Cond.methodLink RX1 45 yX6_nextCut, Cond.instanceMethod yX6_nextCut, Cond.selects RX6 yX6_nextCut yX6_nextCut, Cond.code yX6_nextCut cX6_nextCut 5 (some .int), Cond.fieldLink RX6 50 "Nettle$Rule" "lows" "[I", Cond.methodLink RX6 53 Lib.Math.min.name]
def wsX7_piece_r3 : List Cond := [Cond.fieldLink RX6 59 "Nettle$Rule" "highs" "[I", Cond.methodLink RX7 381 yX5_refresh, Cond.instanceMethod yX5_refresh, Cond.selects RX5 yX5_refresh yX5_refresh, Cond.initialized RX5, Cond.code yX5_refresh cX5_refresh 2 none, Cond.fieldLink RX5 29 "Nettle$Tree" "isFresh" "Z", Cond.fieldLink RX5 33 "Nettle$Tree" "count" "I", Cond.fieldLink RX5 9 "Nettle$Tree" "numbers" "[I", Cond.fieldLink RX5 21 "Nettle$Tree" "wall" "LNettle$Wall;", Cond.methodLink RX5 37 yX6_deciders, Cond.instanceMethod yX6_deciders, Cond.selects RX6 yX6_deciders yX6_deciders, Cond.code yX6_deciders cX6_deciders 3 (some .int), Cond.methodLink RX6 38 yX3_isNote, Cond.instanceMethod yX3_isNote, Cond.selects RX3 yX3_isNote yX3_isNote, Cond.code yX3_isNote cX3_isNote 1 (some .boolean), Cond.fieldLink RX3 18 "Nettle$Rule" "verdict" "I", Cond.methodLink RX5 43 yX5_find, Cond.static yX5_find, Cond.code yX5_find cX5_find 9 (some .int), Cond.fieldLink RX5 15 "Nettle$Tree" "codes" "[I", Cond.fieldLink RX5 25 "Nettle$Tree" "cuts" "LNettle$Cuts;"]
def wsX7_piece_r4 : List Cond := [Cond.fieldLink RX5 58 "Nettle$Cuts" "counts" "[I", Cond.fieldLink RX5 18 "Nettle$Tree" "sums" "[I", Cond.methodLink RX5 47 yX6_isSettled, Cond.instanceMethod yX6_isSettled, Cond.selects RX6 yX6_isSettled yX6_isSettled, Cond.code yX6_isSettled cX6_isSettled 4 (some .boolean), Cond.methodLink RX6 62 yX6_firstOf, Cond.instanceMethod yX6_firstOf, Cond.selects RX6 yX6_firstOf yX6_firstOf, Cond.code yX6_firstOf cX6_firstOf 3 (some .int), Cond.methodLink RX6 69 yX3_isWholeFrom, Cond.instanceMethod yX3_isWholeFrom, Cond.selects RX3 yX3_isWholeFrom yX3_isWholeFrom, Cond.code yX3_isWholeFrom cX3_isWholeFrom 3 (some .boolean), Cond.methodLink RX5 51 yX6_firstOf, Cond.methodLink RX5 63 yX1_mask, Cond.instanceMethod yX1_mask, Cond.selects RX1 yX1_mask yX1_mask, Cond.code yX1_mask cX1_mask 3 (some .int), Cond.methodLink RX5 67 yX1_start, Cond.instanceMethod yX1_start, Cond.selects RX1 yX1_start yX1_start, Cond.code yX1_start cX1_start 3 (some .int), Cond.methodLink RX7 194 yX7_needNode]
def wsX7_piece_r5 : List Cond := [Cond.static yX7_needNode, Cond.code yX7_needNode cX7_needNode 2 none, Cond.fieldLink RX7 193 "Nettle$Tree" "count" "I", Cond.methodLink RX7 207 yX5_segmentOf, Cond.instanceMethod yX5_segmentOf, Cond.selects RX5 yX5_segmentOf yX5_segmentOf, Cond.code yX5_segmentOf cX5_segmentOf 5 (some .int), Cond.methodLink RX5 70 yX5_fieldOf, Cond.instanceMethod yX5_fieldOf, Cond.selects RX5 yX5_fieldOf yX5_fieldOf, Cond.code yX5_fieldOf cX5_fieldOf 2 (some .int), Cond.methodLink RX5 73 yX5_setOf, Cond.instanceMethod yX5_setOf, Cond.selects RX5 yX5_setOf yX5_setOf, Cond.code yX5_setOf cX5_setOf 2 (some .int), Cond.methodLink RX5 76 yX1_startsRun, Cond.instanceMethod yX1_startsRun, Cond.selects RX1 yX1_startsRun yX1_startsRun, Cond.code yX1_startsRun cX1_startsRun 4 (some .boolean), Cond.methodLink RX1 53 yX1_mask, Cond.methodLink RX7 143 yX7_needWhat, Cond.static yX7_needWhat, Cond.code yX7_needWhat cX7_needWhat 2 none, Cond.classLink RX7 99 "java/lang/IllegalArgumentException"]
def wsX7_piece_r6 : List Cond := [Cond.initialized "java/lang/IllegalArgumentException", Cond.methodLink RX7 198 yX5_fieldOf, Cond.methodLink RX7 213 yX1_start, Cond.methodLink RX7 201 yX5_setOf, Cond.methodLink RX7 216 yX1_runEnd, Cond.instanceMethod yX1_runEnd, Cond.selects RX1 yX1_runEnd yX1_runEnd, Cond.code yX1_runEnd cX1_runEnd 5 (some .int), Cond.methodLink RX1 56 yX1_startsRun, Cond.methodLink RX1 60 yX1_start, Cond.methodLink RX7 220 yX5_leadOf, Cond.instanceMethod yX5_leadOf, Cond.selects RX5 yX5_leadOf yX5_leadOf, Cond.code yX5_leadOf cX5_leadOf 4 (some .int)]
def wsX7_piece : List Cond := .code yX7_piece cX7_piece 7 (some .int) :: ((wsX7_piece_r1 ++ (wsX7_piece_r2 ++ (wsX7_piece_r3 ++ (wsX7_piece_r4 ++ (wsX7_piece_r5 ++ wsX7_piece_r6))))) ++ wsX70 ++ wsX10 ++ wsX60 ++ wsX30 ++ wsX50 ++ (vx_atS RX7 94 "java/lang/IndexOutOfBoundsException" ["java/lang/RuntimeException", "java/lang/Exception"]).filter goodWord ++ (vx_atS RX7 103 "java/lang/IllegalArgumentException" ["java/lang/RuntimeException", "java/lang/Exception"]).filter goodWord)
def wsX7_steps_r1 : List Cond := [Cond.fieldLink RX7 10 "Nettle" "wall" "LNettle$Wall;", Cond.fieldLink RX7 62 "Nettle" "packet" "[I", Cond.methodLink RX7 177 yX7_takePacket, Cond.instanceMethod yX7_takePacket, Cond.selects RX7 yX7_takePacket yX7_takePacket, Cond.initialized RX7, Cond.code yX7_takePacket cX7_takePacket 5 none, Cond.classLink RX7 99 "java/lang/IllegalArgumentException", Cond.initialized "java/lang/IllegalArgumentException", Cond.methodLink RX7 95 yX7_isValue, Cond.static yX7_isValue, Cond.code yX7_isValue cX7_isValue 2 (some .boolean), Cond.fieldLink RX7 366 "Nettle" "SIZES" "[I", Cond.methodLink RX7 223 yX6_deciders, Cond.instanceMethod yX6_deciders, Cond.selects RX6 yX6_deciders yX6_deciders, Cond.initialized RX6, Cond.code yX6_deciders cX6_deciders 3 (some .int), Cond.fieldLink RX6 18 "Nettle$Wall" "count" "I", Cond.fieldLink RX6 11 "Nettle$Wall" "rows" "[LNettle$Rule;", Cond.methodLink RX6 38 yX3_isNote, Cond.instanceMethod yX3_isNote, Cond.selects RX3 yX3_isNote yX3_isNote, Cond.initialized RX3]
def wsX7_steps_r2 : List Cond := [Cond.code yX3_isNote cX3_isNote 1 (some .boolean), Cond.fieldLink RX3 18 "Nettle$Rule" "verdict" "I", Cond.methodLink RX7 226 yX6_isSettled, Cond.instanceMethod yX6_isSettled, Cond.selects RX6 yX6_isSettled yX6_isSettled, Cond.code yX6_isSettled cX6_isSettled 4 (some .boolean), Cond.methodLink RX6 62 yX6_firstOf, Cond.instanceMethod yX6_firstOf, Cond.selects RX6 yX6_firstOf yX6_firstOf, Cond.code yX6_firstOf cX6_firstOf 3 (some .int), Cond.methodLink RX6 69 yX3_isWholeFrom, Cond.instanceMethod yX3_isWholeFrom, Cond.selects RX3 yX3_isWholeFrom yX3_isWholeFrom, Cond.code yX3_isWholeFrom cX3_isWholeFrom 3 (some .boolean), Cond.fieldLink RX3 9 "Nettle$Rule" "lows" "[I", Cond.fieldLink RX3 15 "Nettle$Rule" "highs" "[I", Cond.methodLink RX7 229 yX6_having, Cond.instanceMethod yX6_having, Cond.selects RX6 yX6_having yX6_having, Cond.code yX6_having cX6_having 5 (some .int), Cond.methodLink RX6 42 yX3_has, Cond.instanceMethod yX3_has, Cond.selects RX3 yX3_has yX3_has, Cond.code yX3_has cX3_has 3 (some .boolean)]
def wsX7_steps : List Cond := .code yX7_steps cX7_steps 8 (some .int) :: ((wsX7_steps_r1 ++ wsX7_steps_r2) ++ wsX70 ++ wsX60 ++ wsX30 ++ (vx_atS RX7 103 "java/lang/IllegalArgumentException" ["java/lang/RuntimeException", "java/lang/Exception"]).filter goodWord)
def wsX7_meanSteps_r1 : List Cond := [Cond.fieldLink RX7 235 "Nettle" "AMOUNTS" "[I", Cond.methodLink RX7 189 yX7_compiled, Cond.instanceMethod yX7_compiled, Cond.selects RX7 yX7_compiled yX7_compiled, Cond.initialized RX7, Cond.code yX7_compiled cX7_compiled 1 (some (.object "Nettle$Tree")), Cond.fieldLink RX7 33 "Nettle" "cuts" "LNettle$Cuts;", Cond.fieldLink RX7 42 "Nettle" "tree" "LNettle$Tree;", Cond.methodLink RX7 380 yX1_refresh, Cond.instanceMethod yX1_refresh, Cond.selects RX1 yX1_refresh yX1_refresh, Cond.initialized RX1, Cond.code yX1_refresh cX1_refresh 2 none, Cond.fieldLink RX1 28 "Nettle$Cuts" "isFresh" "Z", Cond.methodLink RX1 32 yX1_cut, Cond.instanceMethod yX1_cut, Cond.selects RX1 yX1_cut yX1_cut, Cond.code yX1_cut cX1_cut 4 none, Cond.fieldLink RX1 15 "Nettle$Cuts" "starts" "[I", Cond.fieldLink RX1 18 "Nettle$Cuts" "masks" "[I", Cond.fieldLink RX1 21 "Nettle$Cuts" "now" "LNettle$Wall;", Cond.fieldLink RX1 25 "Nettle$Cuts" "old" "LNettle$Wall;", Cond.methodLink RX1 48 Lib.Math.min.name, Cond.static Lib.Math.min.name]
def wsX7_meanSteps_r2 : List Cond := [Cond.initialized "java/lang/Math", Cond.code Lib.Math.min.name Lib.Math.min.code 2 (some .int), Cond.fieldLink RX1 9 "Nettle$Cuts" "counts" "[I", Cond.methodLink RX1 39 yX6_having, Cond.instanceMethod yX6_having, Cond.selects RX6 yX6_having yX6_having, Cond.initialized RX6, Cond.code yX6_having cX6_having 5 (some .int), Cond.fieldLink RX6 18 "Nettle$Wall" "count" "I", Cond.fieldLink RX6 11 "Nettle$Wall" "rows" "[LNettle$Rule;", Cond.methodLink RX6 42 yX3_has, Cond.instanceMethod yX3_has, Cond.selects RX3 yX3_has yX3_has, Cond.initialized RX3, Cond.code yX3_has cX3_has 3 (some .boolean), Cond.fieldLink RX3 9 "Nettle$Rule" "lows" "[I", Cond.fieldLink RX3 15 "Nettle$Rule" "highs" "[I", Cond.methodLink RX1 45 yX6_nextCut, Cond.instanceMethod yX6_nextCut, Cond.selects RX6 yX6_nextCut yX6_nextCut, Cond.code yX6_nextCut cX6_nextCut 5 (some .int), Cond.fieldLink RX6 50 "Nettle$Rule" "lows" "[I", Cond.methodLink RX6 53 Lib.Math.min.name, Cond.fieldLink RX6 59 "Nettle$Rule" "highs" "[I"]
def wsX7_meanSteps_r3 : List Cond := [Cond.methodLink RX7 381 yX5_refresh, Cond.instanceMethod yX5_refresh, Cond.selects RX5 yX5_refresh yX5_refresh, Cond.initialized RX5, Cond.code yX5_refresh cX5_refresh 2 none, Cond.fieldLink RX5 29 "Nettle$Tree" "isFresh" "Z", Cond.fieldLink RX5 33 "Nettle$Tree" "count" "I", Cond.fieldLink RX5 9 "Nettle$Tree" "numbers" "[I", Cond.fieldLink RX5 21 "Nettle$Tree" "wall" "LNettle$Wall;", Cond.methodLink RX5 37 yX6_deciders, Cond.instanceMethod yX6_deciders, Cond.selects RX6 yX6_deciders yX6_deciders, Cond.code yX6_deciders cX6_deciders 3 (some .int), Cond.methodLink RX6 38 yX3_isNote, Cond.instanceMethod yX3_isNote, Cond.selects RX3 yX3_isNote yX3_isNote, Cond.code yX3_isNote cX3_isNote 1 (some .boolean), Cond.fieldLink RX3 18 "Nettle$Rule" "verdict" "I", Cond.methodLink RX5 43 yX5_find, Cond.static yX5_find, Cond.code yX5_find cX5_find 9 (some .int), Cond.fieldLink RX5 15 "Nettle$Tree" "codes" "[I", Cond.fieldLink RX5 25 "Nettle$Tree" "cuts" "LNettle$Cuts;", Cond.fieldLink RX5 58 "Nettle$Cuts" "counts" "[I"]
def wsX7_meanSteps_r4 : List Cond := [Cond.fieldLink RX5 18 "Nettle$Tree" "sums" "[I", Cond.methodLink RX5 47 yX6_isSettled, Cond.instanceMethod yX6_isSettled, Cond.selects RX6 yX6_isSettled yX6_isSettled, Cond.code yX6_isSettled cX6_isSettled 4 (some .boolean), Cond.methodLink RX6 62 yX6_firstOf, Cond.instanceMethod yX6_firstOf, Cond.selects RX6 yX6_firstOf yX6_firstOf, Cond.code yX6_firstOf cX6_firstOf 3 (some .int), Cond.methodLink RX6 69 yX3_isWholeFrom, Cond.instanceMethod yX3_isWholeFrom, Cond.selects RX3 yX3_isWholeFrom yX3_isWholeFrom, Cond.code yX3_isWholeFrom cX3_isWholeFrom 3 (some .boolean), Cond.methodLink RX5 51 yX6_firstOf, Cond.methodLink RX5 63 yX1_mask, Cond.instanceMethod yX1_mask, Cond.selects RX1 yX1_mask yX1_mask, Cond.code yX1_mask cX1_mask 3 (some .int), Cond.methodLink RX5 67 yX1_start, Cond.instanceMethod yX1_start, Cond.selects RX1 yX1_start yX1_start, Cond.code yX1_start cX1_start 3 (some .int), Cond.methodLink RX7 232 yX5_allSteps, Cond.instanceMethod yX5_allSteps]
def wsX7_meanSteps_r5 : List Cond := [Cond.selects RX5 yX5_allSteps yX5_allSteps, Cond.code yX5_allSteps cX5_allSteps 1 (some .int)]
def wsX7_meanSteps : List Cond := .code yX7_meanSteps cX7_meanSteps 1 (some .double) :: ((wsX7_meanSteps_r1 ++ (wsX7_meanSteps_r2 ++ (wsX7_meanSteps_r3 ++ (wsX7_meanSteps_r4 ++ wsX7_meanSteps_r5)))) ++ wsX70 ++ wsX10 ++ wsX60 ++ wsX30 ++ wsX50)
def wsX7_sent : List Cond := .code yX7_sent cX7_sent 2 (some .int) :: ([.fieldLink RX7 58 "Nettle" "log" "LNettle$Log;", .fieldLink RX7 255 "Nettle$Log" "all" "I", .fieldLink RX7 258 "Nettle$Log" "passed" "I", .fieldLink RX7 261 "Nettle$Log" "remembered" "I", .fieldLink RX7 264 "Nettle$Log" "size" "I", .fieldLink RX7 267 "Nettle$Log" "byLastWord" "I", .methodLink RX7 143 yX7_needWhat, .static yX7_needWhat, .initialized RX7, .code yX7_needWhat cX7_needWhat 2 none, .classLink RX7 99 "java/lang/IllegalArgumentException", .initialized "java/lang/IllegalArgumentException"] ++ wsX70 ++ wsX20 ++ (vx_atS RX7 103 "java/lang/IllegalArgumentException" ["java/lang/RuntimeException", "java/lang/Exception"]).filter goodWord)
def wsX7_kept : List Cond := .code yX7_kept cX7_kept 3 (some .int) :: ([.classLink RX7 90 "java/lang/IndexOutOfBoundsException", .initialized "java/lang/IndexOutOfBoundsException", .classLink RX7 99 "java/lang/IllegalArgumentException", .initialized "java/lang/IllegalArgumentException", .fieldLink RX7 58 "Nettle" "log" "LNettle$Log;", .fieldLink RX7 264 "Nettle$Log" "size" "I", .fieldLink RX7 274 "Nettle$Log" "rows" "[I"] ++ wsX70 ++ wsX20 ++ (vx_atS RX7 94 "java/lang/IndexOutOfBoundsException" ["java/lang/RuntimeException", "java/lang/Exception"]).filter goodWord ++ (vx_atS RX7 103 "java/lang/IllegalArgumentException" ["java/lang/RuntimeException", "java/lang/Exception"]).filter goodWord)
def wsX7_copy_r1 : List Cond := [Cond.fieldLink RX7 16 "Nettle" "copied" "LNettle$Wall;", Cond.fieldLink RX7 10 "Nettle" "wall" "LNettle$Wall;", Cond.fieldLink RX7 70 "Nettle$Wall" "count" "I", Cond.methodLink RX7 276 yX6_takeFrom, Cond.instanceMethod yX6_takeFrom, Cond.selects RX6 yX6_takeFrom yX6_takeFrom, Cond.initialized RX6, Cond.code yX6_takeFrom cX6_takeFrom 3 none, Cond.fieldLink RX6 18 "Nettle$Wall" "count" "I", Cond.fieldLink RX6 11 "Nettle$Wall" "rows" "[LNettle$Rule;", Cond.fieldLink RX6 34 "Nettle$Wall" "isLastAllow" "Z", Cond.methodLink RX6 30 yX3_takeFrom, Cond.instanceMethod yX3_takeFrom, Cond.selects RX3 yX3_takeFrom yX3_takeFrom, Cond.initialized RX3, Cond.code yX3_takeFrom cX3_takeFrom 3 none, Cond.fieldLink RX3 18 "Nettle$Rule" "verdict" "I", Cond.fieldLink RX3 9 "Nettle$Rule" "lows" "[I", Cond.fieldLink RX3 15 "Nettle$Rule" "highs" "[I", Cond.methodLink RX7 84 yX7_outdate, Cond.instanceMethod yX7_outdate, Cond.selects RX7 yX7_outdate yX7_outdate, Cond.initialized RX7, Cond.code yX7_outdate cX7_outdate 1 none]
def wsX7_copy_r2 : List Cond := [Cond.fieldLink RX7 24 "Nettle" "survey" "LNettle$Survey;", Cond.fieldLink RX7 371 "Nettle$Survey" "isFresh" "Z", Cond.fieldLink RX7 33 "Nettle" "cuts" "LNettle$Cuts;", Cond.fieldLink RX7 374 "Nettle$Cuts" "isFresh" "Z", Cond.fieldLink RX7 42 "Nettle" "tree" "LNettle$Tree;", Cond.fieldLink RX7 375 "Nettle$Tree" "isFresh" "Z", Cond.fieldLink RX7 51 "Nettle" "comparison" "LNettle$Comparison;", Cond.fieldLink RX7 376 "Nettle$Comparison" "isFresh" "Z"]
def wsX7_copy : List Cond := .code yX7_copy cX7_copy 1 (some .int) :: ((wsX7_copy_r1 ++ wsX7_copy_r2) ++ wsX70 ++ wsX60 ++ wsX30 ++ wsX40 ++ wsX10 ++ wsX50 ++ wsX00)
def wsX7_compared_r1 : List Cond := [Cond.fieldLink RX7 33 "Nettle" "cuts" "LNettle$Cuts;", Cond.fieldLink RX7 51 "Nettle" "comparison" "LNettle$Comparison;", Cond.methodLink RX7 380 yX1_refresh, Cond.instanceMethod yX1_refresh, Cond.selects RX1 yX1_refresh yX1_refresh, Cond.initialized RX1, Cond.code yX1_refresh cX1_refresh 2 none, Cond.fieldLink RX1 28 "Nettle$Cuts" "isFresh" "Z", Cond.methodLink RX1 32 yX1_cut, Cond.instanceMethod yX1_cut, Cond.selects RX1 yX1_cut yX1_cut, Cond.code yX1_cut cX1_cut 4 none, Cond.fieldLink RX1 15 "Nettle$Cuts" "starts" "[I", Cond.fieldLink RX1 18 "Nettle$Cuts" "masks" "[I", Cond.fieldLink RX1 21 "Nettle$Cuts" "now" "LNettle$Wall;", Cond.fieldLink RX1 25 "Nettle$Cuts" "old" "LNettle$Wall;", Cond.methodLink RX1 48 Lib.Math.min.name, Cond.static Lib.Math.min.name, Cond.initialized "java/lang/Math", Cond.code Lib.Math.min.name Lib.Math.min.code 2 (some .int), Cond.fieldLink RX1 9 "Nettle$Cuts" "counts" "[I", Cond.methodLink RX1 39 yX6_having, Cond.instanceMethod yX6_having, Cond.selects RX6 yX6_having yX6_having]
def wsX7_compared_r2 : List Cond := [Cond.initialized RX6, Cond.code yX6_having cX6_having 5 (some .int), Cond.fieldLink RX6 18 "Nettle$Wall" "count" "I", Cond.fieldLink RX6 11 "Nettle$Wall" "rows" "[LNettle$Rule;", Cond.methodLink RX6 42 yX3_has, Cond.instanceMethod yX3_has, Cond.selects RX3 yX3_has yX3_has, Cond.initialized RX3, Cond.code yX3_has cX3_has 3 (some .boolean), Cond.fieldLink RX3 9 "Nettle$Rule" "lows" "[I", Cond.fieldLink RX3 15 "Nettle$Rule" "highs" "[I", Cond.methodLink RX1 45 yX6_nextCut, Cond.instanceMethod yX6_nextCut, Cond.selects RX6 yX6_nextCut yX6_nextCut, Cond.code yX6_nextCut cX6_nextCut 5 (some .int), Cond.fieldLink RX6 50 "Nettle$Rule" "lows" "[I", Cond.methodLink RX6 53 Lib.Math.min.name, Cond.fieldLink RX6 59 "Nettle$Rule" "highs" "[I", Cond.methodLink RX7 382 yX0_refresh, Cond.instanceMethod yX0_refresh, Cond.selects RX0 yX0_refresh yX0_refresh, Cond.initialized RX0, Cond.code yX0_refresh cX0_refresh 2 none, Cond.fieldLink RX0 29 "Nettle$Comparison" "isFresh" "Z"]
def wsX7_compared_r3 : List Cond := [Cond.fieldLink RX0 33 "Nettle$Comparison" "amount" "I", Cond.fieldLink RX0 9 "Nettle$Comparison" "first" "[I", Cond.fieldLink RX0 18 "Nettle$Comparison" "now" "LNettle$Wall;", Cond.fieldLink RX0 22 "Nettle$Comparison" "old" "LNettle$Wall;", Cond.methodLink RX0 37 yX6_deciders, Cond.instanceMethod yX6_deciders, Cond.selects RX6 yX6_deciders yX6_deciders, Cond.code yX6_deciders cX6_deciders 3 (some .int), Cond.methodLink RX6 38 yX3_isNote, Cond.instanceMethod yX3_isNote, Cond.selects RX3 yX3_isNote yX3_isNote, Cond.code yX3_isNote cX3_isNote 1 (some .boolean), Cond.fieldLink RX3 18 "Nettle$Rule" "verdict" "I", Cond.methodLink RX0 43 yX0_walk, Cond.static yX0_walk, Cond.code yX0_walk cX0_walk 8 none, Cond.fieldLink RX0 25 "Nettle$Comparison" "cuts" "LNettle$Cuts;", Cond.fieldLink RX0 55 "Nettle$Cuts" "counts" "[I", Cond.fieldLink RX0 15 "Nettle$Comparison" "place" "[I", Cond.methodLink RX0 47 yX0_isSettled, Cond.instanceMethod yX0_isSettled, Cond.selects RX0 yX0_isSettled yX0_isSettled, Cond.code yX0_isSettled cX0_isSettled 3 (some .boolean), Cond.methodLink RX0 75 yX6_isSettled]
def wsX7_compared_r4 : List Cond := [Cond.instanceMethod yX6_isSettled, Cond.selects RX6 yX6_isSettled yX6_isSettled, Cond.code yX6_isSettled cX6_isSettled 4 (some .boolean), Cond.methodLink RX6 62 yX6_firstOf, Cond.instanceMethod yX6_firstOf, Cond.selects RX6 yX6_firstOf yX6_firstOf, Cond.code yX6_firstOf cX6_firstOf 3 (some .int), Cond.methodLink RX6 69 yX3_isWholeFrom, Cond.instanceMethod yX3_isWholeFrom, Cond.selects RX3 yX3_isWholeFrom yX3_isWholeFrom, Cond.code yX3_isWholeFrom cX3_isWholeFrom 3 (some .boolean), Cond.methodLink RX0 51 yX0_judge, Cond.instanceMethod yX0_judge, Cond.selects RX0 yX0_judge yX0_judge, Cond.code yX0_judge cX0_judge 5 none, Cond.methodLink RX0 76 yX6_allows, Cond.instanceMethod yX6_allows, Cond.selects RX6 yX6_allows yX6_allows, Cond.code yX6_allows cX6_allows 3 (some .boolean), Cond.fieldLink RX6 34 "Nettle$Wall" "isLastAllow" "Z", Cond.fieldLink RX6 66 "Nettle$Rule" "verdict" "I", Cond.methodLink RX0 60 yX1_startsRun, Cond.instanceMethod yX1_startsRun, Cond.selects RX1 yX1_startsRun yX1_startsRun]
def wsX7_compared_r5 : List Cond := [Cond.code yX1_startsRun cX1_startsRun 4 (some .boolean), Cond.methodLink RX1 53 yX1_mask, Cond.instanceMethod yX1_mask, Cond.selects RX1 yX1_mask yX1_mask, Cond.code yX1_mask cX1_mask 3 (some .int), Cond.methodLink RX0 64 yX1_start, Cond.instanceMethod yX1_start, Cond.selects RX1 yX1_start yX1_start, Cond.code yX1_start cX1_start 3 (some .int), Cond.methodLink RX0 68 yX1_runEnd, Cond.instanceMethod yX1_runEnd, Cond.selects RX1 yX1_runEnd yX1_runEnd, Cond.code yX1_runEnd cX1_runEnd 5 (some .int), Cond.methodLink RX1 56 yX1_startsRun, Cond.methodLink RX1 60 yX1_start, Cond.methodLink RX0 72 yX1_mask]
def wsX7_compared : List Cond := .code yX7_compared cX7_compared 1 (some (.object "Nettle$Comparison")) :: ((wsX7_compared_r1 ++ (wsX7_compared_r2 ++ (wsX7_compared_r3 ++ (wsX7_compared_r4 ++ wsX7_compared_r5)))) ++ wsX70 ++ wsX10 ++ wsX60 ++ wsX30 ++ wsX00)
def wsX7_changed_r1 : List Cond := [Cond.fieldLink RX7 283 "Nettle$Comparison" "amount" "I", Cond.methodLink RX7 279 yX7_compared, Cond.instanceMethod yX7_compared, Cond.selects RX7 yX7_compared yX7_compared, Cond.initialized RX7, Cond.code yX7_compared cX7_compared 1 (some (.object "Nettle$Comparison")), Cond.fieldLink RX7 33 "Nettle" "cuts" "LNettle$Cuts;", Cond.fieldLink RX7 51 "Nettle" "comparison" "LNettle$Comparison;", Cond.methodLink RX7 380 yX1_refresh, Cond.instanceMethod yX1_refresh, Cond.selects RX1 yX1_refresh yX1_refresh, Cond.initialized RX1, Cond.code yX1_refresh cX1_refresh 2 none, Cond.fieldLink RX1 28 "Nettle$Cuts" "isFresh" "Z", Cond.methodLink RX1 32 yX1_cut, Cond.instanceMethod yX1_cut, Cond.selects RX1 yX1_cut yX1_cut, Cond.code yX1_cut cX1_cut 4 none, Cond.fieldLink RX1 15 "Nettle$Cuts" "starts" "[I", Cond.fieldLink RX1 18 "Nettle$Cuts" "masks" "[I", Cond.fieldLink RX1 21 "Nettle$Cuts" "now" "LNettle$Wall;", Cond.fieldLink RX1 25 "Nettle$Cuts" "old" "LNettle$Wall;", Cond.methodLink RX1 48 Lib.Math.min.name, Cond.static Lib.Math.min.name]
def wsX7_changed_r2 : List Cond := [Cond.initialized "java/lang/Math", Cond.code Lib.Math.min.name Lib.Math.min.code 2 (some .int), Cond.fieldLink RX1 9 "Nettle$Cuts" "counts" "[I", Cond.methodLink RX1 39 yX6_having, Cond.instanceMethod yX6_having, Cond.selects RX6 yX6_having yX6_having, Cond.initialized RX6, Cond.code yX6_having cX6_having 5 (some .int), Cond.fieldLink RX6 18 "Nettle$Wall" "count" "I", Cond.fieldLink RX6 11 "Nettle$Wall" "rows" "[LNettle$Rule;", Cond.methodLink RX6 42 yX3_has, Cond.instanceMethod yX3_has, Cond.selects RX3 yX3_has yX3_has, Cond.initialized RX3, Cond.code yX3_has cX3_has 3 (some .boolean), Cond.fieldLink RX3 9 "Nettle$Rule" "lows" "[I", Cond.fieldLink RX3 15 "Nettle$Rule" "highs" "[I", Cond.methodLink RX1 45 yX6_nextCut, Cond.instanceMethod yX6_nextCut, Cond.selects RX6 yX6_nextCut yX6_nextCut, Cond.code yX6_nextCut cX6_nextCut 5 (some .int), Cond.fieldLink RX6 50 "Nettle$Rule" "lows" "[I", Cond.methodLink RX6 53 Lib.Math.min.name, Cond.fieldLink RX6 59 "Nettle$Rule" "highs" "[I"]
def wsX7_changed_r3 : List Cond := [Cond.methodLink RX7 382 yX0_refresh, Cond.instanceMethod yX0_refresh, Cond.selects RX0 yX0_refresh yX0_refresh, Cond.initialized RX0, Cond.code yX0_refresh cX0_refresh 2 none, Cond.fieldLink RX0 29 "Nettle$Comparison" "isFresh" "Z", Cond.fieldLink RX0 33 "Nettle$Comparison" "amount" "I", Cond.fieldLink RX0 9 "Nettle$Comparison" "first" "[I", Cond.fieldLink RX0 18 "Nettle$Comparison" "now" "LNettle$Wall;", Cond.fieldLink RX0 22 "Nettle$Comparison" "old" "LNettle$Wall;", Cond.methodLink RX0 37 yX6_deciders, Cond.instanceMethod yX6_deciders, Cond.selects RX6 yX6_deciders yX6_deciders, Cond.code yX6_deciders cX6_deciders 3 (some .int), Cond.methodLink RX6 38 yX3_isNote, Cond.instanceMethod yX3_isNote, Cond.selects RX3 yX3_isNote yX3_isNote, Cond.code yX3_isNote cX3_isNote 1 (some .boolean), Cond.fieldLink RX3 18 "Nettle$Rule" "verdict" "I", Cond.methodLink RX0 43 yX0_walk, Cond.static yX0_walk, Cond.code yX0_walk cX0_walk 8 none, Cond.fieldLink RX0 25 "Nettle$Comparison" "cuts" "LNettle$Cuts;", Cond.fieldLink RX0 55 "Nettle$Cuts" "counts" "[I"]
def wsX7_changed_r4 : List Cond := [Cond.fieldLink RX0 15 "Nettle$Comparison" "place" "[I", Cond.methodLink RX0 47 yX0_isSettled, Cond.instanceMethod yX0_isSettled, Cond.selects RX0 yX0_isSettled yX0_isSettled, Cond.code yX0_isSettled cX0_isSettled 3 (some .boolean), Cond.methodLink RX0 75 yX6_isSettled, Cond.instanceMethod yX6_isSettled, Cond.selects RX6 yX6_isSettled yX6_isSettled, Cond.code yX6_isSettled cX6_isSettled 4 (some .boolean), Cond.methodLink RX6 62 yX6_firstOf, Cond.instanceMethod yX6_firstOf, Cond.selects RX6 yX6_firstOf yX6_firstOf, Cond.code yX6_firstOf cX6_firstOf 3 (some .int), Cond.methodLink RX6 69 yX3_isWholeFrom, Cond.instanceMethod yX3_isWholeFrom, Cond.selects RX3 yX3_isWholeFrom yX3_isWholeFrom, Cond.code yX3_isWholeFrom cX3_isWholeFrom 3 (some .boolean), Cond.methodLink RX0 51 yX0_judge, Cond.instanceMethod yX0_judge, Cond.selects RX0 yX0_judge yX0_judge, Cond.code yX0_judge cX0_judge 5 none, Cond.methodLink RX0 76 yX6_allows, Cond.instanceMethod yX6_allows, Cond.selects RX6 yX6_allows yX6_allows]
def wsX7_changed_r5 : List Cond := [Cond.code yX6_allows cX6_allows 3 (some .boolean), Cond.fieldLink RX6 34 "Nettle$Wall" "isLastAllow" "Z", Cond.fieldLink RX6 66 "Nettle$Rule" "verdict" "I", Cond.methodLink RX0 60 yX1_startsRun, Cond.instanceMethod yX1_startsRun, Cond.selects RX1 yX1_startsRun yX1_startsRun, Cond.code yX1_startsRun cX1_startsRun 4 (some .boolean), Cond.methodLink RX1 53 yX1_mask, Cond.instanceMethod yX1_mask, Cond.selects RX1 yX1_mask yX1_mask, Cond.code yX1_mask cX1_mask 3 (some .int), Cond.methodLink RX0 64 yX1_start, Cond.instanceMethod yX1_start, Cond.selects RX1 yX1_start yX1_start, Cond.code yX1_start cX1_start 3 (some .int), Cond.methodLink RX0 68 yX1_runEnd, Cond.instanceMethod yX1_runEnd, Cond.selects RX1 yX1_runEnd yX1_runEnd, Cond.code yX1_runEnd cX1_runEnd 5 (some .int), Cond.methodLink RX1 56 yX1_startsRun, Cond.methodLink RX1 60 yX1_start, Cond.methodLink RX0 72 yX1_mask]
def wsX7_changed : List Cond := .code yX7_changed cX7_changed 1 (some .int) :: ((wsX7_changed_r1 ++ (wsX7_changed_r2 ++ (wsX7_changed_r3 ++ (wsX7_changed_r4 ++ wsX7_changed_r5)))) ++ wsX00 ++ wsX70 ++ wsX10 ++ wsX60 ++ wsX30)
def wsX7_witness_r1 : List Cond := [Cond.classLink RX7 99 "java/lang/IllegalArgumentException", Cond.initialized "java/lang/IllegalArgumentException", Cond.fieldLink RX7 286 "Nettle$Comparison" "first" "[I", Cond.methodLink RX7 279 yX7_compared, Cond.instanceMethod yX7_compared, Cond.selects RX7 yX7_compared yX7_compared, Cond.initialized RX7, Cond.code yX7_compared cX7_compared 1 (some (.object "Nettle$Comparison")), Cond.fieldLink RX7 33 "Nettle" "cuts" "LNettle$Cuts;", Cond.fieldLink RX7 51 "Nettle" "comparison" "LNettle$Comparison;", Cond.methodLink RX7 380 yX1_refresh, Cond.instanceMethod yX1_refresh, Cond.selects RX1 yX1_refresh yX1_refresh, Cond.initialized RX1, Cond.code yX1_refresh cX1_refresh 2 none, Cond.fieldLink RX1 28 "Nettle$Cuts" "isFresh" "Z", Cond.methodLink RX1 32 yX1_cut, Cond.instanceMethod yX1_cut, Cond.selects RX1 yX1_cut yX1_cut, Cond.code yX1_cut cX1_cut 4 none, Cond.fieldLink RX1 15 "Nettle$Cuts" "starts" "[I", Cond.fieldLink RX1 18 "Nettle$Cuts" "masks" "[I", Cond.fieldLink RX1 21 "Nettle$Cuts" "now" "LNettle$Wall;", Cond.fieldLink RX1 25 "Nettle$Cuts" "old" "LNettle$Wall;"]
def wsX7_witness_r2 : List Cond := [Cond.methodLink RX1 48 Lib.Math.min.name, Cond.static Lib.Math.min.name, Cond.initialized "java/lang/Math", Cond.code Lib.Math.min.name Lib.Math.min.code 2 (some .int), Cond.fieldLink RX1 9 "Nettle$Cuts" "counts" "[I", Cond.methodLink RX1 39 yX6_having, Cond.instanceMethod yX6_having, Cond.selects RX6 yX6_having yX6_having, Cond.initialized RX6, Cond.code yX6_having cX6_having 5 (some .int), Cond.fieldLink RX6 18 "Nettle$Wall" "count" "I", Cond.fieldLink RX6 11 "Nettle$Wall" "rows" "[LNettle$Rule;", Cond.methodLink RX6 42 yX3_has, Cond.instanceMethod yX3_has, Cond.selects RX3 yX3_has yX3_has, Cond.initialized RX3, Cond.code yX3_has cX3_has 3 (some .boolean), Cond.fieldLink RX3 9 "Nettle$Rule" "lows" "[I", Cond.fieldLink RX3 15 "Nettle$Rule" "highs" "[I", Cond.methodLink RX1 45 yX6_nextCut, Cond.instanceMethod yX6_nextCut, Cond.selects RX6 yX6_nextCut yX6_nextCut, Cond.code yX6_nextCut cX6_nextCut 5 (some .int), Cond.fieldLink RX6 50 "Nettle$Rule" "lows" "[I"]
def wsX7_witness_r3 : List Cond := [Cond.methodLink RX6 53 Lib.Math.min.name, Cond.fieldLink RX6 59 "Nettle$Rule" "highs" "[I", Cond.methodLink RX7 382 yX0_refresh, Cond.instanceMethod yX0_refresh, Cond.selects RX0 yX0_refresh yX0_refresh, Cond.initialized RX0, Cond.code yX0_refresh cX0_refresh 2 none, Cond.fieldLink RX0 29 "Nettle$Comparison" "isFresh" "Z", Cond.fieldLink RX0 33 "Nettle$Comparison" "amount" "I", Cond.fieldLink RX0 9 "Nettle$Comparison" "first" "[I", Cond.fieldLink RX0 18 "Nettle$Comparison" "now" "LNettle$Wall;", Cond.fieldLink RX0 22 "Nettle$Comparison" "old" "LNettle$Wall;", Cond.methodLink RX0 37 yX6_deciders, Cond.instanceMethod yX6_deciders, Cond.selects RX6 yX6_deciders yX6_deciders, Cond.code yX6_deciders cX6_deciders 3 (some .int), Cond.methodLink RX6 38 yX3_isNote, Cond.instanceMethod yX3_isNote, Cond.selects RX3 yX3_isNote yX3_isNote, Cond.code yX3_isNote cX3_isNote 1 (some .boolean), Cond.fieldLink RX3 18 "Nettle$Rule" "verdict" "I", Cond.methodLink RX0 43 yX0_walk, Cond.static yX0_walk, Cond.code yX0_walk cX0_walk 8 none]
def wsX7_witness_r4 : List Cond := [Cond.fieldLink RX0 25 "Nettle$Comparison" "cuts" "LNettle$Cuts;", Cond.fieldLink RX0 55 "Nettle$Cuts" "counts" "[I", Cond.fieldLink RX0 15 "Nettle$Comparison" "place" "[I", Cond.methodLink RX0 47 yX0_isSettled, Cond.instanceMethod yX0_isSettled, Cond.selects RX0 yX0_isSettled yX0_isSettled, Cond.code yX0_isSettled cX0_isSettled 3 (some .boolean), Cond.methodLink RX0 75 yX6_isSettled, Cond.instanceMethod yX6_isSettled, Cond.selects RX6 yX6_isSettled yX6_isSettled, Cond.code yX6_isSettled cX6_isSettled 4 (some .boolean), Cond.methodLink RX6 62 yX6_firstOf, Cond.instanceMethod yX6_firstOf, Cond.selects RX6 yX6_firstOf yX6_firstOf, Cond.code yX6_firstOf cX6_firstOf 3 (some .int), Cond.methodLink RX6 69 yX3_isWholeFrom, Cond.instanceMethod yX3_isWholeFrom, Cond.selects RX3 yX3_isWholeFrom yX3_isWholeFrom, Cond.code yX3_isWholeFrom cX3_isWholeFrom 3 (some .boolean), Cond.methodLink RX0 51 yX0_judge, Cond.instanceMethod yX0_judge, Cond.selects RX0 yX0_judge yX0_judge, Cond.code yX0_judge cX0_judge 5 none, Cond.methodLink RX0 76 yX6_allows]
def wsX7_witness_r5 : List Cond := [Cond.instanceMethod yX6_allows, Cond.selects RX6 yX6_allows yX6_allows, Cond.code yX6_allows cX6_allows 3 (some .boolean), Cond.fieldLink RX6 34 "Nettle$Wall" "isLastAllow" "Z", Cond.fieldLink RX6 66 "Nettle$Rule" "verdict" "I", Cond.methodLink RX0 60 yX1_startsRun, Cond.instanceMethod yX1_startsRun, Cond.selects RX1 yX1_startsRun yX1_startsRun, Cond.code yX1_startsRun cX1_startsRun 4 (some .boolean), Cond.methodLink RX1 53 yX1_mask, Cond.instanceMethod yX1_mask, Cond.selects RX1 yX1_mask yX1_mask, Cond.code yX1_mask cX1_mask 3 (some .int), Cond.methodLink RX0 64 yX1_start, Cond.instanceMethod yX1_start, Cond.selects RX1 yX1_start yX1_start, Cond.code yX1_start cX1_start 3 (some .int), Cond.methodLink RX0 68 yX1_runEnd, Cond.instanceMethod yX1_runEnd, Cond.selects RX1 yX1_runEnd yX1_runEnd, Cond.code yX1_runEnd cX1_runEnd 5 (some .int), Cond.methodLink RX1 56 yX1_startsRun, Cond.methodLink RX1 60 yX1_start, Cond.methodLink RX0 72 yX1_mask]
def wsX7_witness : List Cond := .code yX7_witness cX7_witness 2 (some .int) :: ((wsX7_witness_r1 ++ (wsX7_witness_r2 ++ (wsX7_witness_r3 ++ (wsX7_witness_r4 ++ wsX7_witness_r5)))) ++ wsX00 ++ wsX70 ++ wsX10 ++ wsX60 ++ wsX30 ++ (vx_atS RX7 103 "java/lang/IllegalArgumentException" ["java/lang/RuntimeException", "java/lang/Exception"]).filter goodWord)
def wsX7_allowedWithout_r1 : List Cond := [Cond.methodLink RX7 87 yX7_needRule, Cond.instanceMethod yX7_needRule, Cond.selects RX7 yX7_needRule yX7_needRule, Cond.initialized RX7, Cond.code yX7_needRule cX7_needRule 2 none, Cond.classLink RX7 90 "java/lang/IndexOutOfBoundsException", Cond.initialized "java/lang/IndexOutOfBoundsException", Cond.fieldLink RX7 10 "Nettle" "wall" "LNettle$Wall;", Cond.fieldLink RX7 70 "Nettle$Wall" "count" "I", Cond.methodLink RX7 149 yX7_surveyed, Cond.instanceMethod yX7_surveyed, Cond.selects RX7 yX7_surveyed yX7_surveyed, Cond.code yX7_surveyed cX7_surveyed 1 (some (.object "Nettle$Survey")), Cond.fieldLink RX7 24 "Nettle" "survey" "LNettle$Survey;", Cond.methodLink RX7 377 yX4_refresh, Cond.instanceMethod yX4_refresh, Cond.selects RX4 yX4_refresh yX4_refresh, Cond.initialized RX4, Cond.code yX4_refresh cX4_refresh 2 none, Cond.fieldLink RX4 25 "Nettle$Survey" "isFresh" "Z", Cond.fieldLink RX4 9 "Nettle$Survey" "lows" "[I", Cond.fieldLink RX4 15 "Nettle$Survey" "highs" "[I", Cond.fieldLink RX4 18 "Nettle$Survey" "amounts" "[I", Cond.methodLink RX4 35 yX4_setCount]
def wsX7_allowedWithout_r2 : List Cond := [Cond.instanceMethod yX4_setCount, Cond.selects RX4 yX4_setCount yX4_setCount, Cond.code yX4_setCount cX4_setCount 1 (some .int), Cond.fieldLink RX4 21 "Nettle$Survey" "wall" "LNettle$Wall;", Cond.fieldLink RX4 46 "Nettle$Wall" "count" "I", Cond.methodLink RX4 39 yX4_measure, Cond.instanceMethod yX4_measure, Cond.selects RX4 yX4_measure yX4_measure, Cond.code yX4_measure cX4_measure 9 none, Cond.fieldLink RX4 56 "Nettle$Wall" "rows" "[LNettle$Rule;", Cond.fieldLink RX4 60 "Nettle$Rule" "lows" "[I", Cond.methodLink RX4 63 Lib.Math.max.name, Cond.static Lib.Math.max.name, Cond.initialized "java/lang/Math", Cond.code Lib.Math.max.name Lib.Math.max.code 2 (some .int), Cond.fieldLink RX4 69 "Nettle$Rule" "highs" "[I", Cond.methodLink RX4 70 Lib.Math.min.name, Cond.static Lib.Math.min.name, Cond.code Lib.Math.min.name Lib.Math.min.code 2 (some .int), Cond.methodLink RX4 52 yX6_firstOf, Cond.instanceMethod yX6_firstOf, Cond.selects RX6 yX6_firstOf yX6_firstOf, Cond.initialized RX6, Cond.code yX6_firstOf cX6_firstOf 3 (some .int)]
def wsX7_allowedWithout_r3 : List Cond := [Cond.fieldLink RX6 18 "Nettle$Wall" "count" "I", Cond.methodLink RX4 43 yX4_takeOutLarger, Cond.instanceMethod yX4_takeOutLarger, Cond.selects RX4 yX4_takeOutLarger yX4_takeOutLarger, Cond.code yX4_takeOutLarger cX4_takeOutLarger 4 none, Cond.methodLink RX7 156 yX4_amountAllowed, Cond.instanceMethod yX4_amountAllowed, Cond.selects RX4 yX4_amountAllowed yX4_amountAllowed, Cond.code yX4_amountAllowed cX4_amountAllowed 5 (some .int), Cond.methodLink RX4 73 yX6_deciders, Cond.instanceMethod yX6_deciders, Cond.selects RX6 yX6_deciders yX6_deciders, Cond.code yX6_deciders cX6_deciders 3 (some .int), Cond.fieldLink RX6 11 "Nettle$Wall" "rows" "[LNettle$Rule;", Cond.methodLink RX6 38 yX3_isNote, Cond.instanceMethod yX3_isNote, Cond.selects RX3 yX3_isNote yX3_isNote, Cond.initialized RX3, Cond.code yX3_isNote cX3_isNote 1 (some .boolean), Cond.fieldLink RX3 18 "Nettle$Rule" "verdict" "I", Cond.methodLink RX4 76 yX6_allows, Cond.instanceMethod yX6_allows, Cond.selects RX6 yX6_allows yX6_allows, Cond.code yX6_allows cX6_allows 3 (some .boolean)]
def wsX7_allowedWithout_r4 : List Cond := [Cond.fieldLink RX6 34 "Nettle$Wall" "isLastAllow" "Z", Cond.fieldLink RX6 66 "Nettle$Rule" "verdict" "I", Cond.methodLink RX6 62 yX6_firstOf]
def wsX7_allowedWithout : List Cond := .code yX7_allowedWithout cX7_allowedWithout 2 (some .int) :: ((wsX7_allowedWithout_r1 ++ (wsX7_allowedWithout_r2 ++ (wsX7_allowedWithout_r3 ++ wsX7_allowedWithout_r4))) ++ wsX70 ++ wsX60 ++ wsX40 ++ wsX30 ++ (vx_atS RX7 94 "java/lang/IndexOutOfBoundsException" ["java/lang/RuntimeException", "java/lang/Exception"]).filter goodWord)
def wsX7_changedByMove_r1 : List Cond := [Cond.methodLink RX7 87 yX7_needRule, Cond.instanceMethod yX7_needRule, Cond.selects RX7 yX7_needRule yX7_needRule, Cond.initialized RX7, Cond.code yX7_needRule cX7_needRule 2 none, Cond.classLink RX7 90 "java/lang/IndexOutOfBoundsException", Cond.initialized "java/lang/IndexOutOfBoundsException", Cond.fieldLink RX7 10 "Nettle" "wall" "LNettle$Wall;", Cond.fieldLink RX7 70 "Nettle$Wall" "count" "I", Cond.methodLink RX7 149 yX7_surveyed, Cond.instanceMethod yX7_surveyed, Cond.selects RX7 yX7_surveyed yX7_surveyed, Cond.code yX7_surveyed cX7_surveyed 1 (some (.object "Nettle$Survey")), Cond.fieldLink RX7 24 "Nettle" "survey" "LNettle$Survey;", Cond.methodLink RX7 377 yX4_refresh, Cond.instanceMethod yX4_refresh, Cond.selects RX4 yX4_refresh yX4_refresh, Cond.initialized RX4, Cond.code yX4_refresh cX4_refresh 2 none, Cond.fieldLink RX4 25 "Nettle$Survey" "isFresh" "Z", Cond.fieldLink RX4 9 "Nettle$Survey" "lows" "[I", Cond.fieldLink RX4 15 "Nettle$Survey" "highs" "[I", Cond.fieldLink RX4 18 "Nettle$Survey" "amounts" "[I", Cond.methodLink RX4 35 yX4_setCount]
def wsX7_changedByMove_r2 : List Cond := [Cond.instanceMethod yX4_setCount, Cond.selects RX4 yX4_setCount yX4_setCount, Cond.code yX4_setCount cX4_setCount 1 (some .int), Cond.fieldLink RX4 21 "Nettle$Survey" "wall" "LNettle$Wall;", Cond.fieldLink RX4 46 "Nettle$Wall" "count" "I", Cond.methodLink RX4 39 yX4_measure, Cond.instanceMethod yX4_measure, Cond.selects RX4 yX4_measure yX4_measure, Cond.code yX4_measure cX4_measure 9 none, Cond.fieldLink RX4 56 "Nettle$Wall" "rows" "[LNettle$Rule;", Cond.fieldLink RX4 60 "Nettle$Rule" "lows" "[I", Cond.methodLink RX4 63 Lib.Math.max.name, Cond.static Lib.Math.max.name, Cond.initialized "java/lang/Math", Cond.code Lib.Math.max.name Lib.Math.max.code 2 (some .int), Cond.fieldLink RX4 69 "Nettle$Rule" "highs" "[I", Cond.methodLink RX4 70 Lib.Math.min.name, Cond.static Lib.Math.min.name, Cond.code Lib.Math.min.name Lib.Math.min.code 2 (some .int), Cond.methodLink RX4 52 yX6_firstOf, Cond.instanceMethod yX6_firstOf, Cond.selects RX6 yX6_firstOf yX6_firstOf, Cond.initialized RX6, Cond.code yX6_firstOf cX6_firstOf 3 (some .int)]
def wsX7_changedByMove_r3 : List Cond := [Cond.fieldLink RX6 18 "Nettle$Wall" "count" "I", Cond.methodLink RX4 43 yX4_takeOutLarger, Cond.instanceMethod yX4_takeOutLarger, Cond.selects RX4 yX4_takeOutLarger yX4_takeOutLarger, Cond.code yX4_takeOutLarger cX4_takeOutLarger 4 none, Cond.methodLink RX7 289 yX4_amountMoved, Cond.instanceMethod yX4_amountMoved, Cond.selects RX4 yX4_amountMoved yX4_amountMoved, Cond.code yX4_amountMoved cX4_amountMoved 6 (some .int), Cond.methodLink RX4 73 yX6_deciders, Cond.instanceMethod yX6_deciders, Cond.selects RX6 yX6_deciders yX6_deciders, Cond.code yX6_deciders cX6_deciders 3 (some .int), Cond.fieldLink RX6 11 "Nettle$Wall" "rows" "[LNettle$Rule;", Cond.methodLink RX6 38 yX3_isNote, Cond.instanceMethod yX3_isNote, Cond.selects RX3 yX3_isNote yX3_isNote, Cond.initialized RX3, Cond.code yX3_isNote cX3_isNote 1 (some .boolean), Cond.fieldLink RX3 18 "Nettle$Rule" "verdict" "I", Cond.methodLink RX4 76 yX6_allows, Cond.instanceMethod yX6_allows, Cond.selects RX6 yX6_allows yX6_allows, Cond.code yX6_allows cX6_allows 3 (some .boolean)]
def wsX7_changedByMove_r4 : List Cond := [Cond.fieldLink RX6 34 "Nettle$Wall" "isLastAllow" "Z", Cond.fieldLink RX6 66 "Nettle$Rule" "verdict" "I", Cond.methodLink RX6 62 yX6_firstOf, Cond.methodLink RX4 87 yX4_allowsMoved, Cond.instanceMethod yX4_allowsMoved, Cond.selects RX4 yX4_allowsMoved yX4_allowsMoved, Cond.code yX4_allowsMoved cX4_allowsMoved 7 (some .boolean)]
def wsX7_changedByMove : List Cond := .code yX7_changedByMove cX7_changedByMove 3 (some .int) :: ((wsX7_changedByMove_r1 ++ (wsX7_changedByMove_r2 ++ (wsX7_changedByMove_r3 ++ wsX7_changedByMove_r4))) ++ wsX70 ++ wsX60 ++ wsX40 ++ wsX30 ++ (vx_atS RX7 94 "java/lang/IndexOutOfBoundsException" ["java/lang/RuntimeException", "java/lang/Exception"]).filter goodWord)
def wsX7_mix : List Cond := .code yX7_mix cX7_mix 3 (some .long) :: ([.constantLong RX7 329 (31)])
def wsX7_mixRule_r1 : List Cond := [Cond.methodLink RX7 331 yX7_ofRule, Cond.instanceMethod yX7_ofRule, Cond.selects RX7 yX7_ofRule yX7_ofRule, Cond.initialized RX7, Cond.code yX7_ofRule cX7_ofRule 5 (some .int), Cond.fieldLink RX7 10 "Nettle" "wall" "LNettle$Wall;", Cond.fieldLink RX7 104 "Nettle$Wall" "rows" "[LNettle$Rule;", Cond.fieldLink RX7 120 "Nettle$Rule" "verdict" "I", Cond.fieldLink RX7 146 "Nettle$Rule" "hits" "I", Cond.fieldLink RX7 114 "Nettle$Rule" "lows" "[I", Cond.fieldLink RX7 117 "Nettle$Rule" "highs" "[I", Cond.methodLink RX7 87 yX7_needRule, Cond.instanceMethod yX7_needRule, Cond.selects RX7 yX7_needRule yX7_needRule, Cond.code yX7_needRule cX7_needRule 2 none, Cond.classLink RX7 90 "java/lang/IndexOutOfBoundsException", Cond.initialized "java/lang/IndexOutOfBoundsException", Cond.fieldLink RX7 70 "Nettle$Wall" "count" "I", Cond.methodLink RX7 143 yX7_needWhat, Cond.static yX7_needWhat, Cond.code yX7_needWhat cX7_needWhat 2 none, Cond.classLink RX7 99 "java/lang/IllegalArgumentException", Cond.initialized "java/lang/IllegalArgumentException", Cond.methodLink RX7 297 yX7_mix]
def wsX7_mixRule_r2 : List Cond := [Cond.static yX7_mix, Cond.code yX7_mix cX7_mix 3 (some .long), Cond.constantLong RX7 329 (31), Cond.methodLink RX7 334 yX7_decides, Cond.instanceMethod yX7_decides, Cond.selects RX7 yX7_decides yX7_decides, Cond.code yX7_decides cX7_decides 2 (some .int), Cond.methodLink RX7 149 yX7_surveyed, Cond.instanceMethod yX7_surveyed, Cond.selects RX7 yX7_surveyed yX7_surveyed, Cond.code yX7_surveyed cX7_surveyed 1 (some (.object "Nettle$Survey")), Cond.fieldLink RX7 24 "Nettle" "survey" "LNettle$Survey;", Cond.methodLink RX7 377 yX4_refresh, Cond.instanceMethod yX4_refresh, Cond.selects RX4 yX4_refresh yX4_refresh, Cond.initialized RX4, Cond.code yX4_refresh cX4_refresh 2 none, Cond.fieldLink RX4 25 "Nettle$Survey" "isFresh" "Z", Cond.fieldLink RX4 9 "Nettle$Survey" "lows" "[I", Cond.fieldLink RX4 15 "Nettle$Survey" "highs" "[I", Cond.fieldLink RX4 18 "Nettle$Survey" "amounts" "[I", Cond.methodLink RX4 35 yX4_setCount, Cond.instanceMethod yX4_setCount, Cond.selects RX4 yX4_setCount yX4_setCount]
def wsX7_mixRule_r3 : List Cond := [Cond.code yX4_setCount cX4_setCount 1 (some .int), Cond.fieldLink RX4 21 "Nettle$Survey" "wall" "LNettle$Wall;", Cond.fieldLink RX4 46 "Nettle$Wall" "count" "I", Cond.methodLink RX4 39 yX4_measure, Cond.instanceMethod yX4_measure, Cond.selects RX4 yX4_measure yX4_measure, Cond.code yX4_measure cX4_measure 9 none, Cond.fieldLink RX4 56 "Nettle$Wall" "rows" "[LNettle$Rule;", Cond.fieldLink RX4 60 "Nettle$Rule" "lows" "[I", Cond.methodLink RX4 63 Lib.Math.max.name, Cond.static Lib.Math.max.name, Cond.initialized "java/lang/Math", Cond.code Lib.Math.max.name Lib.Math.max.code 2 (some .int), Cond.fieldLink RX4 69 "Nettle$Rule" "highs" "[I", Cond.methodLink RX4 70 Lib.Math.min.name, Cond.static Lib.Math.min.name, Cond.code Lib.Math.min.name Lib.Math.min.code 2 (some .int), Cond.methodLink RX4 52 yX6_firstOf, Cond.instanceMethod yX6_firstOf, Cond.selects RX6 yX6_firstOf yX6_firstOf, Cond.initialized RX6, Cond.code yX6_firstOf cX6_firstOf 3 (some .int), Cond.fieldLink RX6 18 "Nettle$Wall" "count" "I", Cond.methodLink RX4 43 yX4_takeOutLarger]
def wsX7_mixRule_r4 : List Cond := [Cond.instanceMethod yX4_takeOutLarger, Cond.selects RX4 yX4_takeOutLarger yX4_takeOutLarger, Cond.code yX4_takeOutLarger cX4_takeOutLarger 4 none, Cond.methodLink RX7 153 yX4_amountOf, Cond.instanceMethod yX4_amountOf, Cond.selects RX4 yX4_amountOf yX4_amountOf, Cond.code yX4_amountOf cX4_amountOf 6 (some .int), Cond.methodLink RX4 73 yX6_deciders, Cond.instanceMethod yX6_deciders, Cond.selects RX6 yX6_deciders yX6_deciders, Cond.code yX6_deciders cX6_deciders 3 (some .int), Cond.fieldLink RX6 11 "Nettle$Wall" "rows" "[LNettle$Rule;", Cond.methodLink RX6 38 yX3_isNote, Cond.instanceMethod yX3_isNote, Cond.selects RX3 yX3_isNote yX3_isNote, Cond.initialized RX3, Cond.code yX3_isNote cX3_isNote 1 (some .boolean), Cond.fieldLink RX3 18 "Nettle$Rule" "verdict" "I", Cond.methodLink RX7 337 yX7_state, Cond.instanceMethod yX7_state, Cond.selects RX7 yX7_state yX7_state, Cond.code yX7_state cX7_state 3 (some .int), Cond.methodLink RX7 159 yX4_isDead, Cond.instanceMethod yX4_isDead]
def wsX7_mixRule_r5 : List Cond := [Cond.selects RX4 yX4_isDead yX4_isDead, Cond.code yX4_isDead cX4_isDead 2 (some .boolean), Cond.methodLink RX4 80 yX4_amountOf, Cond.methodLink RX7 163 yX4_isNeedless, Cond.instanceMethod yX4_isNeedless, Cond.selects RX4 yX4_isNeedless yX4_isNeedless, Cond.code yX4_isNeedless cX4_isNeedless 5 (some .boolean), Cond.methodLink RX4 83 yX3_isNote, Cond.methodLink RX4 76 yX6_allows, Cond.instanceMethod yX6_allows, Cond.selects RX6 yX6_allows yX6_allows, Cond.code yX6_allows cX6_allows 3 (some .boolean), Cond.fieldLink RX6 34 "Nettle$Wall" "isLastAllow" "Z", Cond.fieldLink RX6 66 "Nettle$Rule" "verdict" "I", Cond.methodLink RX6 62 yX6_firstOf, Cond.methodLink RX7 166 yX6_firstCover, Cond.instanceMethod yX6_firstCover, Cond.selects RX6 yX6_firstCover yX6_firstCover, Cond.code yX6_firstCover cX6_firstCover 3 (some .int), Cond.methodLink RX6 73 yX3_covers, Cond.instanceMethod yX3_covers, Cond.selects RX3 yX3_covers yX3_covers, Cond.code yX3_covers cX3_covers 3 (some .boolean), Cond.fieldLink RX3 9 "Nettle$Rule" "lows" "[I"]
def wsX7_mixRule_r6 : List Cond := [Cond.fieldLink RX3 15 "Nettle$Rule" "highs" "[I", Cond.methodLink RX7 340 yX7_coveredBy, Cond.instanceMethod yX7_coveredBy, Cond.selects RX7 yX7_coveredBy yX7_coveredBy, Cond.code yX7_coveredBy cX7_coveredBy 2 (some .int), Cond.methodLink RX7 343 yX7_allowedWithout, Cond.instanceMethod yX7_allowedWithout, Cond.selects RX7 yX7_allowedWithout yX7_allowedWithout, Cond.code yX7_allowedWithout cX7_allowedWithout 2 (some .int), Cond.methodLink RX7 156 yX4_amountAllowed, Cond.instanceMethod yX4_amountAllowed, Cond.selects RX4 yX4_amountAllowed yX4_amountAllowed, Cond.code yX4_amountAllowed cX4_amountAllowed 5 (some .int)]
def wsX7_mixRule : List Cond := .code yX7_mixRule cX7_mixRule 7 (some .long) :: ((wsX7_mixRule_r1 ++ (wsX7_mixRule_r2 ++ (wsX7_mixRule_r3 ++ (wsX7_mixRule_r4 ++ (wsX7_mixRule_r5 ++ wsX7_mixRule_r6))))) ++ wsX70 ++ wsX60 ++ wsX30 ++ wsX40 ++ (vx_atS RX7 94 "java/lang/IndexOutOfBoundsException" ["java/lang/RuntimeException", "java/lang/Exception"]).filter goodWord ++ (vx_atS RX7 103 "java/lang/IllegalArgumentException" ["java/lang/RuntimeException", "java/lang/Exception"]).filter goodWord)
def wsX7_mixNode_r1 : List Cond := [Cond.methodLink RX7 346 yX7_ofNode, Cond.instanceMethod yX7_ofNode, Cond.selects RX7 yX7_ofNode yX7_ofNode, Cond.initialized RX7, Cond.code yX7_ofNode cX7_ofNode 4 (some .int), Cond.methodLink RX7 189 yX7_compiled, Cond.instanceMethod yX7_compiled, Cond.selects RX7 yX7_compiled yX7_compiled, Cond.code yX7_compiled cX7_compiled 1 (some (.object "Nettle$Tree")), Cond.fieldLink RX7 33 "Nettle" "cuts" "LNettle$Cuts;", Cond.fieldLink RX7 42 "Nettle" "tree" "LNettle$Tree;", Cond.methodLink RX7 380 yX1_refresh, Cond.instanceMethod yX1_refresh, Cond.selects RX1 yX1_refresh yX1_refresh, Cond.initialized RX1, Cond.code yX1_refresh cX1_refresh 2 none, Cond.fieldLink RX1 28 "Nettle$Cuts" "isFresh" "Z", Cond.methodLink RX1 32 yX1_cut, Cond.instanceMethod yX1_cut, Cond.selects RX1 yX1_cut yX1_cut, Cond.code yX1_cut cX1_cut 4 none, Cond.fieldLink RX1 15 "Nettle$Cuts" "starts" "[I", Cond.fieldLink RX1 18 "Nettle$Cuts" "masks" "[I", Cond.fieldLink RX1 21 "Nettle$Cuts" "now" "LNettle$Wall;"]
def wsX7_mixNode_r2 : List Cond := [Cond.fieldLink RX1 25 "Nettle$Cuts" "old" "LNettle$Wall;", Cond.methodLink RX1 48 Lib.Math.min.name, Cond.static Lib.Math.min.name, Cond.initialized "java/lang/Math", Cond.code Lib.Math.min.name Lib.Math.min.code 2 (some .int), Cond.fieldLink RX1 9 "Nettle$Cuts" "counts" "[I", Cond.methodLink RX1 39 yX6_having, Cond.instanceMethod yX6_having, Cond.selects RX6 yX6_having yX6_having, Cond.initialized RX6, Cond.code yX6_having cX6_having 5 (some .int), Cond.fieldLink RX6 18 "Nettle$Wall" "count" "I", Cond.fieldLink RX6 11 "Nettle$Wall" "rows" "[LNettle$Rule;", Cond.methodLink RX6 42 yX3_has, Cond.instanceMethod yX3_has, Cond.selects RX3 yX3_has yX3_has, Cond.initialized RX3, Cond.code yX3_has cX3_has 3 (some .boolean), Cond.fieldLink RX3 9 "Nettle$Rule" "lows" "[I", Cond.fieldLink RX3 15 "Nettle$Rule" "highs" "[I", Cond.methodLink RX1 45 yX6_nextCut, Cond.instanceMethod yX6_nextCut, Cond.selects RX6 yX6_nextCut yX6_nextCut, Cond.code yX6_nextCut cX6_nextCut 5 (some .int)]
def wsX7_mixNode_r3 : List Cond := [Cond.fieldLink RX6 50 "Nettle$Rule" "lows" "[I", Cond.methodLink RX6 53 Lib.Math.min.name, Cond.fieldLink RX6 59 "Nettle$Rule" "highs" "[I", Cond.methodLink RX7 381 yX5_refresh, Cond.instanceMethod yX5_refresh, Cond.selects RX5 yX5_refresh yX5_refresh, Cond.initialized RX5, Cond.code yX5_refresh cX5_refresh 2 none, Cond.fieldLink RX5 29 "Nettle$Tree" "isFresh" "Z", Cond.fieldLink RX5 33 "Nettle$Tree" "count" "I", Cond.fieldLink RX5 9 "Nettle$Tree" "numbers" "[I", Cond.fieldLink RX5 21 "Nettle$Tree" "wall" "LNettle$Wall;", Cond.methodLink RX5 37 yX6_deciders, Cond.instanceMethod yX6_deciders, Cond.selects RX6 yX6_deciders yX6_deciders, Cond.code yX6_deciders cX6_deciders 3 (some .int), Cond.methodLink RX6 38 yX3_isNote, Cond.instanceMethod yX3_isNote, Cond.selects RX3 yX3_isNote yX3_isNote, Cond.code yX3_isNote cX3_isNote 1 (some .boolean), Cond.fieldLink RX3 18 "Nettle$Rule" "verdict" "I", Cond.methodLink RX5 43 yX5_find, Cond.static yX5_find, Cond.code yX5_find cX5_find 9 (some .int)]
def wsX7_mixNode_r4 : List Cond := [Cond.fieldLink RX5 15 "Nettle$Tree" "codes" "[I", Cond.fieldLink RX5 25 "Nettle$Tree" "cuts" "LNettle$Cuts;", Cond.fieldLink RX5 58 "Nettle$Cuts" "counts" "[I", Cond.fieldLink RX5 18 "Nettle$Tree" "sums" "[I", Cond.methodLink RX5 47 yX6_isSettled, Cond.instanceMethod yX6_isSettled, Cond.selects RX6 yX6_isSettled yX6_isSettled, Cond.code yX6_isSettled cX6_isSettled 4 (some .boolean), Cond.methodLink RX6 62 yX6_firstOf, Cond.instanceMethod yX6_firstOf, Cond.selects RX6 yX6_firstOf yX6_firstOf, Cond.code yX6_firstOf cX6_firstOf 3 (some .int), Cond.methodLink RX6 69 yX3_isWholeFrom, Cond.instanceMethod yX3_isWholeFrom, Cond.selects RX3 yX3_isWholeFrom yX3_isWholeFrom, Cond.code yX3_isWholeFrom cX3_isWholeFrom 3 (some .boolean), Cond.methodLink RX5 51 yX6_firstOf, Cond.methodLink RX5 63 yX1_mask, Cond.instanceMethod yX1_mask, Cond.selects RX1 yX1_mask yX1_mask, Cond.code yX1_mask cX1_mask 3 (some .int), Cond.methodLink RX5 67 yX1_start, Cond.instanceMethod yX1_start, Cond.selects RX1 yX1_start yX1_start]
def wsX7_mixNode_r5 : List Cond := [Cond.code yX1_start cX1_start 3 (some .int), Cond.methodLink RX7 194 yX7_needNode, Cond.static yX7_needNode, Cond.code yX7_needNode cX7_needNode 2 none, Cond.classLink RX7 90 "java/lang/IndexOutOfBoundsException", Cond.initialized "java/lang/IndexOutOfBoundsException", Cond.fieldLink RX7 193 "Nettle$Tree" "count" "I", Cond.methodLink RX7 143 yX7_needWhat, Cond.static yX7_needWhat, Cond.code yX7_needWhat cX7_needWhat 2 none, Cond.classLink RX7 99 "java/lang/IllegalArgumentException", Cond.initialized "java/lang/IllegalArgumentException", Cond.methodLink RX7 198 yX5_fieldOf, Cond.instanceMethod yX5_fieldOf, Cond.selects RX5 yX5_fieldOf yX5_fieldOf, Cond.code yX5_fieldOf cX5_fieldOf 2 (some .int), Cond.methodLink RX7 201 yX5_setOf, Cond.instanceMethod yX5_setOf, Cond.selects RX5 yX5_setOf yX5_setOf, Cond.code yX5_setOf cX5_setOf 2 (some .int), Cond.methodLink RX7 204 yX5_pieceCount, Cond.instanceMethod yX5_pieceCount, Cond.selects RX5 yX5_pieceCount yX5_pieceCount, Cond.code yX5_pieceCount cX5_pieceCount 4 (some .int)]
def wsX7_mixNode_r6 : List Cond := [Cond.methodLink RX5 70 yX5_fieldOf, Cond.methodLink RX5 73 yX5_setOf, Cond.methodLink RX5 76 yX1_startsRun, Cond.instanceMethod yX1_startsRun, Cond.selects RX1 yX1_startsRun yX1_startsRun, Cond.code yX1_startsRun cX1_startsRun 4 (some .boolean), Cond.methodLink RX1 53 yX1_mask, Cond.methodLink RX7 297 yX7_mix, Cond.static yX7_mix, Cond.code yX7_mix cX7_mix 3 (some .long), Cond.constantLong RX7 329 (31), Cond.methodLink RX7 349 yX7_piece, Cond.instanceMethod yX7_piece, Cond.selects RX7 yX7_piece yX7_piece, Cond.code yX7_piece cX7_piece 7 (some .int), Cond.methodLink RX7 207 yX5_segmentOf, Cond.instanceMethod yX5_segmentOf, Cond.selects RX5 yX5_segmentOf yX5_segmentOf, Cond.code yX5_segmentOf cX5_segmentOf 5 (some .int), Cond.methodLink RX7 213 yX1_start, Cond.methodLink RX7 216 yX1_runEnd, Cond.instanceMethod yX1_runEnd, Cond.selects RX1 yX1_runEnd yX1_runEnd, Cond.code yX1_runEnd cX1_runEnd 5 (some .int)]
def wsX7_mixNode_r7 : List Cond := [Cond.methodLink RX1 56 yX1_startsRun, Cond.methodLink RX1 60 yX1_start, Cond.methodLink RX7 220 yX5_leadOf, Cond.instanceMethod yX5_leadOf, Cond.selects RX5 yX5_leadOf yX5_leadOf, Cond.code yX5_leadOf cX5_leadOf 4 (some .int)]
def wsX7_mixNode : List Cond := .code yX7_mixNode cX7_mixNode 9 (some .long) :: ((wsX7_mixNode_r1 ++ (wsX7_mixNode_r2 ++ (wsX7_mixNode_r3 ++ (wsX7_mixNode_r4 ++ (wsX7_mixNode_r5 ++ (wsX7_mixNode_r6 ++ wsX7_mixNode_r7)))))) ++ wsX70 ++ wsX10 ++ wsX60 ++ wsX30 ++ wsX50 ++ (vx_atS RX7 94 "java/lang/IndexOutOfBoundsException" ["java/lang/RuntimeException", "java/lang/Exception"]).filter goodWord ++ (vx_atS RX7 103 "java/lang/IllegalArgumentException" ["java/lang/RuntimeException", "java/lang/Exception"]).filter goodWord)
def wsX7_mixLog_r1 : List Cond := [Cond.fieldLink RX7 58 "Nettle" "log" "LNettle$Log;", Cond.fieldLink RX7 264 "Nettle$Log" "size" "I", Cond.methodLink RX7 352 yX7_sent, Cond.instanceMethod yX7_sent, Cond.selects RX7 yX7_sent yX7_sent, Cond.initialized RX7, Cond.code yX7_sent cX7_sent 2 (some .int), Cond.fieldLink RX7 255 "Nettle$Log" "all" "I", Cond.fieldLink RX7 258 "Nettle$Log" "passed" "I", Cond.fieldLink RX7 261 "Nettle$Log" "remembered" "I", Cond.fieldLink RX7 267 "Nettle$Log" "byLastWord" "I", Cond.methodLink RX7 143 yX7_needWhat, Cond.static yX7_needWhat, Cond.code yX7_needWhat cX7_needWhat 2 none, Cond.classLink RX7 99 "java/lang/IllegalArgumentException", Cond.initialized "java/lang/IllegalArgumentException", Cond.methodLink RX7 297 yX7_mix, Cond.static yX7_mix, Cond.code yX7_mix cX7_mix 3 (some .long), Cond.constantLong RX7 329 (31), Cond.methodLink RX7 355 yX7_kept, Cond.instanceMethod yX7_kept, Cond.selects RX7 yX7_kept yX7_kept, Cond.code yX7_kept cX7_kept 3 (some .int)]
def wsX7_mixLog_r2 : List Cond := [Cond.classLink RX7 90 "java/lang/IndexOutOfBoundsException", Cond.initialized "java/lang/IndexOutOfBoundsException", Cond.fieldLink RX7 274 "Nettle$Log" "rows" "[I"]
def wsX7_mixLog : List Cond := .code yX7_mixLog cX7_mixLog 7 (some .long) :: ((wsX7_mixLog_r1 ++ wsX7_mixLog_r2) ++ wsX70 ++ wsX20 ++ (vx_atS RX7 103 "java/lang/IllegalArgumentException" ["java/lang/RuntimeException", "java/lang/Exception"]).filter goodWord ++ (vx_atS RX7 94 "java/lang/IndexOutOfBoundsException" ["java/lang/RuntimeException", "java/lang/Exception"]).filter goodWord)
def wsX7_digest_r1 : List Cond := [Cond.constantLong RX7 292 (58082), Cond.fieldLink RX7 10 "Nettle" "wall" "LNettle$Wall;", Cond.fieldLink RX7 70 "Nettle$Wall" "count" "I", Cond.methodLink RX7 313 Lib.Math.min.name, Cond.static Lib.Math.min.name, Cond.initialized "java/lang/Math", Cond.code Lib.Math.min.name Lib.Math.min.code 2 (some .int), Cond.methodLink RX7 294 yX7_rules, Cond.instanceMethod yX7_rules, Cond.selects RX7 yX7_rules yX7_rules, Cond.initialized RX7, Cond.code yX7_rules cX7_rules 1 (some .int), Cond.methodLink RX7 297 yX7_mix, Cond.static yX7_mix, Cond.code yX7_mix cX7_mix 3 (some .long), Cond.constantLong RX7 329 (31), Cond.methodLink RX7 301 yX7_mixRule, Cond.instanceMethod yX7_mixRule, Cond.selects RX7 yX7_mixRule yX7_mixRule, Cond.code yX7_mixRule cX7_mixRule 7 (some .long), Cond.methodLink RX7 331 yX7_ofRule, Cond.instanceMethod yX7_ofRule, Cond.selects RX7 yX7_ofRule yX7_ofRule, Cond.code yX7_ofRule cX7_ofRule 5 (some .int)]
def wsX7_digest_r2 : List Cond := [Cond.fieldLink RX7 104 "Nettle$Wall" "rows" "[LNettle$Rule;", Cond.fieldLink RX7 120 "Nettle$Rule" "verdict" "I", Cond.fieldLink RX7 146 "Nettle$Rule" "hits" "I", Cond.fieldLink RX7 114 "Nettle$Rule" "lows" "[I", Cond.fieldLink RX7 117 "Nettle$Rule" "highs" "[I", Cond.methodLink RX7 87 yX7_needRule, Cond.instanceMethod yX7_needRule, Cond.selects RX7 yX7_needRule yX7_needRule, Cond.code yX7_needRule cX7_needRule 2 none, Cond.classLink RX7 90 "java/lang/IndexOutOfBoundsException", Cond.initialized "java/lang/IndexOutOfBoundsException", Cond.methodLink RX7 143 yX7_needWhat, Cond.static yX7_needWhat, Cond.code yX7_needWhat cX7_needWhat 2 none, Cond.classLink RX7 99 "java/lang/IllegalArgumentException", Cond.initialized "java/lang/IllegalArgumentException", Cond.methodLink RX7 334 yX7_decides, Cond.instanceMethod yX7_decides, Cond.selects RX7 yX7_decides yX7_decides, Cond.code yX7_decides cX7_decides 2 (some .int), Cond.methodLink RX7 149 yX7_surveyed, Cond.instanceMethod yX7_surveyed, Cond.selects RX7 yX7_surveyed yX7_surveyed, Cond.code yX7_surveyed cX7_surveyed 1 (some (.object "Nettle$Survey"))]
def wsX7_digest_r3 : List Cond := [Cond.fieldLink RX7 24 "Nettle" "survey" "LNettle$Survey;", Cond.methodLink RX7 377 yX4_refresh, Cond.instanceMethod yX4_refresh, Cond.selects RX4 yX4_refresh yX4_refresh, Cond.initialized RX4, Cond.code yX4_refresh cX4_refresh 2 none, Cond.fieldLink RX4 25 "Nettle$Survey" "isFresh" "Z", Cond.fieldLink RX4 9 "Nettle$Survey" "lows" "[I", Cond.fieldLink RX4 15 "Nettle$Survey" "highs" "[I", Cond.fieldLink RX4 18 "Nettle$Survey" "amounts" "[I", Cond.methodLink RX4 35 yX4_setCount, Cond.instanceMethod yX4_setCount, Cond.selects RX4 yX4_setCount yX4_setCount, Cond.code yX4_setCount cX4_setCount 1 (some .int), Cond.fieldLink RX4 21 "Nettle$Survey" "wall" "LNettle$Wall;", Cond.fieldLink RX4 46 "Nettle$Wall" "count" "I", Cond.methodLink RX4 39 yX4_measure, Cond.instanceMethod yX4_measure, Cond.selects RX4 yX4_measure yX4_measure, Cond.code yX4_measure cX4_measure 9 none, Cond.fieldLink RX4 56 "Nettle$Wall" "rows" "[LNettle$Rule;", Cond.fieldLink RX4 60 "Nettle$Rule" "lows" "[I", Cond.methodLink RX4 63 Lib.Math.max.name, Cond.static Lib.Math.max.name]
def wsX7_digest_r4 : List Cond := [Cond.code Lib.Math.max.name Lib.Math.max.code 2 (some .int), Cond.fieldLink RX4 69 "Nettle$Rule" "highs" "[I", Cond.methodLink RX4 70 Lib.Math.min.name, Cond.methodLink RX4 52 yX6_firstOf, Cond.instanceMethod yX6_firstOf, Cond.selects RX6 yX6_firstOf yX6_firstOf, Cond.initialized RX6, Cond.code yX6_firstOf cX6_firstOf 3 (some .int), Cond.fieldLink RX6 18 "Nettle$Wall" "count" "I", Cond.methodLink RX4 43 yX4_takeOutLarger, Cond.instanceMethod yX4_takeOutLarger, Cond.selects RX4 yX4_takeOutLarger yX4_takeOutLarger, Cond.code yX4_takeOutLarger cX4_takeOutLarger 4 none, Cond.methodLink RX7 153 yX4_amountOf, Cond.instanceMethod yX4_amountOf, Cond.selects RX4 yX4_amountOf yX4_amountOf, Cond.code yX4_amountOf cX4_amountOf 6 (some .int), Cond.methodLink RX4 73 yX6_deciders, Cond.instanceMethod yX6_deciders, Cond.selects RX6 yX6_deciders yX6_deciders, Cond.code yX6_deciders cX6_deciders 3 (some .int), Cond.fieldLink RX6 11 "Nettle$Wall" "rows" "[LNettle$Rule;", Cond.methodLink RX6 38 yX3_isNote, Cond.instanceMethod yX3_isNote]
def wsX7_digest_r5 : List Cond := [Cond.selects RX3 yX3_isNote yX3_isNote, Cond.initialized RX3, Cond.code yX3_isNote cX3_isNote 1 (some .boolean), Cond.fieldLink RX3 18 "Nettle$Rule" "verdict" "I", Cond.methodLink RX7 337 yX7_state, Cond.instanceMethod yX7_state, Cond.selects RX7 yX7_state yX7_state, Cond.code yX7_state cX7_state 3 (some .int), Cond.methodLink RX7 159 yX4_isDead, Cond.instanceMethod yX4_isDead, Cond.selects RX4 yX4_isDead yX4_isDead, Cond.code yX4_isDead cX4_isDead 2 (some .boolean), Cond.methodLink RX4 80 yX4_amountOf, Cond.methodLink RX7 163 yX4_isNeedless, Cond.instanceMethod yX4_isNeedless, Cond.selects RX4 yX4_isNeedless yX4_isNeedless, Cond.code yX4_isNeedless cX4_isNeedless 5 (some .boolean), Cond.methodLink RX4 83 yX3_isNote, Cond.methodLink RX4 76 yX6_allows, Cond.instanceMethod yX6_allows, Cond.selects RX6 yX6_allows yX6_allows, Cond.code yX6_allows cX6_allows 3 (some .boolean), Cond.fieldLink RX6 34 "Nettle$Wall" "isLastAllow" "Z", Cond.fieldLink RX6 66 "Nettle$Rule" "verdict" "I"]
def wsX7_digest_r6 : List Cond := [Cond.methodLink RX6 62 yX6_firstOf, Cond.methodLink RX7 166 yX6_firstCover, Cond.instanceMethod yX6_firstCover, Cond.selects RX6 yX6_firstCover yX6_firstCover, Cond.code yX6_firstCover cX6_firstCover 3 (some .int), Cond.methodLink RX6 73 yX3_covers, Cond.instanceMethod yX3_covers, Cond.selects RX3 yX3_covers yX3_covers, Cond.code yX3_covers cX3_covers 3 (some .boolean), Cond.fieldLink RX3 9 "Nettle$Rule" "lows" "[I", Cond.fieldLink RX3 15 "Nettle$Rule" "highs" "[I", Cond.methodLink RX7 340 yX7_coveredBy, Cond.instanceMethod yX7_coveredBy, Cond.selects RX7 yX7_coveredBy yX7_coveredBy, Cond.code yX7_coveredBy cX7_coveredBy 2 (some .int), Cond.methodLink RX7 343 yX7_allowedWithout, Cond.instanceMethod yX7_allowedWithout, Cond.selects RX7 yX7_allowedWithout yX7_allowedWithout, Cond.code yX7_allowedWithout cX7_allowedWithout 2 (some .int), Cond.methodLink RX7 156 yX4_amountAllowed, Cond.instanceMethod yX4_amountAllowed, Cond.selects RX4 yX4_amountAllowed yX4_amountAllowed, Cond.code yX4_amountAllowed cX4_amountAllowed 5 (some .int), Cond.methodLink RX7 304 yX7_allowed]
def wsX7_digest_r7 : List Cond := [Cond.instanceMethod yX7_allowed, Cond.selects RX7 yX7_allowed yX7_allowed, Cond.code yX7_allowed cX7_allowed 1 (some .int), Cond.methodLink RX7 307 yX7_quarrels, Cond.instanceMethod yX7_quarrels, Cond.selects RX7 yX7_quarrels yX7_quarrels, Cond.code yX7_quarrels cX7_quarrels 4 (some .int), Cond.methodLink RX7 173 yX3_isAgainst, Cond.instanceMethod yX3_isAgainst, Cond.selects RX3 yX3_isAgainst yX3_isAgainst, Cond.code yX3_isAgainst cX3_isAgainst 2 (some .boolean), Cond.methodLink RX3 41 yX3_isNote, Cond.methodLink RX3 45 yX3_amountWith, Cond.instanceMethod yX3_amountWith, Cond.selects RX3 yX3_amountWith yX3_amountWith, Cond.code yX3_amountWith cX3_amountWith 6 (some .int), Cond.methodLink RX3 32 Lib.Math.max.name, Cond.methodLink RX3 38 Lib.Math.min.name, Cond.methodLink RX7 310 yX7_nodes, Cond.instanceMethod yX7_nodes, Cond.selects RX7 yX7_nodes yX7_nodes, Cond.code yX7_nodes cX7_nodes 1 (some .int), Cond.fieldLink RX7 193 "Nettle$Tree" "count" "I", Cond.methodLink RX7 189 yX7_compiled]
def wsX7_digest_r8 : List Cond := [Cond.instanceMethod yX7_compiled, Cond.selects RX7 yX7_compiled yX7_compiled, Cond.code yX7_compiled cX7_compiled 1 (some (.object "Nettle$Tree")), Cond.fieldLink RX7 33 "Nettle" "cuts" "LNettle$Cuts;", Cond.fieldLink RX7 42 "Nettle" "tree" "LNettle$Tree;", Cond.methodLink RX7 380 yX1_refresh, Cond.instanceMethod yX1_refresh, Cond.selects RX1 yX1_refresh yX1_refresh, Cond.initialized RX1, Cond.code yX1_refresh cX1_refresh 2 none, Cond.fieldLink RX1 28 "Nettle$Cuts" "isFresh" "Z", Cond.methodLink RX1 32 yX1_cut, Cond.instanceMethod yX1_cut, Cond.selects RX1 yX1_cut yX1_cut, Cond.code yX1_cut cX1_cut 4 none, Cond.fieldLink RX1 15 "Nettle$Cuts" "starts" "[I", Cond.fieldLink RX1 18 "Nettle$Cuts" "masks" "[I", Cond.fieldLink RX1 21 "Nettle$Cuts" "now" "LNettle$Wall;", Cond.fieldLink RX1 25 "Nettle$Cuts" "old" "LNettle$Wall;", Cond.methodLink RX1 48 Lib.Math.min.name, Cond.fieldLink RX1 9 "Nettle$Cuts" "counts" "[I", Cond.methodLink RX1 39 yX6_having, Cond.instanceMethod yX6_having, Cond.selects RX6 yX6_having yX6_having]
def wsX7_digest_r9 : List Cond := [Cond.code yX6_having cX6_having 5 (some .int), Cond.methodLink RX6 42 yX3_has, Cond.instanceMethod yX3_has, Cond.selects RX3 yX3_has yX3_has, Cond.code yX3_has cX3_has 3 (some .boolean), Cond.methodLink RX1 45 yX6_nextCut, Cond.instanceMethod yX6_nextCut, Cond.selects RX6 yX6_nextCut yX6_nextCut, Cond.code yX6_nextCut cX6_nextCut 5 (some .int), Cond.fieldLink RX6 50 "Nettle$Rule" "lows" "[I", Cond.methodLink RX6 53 Lib.Math.min.name, Cond.fieldLink RX6 59 "Nettle$Rule" "highs" "[I", Cond.methodLink RX7 381 yX5_refresh, Cond.instanceMethod yX5_refresh, Cond.selects RX5 yX5_refresh yX5_refresh, Cond.initialized RX5, Cond.code yX5_refresh cX5_refresh 2 none, Cond.fieldLink RX5 29 "Nettle$Tree" "isFresh" "Z", Cond.fieldLink RX5 33 "Nettle$Tree" "count" "I", Cond.fieldLink RX5 9 "Nettle$Tree" "numbers" "[I", Cond.fieldLink RX5 21 "Nettle$Tree" "wall" "LNettle$Wall;", Cond.methodLink RX5 37 yX6_deciders, Cond.methodLink RX5 43 yX5_find, Cond.static yX5_find]
def wsX7_digest_r10 : List Cond := [Cond.code yX5_find cX5_find 9 (some .int), Cond.fieldLink RX5 15 "Nettle$Tree" "codes" "[I", Cond.fieldLink RX5 25 "Nettle$Tree" "cuts" "LNettle$Cuts;", Cond.fieldLink RX5 58 "Nettle$Cuts" "counts" "[I", Cond.fieldLink RX5 18 "Nettle$Tree" "sums" "[I", Cond.methodLink RX5 47 yX6_isSettled, Cond.instanceMethod yX6_isSettled, Cond.selects RX6 yX6_isSettled yX6_isSettled, Cond.code yX6_isSettled cX6_isSettled 4 (some .boolean), Cond.methodLink RX6 69 yX3_isWholeFrom, Cond.instanceMethod yX3_isWholeFrom, Cond.selects RX3 yX3_isWholeFrom yX3_isWholeFrom, Cond.code yX3_isWholeFrom cX3_isWholeFrom 3 (some .boolean), Cond.methodLink RX5 51 yX6_firstOf, Cond.methodLink RX5 63 yX1_mask, Cond.instanceMethod yX1_mask, Cond.selects RX1 yX1_mask yX1_mask, Cond.code yX1_mask cX1_mask 3 (some .int), Cond.methodLink RX5 67 yX1_start, Cond.instanceMethod yX1_start, Cond.selects RX1 yX1_start yX1_start, Cond.code yX1_start cX1_start 3 (some .int), Cond.methodLink RX7 316 yX7_mixNode, Cond.instanceMethod yX7_mixNode]
def wsX7_digest_r11 : List Cond := [Cond.selects RX7 yX7_mixNode yX7_mixNode, Cond.code yX7_mixNode cX7_mixNode 9 (some .long), Cond.methodLink RX7 346 yX7_ofNode, Cond.instanceMethod yX7_ofNode, Cond.selects RX7 yX7_ofNode yX7_ofNode, Cond.code yX7_ofNode cX7_ofNode 4 (some .int), Cond.methodLink RX7 194 yX7_needNode, Cond.static yX7_needNode, Cond.code yX7_needNode cX7_needNode 2 none, Cond.methodLink RX7 198 yX5_fieldOf, Cond.instanceMethod yX5_fieldOf, Cond.selects RX5 yX5_fieldOf yX5_fieldOf, Cond.code yX5_fieldOf cX5_fieldOf 2 (some .int), Cond.methodLink RX7 201 yX5_setOf, Cond.instanceMethod yX5_setOf, Cond.selects RX5 yX5_setOf yX5_setOf, Cond.code yX5_setOf cX5_setOf 2 (some .int), Cond.methodLink RX7 204 yX5_pieceCount, Cond.instanceMethod yX5_pieceCount, Cond.selects RX5 yX5_pieceCount yX5_pieceCount, Cond.code yX5_pieceCount cX5_pieceCount 4 (some .int), Cond.methodLink RX5 70 yX5_fieldOf, Cond.methodLink RX5 73 yX5_setOf, Cond.methodLink RX5 76 yX1_startsRun]
def wsX7_digest_r12 : List Cond := [Cond.instanceMethod yX1_startsRun, Cond.selects RX1 yX1_startsRun yX1_startsRun, Cond.code yX1_startsRun cX1_startsRun 4 (some .boolean), Cond.methodLink RX1 53 yX1_mask, Cond.methodLink RX7 349 yX7_piece, Cond.instanceMethod yX7_piece, Cond.selects RX7 yX7_piece yX7_piece, Cond.code yX7_piece cX7_piece 7 (some .int), Cond.methodLink RX7 207 yX5_segmentOf, Cond.instanceMethod yX5_segmentOf, Cond.selects RX5 yX5_segmentOf yX5_segmentOf, Cond.code yX5_segmentOf cX5_segmentOf 5 (some .int), Cond.methodLink RX7 213 yX1_start, Cond.methodLink RX7 216 yX1_runEnd, Cond.instanceMethod yX1_runEnd, Cond.selects RX1 yX1_runEnd yX1_runEnd, Cond.code yX1_runEnd cX1_runEnd 5 (some .int), Cond.methodLink RX1 56 yX1_startsRun, Cond.methodLink RX1 60 yX1_start, Cond.methodLink RX7 220 yX5_leadOf, Cond.instanceMethod yX5_leadOf, Cond.selects RX5 yX5_leadOf yX5_leadOf, Cond.code yX5_leadOf cX5_leadOf 4 (some .int), Cond.methodLink RX7 319 yX7_mixLog]
def wsX7_digest_r13 : List Cond := [Cond.instanceMethod yX7_mixLog, Cond.selects RX7 yX7_mixLog yX7_mixLog, Cond.code yX7_mixLog cX7_mixLog 7 (some .long), Cond.fieldLink RX7 58 "Nettle" "log" "LNettle$Log;", Cond.fieldLink RX7 264 "Nettle$Log" "size" "I", Cond.methodLink RX7 352 yX7_sent, Cond.instanceMethod yX7_sent, Cond.selects RX7 yX7_sent yX7_sent, Cond.code yX7_sent cX7_sent 2 (some .int), Cond.fieldLink RX7 255 "Nettle$Log" "all" "I", Cond.fieldLink RX7 258 "Nettle$Log" "passed" "I", Cond.fieldLink RX7 261 "Nettle$Log" "remembered" "I", Cond.fieldLink RX7 267 "Nettle$Log" "byLastWord" "I", Cond.methodLink RX7 355 yX7_kept, Cond.instanceMethod yX7_kept, Cond.selects RX7 yX7_kept yX7_kept, Cond.code yX7_kept cX7_kept 3 (some .int), Cond.fieldLink RX7 274 "Nettle$Log" "rows" "[I", Cond.methodLink RX7 323 yX7_changed, Cond.instanceMethod yX7_changed, Cond.selects RX7 yX7_changed yX7_changed, Cond.code yX7_changed cX7_changed 1 (some .int), Cond.fieldLink RX7 283 "Nettle$Comparison" "amount" "I", Cond.methodLink RX7 279 yX7_compared]
def wsX7_digest_r14 : List Cond := [Cond.instanceMethod yX7_compared, Cond.selects RX7 yX7_compared yX7_compared, Cond.code yX7_compared cX7_compared 1 (some (.object "Nettle$Comparison")), Cond.fieldLink RX7 51 "Nettle" "comparison" "LNettle$Comparison;", Cond.methodLink RX7 382 yX0_refresh, Cond.instanceMethod yX0_refresh, Cond.selects RX0 yX0_refresh yX0_refresh, Cond.initialized RX0, Cond.code yX0_refresh cX0_refresh 2 none, Cond.fieldLink RX0 29 "Nettle$Comparison" "isFresh" "Z", Cond.fieldLink RX0 33 "Nettle$Comparison" "amount" "I", Cond.fieldLink RX0 9 "Nettle$Comparison" "first" "[I", Cond.fieldLink RX0 18 "Nettle$Comparison" "now" "LNettle$Wall;", Cond.fieldLink RX0 22 "Nettle$Comparison" "old" "LNettle$Wall;", Cond.methodLink RX0 37 yX6_deciders, Cond.methodLink RX0 43 yX0_walk, Cond.static yX0_walk, Cond.code yX0_walk cX0_walk 8 none, Cond.fieldLink RX0 25 "Nettle$Comparison" "cuts" "LNettle$Cuts;", Cond.fieldLink RX0 55 "Nettle$Cuts" "counts" "[I", Cond.fieldLink RX0 15 "Nettle$Comparison" "place" "[I", Cond.methodLink RX0 47 yX0_isSettled, Cond.instanceMethod yX0_isSettled, Cond.selects RX0 yX0_isSettled yX0_isSettled]
def wsX7_digest_r15 : List Cond := [Cond.code yX0_isSettled cX0_isSettled 3 (some .boolean), Cond.methodLink RX0 75 yX6_isSettled, Cond.methodLink RX0 51 yX0_judge, Cond.instanceMethod yX0_judge, Cond.selects RX0 yX0_judge yX0_judge, Cond.code yX0_judge cX0_judge 5 none, Cond.methodLink RX0 76 yX6_allows, Cond.methodLink RX0 60 yX1_startsRun, Cond.methodLink RX0 64 yX1_start, Cond.methodLink RX0 68 yX1_runEnd, Cond.methodLink RX0 72 yX1_mask, Cond.methodLink RX7 326 yX7_witness, Cond.instanceMethod yX7_witness, Cond.selects RX7 yX7_witness yX7_witness, Cond.code yX7_witness cX7_witness 2 (some .int), Cond.fieldLink RX7 286 "Nettle$Comparison" "first" "[I"]
def wsX7_digest : List Cond := .code yX7_digest cX7_digest 5 (some .long) :: ((wsX7_digest_r1 ++ (wsX7_digest_r2 ++ (wsX7_digest_r3 ++ (wsX7_digest_r4 ++ (wsX7_digest_r5 ++ (wsX7_digest_r6 ++ (wsX7_digest_r7 ++ (wsX7_digest_r8 ++ (wsX7_digest_r9 ++ (wsX7_digest_r10 ++ (wsX7_digest_r11 ++ (wsX7_digest_r12 ++ (wsX7_digest_r13 ++ (wsX7_digest_r14 ++ wsX7_digest_r15)))))))))))))) ++ wsX70 ++ wsX60 ++ wsX30 ++ wsX40 ++ wsX50 ++ wsX10 ++ wsX20 ++ wsX00 ++ (vx_atS RX7 94 "java/lang/IndexOutOfBoundsException" ["java/lang/RuntimeException", "java/lang/Exception"]).filter goodWord ++ (vx_atS RX7 103 "java/lang/IllegalArgumentException" ["java/lang/RuntimeException", "java/lang/Exception"]).filter goodWord)
def wsL_cell : List Cond := .code yL_cell cL_cell 2 (some .int) :: ([.constant RL 8 (790386105)])
def wsL_below : List Cond := .code yL_below cL_below 2 (some .int) :: ([.constant RL 7 (2147483647)])
def wsX8_draw : List Cond := .code yX8_draw cX8_draw 3 (some .int) :: ([.fieldLink RX8 31 "NettleLaw$Hedge" "s" "[I", .fieldLink RX8 34 "NettleLaw$Hedge" "draws" "I", .static yL_cell, .initialized RL, .code yL_cell cL_cell 2 (some .int), .constant RL 8 (790386105), .static yL_below, .code yL_below cL_below 2 (some .int), .constant RL 7 (2147483647)] ++ wsX80)
def wsX8_init_r1 : List Cond := [Cond.methodLink RX8 1 objectInit, Cond.instanceMethod objectInit, Cond.code objectInit ⟨#[0xb1]⟩ 1 none, Cond.classLink RX8 7 RX7, Cond.instantiable RX7 8, Cond.initialized RX7, Cond.fieldLink RX8 10 "NettleLaw$Hedge" "m" "LNettle;", Cond.classLink RX8 16 "[I", Cond.fieldLink RX8 18 "NettleLaw$Hedge" "cut" "[[I", Cond.fieldLink RX8 22 "NettleLaw$Hedge" "rules" "[[I", Cond.fieldLink RX8 25 "NettleLaw$Hedge" "copy" "[[I", Cond.fieldLink RX8 28 "NettleLaw$Hedge" "node" "[[I", Cond.fieldLink RX8 31 "NettleLaw$Hedge" "s" "[I", Cond.fieldLink RX8 34 "NettleLaw$Hedge" "draws" "I", Cond.arrayClass .int, Cond.methodLink RX8 9 yX7_init, Cond.instanceMethod yX7_init, Cond.code yX7_init cX7_init 1 none, Cond.methodLink RX7 1 objectInit, Cond.classLink RX7 7 RX6, Cond.instantiable RX6 3, Cond.initialized RX6, Cond.fieldLink RX7 10 "Nettle" "wall" "LNettle$Wall;", Cond.fieldLink RX7 16 "Nettle" "copied" "LNettle$Wall;"]
def wsX8_init_r2 : List Cond := [Cond.classLink RX7 19 RX4, Cond.instantiable RX4 5, Cond.initialized RX4, Cond.fieldLink RX7 24 "Nettle" "survey" "LNettle$Survey;", Cond.classLink RX7 28 RX1, Cond.instantiable RX1 6, Cond.initialized RX1, Cond.fieldLink RX7 33 "Nettle" "cuts" "LNettle$Cuts;", Cond.classLink RX7 37 RX5, Cond.instantiable RX5 7, Cond.initialized RX5, Cond.fieldLink RX7 42 "Nettle" "tree" "LNettle$Tree;", Cond.classLink RX7 46 RX0, Cond.instantiable RX0 7, Cond.initialized RX0, Cond.fieldLink RX7 51 "Nettle" "comparison" "LNettle$Comparison;", Cond.classLink RX7 55 RX2, Cond.instantiable RX2 6, Cond.initialized RX2, Cond.fieldLink RX7 58 "Nettle" "log" "LNettle$Log;", Cond.fieldLink RX7 62 "Nettle" "packet" "[I", Cond.methodLink RX7 9 yX6_init, Cond.instanceMethod yX6_init, Cond.code yX6_init cX6_init 2 none]
def wsX8_init_r3 : List Cond := [Cond.methodLink RX6 3 objectInit, Cond.classLink RX6 9 RX3, Cond.fieldLink RX6 11 "Nettle$Wall" "rows" "[LNettle$Rule;", Cond.instantiable RX3 4, Cond.initialized RX3, Cond.instanceMethod yX3_init, Cond.code yX3_init cX3_init 1 none, Cond.methodLink RX3 3 objectInit, Cond.fieldLink RX3 9 "Nettle$Rule" "lows" "[I", Cond.fieldLink RX3 15 "Nettle$Rule" "highs" "[I", Cond.methodLink RX7 21 yX4_init, Cond.instanceMethod yX4_init, Cond.code yX4_init cX4_init 2 none, Cond.methodLink RX4 3 objectInit, Cond.fieldLink RX4 9 "Nettle$Survey" "lows" "[I", Cond.fieldLink RX4 15 "Nettle$Survey" "highs" "[I", Cond.fieldLink RX4 18 "Nettle$Survey" "amounts" "[I", Cond.fieldLink RX4 21 "Nettle$Survey" "wall" "LNettle$Wall;", Cond.methodLink RX7 30 yX1_init, Cond.instanceMethod yX1_init, Cond.code yX1_init cX1_init 3 none, Cond.methodLink RX1 3 objectInit, Cond.fieldLink RX1 9 "Nettle$Cuts" "counts" "[I", Cond.fieldLink RX1 15 "Nettle$Cuts" "starts" "[I"]
def wsX8_init_r4 : List Cond := [Cond.fieldLink RX1 18 "Nettle$Cuts" "masks" "[I", Cond.fieldLink RX1 21 "Nettle$Cuts" "now" "LNettle$Wall;", Cond.fieldLink RX1 25 "Nettle$Cuts" "old" "LNettle$Wall;", Cond.methodLink RX7 39 yX5_init, Cond.instanceMethod yX5_init, Cond.code yX5_init cX5_init 3 none, Cond.methodLink RX5 3 objectInit, Cond.fieldLink RX5 9 "Nettle$Tree" "numbers" "[I", Cond.fieldLink RX5 15 "Nettle$Tree" "codes" "[I", Cond.fieldLink RX5 18 "Nettle$Tree" "sums" "[I", Cond.fieldLink RX5 21 "Nettle$Tree" "wall" "LNettle$Wall;", Cond.fieldLink RX5 25 "Nettle$Tree" "cuts" "LNettle$Cuts;", Cond.methodLink RX7 48 yX0_init, Cond.instanceMethod yX0_init, Cond.code yX0_init cX0_init 4 none, Cond.methodLink RX0 3 objectInit, Cond.fieldLink RX0 9 "Nettle$Comparison" "first" "[I", Cond.fieldLink RX0 15 "Nettle$Comparison" "place" "[I", Cond.fieldLink RX0 18 "Nettle$Comparison" "now" "LNettle$Wall;", Cond.fieldLink RX0 22 "Nettle$Comparison" "old" "LNettle$Wall;", Cond.fieldLink RX0 25 "Nettle$Comparison" "cuts" "LNettle$Cuts;", Cond.instanceMethod yX2_init, Cond.code yX2_init cX2_init 1 none, Cond.methodLink RX2 3 objectInit]
def wsX8_init_r5 : List Cond := [Cond.fieldLink RX2 9 "Nettle$Log" "rows" "[I", Cond.methodLink RX8 38 yX8_draw, Cond.instanceMethod yX8_draw, Cond.selects RX8 yX8_draw yX8_draw, Cond.initialized RX8, Cond.code yX8_draw cX8_draw 3 (some .int), Cond.static yL_cell, Cond.initialized RL, Cond.code yL_cell cL_cell 2 (some .int), Cond.constant RL 8 (790386105), Cond.static yL_below, Cond.code yL_below cL_below 2 (some .int), Cond.constant RL 7 (2147483647)]
def wsX8_init : List Cond := .code yX8_init cX8_init 8 none :: ((wsX8_init_r1 ++ (wsX8_init_r2 ++ (wsX8_init_r3 ++ (wsX8_init_r4 ++ wsX8_init_r5)))) ++ wsX70 ++ wsX80 ++ wsX60 ++ wsX40 ++ wsX10 ++ wsX50 ++ wsX00 ++ wsX20 ++ wsX30)
def wsX8_with : List Cond := .code yX8_with cX8_with 4 (some (.array (.array .int))) :: ([.classLink RX8 16 "[I", .methodLink RX8 52 arraycopyName, .native arraycopyName, .static arraycopyName, .initialized "java/lang/System"])
def wsX8_without : List Cond := .code yX8_without cX8_without 3 (some (.array (.array .int))) :: ([.classLink RX8 16 "[I", .methodLink RX8 52 arraycopyName, .native arraycopyName, .static arraycopyName, .initialized "java/lang/System"])
def wsX8_pieces : List Cond := .code yX8_pieces cX8_pieces 2 (some .int) :: ([.fieldLink RX8 18 "NettleLaw$Hedge" "cut" "[[I"] ++ wsX80)
def wsX8_drop_r1 : List Cond := [Cond.fieldLink RX8 22 "NettleLaw$Hedge" "rules" "[[I", Cond.fieldLink RX8 10 "NettleLaw$Hedge" "m" "LNettle;", Cond.methodLink RX8 38 yX8_draw, Cond.instanceMethod yX8_draw, Cond.selects RX8 yX8_draw yX8_draw, Cond.initialized RX8, Cond.code yX8_draw cX8_draw 3 (some .int), Cond.fieldLink RX8 31 "NettleLaw$Hedge" "s" "[I", Cond.fieldLink RX8 34 "NettleLaw$Hedge" "draws" "I", Cond.static yL_cell, Cond.initialized RL, Cond.code yL_cell cL_cell 2 (some .int), Cond.constant RL 8 (790386105), Cond.static yL_below, Cond.code yL_below cL_below 2 (some .int), Cond.constant RL 7 (2147483647), Cond.methodLink RX8 79 yX8_without, Cond.static yX8_without, Cond.code yX8_without cX8_without 3 (some (.array (.array .int))), Cond.classLink RX8 16 "[I", Cond.methodLink RX8 52 arraycopyName, Cond.native arraycopyName, Cond.static arraycopyName, Cond.initialized "java/lang/System"]
def wsX8_drop_r2 : List Cond := [Cond.methodLink RX8 83 yX7_drop, Cond.instanceMethod yX7_drop, Cond.selects RX7 yX7_drop yX7_drop, Cond.initialized RX7, Cond.code yX7_drop cX7_drop 2 (some .int), Cond.fieldLink RX7 10 "Nettle" "wall" "LNettle$Wall;", Cond.fieldLink RX7 70 "Nettle$Wall" "count" "I", Cond.methodLink RX7 87 yX7_needRule, Cond.instanceMethod yX7_needRule, Cond.selects RX7 yX7_needRule yX7_needRule, Cond.code yX7_needRule cX7_needRule 2 none, Cond.classLink RX7 90 "java/lang/IndexOutOfBoundsException", Cond.initialized "java/lang/IndexOutOfBoundsException", Cond.methodLink RX7 132 yX6_remove, Cond.instanceMethod yX6_remove, Cond.selects RX6 yX6_remove yX6_remove, Cond.initialized RX6, Cond.code yX6_remove cX6_remove 2 none, Cond.fieldLink RX6 18 "Nettle$Wall" "count" "I", Cond.methodLink RX6 26 yX6_shift, Cond.instanceMethod yX6_shift, Cond.selects RX6 yX6_shift yX6_shift, Cond.code yX6_shift cX6_shift 5 none, Cond.fieldLink RX6 11 "Nettle$Wall" "rows" "[LNettle$Rule;"]
def wsX8_drop_r3 : List Cond := [Cond.methodLink RX7 84 yX7_outdate, Cond.instanceMethod yX7_outdate, Cond.selects RX7 yX7_outdate yX7_outdate, Cond.code yX7_outdate cX7_outdate 1 none, Cond.fieldLink RX7 24 "Nettle" "survey" "LNettle$Survey;", Cond.fieldLink RX7 371 "Nettle$Survey" "isFresh" "Z", Cond.fieldLink RX7 33 "Nettle" "cuts" "LNettle$Cuts;", Cond.fieldLink RX7 374 "Nettle$Cuts" "isFresh" "Z", Cond.fieldLink RX7 42 "Nettle" "tree" "LNettle$Tree;", Cond.fieldLink RX7 375 "Nettle$Tree" "isFresh" "Z", Cond.fieldLink RX7 51 "Nettle" "comparison" "LNettle$Comparison;", Cond.fieldLink RX7 376 "Nettle$Comparison" "isFresh" "Z"]
def wsX8_drop : List Cond := .code yX8_drop cX8_drop 2 (some .boolean) :: ((wsX8_drop_r1 ++ (wsX8_drop_r2 ++ wsX8_drop_r3)) ++ wsX80 ++ wsX70 ++ wsX60 ++ wsX40 ++ wsX10 ++ wsX50 ++ wsX00 ++ (vx_atS RX7 94 "java/lang/IndexOutOfBoundsException" ["java/lang/RuntimeException", "java/lang/Exception"]).filter goodWord)
def wsX8_narrow_r1 : List Cond := [Cond.fieldLink RX8 22 "NettleLaw$Hedge" "rules" "[[I", Cond.fieldLink RX8 18 "NettleLaw$Hedge" "cut" "[[I", Cond.fieldLink RX8 10 "NettleLaw$Hedge" "m" "LNettle;", Cond.methodLink RX8 62 yX8_pieces, Cond.instanceMethod yX8_pieces, Cond.selects RX8 yX8_pieces yX8_pieces, Cond.initialized RX8, Cond.code yX8_pieces cX8_pieces 2 (some .int), Cond.methodLink RX8 38 yX8_draw, Cond.instanceMethod yX8_draw, Cond.selects RX8 yX8_draw yX8_draw, Cond.code yX8_draw cX8_draw 3 (some .int), Cond.fieldLink RX8 31 "NettleLaw$Hedge" "s" "[I", Cond.fieldLink RX8 34 "NettleLaw$Hedge" "draws" "I", Cond.static yL_cell, Cond.initialized RL, Cond.code yL_cell cL_cell 2 (some .int), Cond.constant RL 8 (790386105), Cond.static yL_below, Cond.code yL_below cL_below 2 (some .int), Cond.constant RL 7 (2147483647), Cond.methodLink RX8 76 yX7_narrow, Cond.instanceMethod yX7_narrow, Cond.selects RX7 yX7_narrow yX7_narrow]
def wsX8_narrow_r2 : List Cond := [Cond.initialized RX7, Cond.code yX7_narrow cX7_narrow 6 (some .int), Cond.classLink RX7 90 "java/lang/IndexOutOfBoundsException", Cond.initialized "java/lang/IndexOutOfBoundsException", Cond.classLink RX7 99 "java/lang/IllegalArgumentException", Cond.initialized "java/lang/IllegalArgumentException", Cond.fieldLink RX7 10 "Nettle" "wall" "LNettle$Wall;", Cond.fieldLink RX7 104 "Nettle$Wall" "rows" "[LNettle$Rule;", Cond.fieldLink RX7 114 "Nettle$Rule" "lows" "[I", Cond.fieldLink RX7 117 "Nettle$Rule" "highs" "[I", Cond.methodLink RX7 87 yX7_needRule, Cond.instanceMethod yX7_needRule, Cond.selects RX7 yX7_needRule yX7_needRule, Cond.code yX7_needRule cX7_needRule 2 none, Cond.fieldLink RX7 70 "Nettle$Wall" "count" "I", Cond.methodLink RX7 95 yX7_isValue, Cond.static yX7_isValue, Cond.code yX7_isValue cX7_isValue 2 (some .boolean), Cond.fieldLink RX7 366 "Nettle" "SIZES" "[I", Cond.methodLink RX7 108 yX3_width, Cond.instanceMethod yX3_width, Cond.selects RX3 yX3_width yX3_width, Cond.initialized RX3, Cond.code yX3_width cX3_width 2 (some .int)]
def wsX8_narrow_r3 : List Cond := [Cond.fieldLink RX3 15 "Nettle$Rule" "highs" "[I", Cond.fieldLink RX3 9 "Nettle$Rule" "lows" "[I", Cond.methodLink RX7 84 yX7_outdate, Cond.instanceMethod yX7_outdate, Cond.selects RX7 yX7_outdate yX7_outdate, Cond.code yX7_outdate cX7_outdate 1 none, Cond.fieldLink RX7 24 "Nettle" "survey" "LNettle$Survey;", Cond.fieldLink RX7 371 "Nettle$Survey" "isFresh" "Z", Cond.fieldLink RX7 33 "Nettle" "cuts" "LNettle$Cuts;", Cond.fieldLink RX7 374 "Nettle$Cuts" "isFresh" "Z", Cond.fieldLink RX7 42 "Nettle" "tree" "LNettle$Tree;", Cond.fieldLink RX7 375 "Nettle$Tree" "isFresh" "Z", Cond.fieldLink RX7 51 "Nettle" "comparison" "LNettle$Comparison;", Cond.fieldLink RX7 376 "Nettle$Comparison" "isFresh" "Z"]
def wsX8_narrow : List Cond := .code yX8_narrow cX8_narrow 5 (some .boolean) :: ((wsX8_narrow_r1 ++ (wsX8_narrow_r2 ++ wsX8_narrow_r3)) ++ wsX80 ++ wsX70 ++ wsX60 ++ wsX30 ++ wsX40 ++ wsX10 ++ wsX50 ++ wsX00 ++ (vx_atS RX7 94 "java/lang/IndexOutOfBoundsException" ["java/lang/RuntimeException", "java/lang/Exception"]).filter goodWord ++ (vx_atS RX7 103 "java/lang/IllegalArgumentException" ["java/lang/RuntimeException", "java/lang/Exception"]).filter goodWord)
def wsX8_add_r1 : List Cond := [Cond.fieldLink RX8 22 "NettleLaw$Hedge" "rules" "[[I", Cond.arrayClass .int, Cond.fieldLink RX8 10 "NettleLaw$Hedge" "m" "LNettle;", Cond.methodLink RX8 58 yX8_drop, Cond.instanceMethod yX8_drop, Cond.selects RX8 yX8_drop yX8_drop, Cond.initialized RX8, Cond.code yX8_drop cX8_drop 2 (some .boolean), Cond.methodLink RX8 38 yX8_draw, Cond.instanceMethod yX8_draw, Cond.selects RX8 yX8_draw yX8_draw, Cond.code yX8_draw cX8_draw 3 (some .int), Cond.fieldLink RX8 31 "NettleLaw$Hedge" "s" "[I", Cond.fieldLink RX8 34 "NettleLaw$Hedge" "draws" "I", Cond.static yL_cell, Cond.initialized RL, Cond.code yL_cell cL_cell 2 (some .int), Cond.constant RL 8 (790386105), Cond.static yL_below, Cond.code yL_below cL_below 2 (some .int), Cond.constant RL 7 (2147483647), Cond.methodLink RX8 79 yX8_without, Cond.static yX8_without, Cond.code yX8_without cX8_without 3 (some (.array (.array .int)))]
def wsX8_add_r2 : List Cond := [Cond.classLink RX8 16 "[I", Cond.methodLink RX8 52 arraycopyName, Cond.native arraycopyName, Cond.static arraycopyName, Cond.initialized "java/lang/System", Cond.methodLink RX8 83 yX7_drop, Cond.instanceMethod yX7_drop, Cond.selects RX7 yX7_drop yX7_drop, Cond.initialized RX7, Cond.code yX7_drop cX7_drop 2 (some .int), Cond.fieldLink RX7 10 "Nettle" "wall" "LNettle$Wall;", Cond.fieldLink RX7 70 "Nettle$Wall" "count" "I", Cond.methodLink RX7 87 yX7_needRule, Cond.instanceMethod yX7_needRule, Cond.selects RX7 yX7_needRule yX7_needRule, Cond.code yX7_needRule cX7_needRule 2 none, Cond.classLink RX7 90 "java/lang/IndexOutOfBoundsException", Cond.initialized "java/lang/IndexOutOfBoundsException", Cond.methodLink RX7 132 yX6_remove, Cond.instanceMethod yX6_remove, Cond.selects RX6 yX6_remove yX6_remove, Cond.initialized RX6, Cond.code yX6_remove cX6_remove 2 none, Cond.fieldLink RX6 18 "Nettle$Wall" "count" "I"]
def wsX8_add_r3 : List Cond := [Cond.methodLink RX6 26 yX6_shift, Cond.instanceMethod yX6_shift, Cond.selects RX6 yX6_shift yX6_shift, Cond.code yX6_shift cX6_shift 5 none, Cond.fieldLink RX6 11 "Nettle$Wall" "rows" "[LNettle$Rule;", Cond.methodLink RX7 84 yX7_outdate, Cond.instanceMethod yX7_outdate, Cond.selects RX7 yX7_outdate yX7_outdate, Cond.code yX7_outdate cX7_outdate 1 none, Cond.fieldLink RX7 24 "Nettle" "survey" "LNettle$Survey;", Cond.fieldLink RX7 371 "Nettle$Survey" "isFresh" "Z", Cond.fieldLink RX7 33 "Nettle" "cuts" "LNettle$Cuts;", Cond.fieldLink RX7 374 "Nettle$Cuts" "isFresh" "Z", Cond.fieldLink RX7 42 "Nettle" "tree" "LNettle$Tree;", Cond.fieldLink RX7 375 "Nettle$Tree" "isFresh" "Z", Cond.fieldLink RX7 51 "Nettle" "comparison" "LNettle$Comparison;", Cond.fieldLink RX7 376 "Nettle$Comparison" "isFresh" "Z", Cond.methodLink RX8 62 yX8_pieces, Cond.instanceMethod yX8_pieces, Cond.selects RX8 yX8_pieces yX8_pieces, Cond.code yX8_pieces cX8_pieces 2 (some .int), Cond.fieldLink RX8 18 "NettleLaw$Hedge" "cut" "[[I", Cond.methodLink RX8 65 yX8_with, Cond.static yX8_with]
def wsX8_add_r4 : List Cond := [Cond.code yX8_with cX8_with 4 (some (.array (.array .int))), Cond.methodLink RX8 69 yX7_rule, Cond.instanceMethod yX7_rule, Cond.selects RX7 yX7_rule yX7_rule, Cond.code yX7_rule cX7_rule 2 (some .int), Cond.classLink RX7 74 "java/lang/IllegalStateException", Cond.initialized "java/lang/IllegalStateException", Cond.methodLink RX7 66 yX7_needVerdict, Cond.static yX7_needVerdict, Cond.code yX7_needVerdict cX7_needVerdict 1 none, Cond.classLink RX7 99 "java/lang/IllegalArgumentException", Cond.initialized "java/lang/IllegalArgumentException", Cond.methodLink RX7 81 yX6_add, Cond.instanceMethod yX6_add, Cond.selects RX6 yX6_add yX6_add, Cond.code yX6_add cX6_add 2 none, Cond.methodLink RX6 22 yX3_reset, Cond.instanceMethod yX3_reset, Cond.selects RX3 yX3_reset yX3_reset, Cond.initialized RX3, Cond.code yX3_reset cX3_reset 3 none, Cond.fieldLink RX3 18 "Nettle$Rule" "verdict" "I", Cond.fieldLink RX3 22 "Nettle$Rule" "hits" "I", Cond.fieldLink RX3 9 "Nettle$Rule" "lows" "[I"]
def wsX8_add_r5 : List Cond := [Cond.fieldLink RX3 15 "Nettle$Rule" "highs" "[I", Cond.methodLink RX8 72 yX8_narrow, Cond.instanceMethod yX8_narrow, Cond.selects RX8 yX8_narrow yX8_narrow, Cond.code yX8_narrow cX8_narrow 5 (some .boolean), Cond.methodLink RX8 76 yX7_narrow, Cond.instanceMethod yX7_narrow, Cond.selects RX7 yX7_narrow yX7_narrow, Cond.code yX7_narrow cX7_narrow 6 (some .int), Cond.fieldLink RX7 104 "Nettle$Wall" "rows" "[LNettle$Rule;", Cond.fieldLink RX7 114 "Nettle$Rule" "lows" "[I", Cond.fieldLink RX7 117 "Nettle$Rule" "highs" "[I", Cond.methodLink RX7 95 yX7_isValue, Cond.static yX7_isValue, Cond.code yX7_isValue cX7_isValue 2 (some .boolean), Cond.fieldLink RX7 366 "Nettle" "SIZES" "[I", Cond.methodLink RX7 108 yX3_width, Cond.instanceMethod yX3_width, Cond.selects RX3 yX3_width yX3_width, Cond.code yX3_width cX3_width 2 (some .int)]
def wsX8_add : List Cond := .code yX8_add cX8_add 4 (some .boolean) :: ((wsX8_add_r1 ++ (wsX8_add_r2 ++ (wsX8_add_r3 ++ (wsX8_add_r4 ++ wsX8_add_r5)))) ++ wsX80 ++ wsX70 ++ wsX60 ++ wsX40 ++ wsX10 ++ wsX50 ++ wsX00 ++ wsX30 ++ (vx_atS RX7 94 "java/lang/IndexOutOfBoundsException" ["java/lang/RuntimeException", "java/lang/Exception"]).filter goodWord ++ (vx_atS RX7 78 "java/lang/IllegalStateException" ["java/lang/RuntimeException", "java/lang/Exception"]).filter goodWord ++ (vx_atS RX7 103 "java/lang/IllegalArgumentException" ["java/lang/RuntimeException", "java/lang/Exception"]).filter goodWord)
def wsX8_move_r1 : List Cond := [Cond.fieldLink RX8 22 "NettleLaw$Hedge" "rules" "[[I", Cond.fieldLink RX8 10 "NettleLaw$Hedge" "m" "LNettle;", Cond.methodLink RX8 88 Lib.Math.abs.name, Cond.static Lib.Math.abs.name, Cond.initialized "java/lang/Math", Cond.code Lib.Math.abs.name Lib.Math.abs.code 1 (some .int), Cond.methodLink RX8 38 yX8_draw, Cond.instanceMethod yX8_draw, Cond.selects RX8 yX8_draw yX8_draw, Cond.initialized RX8, Cond.code yX8_draw cX8_draw 3 (some .int), Cond.fieldLink RX8 31 "NettleLaw$Hedge" "s" "[I", Cond.fieldLink RX8 34 "NettleLaw$Hedge" "draws" "I", Cond.static yL_cell, Cond.initialized RL, Cond.code yL_cell cL_cell 2 (some .int), Cond.constant RL 8 (790386105), Cond.static yL_below, Cond.code yL_below cL_below 2 (some .int), Cond.constant RL 7 (2147483647), Cond.methodLink RX8 79 yX8_without, Cond.static yX8_without, Cond.code yX8_without cX8_without 3 (some (.array (.array .int))), Cond.classLink RX8 16 "[I"]
def wsX8_move_r2 : List Cond := [Cond.methodLink RX8 52 arraycopyName, Cond.native arraycopyName, Cond.static arraycopyName, Cond.initialized "java/lang/System", Cond.methodLink RX8 65 yX8_with, Cond.static yX8_with, Cond.code yX8_with cX8_with 4 (some (.array (.array .int))), Cond.methodLink RX8 85 yX7_move, Cond.instanceMethod yX7_move, Cond.selects RX7 yX7_move yX7_move, Cond.initialized RX7, Cond.code yX7_move cX7_move 3 (some .int), Cond.fieldLink RX7 10 "Nettle" "wall" "LNettle$Wall;", Cond.methodLink RX7 127 Lib.Math.abs.name, Cond.methodLink RX7 87 yX7_needRule, Cond.instanceMethod yX7_needRule, Cond.selects RX7 yX7_needRule yX7_needRule, Cond.code yX7_needRule cX7_needRule 2 none, Cond.classLink RX7 90 "java/lang/IndexOutOfBoundsException", Cond.initialized "java/lang/IndexOutOfBoundsException", Cond.fieldLink RX7 70 "Nettle$Wall" "count" "I", Cond.methodLink RX7 123 yX6_shift, Cond.instanceMethod yX6_shift, Cond.selects RX6 yX6_shift yX6_shift]
def wsX8_move_r3 : List Cond := [Cond.initialized RX6, Cond.code yX6_shift cX6_shift 5 none, Cond.fieldLink RX6 11 "Nettle$Wall" "rows" "[LNettle$Rule;", Cond.methodLink RX7 84 yX7_outdate, Cond.instanceMethod yX7_outdate, Cond.selects RX7 yX7_outdate yX7_outdate, Cond.code yX7_outdate cX7_outdate 1 none, Cond.fieldLink RX7 24 "Nettle" "survey" "LNettle$Survey;", Cond.fieldLink RX7 371 "Nettle$Survey" "isFresh" "Z", Cond.fieldLink RX7 33 "Nettle" "cuts" "LNettle$Cuts;", Cond.fieldLink RX7 374 "Nettle$Cuts" "isFresh" "Z", Cond.fieldLink RX7 42 "Nettle" "tree" "LNettle$Tree;", Cond.fieldLink RX7 375 "Nettle$Tree" "isFresh" "Z", Cond.fieldLink RX7 51 "Nettle" "comparison" "LNettle$Comparison;", Cond.fieldLink RX7 376 "Nettle$Comparison" "isFresh" "Z"]
def wsX8_move : List Cond := .code yX8_move cX8_move 4 (some .boolean) :: ((wsX8_move_r1 ++ (wsX8_move_r2 ++ wsX8_move_r3)) ++ wsX80 ++ wsX70 ++ wsX60 ++ wsX40 ++ wsX10 ++ wsX50 ++ wsX00 ++ (vx_atS RX7 94 "java/lang/IndexOutOfBoundsException" ["java/lang/RuntimeException", "java/lang/Exception"]).filter goodWord)
def wsX8_change_r1 : List Cond := [Cond.fieldLink RX8 98 "NettleLaw$Hedge" "last" "I", Cond.fieldLink RX8 10 "NettleLaw$Hedge" "m" "LNettle;", Cond.fieldLink RX8 22 "NettleLaw$Hedge" "rules" "[[I", Cond.classLink RX8 108 "[[I", Cond.arrayClass .int, Cond.fieldLink RX8 25 "NettleLaw$Hedge" "copy" "[[I", Cond.methodLink RX8 52 arraycopyName, Cond.native arraycopyName, Cond.static arraycopyName, Cond.initialized "java/lang/System", Cond.fieldLink RX8 109 "NettleLaw$Hedge" "copyLast" "I", Cond.methodLink RX8 38 yX8_draw, Cond.instanceMethod yX8_draw, Cond.selects RX8 yX8_draw yX8_draw, Cond.initialized RX8, Cond.code yX8_draw cX8_draw 3 (some .int), Cond.fieldLink RX8 31 "NettleLaw$Hedge" "s" "[I", Cond.fieldLink RX8 34 "NettleLaw$Hedge" "draws" "I", Cond.static yL_cell, Cond.initialized RL, Cond.code yL_cell cL_cell 2 (some .int), Cond.constant RL 8 (790386105), Cond.static yL_below, Cond.code yL_below cL_below 2 (some .int)]
def wsX8_change_r2 : List Cond := [Cond.constant RL 7 (2147483647), Cond.methodLink RX8 93 yX8_add, Cond.instanceMethod yX8_add, Cond.selects RX8 yX8_add yX8_add, Cond.code yX8_add cX8_add 4 (some .boolean), Cond.methodLink RX8 58 yX8_drop, Cond.instanceMethod yX8_drop, Cond.selects RX8 yX8_drop yX8_drop, Cond.code yX8_drop cX8_drop 2 (some .boolean), Cond.methodLink RX8 79 yX8_without, Cond.static yX8_without, Cond.code yX8_without cX8_without 3 (some (.array (.array .int))), Cond.classLink RX8 16 "[I", Cond.methodLink RX8 83 yX7_drop, Cond.instanceMethod yX7_drop, Cond.selects RX7 yX7_drop yX7_drop, Cond.initialized RX7, Cond.code yX7_drop cX7_drop 2 (some .int), Cond.fieldLink RX7 10 "Nettle" "wall" "LNettle$Wall;", Cond.fieldLink RX7 70 "Nettle$Wall" "count" "I", Cond.methodLink RX7 87 yX7_needRule, Cond.instanceMethod yX7_needRule, Cond.selects RX7 yX7_needRule yX7_needRule, Cond.code yX7_needRule cX7_needRule 2 none]
def wsX8_change_r3 : List Cond := [Cond.classLink RX7 90 "java/lang/IndexOutOfBoundsException", Cond.initialized "java/lang/IndexOutOfBoundsException", Cond.methodLink RX7 132 yX6_remove, Cond.instanceMethod yX6_remove, Cond.selects RX6 yX6_remove yX6_remove, Cond.initialized RX6, Cond.code yX6_remove cX6_remove 2 none, Cond.fieldLink RX6 18 "Nettle$Wall" "count" "I", Cond.methodLink RX6 26 yX6_shift, Cond.instanceMethod yX6_shift, Cond.selects RX6 yX6_shift yX6_shift, Cond.code yX6_shift cX6_shift 5 none, Cond.fieldLink RX6 11 "Nettle$Wall" "rows" "[LNettle$Rule;", Cond.methodLink RX7 84 yX7_outdate, Cond.instanceMethod yX7_outdate, Cond.selects RX7 yX7_outdate yX7_outdate, Cond.code yX7_outdate cX7_outdate 1 none, Cond.fieldLink RX7 24 "Nettle" "survey" "LNettle$Survey;", Cond.fieldLink RX7 371 "Nettle$Survey" "isFresh" "Z", Cond.fieldLink RX7 33 "Nettle" "cuts" "LNettle$Cuts;", Cond.fieldLink RX7 374 "Nettle$Cuts" "isFresh" "Z", Cond.fieldLink RX7 42 "Nettle" "tree" "LNettle$Tree;", Cond.fieldLink RX7 375 "Nettle$Tree" "isFresh" "Z", Cond.fieldLink RX7 51 "Nettle" "comparison" "LNettle$Comparison;"]
def wsX8_change_r4 : List Cond := [Cond.fieldLink RX7 376 "Nettle$Comparison" "isFresh" "Z", Cond.methodLink RX8 62 yX8_pieces, Cond.instanceMethod yX8_pieces, Cond.selects RX8 yX8_pieces yX8_pieces, Cond.code yX8_pieces cX8_pieces 2 (some .int), Cond.fieldLink RX8 18 "NettleLaw$Hedge" "cut" "[[I", Cond.methodLink RX8 65 yX8_with, Cond.static yX8_with, Cond.code yX8_with cX8_with 4 (some (.array (.array .int))), Cond.methodLink RX8 69 yX7_rule, Cond.instanceMethod yX7_rule, Cond.selects RX7 yX7_rule yX7_rule, Cond.code yX7_rule cX7_rule 2 (some .int), Cond.classLink RX7 74 "java/lang/IllegalStateException", Cond.initialized "java/lang/IllegalStateException", Cond.methodLink RX7 66 yX7_needVerdict, Cond.static yX7_needVerdict, Cond.code yX7_needVerdict cX7_needVerdict 1 none, Cond.classLink RX7 99 "java/lang/IllegalArgumentException", Cond.initialized "java/lang/IllegalArgumentException", Cond.methodLink RX7 81 yX6_add, Cond.instanceMethod yX6_add, Cond.selects RX6 yX6_add yX6_add, Cond.code yX6_add cX6_add 2 none]
def wsX8_change_r5 : List Cond := [Cond.methodLink RX6 22 yX3_reset, Cond.instanceMethod yX3_reset, Cond.selects RX3 yX3_reset yX3_reset, Cond.initialized RX3, Cond.code yX3_reset cX3_reset 3 none, Cond.fieldLink RX3 18 "Nettle$Rule" "verdict" "I", Cond.fieldLink RX3 22 "Nettle$Rule" "hits" "I", Cond.fieldLink RX3 9 "Nettle$Rule" "lows" "[I", Cond.fieldLink RX3 15 "Nettle$Rule" "highs" "[I", Cond.methodLink RX8 72 yX8_narrow, Cond.instanceMethod yX8_narrow, Cond.selects RX8 yX8_narrow yX8_narrow, Cond.code yX8_narrow cX8_narrow 5 (some .boolean), Cond.methodLink RX8 76 yX7_narrow, Cond.instanceMethod yX7_narrow, Cond.selects RX7 yX7_narrow yX7_narrow, Cond.code yX7_narrow cX7_narrow 6 (some .int), Cond.fieldLink RX7 104 "Nettle$Wall" "rows" "[LNettle$Rule;", Cond.fieldLink RX7 114 "Nettle$Rule" "lows" "[I", Cond.fieldLink RX7 117 "Nettle$Rule" "highs" "[I", Cond.methodLink RX7 95 yX7_isValue, Cond.static yX7_isValue, Cond.code yX7_isValue cX7_isValue 2 (some .boolean), Cond.fieldLink RX7 366 "Nettle" "SIZES" "[I"]
def wsX8_change_r6 : List Cond := [Cond.methodLink RX7 108 yX3_width, Cond.instanceMethod yX3_width, Cond.selects RX3 yX3_width yX3_width, Cond.code yX3_width cX3_width 2 (some .int), Cond.methodLink RX8 96 yX8_move, Cond.instanceMethod yX8_move, Cond.selects RX8 yX8_move yX8_move, Cond.code yX8_move cX8_move 4 (some .boolean), Cond.methodLink RX8 88 Lib.Math.abs.name, Cond.static Lib.Math.abs.name, Cond.initialized "java/lang/Math", Cond.code Lib.Math.abs.name Lib.Math.abs.code 1 (some .int), Cond.methodLink RX8 85 yX7_move, Cond.instanceMethod yX7_move, Cond.selects RX7 yX7_move yX7_move, Cond.code yX7_move cX7_move 3 (some .int), Cond.methodLink RX7 127 Lib.Math.abs.name, Cond.methodLink RX7 123 yX6_shift, Cond.methodLink RX8 101 yX7_setLast, Cond.instanceMethod yX7_setLast, Cond.selects RX7 yX7_setLast yX7_setLast, Cond.code yX7_setLast cX7_setLast 3 (some .boolean), Cond.fieldLink RX7 135 "Nettle$Wall" "isLastAllow" "Z", Cond.methodLink RX8 105 yX7_turn]
def wsX8_change_r7 : List Cond := [Cond.instanceMethod yX7_turn, Cond.selects RX7 yX7_turn yX7_turn, Cond.code yX7_turn cX7_turn 4 (some .int), Cond.fieldLink RX7 120 "Nettle$Rule" "verdict" "I", Cond.methodLink RX8 112 yX7_copy, Cond.instanceMethod yX7_copy, Cond.selects RX7 yX7_copy yX7_copy, Cond.code yX7_copy cX7_copy 1 (some .int), Cond.fieldLink RX7 16 "Nettle" "copied" "LNettle$Wall;", Cond.methodLink RX7 276 yX6_takeFrom, Cond.instanceMethod yX6_takeFrom, Cond.selects RX6 yX6_takeFrom yX6_takeFrom, Cond.code yX6_takeFrom cX6_takeFrom 3 none, Cond.fieldLink RX6 34 "Nettle$Wall" "isLastAllow" "Z", Cond.methodLink RX6 30 yX3_takeFrom, Cond.instanceMethod yX3_takeFrom, Cond.selects RX3 yX3_takeFrom yX3_takeFrom, Cond.code yX3_takeFrom cX3_takeFrom 3 none]
def wsX8_change : List Cond := .code yX8_change cX8_change 4 (some .boolean) :: ((wsX8_change_r1 ++ (wsX8_change_r2 ++ (wsX8_change_r3 ++ (wsX8_change_r4 ++ (wsX8_change_r5 ++ (wsX8_change_r6 ++ wsX8_change_r7)))))) ++ wsX80 ++ wsX70 ++ wsX60 ++ wsX40 ++ wsX10 ++ wsX50 ++ wsX00 ++ wsX30 ++ (vx_atS RX7 94 "java/lang/IndexOutOfBoundsException" ["java/lang/RuntimeException", "java/lang/Exception"]).filter goodWord ++ (vx_atS RX7 78 "java/lang/IllegalStateException" ["java/lang/RuntimeException", "java/lang/Exception"]).filter goodWord ++ (vx_atS RX7 103 "java/lang/IllegalArgumentException" ["java/lang/RuntimeException", "java/lang/Exception"]).filter goodWord)
def wsX8_found_r1 : List Cond := [Cond.methodLink RX8 93 yX8_add, Cond.instanceMethod yX8_add, Cond.selects RX8 yX8_add yX8_add, Cond.initialized RX8, Cond.code yX8_add cX8_add 4 (some .boolean), Cond.fieldLink RX8 22 "NettleLaw$Hedge" "rules" "[[I", Cond.arrayClass .int, Cond.fieldLink RX8 10 "NettleLaw$Hedge" "m" "LNettle;", Cond.methodLink RX8 58 yX8_drop, Cond.instanceMethod yX8_drop, Cond.selects RX8 yX8_drop yX8_drop, Cond.code yX8_drop cX8_drop 2 (some .boolean), Cond.methodLink RX8 38 yX8_draw, Cond.instanceMethod yX8_draw, Cond.selects RX8 yX8_draw yX8_draw, Cond.code yX8_draw cX8_draw 3 (some .int), Cond.fieldLink RX8 31 "NettleLaw$Hedge" "s" "[I", Cond.fieldLink RX8 34 "NettleLaw$Hedge" "draws" "I", Cond.static yL_cell, Cond.initialized RL, Cond.code yL_cell cL_cell 2 (some .int), Cond.constant RL 8 (790386105), Cond.static yL_below, Cond.code yL_below cL_below 2 (some .int)]
def wsX8_found_r2 : List Cond := [Cond.constant RL 7 (2147483647), Cond.methodLink RX8 79 yX8_without, Cond.static yX8_without, Cond.code yX8_without cX8_without 3 (some (.array (.array .int))), Cond.classLink RX8 16 "[I", Cond.methodLink RX8 52 arraycopyName, Cond.native arraycopyName, Cond.static arraycopyName, Cond.initialized "java/lang/System", Cond.methodLink RX8 83 yX7_drop, Cond.instanceMethod yX7_drop, Cond.selects RX7 yX7_drop yX7_drop, Cond.initialized RX7, Cond.code yX7_drop cX7_drop 2 (some .int), Cond.fieldLink RX7 10 "Nettle" "wall" "LNettle$Wall;", Cond.fieldLink RX7 70 "Nettle$Wall" "count" "I", Cond.methodLink RX7 87 yX7_needRule, Cond.instanceMethod yX7_needRule, Cond.selects RX7 yX7_needRule yX7_needRule, Cond.code yX7_needRule cX7_needRule 2 none, Cond.classLink RX7 90 "java/lang/IndexOutOfBoundsException", Cond.initialized "java/lang/IndexOutOfBoundsException", Cond.methodLink RX7 132 yX6_remove, Cond.instanceMethod yX6_remove]
def wsX8_found_r3 : List Cond := [Cond.selects RX6 yX6_remove yX6_remove, Cond.initialized RX6, Cond.code yX6_remove cX6_remove 2 none, Cond.fieldLink RX6 18 "Nettle$Wall" "count" "I", Cond.methodLink RX6 26 yX6_shift, Cond.instanceMethod yX6_shift, Cond.selects RX6 yX6_shift yX6_shift, Cond.code yX6_shift cX6_shift 5 none, Cond.fieldLink RX6 11 "Nettle$Wall" "rows" "[LNettle$Rule;", Cond.methodLink RX7 84 yX7_outdate, Cond.instanceMethod yX7_outdate, Cond.selects RX7 yX7_outdate yX7_outdate, Cond.code yX7_outdate cX7_outdate 1 none, Cond.fieldLink RX7 24 "Nettle" "survey" "LNettle$Survey;", Cond.fieldLink RX7 371 "Nettle$Survey" "isFresh" "Z", Cond.fieldLink RX7 33 "Nettle" "cuts" "LNettle$Cuts;", Cond.fieldLink RX7 374 "Nettle$Cuts" "isFresh" "Z", Cond.fieldLink RX7 42 "Nettle" "tree" "LNettle$Tree;", Cond.fieldLink RX7 375 "Nettle$Tree" "isFresh" "Z", Cond.fieldLink RX7 51 "Nettle" "comparison" "LNettle$Comparison;", Cond.fieldLink RX7 376 "Nettle$Comparison" "isFresh" "Z", Cond.methodLink RX8 62 yX8_pieces, Cond.instanceMethod yX8_pieces, Cond.selects RX8 yX8_pieces yX8_pieces]
def wsX8_found_r4 : List Cond := [Cond.code yX8_pieces cX8_pieces 2 (some .int), Cond.fieldLink RX8 18 "NettleLaw$Hedge" "cut" "[[I", Cond.methodLink RX8 65 yX8_with, Cond.static yX8_with, Cond.code yX8_with cX8_with 4 (some (.array (.array .int))), Cond.methodLink RX8 69 yX7_rule, Cond.instanceMethod yX7_rule, Cond.selects RX7 yX7_rule yX7_rule, Cond.code yX7_rule cX7_rule 2 (some .int), Cond.classLink RX7 74 "java/lang/IllegalStateException", Cond.initialized "java/lang/IllegalStateException", Cond.methodLink RX7 66 yX7_needVerdict, Cond.static yX7_needVerdict, Cond.code yX7_needVerdict cX7_needVerdict 1 none, Cond.classLink RX7 99 "java/lang/IllegalArgumentException", Cond.initialized "java/lang/IllegalArgumentException", Cond.methodLink RX7 81 yX6_add, Cond.instanceMethod yX6_add, Cond.selects RX6 yX6_add yX6_add, Cond.code yX6_add cX6_add 2 none, Cond.methodLink RX6 22 yX3_reset, Cond.instanceMethod yX3_reset, Cond.selects RX3 yX3_reset yX3_reset, Cond.initialized RX3]
def wsX8_found_r5 : List Cond := [Cond.code yX3_reset cX3_reset 3 none, Cond.fieldLink RX3 18 "Nettle$Rule" "verdict" "I", Cond.fieldLink RX3 22 "Nettle$Rule" "hits" "I", Cond.fieldLink RX3 9 "Nettle$Rule" "lows" "[I", Cond.fieldLink RX3 15 "Nettle$Rule" "highs" "[I", Cond.methodLink RX8 72 yX8_narrow, Cond.instanceMethod yX8_narrow, Cond.selects RX8 yX8_narrow yX8_narrow, Cond.code yX8_narrow cX8_narrow 5 (some .boolean), Cond.methodLink RX8 76 yX7_narrow, Cond.instanceMethod yX7_narrow, Cond.selects RX7 yX7_narrow yX7_narrow, Cond.code yX7_narrow cX7_narrow 6 (some .int), Cond.fieldLink RX7 104 "Nettle$Wall" "rows" "[LNettle$Rule;", Cond.fieldLink RX7 114 "Nettle$Rule" "lows" "[I", Cond.fieldLink RX7 117 "Nettle$Rule" "highs" "[I", Cond.methodLink RX7 95 yX7_isValue, Cond.static yX7_isValue, Cond.code yX7_isValue cX7_isValue 2 (some .boolean), Cond.fieldLink RX7 366 "Nettle" "SIZES" "[I", Cond.methodLink RX7 108 yX3_width, Cond.instanceMethod yX3_width, Cond.selects RX3 yX3_width yX3_width, Cond.code yX3_width cX3_width 2 (some .int)]
def wsX8_found_r6 : List Cond := [Cond.methodLink RX8 115 yX8_change, Cond.instanceMethod yX8_change, Cond.selects RX8 yX8_change yX8_change, Cond.code yX8_change cX8_change 4 (some .boolean), Cond.fieldLink RX8 98 "NettleLaw$Hedge" "last" "I", Cond.classLink RX8 108 "[[I", Cond.fieldLink RX8 25 "NettleLaw$Hedge" "copy" "[[I", Cond.fieldLink RX8 109 "NettleLaw$Hedge" "copyLast" "I", Cond.methodLink RX8 96 yX8_move, Cond.instanceMethod yX8_move, Cond.selects RX8 yX8_move yX8_move, Cond.code yX8_move cX8_move 4 (some .boolean), Cond.methodLink RX8 88 Lib.Math.abs.name, Cond.static Lib.Math.abs.name, Cond.initialized "java/lang/Math", Cond.code Lib.Math.abs.name Lib.Math.abs.code 1 (some .int), Cond.methodLink RX8 85 yX7_move, Cond.instanceMethod yX7_move, Cond.selects RX7 yX7_move yX7_move, Cond.code yX7_move cX7_move 3 (some .int), Cond.methodLink RX7 127 Lib.Math.abs.name, Cond.methodLink RX7 123 yX6_shift, Cond.methodLink RX8 101 yX7_setLast, Cond.instanceMethod yX7_setLast]
def wsX8_found_r7 : List Cond := [Cond.selects RX7 yX7_setLast yX7_setLast, Cond.code yX7_setLast cX7_setLast 3 (some .boolean), Cond.fieldLink RX7 135 "Nettle$Wall" "isLastAllow" "Z", Cond.methodLink RX8 105 yX7_turn, Cond.instanceMethod yX7_turn, Cond.selects RX7 yX7_turn yX7_turn, Cond.code yX7_turn cX7_turn 4 (some .int), Cond.fieldLink RX7 120 "Nettle$Rule" "verdict" "I", Cond.methodLink RX8 112 yX7_copy, Cond.instanceMethod yX7_copy, Cond.selects RX7 yX7_copy yX7_copy, Cond.code yX7_copy cX7_copy 1 (some .int), Cond.fieldLink RX7 16 "Nettle" "copied" "LNettle$Wall;", Cond.methodLink RX7 276 yX6_takeFrom, Cond.instanceMethod yX6_takeFrom, Cond.selects RX6 yX6_takeFrom yX6_takeFrom, Cond.code yX6_takeFrom cX6_takeFrom 3 none, Cond.fieldLink RX6 34 "Nettle$Wall" "isLastAllow" "Z", Cond.methodLink RX6 30 yX3_takeFrom, Cond.instanceMethod yX3_takeFrom, Cond.selects RX3 yX3_takeFrom yX3_takeFrom, Cond.code yX3_takeFrom cX3_takeFrom 3 none]
def wsX8_found : List Cond := .code yX8_found cX8_found 2 (some .boolean) :: ((wsX8_found_r1 ++ (wsX8_found_r2 ++ (wsX8_found_r3 ++ (wsX8_found_r4 ++ (wsX8_found_r5 ++ (wsX8_found_r6 ++ wsX8_found_r7)))))) ++ wsX80 ++ wsX70 ++ wsX60 ++ wsX40 ++ wsX10 ++ wsX50 ++ wsX00 ++ wsX30 ++ (vx_atS RX7 94 "java/lang/IndexOutOfBoundsException" ["java/lang/RuntimeException", "java/lang/Exception"]).filter goodWord ++ (vx_atS RX7 78 "java/lang/IllegalStateException" ["java/lang/RuntimeException", "java/lang/Exception"]).filter goodWord ++ (vx_atS RX7 103 "java/lang/IllegalArgumentException" ["java/lang/RuntimeException", "java/lang/Exception"]).filter goodWord)
def wsX8_all : List Cond := .code yX8_all cX8_all 3 (some .int) :: ([.fieldLink RX8 22 "NettleLaw$Hedge" "rules" "[[I"] ++ wsX80)
def wsL_law0_r1 : List Cond := [Cond.classLink RL 9 RX8, Cond.instantiable RX8 10, Cond.initialized RX8, Cond.fieldLink RL 14 "NettleLaw$Hedge" "m" "LNettle;", Cond.constantLong RL 61 (268435456), Cond.fieldLink RL 66 "NettleLaw$Hedge" "last" "I", Cond.constantDouble RL 80 (4616189618054758400), Cond.methodLink RL 85 Lib.Math.min.name, Cond.static Lib.Math.min.name, Cond.initialized "java/lang/Math", Cond.code Lib.Math.min.name Lib.Math.min.code 2 (some .int), Cond.arrayClass .int, Cond.methodLink RL 11 yX8_init, Cond.instanceMethod yX8_init, Cond.code yX8_init cX8_init 8 none, Cond.methodLink RX8 1 objectInit, Cond.instanceMethod objectInit, Cond.code objectInit ⟨#[0xb1]⟩ 1 none, Cond.classLink RX8 7 RX7, Cond.instantiable RX7 8, Cond.initialized RX7, Cond.fieldLink RX8 10 "NettleLaw$Hedge" "m" "LNettle;", Cond.classLink RX8 16 "[I", Cond.fieldLink RX8 18 "NettleLaw$Hedge" "cut" "[[I"]
def wsL_law0_r2 : List Cond := [Cond.fieldLink RX8 22 "NettleLaw$Hedge" "rules" "[[I", Cond.fieldLink RX8 25 "NettleLaw$Hedge" "copy" "[[I", Cond.fieldLink RX8 28 "NettleLaw$Hedge" "node" "[[I", Cond.fieldLink RX8 31 "NettleLaw$Hedge" "s" "[I", Cond.fieldLink RX8 34 "NettleLaw$Hedge" "draws" "I", Cond.methodLink RX8 9 yX7_init, Cond.instanceMethod yX7_init, Cond.code yX7_init cX7_init 1 none, Cond.methodLink RX7 1 objectInit, Cond.classLink RX7 7 RX6, Cond.instantiable RX6 3, Cond.initialized RX6, Cond.fieldLink RX7 10 "Nettle" "wall" "LNettle$Wall;", Cond.fieldLink RX7 16 "Nettle" "copied" "LNettle$Wall;", Cond.classLink RX7 19 RX4, Cond.instantiable RX4 5, Cond.initialized RX4, Cond.fieldLink RX7 24 "Nettle" "survey" "LNettle$Survey;", Cond.classLink RX7 28 RX1, Cond.instantiable RX1 6, Cond.initialized RX1, Cond.fieldLink RX7 33 "Nettle" "cuts" "LNettle$Cuts;", Cond.classLink RX7 37 RX5, Cond.instantiable RX5 7]
def wsL_law0_r3 : List Cond := [Cond.initialized RX5, Cond.fieldLink RX7 42 "Nettle" "tree" "LNettle$Tree;", Cond.classLink RX7 46 RX0, Cond.instantiable RX0 7, Cond.initialized RX0, Cond.fieldLink RX7 51 "Nettle" "comparison" "LNettle$Comparison;", Cond.classLink RX7 55 RX2, Cond.instantiable RX2 6, Cond.initialized RX2, Cond.fieldLink RX7 58 "Nettle" "log" "LNettle$Log;", Cond.fieldLink RX7 62 "Nettle" "packet" "[I", Cond.methodLink RX7 9 yX6_init, Cond.instanceMethod yX6_init, Cond.code yX6_init cX6_init 2 none, Cond.methodLink RX6 3 objectInit, Cond.classLink RX6 9 RX3, Cond.fieldLink RX6 11 "Nettle$Wall" "rows" "[LNettle$Rule;", Cond.instantiable RX3 4, Cond.initialized RX3, Cond.instanceMethod yX3_init, Cond.code yX3_init cX3_init 1 none, Cond.methodLink RX3 3 objectInit, Cond.fieldLink RX3 9 "Nettle$Rule" "lows" "[I", Cond.fieldLink RX3 15 "Nettle$Rule" "highs" "[I"]
def wsL_law0_r4 : List Cond := [Cond.methodLink RX7 21 yX4_init, Cond.instanceMethod yX4_init, Cond.code yX4_init cX4_init 2 none, Cond.methodLink RX4 3 objectInit, Cond.fieldLink RX4 9 "Nettle$Survey" "lows" "[I", Cond.fieldLink RX4 15 "Nettle$Survey" "highs" "[I", Cond.fieldLink RX4 18 "Nettle$Survey" "amounts" "[I", Cond.fieldLink RX4 21 "Nettle$Survey" "wall" "LNettle$Wall;", Cond.methodLink RX7 30 yX1_init, Cond.instanceMethod yX1_init, Cond.code yX1_init cX1_init 3 none, Cond.methodLink RX1 3 objectInit, Cond.fieldLink RX1 9 "Nettle$Cuts" "counts" "[I", Cond.fieldLink RX1 15 "Nettle$Cuts" "starts" "[I", Cond.fieldLink RX1 18 "Nettle$Cuts" "masks" "[I", Cond.fieldLink RX1 21 "Nettle$Cuts" "now" "LNettle$Wall;", Cond.fieldLink RX1 25 "Nettle$Cuts" "old" "LNettle$Wall;", Cond.methodLink RX7 39 yX5_init, Cond.instanceMethod yX5_init, Cond.code yX5_init cX5_init 3 none, Cond.methodLink RX5 3 objectInit, Cond.fieldLink RX5 9 "Nettle$Tree" "numbers" "[I", Cond.fieldLink RX5 15 "Nettle$Tree" "codes" "[I", Cond.fieldLink RX5 18 "Nettle$Tree" "sums" "[I"]
def wsL_law0_r5 : List Cond := [Cond.fieldLink RX5 21 "Nettle$Tree" "wall" "LNettle$Wall;", Cond.fieldLink RX5 25 "Nettle$Tree" "cuts" "LNettle$Cuts;", Cond.methodLink RX7 48 yX0_init, Cond.instanceMethod yX0_init, Cond.code yX0_init cX0_init 4 none, Cond.methodLink RX0 3 objectInit, Cond.fieldLink RX0 9 "Nettle$Comparison" "first" "[I", Cond.fieldLink RX0 15 "Nettle$Comparison" "place" "[I", Cond.fieldLink RX0 18 "Nettle$Comparison" "now" "LNettle$Wall;", Cond.fieldLink RX0 22 "Nettle$Comparison" "old" "LNettle$Wall;", Cond.fieldLink RX0 25 "Nettle$Comparison" "cuts" "LNettle$Cuts;", Cond.instanceMethod yX2_init, Cond.code yX2_init cX2_init 1 none, Cond.methodLink RX2 3 objectInit, Cond.fieldLink RX2 9 "Nettle$Log" "rows" "[I", Cond.methodLink RX8 38 yX8_draw, Cond.instanceMethod yX8_draw, Cond.selects RX8 yX8_draw yX8_draw, Cond.code yX8_draw cX8_draw 3 (some .int), Cond.static yL_cell, Cond.initialized RL, Cond.code yL_cell cL_cell 2 (some .int), Cond.constant RL 8 (790386105), Cond.static yL_below]
def wsL_law0_r6 : List Cond := [Cond.code yL_below cL_below 2 (some .int), Cond.constant RL 7 (2147483647), Cond.methodLink RL 18 yX8_found, Cond.instanceMethod yX8_found, Cond.selects RX8 yX8_found yX8_found, Cond.code yX8_found cX8_found 2 (some .boolean), Cond.methodLink RX8 93 yX8_add, Cond.instanceMethod yX8_add, Cond.selects RX8 yX8_add yX8_add, Cond.code yX8_add cX8_add 4 (some .boolean), Cond.methodLink RX8 58 yX8_drop, Cond.instanceMethod yX8_drop, Cond.selects RX8 yX8_drop yX8_drop, Cond.code yX8_drop cX8_drop 2 (some .boolean), Cond.methodLink RX8 79 yX8_without, Cond.static yX8_without, Cond.code yX8_without cX8_without 3 (some (.array (.array .int))), Cond.methodLink RX8 52 arraycopyName, Cond.native arraycopyName, Cond.static arraycopyName, Cond.initialized "java/lang/System", Cond.methodLink RX8 83 yX7_drop, Cond.instanceMethod yX7_drop, Cond.selects RX7 yX7_drop yX7_drop]
def wsL_law0_r7 : List Cond := [Cond.code yX7_drop cX7_drop 2 (some .int), Cond.fieldLink RX7 70 "Nettle$Wall" "count" "I", Cond.methodLink RX7 87 yX7_needRule, Cond.instanceMethod yX7_needRule, Cond.selects RX7 yX7_needRule yX7_needRule, Cond.code yX7_needRule cX7_needRule 2 none, Cond.classLink RX7 90 "java/lang/IndexOutOfBoundsException", Cond.initialized "java/lang/IndexOutOfBoundsException", Cond.methodLink RX7 132 yX6_remove, Cond.instanceMethod yX6_remove, Cond.selects RX6 yX6_remove yX6_remove, Cond.code yX6_remove cX6_remove 2 none, Cond.fieldLink RX6 18 "Nettle$Wall" "count" "I", Cond.methodLink RX6 26 yX6_shift, Cond.instanceMethod yX6_shift, Cond.selects RX6 yX6_shift yX6_shift, Cond.code yX6_shift cX6_shift 5 none, Cond.methodLink RX7 84 yX7_outdate, Cond.instanceMethod yX7_outdate, Cond.selects RX7 yX7_outdate yX7_outdate, Cond.code yX7_outdate cX7_outdate 1 none, Cond.fieldLink RX7 371 "Nettle$Survey" "isFresh" "Z", Cond.fieldLink RX7 374 "Nettle$Cuts" "isFresh" "Z", Cond.fieldLink RX7 375 "Nettle$Tree" "isFresh" "Z"]
def wsL_law0_r8 : List Cond := [Cond.fieldLink RX7 376 "Nettle$Comparison" "isFresh" "Z", Cond.methodLink RX8 62 yX8_pieces, Cond.instanceMethod yX8_pieces, Cond.selects RX8 yX8_pieces yX8_pieces, Cond.code yX8_pieces cX8_pieces 2 (some .int), Cond.methodLink RX8 65 yX8_with, Cond.static yX8_with, Cond.code yX8_with cX8_with 4 (some (.array (.array .int))), Cond.methodLink RX8 69 yX7_rule, Cond.instanceMethod yX7_rule, Cond.selects RX7 yX7_rule yX7_rule, Cond.code yX7_rule cX7_rule 2 (some .int), Cond.classLink RX7 74 "java/lang/IllegalStateException", Cond.initialized "java/lang/IllegalStateException", Cond.methodLink RX7 66 yX7_needVerdict, Cond.static yX7_needVerdict, Cond.code yX7_needVerdict cX7_needVerdict 1 none, Cond.classLink RX7 99 "java/lang/IllegalArgumentException", Cond.initialized "java/lang/IllegalArgumentException", Cond.methodLink RX7 81 yX6_add, Cond.instanceMethod yX6_add, Cond.selects RX6 yX6_add yX6_add, Cond.code yX6_add cX6_add 2 none, Cond.methodLink RX6 22 yX3_reset]
def wsL_law0_r9 : List Cond := [Cond.instanceMethod yX3_reset, Cond.selects RX3 yX3_reset yX3_reset, Cond.code yX3_reset cX3_reset 3 none, Cond.fieldLink RX3 18 "Nettle$Rule" "verdict" "I", Cond.fieldLink RX3 22 "Nettle$Rule" "hits" "I", Cond.methodLink RX8 72 yX8_narrow, Cond.instanceMethod yX8_narrow, Cond.selects RX8 yX8_narrow yX8_narrow, Cond.code yX8_narrow cX8_narrow 5 (some .boolean), Cond.methodLink RX8 76 yX7_narrow, Cond.instanceMethod yX7_narrow, Cond.selects RX7 yX7_narrow yX7_narrow, Cond.code yX7_narrow cX7_narrow 6 (some .int), Cond.fieldLink RX7 104 "Nettle$Wall" "rows" "[LNettle$Rule;", Cond.fieldLink RX7 114 "Nettle$Rule" "lows" "[I", Cond.fieldLink RX7 117 "Nettle$Rule" "highs" "[I", Cond.methodLink RX7 95 yX7_isValue, Cond.static yX7_isValue, Cond.code yX7_isValue cX7_isValue 2 (some .boolean), Cond.fieldLink RX7 366 "Nettle" "SIZES" "[I", Cond.methodLink RX7 108 yX3_width, Cond.instanceMethod yX3_width, Cond.selects RX3 yX3_width yX3_width, Cond.code yX3_width cX3_width 2 (some .int)]
def wsL_law0_r10 : List Cond := [Cond.methodLink RX8 115 yX8_change, Cond.instanceMethod yX8_change, Cond.selects RX8 yX8_change yX8_change, Cond.code yX8_change cX8_change 4 (some .boolean), Cond.fieldLink RX8 98 "NettleLaw$Hedge" "last" "I", Cond.classLink RX8 108 "[[I", Cond.fieldLink RX8 109 "NettleLaw$Hedge" "copyLast" "I", Cond.methodLink RX8 96 yX8_move, Cond.instanceMethod yX8_move, Cond.selects RX8 yX8_move yX8_move, Cond.code yX8_move cX8_move 4 (some .boolean), Cond.methodLink RX8 88 Lib.Math.abs.name, Cond.static Lib.Math.abs.name, Cond.code Lib.Math.abs.name Lib.Math.abs.code 1 (some .int), Cond.methodLink RX8 85 yX7_move, Cond.instanceMethod yX7_move, Cond.selects RX7 yX7_move yX7_move, Cond.code yX7_move cX7_move 3 (some .int), Cond.methodLink RX7 127 Lib.Math.abs.name, Cond.methodLink RX7 123 yX6_shift, Cond.methodLink RX8 101 yX7_setLast, Cond.instanceMethod yX7_setLast, Cond.selects RX7 yX7_setLast yX7_setLast, Cond.code yX7_setLast cX7_setLast 3 (some .boolean)]
def wsL_law0_r11 : List Cond := [Cond.fieldLink RX7 135 "Nettle$Wall" "isLastAllow" "Z", Cond.methodLink RX8 105 yX7_turn, Cond.instanceMethod yX7_turn, Cond.selects RX7 yX7_turn yX7_turn, Cond.code yX7_turn cX7_turn 4 (some .int), Cond.fieldLink RX7 120 "Nettle$Rule" "verdict" "I", Cond.methodLink RX8 112 yX7_copy, Cond.instanceMethod yX7_copy, Cond.selects RX7 yX7_copy yX7_copy, Cond.code yX7_copy cX7_copy 1 (some .int), Cond.methodLink RX7 276 yX6_takeFrom, Cond.instanceMethod yX6_takeFrom, Cond.selects RX6 yX6_takeFrom yX6_takeFrom, Cond.code yX6_takeFrom cX6_takeFrom 3 none, Cond.fieldLink RX6 34 "Nettle$Wall" "isLastAllow" "Z", Cond.methodLink RX6 30 yX3_takeFrom, Cond.instanceMethod yX3_takeFrom, Cond.selects RX3 yX3_takeFrom yX3_takeFrom, Cond.code yX3_takeFrom cX3_takeFrom 3 none, Cond.methodLink RL 22 yX8_change, Cond.methodLink RL 25 yX7_digest, Cond.instanceMethod yX7_digest, Cond.selects RX7 yX7_digest yX7_digest, Cond.code yX7_digest cX7_digest 5 (some .long)]
def wsL_law0_r12 : List Cond := [Cond.constantLong RX7 292 (58082), Cond.methodLink RX7 313 Lib.Math.min.name, Cond.methodLink RX7 294 yX7_rules, Cond.instanceMethod yX7_rules, Cond.selects RX7 yX7_rules yX7_rules, Cond.code yX7_rules cX7_rules 1 (some .int), Cond.methodLink RX7 297 yX7_mix, Cond.static yX7_mix, Cond.code yX7_mix cX7_mix 3 (some .long), Cond.constantLong RX7 329 (31), Cond.methodLink RX7 301 yX7_mixRule, Cond.instanceMethod yX7_mixRule, Cond.selects RX7 yX7_mixRule yX7_mixRule, Cond.code yX7_mixRule cX7_mixRule 7 (some .long), Cond.methodLink RX7 331 yX7_ofRule, Cond.instanceMethod yX7_ofRule, Cond.selects RX7 yX7_ofRule yX7_ofRule, Cond.code yX7_ofRule cX7_ofRule 5 (some .int), Cond.fieldLink RX7 146 "Nettle$Rule" "hits" "I", Cond.methodLink RX7 143 yX7_needWhat, Cond.static yX7_needWhat, Cond.code yX7_needWhat cX7_needWhat 2 none, Cond.methodLink RX7 334 yX7_decides, Cond.instanceMethod yX7_decides]
def wsL_law0_r13 : List Cond := [Cond.selects RX7 yX7_decides yX7_decides, Cond.code yX7_decides cX7_decides 2 (some .int), Cond.methodLink RX7 149 yX7_surveyed, Cond.instanceMethod yX7_surveyed, Cond.selects RX7 yX7_surveyed yX7_surveyed, Cond.code yX7_surveyed cX7_surveyed 1 (some (.object "Nettle$Survey")), Cond.methodLink RX7 377 yX4_refresh, Cond.instanceMethod yX4_refresh, Cond.selects RX4 yX4_refresh yX4_refresh, Cond.code yX4_refresh cX4_refresh 2 none, Cond.fieldLink RX4 25 "Nettle$Survey" "isFresh" "Z", Cond.methodLink RX4 35 yX4_setCount, Cond.instanceMethod yX4_setCount, Cond.selects RX4 yX4_setCount yX4_setCount, Cond.code yX4_setCount cX4_setCount 1 (some .int), Cond.fieldLink RX4 46 "Nettle$Wall" "count" "I", Cond.methodLink RX4 39 yX4_measure, Cond.instanceMethod yX4_measure, Cond.selects RX4 yX4_measure yX4_measure, Cond.code yX4_measure cX4_measure 9 none, Cond.fieldLink RX4 56 "Nettle$Wall" "rows" "[LNettle$Rule;", Cond.fieldLink RX4 60 "Nettle$Rule" "lows" "[I", Cond.methodLink RX4 63 Lib.Math.max.name, Cond.static Lib.Math.max.name]
def wsL_law0_r14 : List Cond := [Cond.code Lib.Math.max.name Lib.Math.max.code 2 (some .int), Cond.fieldLink RX4 69 "Nettle$Rule" "highs" "[I", Cond.methodLink RX4 70 Lib.Math.min.name, Cond.methodLink RX4 52 yX6_firstOf, Cond.instanceMethod yX6_firstOf, Cond.selects RX6 yX6_firstOf yX6_firstOf, Cond.code yX6_firstOf cX6_firstOf 3 (some .int), Cond.methodLink RX4 43 yX4_takeOutLarger, Cond.instanceMethod yX4_takeOutLarger, Cond.selects RX4 yX4_takeOutLarger yX4_takeOutLarger, Cond.code yX4_takeOutLarger cX4_takeOutLarger 4 none, Cond.methodLink RX7 153 yX4_amountOf, Cond.instanceMethod yX4_amountOf, Cond.selects RX4 yX4_amountOf yX4_amountOf, Cond.code yX4_amountOf cX4_amountOf 6 (some .int), Cond.methodLink RX4 73 yX6_deciders, Cond.instanceMethod yX6_deciders, Cond.selects RX6 yX6_deciders yX6_deciders, Cond.code yX6_deciders cX6_deciders 3 (some .int), Cond.methodLink RX6 38 yX3_isNote, Cond.instanceMethod yX3_isNote, Cond.selects RX3 yX3_isNote yX3_isNote, Cond.code yX3_isNote cX3_isNote 1 (some .boolean), Cond.methodLink RX7 337 yX7_state]
def wsL_law0_r15 : List Cond := [Cond.instanceMethod yX7_state, Cond.selects RX7 yX7_state yX7_state, Cond.code yX7_state cX7_state 3 (some .int), Cond.methodLink RX7 159 yX4_isDead, Cond.instanceMethod yX4_isDead, Cond.selects RX4 yX4_isDead yX4_isDead, Cond.code yX4_isDead cX4_isDead 2 (some .boolean), Cond.methodLink RX4 80 yX4_amountOf, Cond.methodLink RX7 163 yX4_isNeedless, Cond.instanceMethod yX4_isNeedless, Cond.selects RX4 yX4_isNeedless yX4_isNeedless, Cond.code yX4_isNeedless cX4_isNeedless 5 (some .boolean), Cond.methodLink RX4 83 yX3_isNote, Cond.methodLink RX4 76 yX6_allows, Cond.instanceMethod yX6_allows, Cond.selects RX6 yX6_allows yX6_allows, Cond.code yX6_allows cX6_allows 3 (some .boolean), Cond.fieldLink RX6 66 "Nettle$Rule" "verdict" "I", Cond.methodLink RX6 62 yX6_firstOf, Cond.methodLink RX7 166 yX6_firstCover, Cond.instanceMethod yX6_firstCover, Cond.selects RX6 yX6_firstCover yX6_firstCover, Cond.code yX6_firstCover cX6_firstCover 3 (some .int), Cond.methodLink RX6 73 yX3_covers]
def wsL_law0_r16 : List Cond := [Cond.instanceMethod yX3_covers, Cond.selects RX3 yX3_covers yX3_covers, Cond.code yX3_covers cX3_covers 3 (some .boolean), Cond.methodLink RX7 340 yX7_coveredBy, Cond.instanceMethod yX7_coveredBy, Cond.selects RX7 yX7_coveredBy yX7_coveredBy, Cond.code yX7_coveredBy cX7_coveredBy 2 (some .int), Cond.methodLink RX7 343 yX7_allowedWithout, Cond.instanceMethod yX7_allowedWithout, Cond.selects RX7 yX7_allowedWithout yX7_allowedWithout, Cond.code yX7_allowedWithout cX7_allowedWithout 2 (some .int), Cond.methodLink RX7 156 yX4_amountAllowed, Cond.instanceMethod yX4_amountAllowed, Cond.selects RX4 yX4_amountAllowed yX4_amountAllowed, Cond.code yX4_amountAllowed cX4_amountAllowed 5 (some .int), Cond.methodLink RX7 304 yX7_allowed, Cond.instanceMethod yX7_allowed, Cond.selects RX7 yX7_allowed yX7_allowed, Cond.code yX7_allowed cX7_allowed 1 (some .int), Cond.methodLink RX7 307 yX7_quarrels, Cond.instanceMethod yX7_quarrels, Cond.selects RX7 yX7_quarrels yX7_quarrels, Cond.code yX7_quarrels cX7_quarrels 4 (some .int), Cond.methodLink RX7 173 yX3_isAgainst]
def wsL_law0_r17 : List Cond := [Cond.instanceMethod yX3_isAgainst, Cond.selects RX3 yX3_isAgainst yX3_isAgainst, Cond.code yX3_isAgainst cX3_isAgainst 2 (some .boolean), Cond.methodLink RX3 41 yX3_isNote, Cond.methodLink RX3 45 yX3_amountWith, Cond.instanceMethod yX3_amountWith, Cond.selects RX3 yX3_amountWith yX3_amountWith, Cond.code yX3_amountWith cX3_amountWith 6 (some .int), Cond.methodLink RX3 32 Lib.Math.max.name, Cond.methodLink RX3 38 Lib.Math.min.name, Cond.methodLink RX7 310 yX7_nodes, Cond.instanceMethod yX7_nodes, Cond.selects RX7 yX7_nodes yX7_nodes, Cond.code yX7_nodes cX7_nodes 1 (some .int), Cond.fieldLink RX7 193 "Nettle$Tree" "count" "I", Cond.methodLink RX7 189 yX7_compiled, Cond.instanceMethod yX7_compiled, Cond.selects RX7 yX7_compiled yX7_compiled, Cond.code yX7_compiled cX7_compiled 1 (some (.object "Nettle$Tree")), Cond.methodLink RX7 380 yX1_refresh, Cond.instanceMethod yX1_refresh, Cond.selects RX1 yX1_refresh yX1_refresh, Cond.code yX1_refresh cX1_refresh 2 none, Cond.fieldLink RX1 28 "Nettle$Cuts" "isFresh" "Z"]
def wsL_law0_r18 : List Cond := [Cond.methodLink RX1 32 yX1_cut, Cond.instanceMethod yX1_cut, Cond.selects RX1 yX1_cut yX1_cut, Cond.code yX1_cut cX1_cut 4 none, Cond.methodLink RX1 48 Lib.Math.min.name, Cond.methodLink RX1 39 yX6_having, Cond.instanceMethod yX6_having, Cond.selects RX6 yX6_having yX6_having, Cond.code yX6_having cX6_having 5 (some .int), Cond.methodLink RX6 42 yX3_has, Cond.instanceMethod yX3_has, Cond.selects RX3 yX3_has yX3_has, Cond.code yX3_has cX3_has 3 (some .boolean), Cond.methodLink RX1 45 yX6_nextCut, Cond.instanceMethod yX6_nextCut, Cond.selects RX6 yX6_nextCut yX6_nextCut, Cond.code yX6_nextCut cX6_nextCut 5 (some .int), Cond.fieldLink RX6 50 "Nettle$Rule" "lows" "[I", Cond.methodLink RX6 53 Lib.Math.min.name, Cond.fieldLink RX6 59 "Nettle$Rule" "highs" "[I", Cond.methodLink RX7 381 yX5_refresh, Cond.instanceMethod yX5_refresh, Cond.selects RX5 yX5_refresh yX5_refresh, Cond.code yX5_refresh cX5_refresh 2 none]
def wsL_law0_r19 : List Cond := [Cond.fieldLink RX5 29 "Nettle$Tree" "isFresh" "Z", Cond.fieldLink RX5 33 "Nettle$Tree" "count" "I", Cond.methodLink RX5 37 yX6_deciders, Cond.methodLink RX5 43 yX5_find, Cond.static yX5_find, Cond.code yX5_find cX5_find 9 (some .int), Cond.fieldLink RX5 58 "Nettle$Cuts" "counts" "[I", Cond.methodLink RX5 47 yX6_isSettled, Cond.instanceMethod yX6_isSettled, Cond.selects RX6 yX6_isSettled yX6_isSettled, Cond.code yX6_isSettled cX6_isSettled 4 (some .boolean), Cond.methodLink RX6 69 yX3_isWholeFrom, Cond.instanceMethod yX3_isWholeFrom, Cond.selects RX3 yX3_isWholeFrom yX3_isWholeFrom, Cond.code yX3_isWholeFrom cX3_isWholeFrom 3 (some .boolean), Cond.methodLink RX5 51 yX6_firstOf, Cond.methodLink RX5 63 yX1_mask, Cond.instanceMethod yX1_mask, Cond.selects RX1 yX1_mask yX1_mask, Cond.code yX1_mask cX1_mask 3 (some .int), Cond.methodLink RX5 67 yX1_start, Cond.instanceMethod yX1_start, Cond.selects RX1 yX1_start yX1_start, Cond.code yX1_start cX1_start 3 (some .int)]
def wsL_law0_r20 : List Cond := [Cond.methodLink RX7 316 yX7_mixNode, Cond.instanceMethod yX7_mixNode, Cond.selects RX7 yX7_mixNode yX7_mixNode, Cond.code yX7_mixNode cX7_mixNode 9 (some .long), Cond.methodLink RX7 346 yX7_ofNode, Cond.instanceMethod yX7_ofNode, Cond.selects RX7 yX7_ofNode yX7_ofNode, Cond.code yX7_ofNode cX7_ofNode 4 (some .int), Cond.methodLink RX7 194 yX7_needNode, Cond.static yX7_needNode, Cond.code yX7_needNode cX7_needNode 2 none, Cond.methodLink RX7 198 yX5_fieldOf, Cond.instanceMethod yX5_fieldOf, Cond.selects RX5 yX5_fieldOf yX5_fieldOf, Cond.code yX5_fieldOf cX5_fieldOf 2 (some .int), Cond.methodLink RX7 201 yX5_setOf, Cond.instanceMethod yX5_setOf, Cond.selects RX5 yX5_setOf yX5_setOf, Cond.code yX5_setOf cX5_setOf 2 (some .int), Cond.methodLink RX7 204 yX5_pieceCount, Cond.instanceMethod yX5_pieceCount, Cond.selects RX5 yX5_pieceCount yX5_pieceCount, Cond.code yX5_pieceCount cX5_pieceCount 4 (some .int), Cond.methodLink RX5 70 yX5_fieldOf]
def wsL_law0_r21 : List Cond := [Cond.methodLink RX5 73 yX5_setOf, Cond.methodLink RX5 76 yX1_startsRun, Cond.instanceMethod yX1_startsRun, Cond.selects RX1 yX1_startsRun yX1_startsRun, Cond.code yX1_startsRun cX1_startsRun 4 (some .boolean), Cond.methodLink RX1 53 yX1_mask, Cond.methodLink RX7 349 yX7_piece, Cond.instanceMethod yX7_piece, Cond.selects RX7 yX7_piece yX7_piece, Cond.code yX7_piece cX7_piece 7 (some .int), Cond.methodLink RX7 207 yX5_segmentOf, Cond.instanceMethod yX5_segmentOf, Cond.selects RX5 yX5_segmentOf yX5_segmentOf, Cond.code yX5_segmentOf cX5_segmentOf 5 (some .int), Cond.methodLink RX7 213 yX1_start, Cond.methodLink RX7 216 yX1_runEnd, Cond.instanceMethod yX1_runEnd, Cond.selects RX1 yX1_runEnd yX1_runEnd, Cond.code yX1_runEnd cX1_runEnd 5 (some .int), Cond.methodLink RX1 56 yX1_startsRun, Cond.methodLink RX1 60 yX1_start, Cond.methodLink RX7 220 yX5_leadOf, Cond.instanceMethod yX5_leadOf, Cond.selects RX5 yX5_leadOf yX5_leadOf]
def wsL_law0_r22 : List Cond := [Cond.code yX5_leadOf cX5_leadOf 4 (some .int), Cond.methodLink RX7 319 yX7_mixLog, Cond.instanceMethod yX7_mixLog, Cond.selects RX7 yX7_mixLog yX7_mixLog, Cond.code yX7_mixLog cX7_mixLog 7 (some .long), Cond.fieldLink RX7 264 "Nettle$Log" "size" "I", Cond.methodLink RX7 352 yX7_sent, Cond.instanceMethod yX7_sent, Cond.selects RX7 yX7_sent yX7_sent, Cond.code yX7_sent cX7_sent 2 (some .int), Cond.fieldLink RX7 255 "Nettle$Log" "all" "I", Cond.fieldLink RX7 258 "Nettle$Log" "passed" "I", Cond.fieldLink RX7 261 "Nettle$Log" "remembered" "I", Cond.fieldLink RX7 267 "Nettle$Log" "byLastWord" "I", Cond.methodLink RX7 355 yX7_kept, Cond.instanceMethod yX7_kept, Cond.selects RX7 yX7_kept yX7_kept, Cond.code yX7_kept cX7_kept 3 (some .int), Cond.fieldLink RX7 274 "Nettle$Log" "rows" "[I", Cond.methodLink RX7 323 yX7_changed, Cond.instanceMethod yX7_changed, Cond.selects RX7 yX7_changed yX7_changed, Cond.code yX7_changed cX7_changed 1 (some .int), Cond.fieldLink RX7 283 "Nettle$Comparison" "amount" "I"]
def wsL_law0_r23 : List Cond := [Cond.methodLink RX7 279 yX7_compared, Cond.instanceMethod yX7_compared, Cond.selects RX7 yX7_compared yX7_compared, Cond.code yX7_compared cX7_compared 1 (some (.object "Nettle$Comparison")), Cond.methodLink RX7 382 yX0_refresh, Cond.instanceMethod yX0_refresh, Cond.selects RX0 yX0_refresh yX0_refresh, Cond.code yX0_refresh cX0_refresh 2 none, Cond.fieldLink RX0 29 "Nettle$Comparison" "isFresh" "Z", Cond.fieldLink RX0 33 "Nettle$Comparison" "amount" "I", Cond.methodLink RX0 37 yX6_deciders, Cond.methodLink RX0 43 yX0_walk, Cond.static yX0_walk, Cond.code yX0_walk cX0_walk 8 none, Cond.fieldLink RX0 55 "Nettle$Cuts" "counts" "[I", Cond.methodLink RX0 47 yX0_isSettled, Cond.instanceMethod yX0_isSettled, Cond.selects RX0 yX0_isSettled yX0_isSettled, Cond.code yX0_isSettled cX0_isSettled 3 (some .boolean), Cond.methodLink RX0 75 yX6_isSettled, Cond.methodLink RX0 51 yX0_judge, Cond.instanceMethod yX0_judge, Cond.selects RX0 yX0_judge yX0_judge, Cond.code yX0_judge cX0_judge 5 none]
def wsL_law0_r24 : List Cond := [Cond.methodLink RX0 76 yX6_allows, Cond.methodLink RX0 60 yX1_startsRun, Cond.methodLink RX0 64 yX1_start, Cond.methodLink RX0 68 yX1_runEnd, Cond.methodLink RX0 72 yX1_mask, Cond.methodLink RX7 326 yX7_witness, Cond.instanceMethod yX7_witness, Cond.selects RX7 yX7_witness yX7_witness, Cond.code yX7_witness cX7_witness 2 (some .int), Cond.fieldLink RX7 286 "Nettle$Comparison" "first" "[I", Cond.methodLink RL 31 yX7_rules, Cond.methodLink RL 35 yX7_ofRule, Cond.methodLink RL 39 yX7_decides, Cond.methodLink RL 43 yX7_state, Cond.methodLink RL 46 yX7_shared, Cond.instanceMethod yX7_shared, Cond.selects RX7 yX7_shared yX7_shared, Cond.code yX7_shared cX7_shared 3 (some .int), Cond.methodLink RX7 169 yX3_amountWith, Cond.methodLink RL 49 yX7_coveredBy, Cond.methodLink RL 52 yX7_changedByMove, Cond.instanceMethod yX7_changedByMove, Cond.selects RX7 yX7_changedByMove yX7_changedByMove, Cond.code yX7_changedByMove cX7_changedByMove 3 (some .int)]
def wsL_law0_r25 : List Cond := [Cond.methodLink RX7 289 yX4_amountMoved, Cond.instanceMethod yX4_amountMoved, Cond.selects RX4 yX4_amountMoved yX4_amountMoved, Cond.code yX4_amountMoved cX4_amountMoved 6 (some .int), Cond.methodLink RX4 87 yX4_allowsMoved, Cond.instanceMethod yX4_allowsMoved, Cond.selects RX4 yX4_allowsMoved yX4_allowsMoved, Cond.code yX4_allowsMoved cX4_allowsMoved 7 (some .boolean), Cond.methodLink RL 55 yX7_allowedWithout, Cond.methodLink RL 58 yX7_allowed, Cond.methodLink RL 63 yX7_quarrels, Cond.methodLink RL 70 yX7_changed, Cond.methodLink RL 73 yX7_witness, Cond.methodLink RL 76 yX7_meanSteps, Cond.instanceMethod yX7_meanSteps, Cond.selects RX7 yX7_meanSteps yX7_meanSteps, Cond.code yX7_meanSteps cX7_meanSteps 1 (some .double), Cond.fieldLink RX7 235 "Nettle" "AMOUNTS" "[I", Cond.methodLink RX7 232 yX5_allSteps, Cond.instanceMethod yX5_allSteps, Cond.selects RX5 yX5_allSteps yX5_allSteps, Cond.code yX5_allSteps cX5_allSteps 1 (some .int), Cond.methodLink RL 82 yX7_nodes, Cond.methodLink RL 90 yX7_ofNode]
def wsL_law0_r26 : List Cond := [Cond.methodLink RL 93 yX7_piece, Cond.methodLink RL 97 yX8_all, Cond.instanceMethod yX8_all, Cond.selects RX8 yX8_all yX8_all, Cond.code yX8_all cX8_all 3 (some .int), Cond.methodLink RL 100 yX8_draw, Cond.methodLink RL 103 yX7_steps, Cond.instanceMethod yX7_steps, Cond.selects RX7 yX7_steps yX7_steps, Cond.code yX7_steps cX7_steps 8 (some .int), Cond.methodLink RX7 177 yX7_takePacket, Cond.instanceMethod yX7_takePacket, Cond.selects RX7 yX7_takePacket yX7_takePacket, Cond.code yX7_takePacket cX7_takePacket 5 none, Cond.methodLink RX7 223 yX6_deciders, Cond.methodLink RX7 226 yX6_isSettled, Cond.methodLink RX7 229 yX6_having, Cond.methodLink RL 107 yX7_decider, Cond.instanceMethod yX7_decider, Cond.selects RX7 yX7_decider yX7_decider, Cond.code yX7_decider cX7_decider 6 (some .int), Cond.methodLink RX7 181 yX3_isNote, Cond.methodLink RX7 185 yX3_meets, Cond.instanceMethod yX3_meets]
def wsL_law0_r27 : List Cond := [Cond.selects RX3 yX3_meets yX3_meets, Cond.code yX3_meets cX3_meets 3 (some .boolean), Cond.methodLink RX3 28 yX3_has]
def wsL_law0 : List Cond := (wsL_law0_r1 ++ (wsL_law0_r2 ++ (wsL_law0_r3 ++ (wsL_law0_r4 ++ (wsL_law0_r5 ++ (wsL_law0_r6 ++ (wsL_law0_r7 ++ (wsL_law0_r8 ++ (wsL_law0_r9 ++ (wsL_law0_r10 ++ (wsL_law0_r11 ++ (wsL_law0_r12 ++ (wsL_law0_r13 ++ (wsL_law0_r14 ++ (wsL_law0_r15 ++ (wsL_law0_r16 ++ (wsL_law0_r17 ++ (wsL_law0_r18 ++ (wsL_law0_r19 ++ (wsL_law0_r20 ++ (wsL_law0_r21 ++ (wsL_law0_r22 ++ (wsL_law0_r23 ++ (wsL_law0_r24 ++ (wsL_law0_r25 ++ (wsL_law0_r26 ++ wsL_law0_r27)))))))))))))))))))))))))) ++ wsX80 ++ wsX70 ++ wsX60 ++ wsX40 ++ wsX10 ++ wsX50 ++ wsX00 ++ wsX20 ++ wsX30 ++ ([] : List Cond)
def wsL_law : List Cond := wsL_law0 ++ (vx_atS RX7 94 "java/lang/IndexOutOfBoundsException" ["java/lang/RuntimeException", "java/lang/Exception"]).filter goodWord ++ (vx_atS RX7 78 "java/lang/IllegalStateException" ["java/lang/RuntimeException", "java/lang/Exception"]).filter goodWord ++ (vx_atS RX7 103 "java/lang/IllegalArgumentException" ["java/lang/RuntimeException", "java/lang/Exception"]).filter goodWord
/-! ===== END printed: names ===== -/
abbrev vwCl : List vw_C := [(RX0, TX0, 7), (RX1, TX1, 6), (RX2, TX2, 6), (RX3, TX3, 4), (RX4, TX4, 5), (RX5, TX5, 7), (RX6, TX6, 3), (RX7, TX7, 8), (RX8, TX8, 10)]
end
section
/-! ===== the words of this claim: what stays (tables, static rows, the script), a method's start and end, the memory of one Nettle ===== -/
/-- the classes' numbers; the classes of int[], Rule[], int[][]; the cells of SIZES and AMOUNTS; the script: its cell, its length, its ints -/
abbrev zG : Type := va_G × (ClassId × ClassId × ClassId) × (Nat × Nat) × (Nat × Nat × (Nat → Int32))
abbrev zci (G : zG) : ClassId := G.2.1.1
abbrev zcq (G : zG) : ClassId := G.2.1.2.1
abbrev zca (G : zG) : ClassId := G.2.1.2.2
abbrev zsz (G : zG) : Nat := G.2.2.1.1
abbrev zam (G : zG) : Nat := G.2.2.1.2
abbrev zsb (G : zG) : Nat := G.2.2.2.1
abbrev zsl (G : zG) : Nat := G.2.2.2.2.1
abbrev zsx (G : zG) : Nat → Int32 := G.2.2.2.2.2
abbrev zTys (G : zG) : List (ClassId × FieldType) := [(zci G, .int), (zcq G, .object "Nettle$Rule"), (zca G, .array .int)]
/-- an int, as the machine holds it -/
def zi (z : Int) : Int32 := Int32.ofInt z
/-- the sizes of the FIELDS, and what is told apart by a FIELD and the later ones -/
def zS (f : Nat) : Int := match f with
  | 0 => 256
  | 1 => 256
  | 2 => 1024
  | _ => 4
def zM (f : Nat) : Int := match f with
  | 0 => 268435456
  | 1 => 1048576
  | 2 => 4096
  | 3 => 4
  | _ => 1
/-- private members of nest mates -/
def zNest (U : State) : Prop :=
  va_Nw (.methodLinkNest "Nettle$Wall" 17 ⟨"Nettle$Rule", "<init>", "()V"⟩ "Nettle") U ∧
  va_Nw (.methodLinkNest "Nettle" 57 ⟨"Nettle$Log", "<init>", "()V"⟩ "Nettle") U ∧
  va_Nw (.fieldLinkNest "Nettle$Survey" 29 "Nettle" "SIZES" "[I" "Nettle") U ∧
  va_Nw (.fieldLinkNest "Nettle$Survey" 32 "Nettle" "AMOUNTS" "[I" "Nettle") U ∧
  va_Nw (.fieldLinkNest "Nettle$Cuts" 36 "Nettle" "SIZES" "[I" "Nettle") U ∧
  va_Nw (.fieldLinkNest "Nettle$Wall" 46 "Nettle" "SIZES" "[I" "Nettle") U ∧
  va_Nw (.fieldLinkNest "Nettle$Rule" 25 "Nettle" "SIZES" "[I" "Nettle") U ∧
  va_Nw (.fieldLinkNest "Nettle$Tree" 55 "Nettle" "AMOUNTS" "[I" "Nettle") U ∧
  va_Nw (.fieldLinkNest "Nettle$Comparison" 80 "Nettle" "AMOUNTS" "[I" "Nettle") U ∧
  va_Nw (.methodLinkNest "NettleLaw$Hedge" 42 ⟨"NettleLaw", "cell", "([II)I"⟩ "NettleLaw") U ∧
  va_Nw (.methodLinkNest "NettleLaw$Hedge" 48 ⟨"NettleLaw", "below", "(II)I"⟩ "NettleLaw") U
theorem zNest.warm {s U : State} (hW : s.WarmedH U.vm) (h : zNest s) : zNest U := by
  obtain ⟨a1, a2, a3, a4, a5, a6, a7, a8, a9, b1, b2⟩ := h
  exact ⟨va_Nw.warmM hW a1, va_Nw.warmM hW a2, va_Nw.warmF hW a3, va_Nw.warmF hW a4, va_Nw.warmF hW a5, va_Nw.warmF hW a6, va_Nw.warmF hW a7, va_Nw.warmF hW a8, va_Nw.warmF hW a9, va_Nw.warmM hW b1, va_Nw.warmM hW b2⟩
theorem zNest.same {u U : State} (h : u.vm = U.vm) (hZ : zNest u) : zNest U := by
  obtain ⟨a1, a2, a3, a4, a5, a6, a7, a8, a9, b1, b2⟩ := hZ
  exact ⟨va_Nw.same rfl h a1, va_Nw.same rfl h a2, va_Nw.same rfl h a3, va_Nw.same rfl h a4, va_Nw.same rfl h a5, va_Nw.same rfl h a6, va_Nw.same rfl h a7, va_Nw.same rfl h a8, va_Nw.same rfl h a9, va_Nw.same rfl h b1, va_Nw.same rfl h b2⟩
/-- rows of rows of ints -/
def zAA (U : State) : Prop := (Cond.arrayOver (.array .int)).before #[] U = true
theorem zAA.use {A : Array Value} {U : State} (h : zAA U) : (Cond.arrayOver (.array .int)).before A U = true := h
theorem zAA.moved {u U : State} (hvm : u.vm.Alike U.vm) (h : zAA u) : zAA U := by
  obtain ⟨comp, c, k, h1, h2, h3, h4, h5⟩ := arrayOverA_spec h
  obtain ⟨k', hk', he⟩ := hvm.2.2 _ _ h3
  have hi : (U.vm.classes.findIdx? fun (x : Class) => match x.kind with | .array component _ => component == comp | _ => false) = some c := by
    have e1 := va_idx_bare U.vm comp
    have e2 := va_idx_bare u.vm comp
    have e3 : U.vm.bare = u.vm.bare := by first | exact hvm.bare_eq | exact hvm.bare_eq.symm
    rw [e3] at e1
    exact e1.symm.trans (e2.trans h2)
  have hkind : k'.kind = .array comp (.array .int) := by rw [he]; exact h4
  have f1 : U.vm.findClass (FieldType.array .int).toString = some comp := by rw [hvm.findClass]; exact h1
  have f2 : U.vm.findClass ("[" ++ (FieldType.array .int).toString) = some c := by rw [hvm.findClass]; exact h5
  unfold zAA Cond.before Cond.holds
  simp only [Cond.value]
  rw [f1, Option.bind_some]
  refine (congrArg (fun o : Option Nat => (o.bind (fun c => (U.vm.classes[c]?).map fun (k : Class) => match k.kind with | .array _ ty => decide (ty = FieldType.array .int) && decide (U.vm.findClass ("[" ++ (FieldType.array .int).toString) = some c) | _ => false) == some true)) hi).trans ?_
  simp [hk', hkind, f2]
/-- the script -/
def zScr (G : zG) (A : Nat → Prop) (U : State) (H : Heap) : Prop := va_X (zsb G) (zsl G) (zsx G) U H ∧ zsb G < H.size ∧ ¬ A (zsb G)
/-- all that stays, whatever a method does -/
def zZ (G : zG) (A : Nat → Prop) (U : State) (H : Heap) : Prop :=
  va_K G.1 vwCl (zTys G) U ∧ (va_Z "Nettle" "SIZES" "[I" (.ref (zsz G)) A U H ∧ va_T .int (zsz G) 4 (fun j => .int (zi (zS j))) A U H) ∧ (va_Z "Nettle" "AMOUNTS" "[I" (.ref (zam G)) A U H ∧ va_T .int (zam G) 5 (fun j => .int (zi (zM j))) A U H) ∧
  zNest U ∧ va_AO "Nettle$Rule" U ∧ zAA U ∧ zScr G A U H
theorem zZ.give {G : zG} {A A' : Nat → Prop} {s U : State} {H : Heap} {locs : List Loc} (h : zZ G A s s.heap) (hS : va_S A s.heap H locs) (hF : ∀ q, A' q → A q) (hU : U.heap = H) (hW : s.WarmedH U.vm) : zZ G A' U U.heap := by
  obtain ⟨h1, ⟨h2, h3⟩, ⟨h4, h5⟩, h8, h10, h11, ⟨g1, g2, g3⟩⟩ := h
  subst hU
  exact ⟨va_K.moved hW.alike h1, ⟨va_Z.moved hW.alike ((h2.kept hS.2.1).narrow hF), va_T.moved hW.alike ((h3.kept hS.2.1).narrow hF)⟩, ⟨va_Z.moved hW.alike ((h4.kept hS.2.1).narrow hF), va_T.moved hW.alike ((h5.kept hS.2.1).narrow hF)⟩,
    zNest.warm hW h8, va_AO.moved hW.alike h10, zAA.moved hW.alike h11, va_X.moved hW.alike (g1.kept (hS.2.1 _ g2 g3)), Nat.lt_of_lt_of_le g2 hS.1, fun q => g3 (hF _ q)⟩
theorem zZ.same {G : zG} {A : Nat → Prop} {u U : State} {H : Heap} (hv : u.vm = U.vm) (h : zZ G A u H) : zZ G A U H := by
  have ha : u.vm.Alike U.vm := by rw [hv]; exact Vm.Alike.refl U.vm
  obtain ⟨h1, ⟨h2, h3⟩, ⟨h4, h5⟩, h8, h10, h11, ⟨g1, g2, g3⟩⟩ := h
  exact ⟨va_K.moved ha h1, ⟨va_Z.moved ha h2, va_T.moved ha h3⟩, ⟨va_Z.moved ha h4, va_T.moved ha h5⟩, zNest.same hv h8, va_AO.moved ha h10, zAA.moved ha h11, va_X.moved ha g1, g2, g3⟩
/-- a method's start: the cells W0, the heap's size, what stays -/
def zP (G : zG) (W0 : va_W) (sz : Nat) (U : State) : Prop := U.heap.size = sz ∧ va_P G.1 vwCl W0 U.heap ∧ zZ G (va_A W0 sz) U U.heap ∧ va_D (fun _ => True) W0
/-- a method's end: what is said of the answer and of the cells, the frame -/
def zQ (G : zG) (A : Nat → Prop) (Φ : Option Value → va_W → Prop) : Array Value → State → Outcome → State → Prop := fun _ st oc t =>
  ∃ (r : Option Value) (W1 : va_W), oc = .returned r ∧ Φ r W1 ∧ va_P G.1 vwCl W1 t.heap ∧ va_D A W1 ∧ va_F A st t
/-- the contract of a method that returns -/
def zR (l : Launch) (G : zG) (y : MethodName) (ws : List Cond) (rm : Room) (W0 : va_W) (av : List Value) (Φ : Option Value → va_W → Prop) (mc ms : Nat) : Prop :=
  ∀ sz : Nat, Met l y ws rm (va_Pc av (zP G W0 sz)) (zQ G (va_A W0 sz) Φ) mc ms (va_A W0 sz)
/-! a method's start -/
section ZS
variable {l : Launch} {G : zG} {y : MethodName} {ws ws' : List Cond} {rm : Room} {W0 : va_W} {av : List Value} {Φ : Option Value → va_W → Prop} {mc ms : Nat} {cc : ByteArray} {maxL : Nat} {rt : Option FieldType}
theorem zR_of (hy : plainName y.cls = true) (hw : ws = Cond.code y cc maxL rt :: ws') (hlen : (lg_sl av).length ≤ maxL)
    (body : ∀ (p : Program) (e : Env) (s : State) (m : MethodId) (below : List Frame) (meth : Method) (c : Code) (A : Nat → Prop) (ls : Array Slot), p.tables.exec = Jvm.exec → c.code = cc → c.maxLocals = maxL → meth.sig.returnType = rt → (∀ w ∈ ws, w.before av.toArray s = true) → s.vm.findClass y.cls = some m.cls → meth.locks = false → meth.name = y.name →
      (∀ q : Nat, s.heap.size ≤ q → A q) → zZ G A s s.heap → va_P G.1 vwCl W0 s.heap → va_D A W0 → va_S A s.heap s.heap [] → lv_has ls maxL (lv_args 0 av) →
      W p l e rm s m av.toArray below meth c s.heap [] 0 0 (MQ below (zQ G A Φ) av.toArray s mc ms A) (F0 m 0 ls [])) : zR l G y ws rm W0 av Φ mc ms := by
  intro sz
  refine Met.ofW (cc := cc) (maxL := maxL) (ret := rt) hy hw ?_
  intro p e s m args below meth c s₁ B hml hv
  obtain ⟨rfl, hsz, hP, hE, hD0⟩ := hv
  subst hsz
  have hl := lv_entry av hlen
  rw [lg_entry_eq]
  exact body p e s m below meth c (va_A W0 s.heap.size) _ B.exec B.bytes hml B.returns (atoms_spec (ws := ws) B.pre) (findClass_of_methodNamed B.named) B.notSynchronized (name_of_methodNamed B.named B.method).1 (fun q h => Or.inr h) hE hP (hD0.self (sz := s.heap.size)) va_S.rf hl
end ZS
/-! a method's end, calls, numbers, new arrays -/
section ZE
variable {p : Program} {l : Launch} {e : Env} {R : Room} {s : State} {m : MethodId} {args : Array Value} {below : List Frame} {meth : Method} {c : Code} {H : Heap} {locs : List Loc} {cells slots : Nat} {Q : State → Prop}
variable {cc : ByteArray} {pc : Nat} {ls : Array Slot} {rest st0 : List Value} {G : zG} {A : Nat → Prop} {Φ : Option Value → va_W → Prop} {mc ms : Nat} {W1 : va_W}
theorem zQ_of {ret : Option Value} {t : State} {a : Array Value} (hf : Φ ret W1) (hP : va_P G.1 vwCl W1 H) (hD : va_D A W1) (hS : va_S A s.heap H locs) (ht : t.heap = H) : zQ G A Φ a s (.returned ret) t :=
  ⟨ret, W1, rfl, hf, by rw [ht]; exact hP, hD, hS.F ht⟩
theorem zend_v (hx : p.tables.exec = Jvm.exec) (hb : c.code = cc) (hr : meth.sig.returnType = none) (hlocks : meth.locks = false) (hP : va_P G.1 vwCl W1 H) (hD : va_D A W1) (hS : va_S A s.heap H locs) (h1 : cells ≤ mc) (h2 : slots ≤ ms) (hdg : decode cc pc = .ok (.return_, 1)) (hf : Φ none W1) :
    W p l e R s m args below meth c H locs cells slots (MQ below (zQ G A Φ) args s mc ms A) (F0 m pc ls []) :=
  W.widen h1 h2 (W.vret hx hb hr (fun _ ht _ => zQ_of hf hP hD hS ht) hS.2.2 hdg hlocks)
theorem zend_i {v : Int32} (hx : p.tables.exec = Jvm.exec) (hb : c.code = cc) (hr : meth.sig.returnType = some .int) (hlocks : meth.locks = false) (hP : va_P G.1 vwCl W1 H) (hD : va_D A W1) (hS : va_S A s.heap H locs) (h1 : cells ≤ mc) (h2 : slots ≤ ms) (hdg : decode cc pc = .ok (.ireturn, 1)) (hf : Φ (some (.int v)) W1) :
    W p l e R s m args below meth c H locs cells slots (MQ below (zQ G A Φ) args s mc ms A) (F0 m pc ls [.int v]) :=
  W.widen h1 h2 (W.iret hx hb hr (fun _ ht _ => zQ_of hf hP hD hS ht) hS.2.2 hdg hlocks)
theorem zend_z {v : Int32} (hx : p.tables.exec = Jvm.exec) (hb : c.code = cc) (hr : meth.sig.returnType = some .boolean) (hlocks : meth.locks = false) (hn : narrow .boolean (.int v) = .int v) (hP : va_P G.1 vwCl W1 H) (hD : va_D A W1) (hS : va_S A s.heap H locs) (h1 : cells ≤ mc) (h2 : slots ≤ ms) (hdg : decode cc pc = .ok (.ireturn, 1)) (hf : Φ (some (.int v)) W1) :
    W p l e R s m args below meth c H locs cells slots (MQ below (zQ G A Φ) args s mc ms A) (F0 m pc ls [.int v]) :=
  W.widen h1 h2 (W.zret hx hb hr hn (fun _ ht _ => zQ_of hf hP hD hS ht) hS.2.2 hdg hlocks)
theorem zend_l {v : Int64} (hx : p.tables.exec = Jvm.exec) (hb : c.code = cc) (hr : meth.sig.returnType = some .long) (hlocks : meth.locks = false) (hP : va_P G.1 vwCl W1 H) (hD : va_D A W1) (hS : va_S A s.heap H locs) (h1 : cells ≤ mc) (h2 : slots ≤ ms) (hdg : decode cc pc = .ok (.lreturn, 1)) (hf : Φ (some (.long v)) W1) :
    W p l e R s m args below meth c H locs cells slots (MQ below (zQ G A Φ) args s mc ms A) (F0 m pc ls [.long v]) :=
  W.widen h1 h2 (W.lret hx hb hr (fun _ ht _ => zQ_of hf hP hD hS ht) hS.2.2 hdg hlocks)
theorem zend_d {v : UInt64} (hx : p.tables.exec = Jvm.exec) (hb : c.code = cc) (hr : meth.sig.returnType = some .double) (hlocks : meth.locks = false) (hP : va_P G.1 vwCl W1 H) (hD : va_D A W1) (hS : va_S A s.heap H locs) (h1 : cells ≤ mc) (h2 : slots ≤ ms) (hdg : decode cc pc = .ok (.dreturn, 1)) (hf : Φ (some (.double v)) W1) :
    W p l e R s m args below meth c H locs cells slots (MQ below (zQ G A Φ) args s mc ms A) (F0 m pc ls [.double v]) :=
  W.widen h1 h2 (W.dret hx hb hr (fun _ ht _ => zQ_of hf hP hD hS ht) hS.2.2 hdg hlocks)
theorem zend_a {q : Nat} {rt : FieldType} (hx : p.tables.exec = Jvm.exec) (hb : c.code = cc) (hr : meth.sig.returnType = some rt) (hlocks : meth.locks = false) (hrt : (∃ n, rt = .object n) ∨ ∃ t, rt = .array t) (hP : va_P G.1 vwCl W1 H) (hD : va_D A W1) (hS : va_S A s.heap H locs) (h1 : cells ≤ mc) (h2 : slots ≤ ms) (hdg : decode cc pc = .ok (.areturn, 1)) (hf : Φ (some (.ref q)) W1) :
    W p l e R s m args below meth c H locs cells slots (MQ below (zQ G A Φ) args s mc ms A) (F0 m pc ls [.ref q]) :=
  W.widen h1 h2 (W.aret hx hb hr hrt (Or.inr ⟨_, rfl⟩) (fun _ ht _ => zQ_of hf hP hD hS ht) hS.2.2 hdg hlocks)
/-- the premises of a call: the callee's start; the callee has cells wc of wr ++ wc -/
theorem zPre {wr wc : va_W} {As : List Value} (hP : va_P G.1 vwCl (wr ++ wc) H) (hD : va_D A (wr ++ wc)) (hE : zZ G A s s.heap) (hS : va_S A s.heap H locs) (hA : ∀ q : Nat, s.heap.size ≤ q → A q) : PreS s H (va_Pc As (zP G wc H.size)) As ∧ (∀ q, va_A wc H.size q → A q) ∧ va_P G.1 vwCl wc H := by
  have hix : ∀ (k : Nat) (q : Nat × va_E), wc[k]? = some q → (wr ++ wc)[wr.length + k]? = some q := fun k q h => by
    rw [List.getElem?_append_right (Nat.le_add_right _ _), Nat.add_sub_cancel_left]; exact h
  have hPc : va_P G.1 vwCl wc H := fun k q h => hP _ q (hix k q h)
  have hDc : va_D A wc := ⟨fun i j p q h1 h2 h3 => Nat.add_left_cancel (hD.1 _ _ p q (hix i p h1) (hix j q h2) h3), fun k q h => hD.2 _ q (hix k q h)⟩
  have hF : ∀ q, va_A wc H.size q → A q := by
    intro q h
    rcases h with ⟨k, e, h⟩ | h
    · exact hDc.2 k (q, e) h
    · exact hA q (Nat.le_trans hS.1 h)
  refine ⟨⟨fun a U g mk q => ?_, fun U hU hW => ⟨rfl, by rw [hU], by rw [hU]; exact hPc, hE.give hS hF hU hW, hDc.weaken (fun _ _ _ _ => trivial)⟩⟩, hF, hPc⟩
  obtain ⟨q0, q1, qP, qE, qD⟩ := q
  exact ⟨q0, q1, qP, zZ.same (u := U) (U := U.calling g mk a) rfl qE, qD⟩
theorem zPreV {wr wc : va_W} {As : List Value} {b q0 ci : Nat} {q : vw_C} {fs : List Value} (hP : va_P G.1 vwCl (wr ++ wc) H) (hD : va_D A (wr ++ wc)) (hE : zZ G A s s.heap) (hS : va_S A s.heap H locs) (hA : ∀ q : Nat, s.heap.size ≤ q → A q) (hc : vwCl[ci]? = some q) (he : wc[q0]? = some (b, .inr (ci, fs))) : PreV s H q.1 b (va_Pc (.ref b :: As) (zP G wc H.size)) As := by
  obtain ⟨⟨h1, h2⟩, -, h3⟩ := zPre (As := .ref b :: As) hP hD hE hS hA
  exact ⟨h1, va_recv hE.1 h3 hc he, h2⟩
/-- behind a call that returns -/
theorem zcall {wc wr : va_W} {a : Array Value} (hr : va_Run p l e R s m args below meth c H locs cells slots mc ms (F0 m pc ls st0) rest (zQ G (va_A wc H.size) Φ a) (va_A wc H.size))
    (hP : va_P G.1 vwCl (wr ++ wc) H) (hD : va_D A (wr ++ wc)) (hS : va_S A s.heap H locs) (hA : ∀ q : Nat, s.heap.size ≤ q → A q)
    (kk : ∀ (r : Option Value) (w1 : va_W) (H1 : Heap) (locs1 : List Loc), Φ r w1 → va_P G.1 vwCl (wr ++ w1) H1 → va_D A (wr ++ w1) → va_S A s.heap H1 locs1 → W p l e R s m args below meth c H1 locs1 (cells + mc) (slots + ms) Q (F0 m (pc + 3) ls (r.toList ++ rest))) : W p l e R s m args below meth c H locs cells slots Q (F0 m pc ls st0) := by
  intro T hT X
  obtain ⟨v, st₀, t, T', L, h0, X', hL, e1, e2, ⟨r, w1, hv, hf, hP1, hD1, hz, hk⟩, st⟩ := hr T hT X
  cases hv
  have hixc : ∀ (k : Nat) (q : Nat × va_E), wc[k]? = some q → (wr ++ wc)[wr.length + k]? = some q := fun k q h => by
    rw [List.getElem?_append_right (Nat.le_add_right _ _), Nat.add_sub_cancel_left]; exact h
  have hixr : ∀ (k : Nat) (q : Nat × va_E), wr[k]? = some q → k < wr.length ∧ (wr ++ wc)[k]? = some q := fun k q h => by
    have hk : k < wr.length := (List.getElem?_eq_some_iff.mp h).1
    exact ⟨hk, by rw [List.getElem?_append_left hk]; exact h⟩
  have hF : ∀ q, va_A wc H.size q → A q := by
    intro q h
    rcases h with ⟨k, e, h⟩ | h
    · exact hD.2 _ (q, e) (hixc k _ h)
    · exact hA q (Nat.le_trans hS.1 h)
  rw [h0] at hz hk
  have hk1 : ∀ q : Nat, q < H.size → ¬ va_A wc H.size q → T'.heap[q]? = H[q]? := fun q h1 h2 => by rw [e1]; exact hk q h1 h2
  rw [← e1] at hP1
  have apart : ∀ (k : Nat) (q : Nat × va_E), wr[k]? = some q → q.1 < H.size ∧ ¬ va_A wc H.size q.1 := by
    intro k q hq
    obtain ⟨h1, h2⟩ := hixr k q hq
    have hl := (hP k q h2).lt
    refine ⟨hl, fun h => ?_⟩
    rcases h with ⟨k2, e, h⟩ | h
    · have hij := hD.1 k (wr.length + k2) q (q.1, e) h2 (hixc k2 _ h) rfl
      omega
    · omega
  have hP2 : va_P G.1 vwCl (wr ++ w1) T'.heap := va_P.app (fun k q hq => (hP k q (hixr k q hq).2).kept (hk1 q.1 (apart k q hq).1 (apart k q hq).2)) hP1
  have hD2 : va_D A (wr ++ w1) := va_D.app ⟨fun i j p q h1 h2 h3 => hD.1 i j p q (hixr i p h1).2 (hixr j q h2).2 h3, fun k q h => hD.2 k q (hixr k q h).2⟩ (hD1.weaken (fun k q _ h => hF q.1 h)) (fun i j x y hx hy hxy => (apart i x hx).2 (by rw [hxy]; exact hD1.2 j y hy))
  obtain ⟨t2, a1, b1⟩ := kk _ w1 T'.heap (locs ++ L) hf hP2 hD2 ⟨Nat.le_trans hS.1 (by rw [e1]; exact hz), fun q h1 h2 => by rw [hk1 q (Nat.lt_of_lt_of_le h1 hS.1) (fun z => h2 (hF q z))]; exact hS.2.1 q h1 h2, fun q hq => by
      rcases List.mem_append.mp hq with h | h
      · exact hS.2.2 q h
      · exact hF _ (hL q h)⟩ T' rfl X'
  exact ⟨t2, st t2 a1, b1⟩
/-- a reference out of a row -/
theorem zrf {r : Option Nat} {q : Nat} (h : r = some q) (k : W p l e R s m args below meth c H locs cells slots Q (F0 m pc ls (.ref q :: rest))) : W p l e R s m args below meth c H locs cells slots Q (F0 m pc ls (va_rf r :: rest)) := by rw [h]; exact k
/-- a computed number is this one -/
theorem zti {x v : Int32} (h : x = v) (k : W p l e R s m args below meth c H locs cells slots Q (F0 m pc ls (.int v :: rest))) : W p l e R s m args below meth c H locs cells slots Q (F0 m pc ls (.int x :: rest)) := by rw [h]; exact k
theorem ztl {x v : Int64} (h : x = v) (k : W p l e R s m args below meth c H locs cells slots Q (F0 m pc ls (.long v :: rest))) : W p l e R s m args below meth c H locs cells slots Q (F0 m pc ls (.long x :: rest)) := by rw [h]; exact k
theorem ztd {x v : UInt64} (h : x = v) (k : W p l e R s m args below meth c H locs cells slots Q (F0 m pc ls (.double v :: rest))) : W p l e R s m args below meth c H locs cells slots Q (F0 m pc ls (.double x :: rest)) := by rw [h]; exact k
end ZE
end
section
/-! ===== whole numbers, and the memory of one Nettle: 71 cells at addresses ad, ints X ===== -/
def zin32 (z : Int) : Prop := -2147483648 ≤ z ∧ z ≤ 2147483647
theorem zi_add (a b : Int) : zi a + zi b = zi (a + b) := (Int32.ofInt_add a b).symm
theorem zi_sub (a b : Int) : zi a - zi b = zi (a - b) := (Int32.ofInt_sub a b).symm
theorem zi_mul (a b : Int) : zi a * zi b = zi (a * b) := (Int32.ofInt_mul a b).symm
theorem zi_toInt {a : Int} (h : zin32 a) : (zi a).toInt = a := Int32.toInt_ofInt_of_le h.1 (by have := h.2; omega)
theorem zi_lt {a b : Int} (ha : zin32 a) (hb : zin32 b) : zi a < zi b ↔ a < b := by rw [Int32.lt_iff_toInt_lt, zi_toInt ha, zi_toInt hb]
theorem zi_le {a b : Int} (ha : zin32 a) (hb : zin32 b) : zi a ≤ zi b ↔ a ≤ b := by rw [Int32.le_iff_toInt_le, zi_toInt ha, zi_toInt hb]
theorem zi_eq {a b : Int} (ha : zin32 a) (hb : zin32 b) : zi a = zi b ↔ a = b := by rw [← Int32.toInt_inj, zi_toInt ha, zi_toInt hb]
theorem zi_nat {z : Int} (h0 : 0 ≤ z) (h1 : z ≤ 2147483647) : (zi z).toNatClampNeg = z.toNat := by
  show (zi z).toInt.toNat = _
  rw [zi_toInt ⟨by omega, h1⟩]
theorem zi_in {z : Int} {n : Nat} (h0 : 0 ≤ z) (h1 : z < n) (hn : n ≤ 2147483647) : vp_in (zi z) n := by
  rw [vp_in_iff, zi_toInt ⟨by omega, by omega⟩]
  exact ⟨h0, h1⟩
theorem zi_ofNat (n : Nat) : zi (n : Int) = Int32.ofBitVec (BitVec.ofNat 32 n) := by
  show Int32.ofBitVec (BitVec.ofInt 32 (n : Int)) = _
  rw [BitVec.ofInt_natCast]
theorem zi_and (a b : Nat) : zi (a : Int) &&& zi (b : Int) = zi ((a &&& b : Nat) : Int) := by
  rw [zi_ofNat, zi_ofNat, zi_ofNat, BitVec.ofNat_and]; rfl
theorem zi_or (a b : Nat) : zi (a : Int) ||| zi (b : Int) = zi ((a ||| b : Nat) : Int) := by
  rw [zi_ofNat, zi_ofNat, zi_ofNat, BitVec.ofNat_or]; rfl
theorem zi_xor (a b : Nat) : zi (a : Int) ^^^ zi (b : Int) = zi ((a ^^^ b : Nat) : Int) := by
  rw [zi_ofNat, zi_ofNat, zi_ofNat, BitVec.ofNat_xor]; rfl
/-- X with z at the place j of the cell k -/
def zw (X : Nat → Nat → Int) (k j : Nat) (z : Int) : Nat → Nat → Int := fun k' => if k' = k then (fun j' => if j' = j then z else X k j') else X k'
theorem zw_at (X : Nat → Nat → Int) (k j : Nat) (z : Int) : zw X k j z k j = z := by unfold zw; rw [if_pos rfl, if_pos rfl]
theorem zw_same (X : Nat → Nat → Int) (k j : Nat) (z : Int) : zw X k j z k = fun j' => if j' = j then z else X k j' := by unfold zw; rw [if_pos rfl]
theorem zw_cell {X : Nat → Nat → Int} {k j k' : Nat} {z : Int} (h : k' ≠ k) : zw X k j z k' = X k' := by unfold zw; rw [if_neg h]
theorem zw_ne {X : Nat → Nat → Int} {k j j' : Nat} {z : Int} (h : j' ≠ j) : zw X k j z k j' = X k j' := by rw [zw_same]; exact if_neg h
theorem zw_get (X : Nat → Nat → Int) (k j : Nat) (z : Int) (k' j' : Nat) : zw X k j z k' j' = if k' = k ∧ j' = j then z else X k' j' := by
  by_cases h : k' = k
  · subst h
    by_cases h2 : j' = j
    · subst h2; rw [zw_at, if_pos ⟨rfl, rfl⟩]
    · rw [zw_ne h2, if_neg (fun q => h2 q.2)]
  · rw [zw_cell h, if_neg (fun q => h q.1)]
/-- what a cell holds -/
def zF (G : zG) (ad : Nat → Nat) (k : Nat) (x : Nat → Int) : va_E :=
  if k < 52 then
    if k % 26 = 0 then .inr (6, [.ref (ad (k + 1)), .int (zi (x 1)), .int (zi (x 2))])
    else if k % 26 = 1 then .inl (zcq G, 8, .inr (.inr (.inr (.inr (fun i => some (ad (k + 1 + 3 * (x i).toNat)))))))
    else if k % 26 % 3 = 2 then .inr (3, [.int (zi (x 0)), .int (zi (x 1)), .ref (ad (k + 1)), .ref (ad (k + 2))])
    else .inl (zci G, 4, .inl (fun j => zi (x j)))
  else if k = 52 then .inr (7, [.ref (ad 0), .ref (ad 26), .ref (ad 53), .ref (ad 57), .ref (ad 61), .ref (ad 65), .ref (ad 68), .ref (ad 70)])
  else if k = 53 then .inr (4, [.ref (ad 0), .ref (ad 54), .ref (ad 55), .ref (ad 56), .int (zi (x 4))])
  else if k = 56 then .inl (zci G, 256, .inl (fun j => zi (x j)))
  else if k = 57 then .inr (1, [.ref (ad 0), .ref (ad 26), .ref (ad 58), .ref (ad 59), .ref (ad 60), .int (zi (x 5))])
  else if k = 59 ∨ k = 60 then .inl (zci G, 132, .inl (fun j => zi (x j)))
  else if k = 61 then .inr (5, [.ref (ad 0), .ref (ad 57), .ref (ad 62), .ref (ad 63), .ref (ad 64), .int (zi (x 5)), .int (zi (x 6))])
  else if k = 65 then .inr (0, [.ref (ad 0), .ref (ad 26), .ref (ad 57), .ref (ad 66), .ref (ad 67), .int (zi (x 5)), .int (zi (x 6))])
  else if k = 68 then .inr (2, [.ref (ad 69), .int (zi (x 1)), .int (zi (x 2)), .int (zi (x 3)), .int (zi (x 4)), .int (zi (x 5))])
  else if k = 69 then .inl (zci G, 24, .inl (fun j => zi (x j)))
  else if k = 54 ∨ k = 55 ∨ k = 62 ∨ k = 63 ∨ k = 64 then .inl (zci G, 1024, .inl (fun j => zi (x j)))
  else .inl (zci G, 4, .inl (fun j => zi (x j)))
def zpic (G : zG) (ad : Nat → Nat) (X : Nat → Nat → Int) : va_W := (List.range 71).map (fun k => (ad k, zF G ad k (X k)))
section ZM
variable {G : zG} {ad : Nat → Nat} {X : Nat → Nat → Int}
theorem zpic_at {k : Nat} (hk : k < 71) : (zpic G ad X)[k]? = some (ad k, zF G ad k (X k)) := by
  unfold zpic
  rw [List.getElem?_map, List.getElem?_range hk]
  rfl
theorem zpic_set {k : Nat} {j : Nat} {z : Int} {e : va_E} (h : zF G ad k (zw X k j z k) = e) : (zpic G ad X).set k (ad k, e) = zpic G ad (zw X k j z) := by
  apply List.ext_getElem?
  intro i
  by_cases hi : i < 71
  · rw [List.getElem?_set, zpic_at hi]
    by_cases hk : k = i
    · subst hk
      rw [if_pos rfl, if_pos (by unfold zpic; rw [List.length_map, List.length_range]; exact hi), zpic_at hi, h]
    · rw [if_neg hk, zpic_at hi, zw_cell (fun q => hk q.symm)]
  · rw [List.getElem?_eq_none (by rw [List.length_set]; unfold zpic; rw [List.length_map, List.length_range]; omega), List.getElem?_eq_none (by unfold zpic; rw [List.length_map, List.length_range]; omega)]
/-- cells of walls, of RULES -/
def zIsW (a : Nat) : Prop := a = 0 ∨ a = 26
def zIsR (r : Nat) : Prop := ∃ a s : Nat, zIsW a ∧ s < 8 ∧ r = a + 2 + 3 * s
theorem zIsR.lt {r : Nat} (h : zIsR r) : r < 50 := by
  obtain ⟨a, s, h1, h2, rfl⟩ := h
  rcases h1 with rfl | rfl <;> omega
theorem zIsR.mod {r : Nat} (h : zIsR r) : 2 ≤ r % 26 ∧ r % 26 ≤ 23 ∧ r % 26 % 3 = 2 ∧ (r + 1) % 26 = r % 26 + 1 ∧ (r + 2) % 26 = r % 26 + 2 := by
  obtain ⟨a, s, h1, h2, rfl⟩ := h
  have h3 : s = 0 ∨ s = 1 ∨ s = 2 ∨ s = 3 ∨ s = 4 ∨ s = 5 ∨ s = 6 ∨ s = 7 := by omega
  rcases h1 with rfl | rfl <;> rcases h3 with rfl | rfl | rfl | rfl | rfl | rfl | rfl | rfl <;> decide
/-- the cell of a wall's RULE -/
def zr (X : Nat → Nat → Int) (a i : Nat) : Nat := a + 2 + 3 * (X (a + 1) i).toNat
theorem zF_w {a : Nat} (h : zIsW a) (x : Nat → Int) : zF G ad a x = .inr (6, [.ref (ad (a + 1)), .int (zi (x 1)), .int (zi (x 2))]) := by
  rcases h with rfl | rfl <;> rfl
theorem zF_q {a : Nat} (h : zIsW a) (x : Nat → Int) : zF G ad (a + 1) x = .inl (zcq G, 8, .inr (.inr (.inr (.inr (fun i => some (ad (a + 2 + 3 * (x i).toNat))))))) := by
  rcases h with rfl | rfl <;> rfl
theorem zF_r {r : Nat} (h : zIsR r) (x : Nat → Int) : zF G ad r x = .inr (3, [.int (zi (x 0)), .int (zi (x 1)), .ref (ad (r + 1)), .ref (ad (r + 2))]) := by
  have h1 := h.lt
  have h2 := h.mod
  unfold zF
  rw [if_pos (by omega), if_neg (by omega), if_neg (by omega), if_pos (by omega)]
theorem zF_l {r : Nat} (h : zIsR r) (x : Nat → Int) : zF G ad (r + 1) x = .inl (zci G, 4, .inl (fun j => zi (x j))) := by
  have h1 := h.lt
  have h2 := h.mod
  unfold zF
  rw [if_pos (by omega), if_neg (by omega), if_neg (by omega), if_neg (by omega)]
theorem zF_h {r : Nat} (h : zIsR r) (x : Nat → Int) : zF G ad (r + 2) x = .inl (zci G, 4, .inl (fun j => zi (x j))) := by
  have h1 := h.lt
  have h2 := h.mod
  unfold zF
  rw [if_pos (by omega), if_neg (by omega), if_neg (by omega), if_neg (by omega)]
theorem p_w {a : Nat} (h : zIsW a) : (zpic G ad X)[a]? = some (ad a, .inr (6, [.ref (ad (a + 1)), .int (zi (X a 1)), .int (zi (X a 2))])) := by
  rw [zpic_at (by rcases h with rfl | rfl <;> omega), zF_w h]
theorem p_q {a : Nat} (h : zIsW a) : (zpic G ad X)[a + 1]? = some (ad (a + 1), .inl (zcq G, 8, .inr (.inr (.inr (.inr (fun i => some (ad (zr X a i)))))))) := by
  rw [zpic_at (by rcases h with rfl | rfl <;> omega), zF_q h]; rfl
theorem p_r {r : Nat} (h : zIsR r) : (zpic G ad X)[r]? = some (ad r, .inr (3, [.int (zi (X r 0)), .int (zi (X r 1)), .ref (ad (r + 1)), .ref (ad (r + 2))])) := by
  rw [zpic_at (by have := h.lt; omega), zF_r h]
theorem p_l {r : Nat} (h : zIsR r) : (zpic G ad X)[r + 1]? = some (ad (r + 1), .inl (zci G, 4, .inl (fun j => zi (X (r + 1) j)))) := by
  rw [zpic_at (by have := h.lt; omega), zF_l h]
theorem p_h {r : Nat} (h : zIsR r) : (zpic G ad X)[r + 2]? = some (ad (r + 2), .inl (zci G, 4, .inl (fun j => zi (X (r + 2) j)))) := by
  rw [zpic_at (by have := h.lt; omega), zF_h h]
theorem p_52 : (zpic G ad X)[52]? = some (ad 52, .inr (7, [.ref (ad 0), .ref (ad 26), .ref (ad 53), .ref (ad 57), .ref (ad 61), .ref (ad 65), .ref (ad 68), .ref (ad 70)])) := zpic_at (by omega)
theorem p_53 : (zpic G ad X)[53]? = some (ad 53, .inr (4, [.ref (ad 0), .ref (ad 54), .ref (ad 55), .ref (ad 56), .int (zi (X 53 4))])) := zpic_at (by omega)
theorem p_54 : (zpic G ad X)[54]? = some (ad 54, .inl (zci G, 1024, .inl (fun j => zi (X 54 j)))) := zpic_at (by omega)
theorem p_55 : (zpic G ad X)[55]? = some (ad 55, .inl (zci G, 1024, .inl (fun j => zi (X 55 j)))) := zpic_at (by omega)
theorem p_56 : (zpic G ad X)[56]? = some (ad 56, .inl (zci G, 256, .inl (fun j => zi (X 56 j)))) := zpic_at (by omega)
theorem p_57 : (zpic G ad X)[57]? = some (ad 57, .inr (1, [.ref (ad 0), .ref (ad 26), .ref (ad 58), .ref (ad 59), .ref (ad 60), .int (zi (X 57 5))])) := zpic_at (by omega)
theorem p_58 : (zpic G ad X)[58]? = some (ad 58, .inl (zci G, 4, .inl (fun j => zi (X 58 j)))) := zpic_at (by omega)
theorem p_59 : (zpic G ad X)[59]? = some (ad 59, .inl (zci G, 132, .inl (fun j => zi (X 59 j)))) := zpic_at (by omega)
theorem p_60 : (zpic G ad X)[60]? = some (ad 60, .inl (zci G, 132, .inl (fun j => zi (X 60 j)))) := zpic_at (by omega)
theorem p_61 : (zpic G ad X)[61]? = some (ad 61, .inr (5, [.ref (ad 0), .ref (ad 57), .ref (ad 62), .ref (ad 63), .ref (ad 64), .int (zi (X 61 5)), .int (zi (X 61 6))])) := zpic_at (by omega)
theorem p_62 : (zpic G ad X)[62]? = some (ad 62, .inl (zci G, 1024, .inl (fun j => zi (X 62 j)))) := zpic_at (by omega)
theorem p_63 : (zpic G ad X)[63]? = some (ad 63, .inl (zci G, 1024, .inl (fun j => zi (X 63 j)))) := zpic_at (by omega)
theorem p_64 : (zpic G ad X)[64]? = some (ad 64, .inl (zci G, 1024, .inl (fun j => zi (X 64 j)))) := zpic_at (by omega)
theorem p_65 : (zpic G ad X)[65]? = some (ad 65, .inr (0, [.ref (ad 0), .ref (ad 26), .ref (ad 57), .ref (ad 66), .ref (ad 67), .int (zi (X 65 5)), .int (zi (X 65 6))])) := zpic_at (by omega)
theorem p_66 : (zpic G ad X)[66]? = some (ad 66, .inl (zci G, 4, .inl (fun j => zi (X 66 j)))) := zpic_at (by omega)
theorem p_67 : (zpic G ad X)[67]? = some (ad 67, .inl (zci G, 4, .inl (fun j => zi (X 67 j)))) := zpic_at (by omega)
theorem p_68 : (zpic G ad X)[68]? = some (ad 68, .inr (2, [.ref (ad 69), .int (zi (X 68 1)), .int (zi (X 68 2)), .int (zi (X 68 3)), .int (zi (X 68 4)), .int (zi (X 68 5))])) := zpic_at (by omega)
theorem p_69 : (zpic G ad X)[69]? = some (ad 69, .inl (zci G, 24, .inl (fun j => zi (X 69 j)))) := zpic_at (by omega)
theorem p_70 : (zpic G ad X)[70]? = some (ad 70, .inl (zci G, 4, .inl (fun j => zi (X 70 j)))) := zpic_at (by omega)
/-- puts -/
theorem zw1 (X : Nat → Nat → Int) (k j : Nat) (z : Int) : zw X k j z k = fun j' => if j' = j then z else X k j' := zw_same X k j z
theorem s_w1 {a : Nat} (h : zIsW a) (z : Int) : (zpic G ad X).set a (ad a, .inr (6, [.ref (ad (a + 1)), .int (zi z), .int (zi (X a 2))])) = zpic G ad (zw X a 1 z) := zpic_set (by rw [zF_w h, zw1]; rfl)
theorem s_w2 {a : Nat} (h : zIsW a) (z : Int) : (zpic G ad X).set a (ad a, .inr (6, [.ref (ad (a + 1)), .int (zi (X a 1)), .int (zi z)])) = zpic G ad (zw X a 2 z) := zpic_set (by rw [zF_w h, zw1]; rfl)
theorem s_r0 {r : Nat} (h : zIsR r) (z : Int) : (zpic G ad X).set r (ad r, .inr (3, [.int (zi z), .int (zi (X r 1)), .ref (ad (r + 1)), .ref (ad (r + 2))])) = zpic G ad (zw X r 0 z) := zpic_set (by rw [zF_r h, zw1]; rfl)
theorem s_r1 {r : Nat} (h : zIsR r) (z : Int) : (zpic G ad X).set r (ad r, .inr (3, [.int (zi (X r 0)), .int (zi z), .ref (ad (r + 1)), .ref (ad (r + 2))])) = zpic G ad (zw X r 1 z) := zpic_set (by rw [zF_r h, zw1]; rfl)
theorem s_53 (z : Int) : (zpic G ad X).set 53 (ad 53, .inr (4, [.ref (ad 0), .ref (ad 54), .ref (ad 55), .ref (ad 56), .int (zi z)])) = zpic G ad (zw X 53 4 z) := zpic_set (by rw [zw1]; rfl)
theorem s_57 (z : Int) : (zpic G ad X).set 57 (ad 57, .inr (1, [.ref (ad 0), .ref (ad 26), .ref (ad 58), .ref (ad 59), .ref (ad 60), .int (zi z)])) = zpic G ad (zw X 57 5 z) := zpic_set (by rw [zw1]; rfl)
theorem s_615 (z : Int) : (zpic G ad X).set 61 (ad 61, .inr (5, [.ref (ad 0), .ref (ad 57), .ref (ad 62), .ref (ad 63), .ref (ad 64), .int (zi z), .int (zi (X 61 6))])) = zpic G ad (zw X 61 5 z) := zpic_set (by rw [zw1]; rfl)
theorem s_616 (z : Int) : (zpic G ad X).set 61 (ad 61, .inr (5, [.ref (ad 0), .ref (ad 57), .ref (ad 62), .ref (ad 63), .ref (ad 64), .int (zi (X 61 5)), .int (zi z)])) = zpic G ad (zw X 61 6 z) := zpic_set (by rw [zw1]; rfl)
theorem s_655 (z : Int) : (zpic G ad X).set 65 (ad 65, .inr (0, [.ref (ad 0), .ref (ad 26), .ref (ad 57), .ref (ad 66), .ref (ad 67), .int (zi z), .int (zi (X 65 6))])) = zpic G ad (zw X 65 5 z) := zpic_set (by rw [zw1]; rfl)
theorem s_656 (z : Int) : (zpic G ad X).set 65 (ad 65, .inr (0, [.ref (ad 0), .ref (ad 26), .ref (ad 57), .ref (ad 66), .ref (ad 67), .int (zi (X 65 5)), .int (zi z)])) = zpic G ad (zw X 65 6 z) := zpic_set (by rw [zw1]; rfl)
/-- an array of ints -/
theorem s_a {k n : Nat} (h : ∀ x : Nat → Int, zF G ad k x = .inl (zci G, n, .inl (fun j => zi (x j)))) (j : Nat) (z : Int) : (zpic G ad X).set k (ad k, .inl (zci G, n, .inl (upd (fun j => zi (X k j)) j (zi z)))) = zpic G ad (zw X k j z) := by
  refine zpic_set ?_
  rw [h, zw1]
  congr 4
  funext q
  by_cases hq : q = j
  · subst hq; simp [upd]
  · simp [upd, hq]
theorem s_q {a : Nat} (h : zIsW a) (j t : Nat) : (zpic G ad X).set (a + 1) (ad (a + 1), .inl (zcq G, 8, .inr (.inr (.inr (.inr (va_up (fun i => some (ad (zr X a i))) j (some (ad (a + 2 + 3 * t))))))))) = zpic G ad (zw X (a + 1) j (t : Int)) := by
  refine zpic_set ?_
  rw [zF_q h, zw1]
  congr 7
  funext q
  by_cases hq : q = j
  · subst hq; simp [va_up]
  · simp [va_up, hq, zr]
end ZM
end
section
/-! ===== rows over that memory; branches on whole numbers; loops ===== -/
theorem a_l {G : zG} {ad : Nat → Nat} {r : Nat} (h : zIsR r) : ∀ x : Nat → Int, zF G ad (r + 1) x = .inl (zci G, 4, .inl (fun j => zi (x j))) := zF_l h
theorem a_h {G : zG} {ad : Nat → Nat} {r : Nat} (h : zIsR r) : ∀ x : Nat → Int, zF G ad (r + 2) x = .inl (zci G, 4, .inl (fun j => zi (x j))) := zF_h h
section ZRW
variable {p : Program} {l : Launch} {e : Env} {R : Room} {s : State} {m : MethodId} {args : Array Value} {below : List Frame} {meth : Method} {c : Code} {H : Heap} {locs : List Loc} {cells slots : Nat} {Q : State → Prop}
variable {cc : ByteArray} {pc : Nat} {ls : Array Slot} {rest st0 : List Value} {G : zG} {A : Nat → Prop} {ad : Nat → Nat} {X : Nat → Nat → Int}
/-- an int out of a row -/
theorem zild (hx : p.tables.exec = Jvm.exec) (hb : c.code = cc) (hE : zZ G A s s.heap) (hP : va_P G.1 vwCl (zpic G ad X) H) (k n : Nat) (ha : ∀ x : Nat → Int, zF G ad k x = .inl (zci G, n, .inl (fun j => zi (x j)))) (hk : k < 71) {z : Int} (j : Nat) (hz : z = (j : Int)) (hj : j < n) (hn : n ≤ 1024) (hdg : decode cc pc = .ok (.iaload, 1))
    (kk : W p l e R s m args below meth c H locs cells slots Q (F0 m (pc + 1) ls (.int (zi (X k j)) :: rest))) : W p l e R s m args below meth c H locs cells slots Q (F0 m pc ls (.int (zi z) :: .ref (ad k) :: rest)) := by
  subst hz
  have he : (zpic G ad X)[k]? = some (ad k, .inl (zci G, n, .inl (fun j => zi (X k j)))) := by rw [zpic_at hk, ha]
  refine va_iald hx hb hE.1 hP k 0 he rfl (zi_in (by omega) (by omega) (by omega)) hdg ?_
  have h : (zi (j : Int)).toNatClampNeg = j := by rw [zi_nat (by omega) (by omega)]; rfl
  rw [h]
  exact kk
/-- .. into a row -/
theorem zist (hx : p.tables.exec = Jvm.exec) (hb : c.code = cc) (hE : zZ G A s s.heap) (hP : va_P G.1 vwCl (zpic G ad X) H) (hD : va_D A (zpic G ad X)) (hS : va_S A s.heap H locs) (k n : Nat) (ha : ∀ x : Nat → Int, zF G ad k x = .inl (zci G, n, .inl (fun j => zi (x j)))) (hk : k < 71) {z v : Int} (j : Nat) (hz : z = (j : Int)) (hj : j < n) (hn : n ≤ 1024) (hdg : decode cc pc = .ok (.iastore, 1))
    (kk : ∀ (H1 : Heap) (locs1 : List Loc), va_P G.1 vwCl (zpic G ad (zw X k j v)) H1 → va_D A (zpic G ad (zw X k j v)) → va_S A s.heap H1 locs1 → W p l e R s m args below meth c H1 locs1 cells slots Q (F0 m (pc + 1) ls rest)) : W p l e R s m args below meth c H locs cells slots Q (F0 m pc ls (.int (zi v) :: .int (zi z) :: .ref (ad k) :: rest)) := by
  subst hz
  have he : (zpic G ad X)[k]? = some (ad k, .inl (zci G, n, .inl (fun j => zi (X k j)))) := by rw [zpic_at hk, ha]
  refine va_iast hx hb hE.1 hP hD hS k 0 he rfl (zi_in (by omega) (by omega) (by omega)) hdg (fun H1 l1 hP1 hD1 hS1 => ?_)
  have h : (zi (j : Int)).toNatClampNeg = j := by rw [zi_nat (by omega) (by omega)]; rfl
  rw [h, s_a ha] at hP1 hD1
  exact kk H1 l1 hP1 hD1 hS1
/-- a RULE out of a wall's row -/
theorem zqld (hx : p.tables.exec = Jvm.exec) (hb : c.code = cc) (hE : zZ G A s s.heap) (hP : va_P G.1 vwCl (zpic G ad X) H) {a : Nat} (h : zIsW a) {z : Int} (j : Nat) (hz : z = (j : Int)) (hj : j < 8) (hdg : decode cc pc = .ok (.aaload, 1))
    (kk : W p l e R s m args below meth c H locs cells slots Q (F0 m (pc + 1) ls (.ref (ad (zr X a j)) :: rest))) : W p l e R s m args below meth c H locs cells slots Q (F0 m pc ls (.int (zi z) :: .ref (ad (a + 1)) :: rest)) := by
  subst hz
  refine va_aldq hx hb hE.1 hP (a + 1) 1 (p_q h) rfl (zi_in (by omega) (by omega) (by omega)) hdg ?_
  have h2 : (zi (j : Int)).toNatClampNeg = j := by rw [zi_nat (by omega) (by omega)]; rfl
  rw [h2]
  exact kk
theorem zqst (hx : p.tables.exec = Jvm.exec) (hb : c.code = cc) (hE : zZ G A s s.heap) (hP : va_P G.1 vwCl (zpic G ad X) H) (hD : va_D A (zpic G ad X)) (hS : va_S A s.heap H locs) {a : Nat} (h : zIsW a) {z : Int} (j : Nat) (hz : z = (j : Int)) (hj : j < 8) (t : Nat) (ht : t < 8) (hdg : decode cc pc = .ok (.aastore, 1))
    (kk : ∀ (H1 : Heap) (locs1 : List Loc), va_P G.1 vwCl (zpic G ad (zw X (a + 1) j (t : Int))) H1 → va_D A (zpic G ad (zw X (a + 1) j (t : Int))) → va_S A s.heap H1 locs1 → W p l e R s m args below meth c H1 locs1 cells slots Q (F0 m (pc + 1) ls rest)) : W p l e R s m args below meth c H locs cells slots Q (F0 m pc ls (.ref (ad (a + 2 + 3 * t)) :: .int (zi z) :: .ref (ad (a + 1)) :: rest)) := by
  subst hz
  refine va_astq hx hb hE.1 hP hD hS (a + 1) 1 (a + 2 + 3 * t) 3 (r := (RX3, TX3, 4)) (p_q h) rfl (p_r ⟨a, t, h, ht, rfl⟩) rfl (zi_in (by omega) (by omega) (by omega)) hdg (fun H1 l1 hP1 hD1 hS1 => ?_)
  have h2 : (zi (j : Int)).toNatClampNeg = j := by rw [zi_nat (by omega) (by omega)]; rfl
  rw [h2, s_q h] at hP1 hD1
  exact kk H1 l1 hP1 hD1 hS1
/-- SIZES, AMOUNTS -/
theorem zsz_ld (hx : p.tables.exec = Jvm.exec) (hb : c.code = cc) (hE : zZ G A s s.heap) (hS : va_S A s.heap H locs) {z : Int} (j : Nat) (hz : z = (j : Int)) (hj : j < 4) (hdg : decode cc pc = .ok (.iaload, 1))
    (kk : W p l e R s m args below meth c H locs cells slots Q (F0 m (pc + 1) ls (.int (zi (zS j)) :: rest))) : W p l e R s m args below meth c H locs cells slots Q (F0 m pc ls (.int (zi z) :: .ref (zsz G) :: rest)) := by
  subst hz
  have h : (zi (j : Int)).toNatClampNeg = j := by rw [zi_nat (by omega) (by omega)]; rfl
  exact va_ti (v := .int (zi (zS j))) hx hb hE.2.1.2 hS (zi_in (by omega) (by omega) (by omega)) (by rw [h]) hdg kk
theorem zam_ld (hx : p.tables.exec = Jvm.exec) (hb : c.code = cc) (hE : zZ G A s s.heap) (hS : va_S A s.heap H locs) {z : Int} (j : Nat) (hz : z = (j : Int)) (hj : j < 5) (hdg : decode cc pc = .ok (.iaload, 1))
    (kk : W p l e R s m args below meth c H locs cells slots Q (F0 m (pc + 1) ls (.int (zi (zM j)) :: rest))) : W p l e R s m args below meth c H locs cells slots Q (F0 m pc ls (.int (zi z) :: .ref (zam G) :: rest)) := by
  subst hz
  have h : (zi (j : Int)).toNatClampNeg = j := by rw [zi_nat (by omega) (by omega)]; rfl
  exact va_ti (v := .int (zi (zM j))) hx hb hE.2.2.1.2 hS (zi_in (by omega) (by omega) (by omega)) (by rw [h]) hdg kk
/-- an int into a field -/
theorem zput {X' : Nat → Nat → Int} (hexec : p.tables.exec = Jvm.exec) (hb : c.code = cc) {own ref C : String} {T : u_T} {N ci index : Nat} {Ts : List Cond} (hts : ∀ w ∈ Ts, w.before args s = true) (hin : ∀ w ∈ u_ws C T N, w ∈ Ts) (ty0 : Nat → FieldType) (hty : ∀ k, k < N → parseFieldDescriptor (T k).2.2.1 = some (ty0 k)) (hnm : ∀ a, a < N → ∀ b, b < N → a ≠ b → (T a).2.1 ≠ (T b).2.1) (hown : s.vm.findClass own = some m.cls) (hE : zZ G A s s.heap) (hP : va_P G.1 vwCl (zpic G ad X) H) (hD : va_D A (zpic G ad X)) (hS0 : va_S A s.heap H locs) (q0 : Nat) {fs : List Value} (he : (zpic G ad X)[q0]? = some (ad q0, .inr (ci, fs))) (hc : vwCl[ci]? = some (C, T, N)) (k : Nat) (hk : k < N) (hlink : (Cond.fieldLink own index ref (T k).2.1 (T k).2.2.1).before args s = true) (hsame : ∀ x, s.fieldFound? (T k).1 (T k).2.1 (T k).2.2.1 = some x → s.fieldFound? ref (T k).2.1 (T k).2.2.1 = some x) (hfin : (T k).2.2.2 = false) {ty : FieldType} {v : Value} (hd : parseFieldDescriptor (T k).2.2.1 = some ty) (hn : narrow ty v = v) (hfit : fits ty v = true) (hl : k < fs.length)
    (hset : (zpic G ad X).set q0 (ad q0, .inr (ci, fs.set k v)) = zpic G ad X') (hdg : decode cc pc = .ok (.putfield index, 3))
    (kk : ∀ (H1 : Heap) (locs1 : List Loc), va_P G.1 vwCl (zpic G ad X') H1 → va_D A (zpic G ad X') → va_S A s.heap H1 locs1 → W p l e R s m args below meth c H1 locs1 cells slots Q (F0 m (pc + 3) ls rest)) : W p l e R s m args below meth c H locs cells slots Q (F0 m pc ls (v :: .ref (ad q0) :: rest)) :=
  va_put hexec hb hts hin ty0 hty hnm hown hE.1 hP hD hS0 q0 he hc k hk hlink hsame hfin hd hn hfit hl hdg (fun H1 l1 hP1 hD1 hS1 => kk H1 l1 (hset ▸ hP1) (hset ▸ hD1) hS1)
/-- branches -/
theorem zc_lt (hx : p.tables.exec = Jvm.exec) (hb : c.code = cc) {x y : Int} {off : Int} {tgt : Nat} (hdg : decode cc pc = .ok (.if_icmp .lt off, 3)) (ht : (pc : Int) + off = (tgt : Int)) (rx : -2147483648 ≤ x ∧ x ≤ 2147483647) (ry : -2147483648 ≤ y ∧ y ≤ 2147483647)
    (kt : x < y → W p l e R s m args below meth c H locs cells slots Q (F0 m tgt ls rest)) (kf : y ≤ x → W p l e R s m args below meth c H locs cells slots Q (F0 m (pc + 3) ls rest)) : W p l e R s m args below meth c H locs cells slots Q (F0 m pc ls (.int (zi y) :: .int (zi x) :: rest)) :=
  lv_icmp_lt hx hb hdg ht (fun h => kt ((zi_lt rx ry).mp h)) (fun h => kf (Int.not_lt.mp (fun q => h ((zi_lt rx ry).mpr q))))
theorem zc_ge (hx : p.tables.exec = Jvm.exec) (hb : c.code = cc) {x y : Int} {off : Int} {tgt : Nat} (hdg : decode cc pc = .ok (.if_icmp .ge off, 3)) (ht : (pc : Int) + off = (tgt : Int)) (rx : -2147483648 ≤ x ∧ x ≤ 2147483647) (ry : -2147483648 ≤ y ∧ y ≤ 2147483647)
    (kt : y ≤ x → W p l e R s m args below meth c H locs cells slots Q (F0 m tgt ls rest)) (kf : x < y → W p l e R s m args below meth c H locs cells slots Q (F0 m (pc + 3) ls rest)) : W p l e R s m args below meth c H locs cells slots Q (F0 m pc ls (.int (zi y) :: .int (zi x) :: rest)) :=
  lv_icmp_ge hx hb hdg ht (fun h => kt ((zi_le ry rx).mp h)) (fun h => kf (Int.not_le.mp (fun q => h ((zi_le ry rx).mpr q))))
theorem zc_gt (hx : p.tables.exec = Jvm.exec) (hb : c.code = cc) {x y : Int} {off : Int} {tgt : Nat} (hdg : decode cc pc = .ok (.if_icmp .gt off, 3)) (ht : (pc : Int) + off = (tgt : Int)) (rx : -2147483648 ≤ x ∧ x ≤ 2147483647) (ry : -2147483648 ≤ y ∧ y ≤ 2147483647)
    (kt : y < x → W p l e R s m args below meth c H locs cells slots Q (F0 m tgt ls rest)) (kf : x ≤ y → W p l e R s m args below meth c H locs cells slots Q (F0 m (pc + 3) ls rest)) : W p l e R s m args below meth c H locs cells slots Q (F0 m pc ls (.int (zi y) :: .int (zi x) :: rest)) :=
  lv_icmp_gt hx hb hdg ht (fun h => kt ((zi_lt ry rx).mp h)) (fun h => kf (Int.not_lt.mp (fun q => h ((zi_lt ry rx).mpr q))))
theorem zc_le (hx : p.tables.exec = Jvm.exec) (hb : c.code = cc) {x y : Int} {off : Int} {tgt : Nat} (hdg : decode cc pc = .ok (.if_icmp .le off, 3)) (ht : (pc : Int) + off = (tgt : Int)) (rx : -2147483648 ≤ x ∧ x ≤ 2147483647) (ry : -2147483648 ≤ y ∧ y ≤ 2147483647)
    (kt : x ≤ y → W p l e R s m args below meth c H locs cells slots Q (F0 m tgt ls rest)) (kf : y < x → W p l e R s m args below meth c H locs cells slots Q (F0 m (pc + 3) ls rest)) : W p l e R s m args below meth c H locs cells slots Q (F0 m pc ls (.int (zi y) :: .int (zi x) :: rest)) :=
  lv_icmp_le hx hb hdg ht (fun h => kt ((zi_le rx ry).mp h)) (fun h => kf (Int.not_le.mp (fun q => h ((zi_le rx ry).mpr q))))
theorem zc_eq (hx : p.tables.exec = Jvm.exec) (hb : c.code = cc) {x y : Int} {off : Int} {tgt : Nat} (hdg : decode cc pc = .ok (.if_icmp .eq off, 3)) (ht : (pc : Int) + off = (tgt : Int)) (rx : -2147483648 ≤ x ∧ x ≤ 2147483647) (ry : -2147483648 ≤ y ∧ y ≤ 2147483647)
    (kt : x = y → W p l e R s m args below meth c H locs cells slots Q (F0 m tgt ls rest)) (kf : x ≠ y → W p l e R s m args below meth c H locs cells slots Q (F0 m (pc + 3) ls rest)) : W p l e R s m args below meth c H locs cells slots Q (F0 m pc ls (.int (zi y) :: .int (zi x) :: rest)) :=
  lv_icmp_eq hx hb hdg ht (fun h => kt ((zi_eq rx ry).mp h)) (fun h => kf (fun q => h ((zi_eq rx ry).mpr q)))
theorem zc_ne (hx : p.tables.exec = Jvm.exec) (hb : c.code = cc) {x y : Int} {off : Int} {tgt : Nat} (hdg : decode cc pc = .ok (.if_icmp .ne off, 3)) (ht : (pc : Int) + off = (tgt : Int)) (rx : -2147483648 ≤ x ∧ x ≤ 2147483647) (ry : -2147483648 ≤ y ∧ y ≤ 2147483647)
    (kt : x ≠ y → W p l e R s m args below meth c H locs cells slots Q (F0 m tgt ls rest)) (kf : x = y → W p l e R s m args below meth c H locs cells slots Q (F0 m (pc + 3) ls rest)) : W p l e R s m args below meth c H locs cells slots Q (F0 m pc ls (.int (zi y) :: .int (zi x) :: rest)) :=
  lv_icmp_ne hx hb hdg ht (fun h => kt (fun q => h ((zi_eq rx ry).mpr q))) (fun h => kf ((zi_eq rx ry).mp h))
theorem z0_lt (hx : p.tables.exec = Jvm.exec) (hb : c.code = cc) {x : Int} {off : Int} {tgt : Nat} (hdg : decode cc pc = .ok (.ifCond .lt off, 3)) (ht : (pc : Int) + off = (tgt : Int)) (rx : -2147483648 ≤ x ∧ x ≤ 2147483647)
    (kt : x < 0 → W p l e R s m args below meth c H locs cells slots Q (F0 m tgt ls rest)) (kf : 0 ≤ x → W p l e R s m args below meth c H locs cells slots Q (F0 m (pc + 3) ls rest)) : W p l e R s m args below meth c H locs cells slots Q (F0 m pc ls (.int (zi x) :: rest)) :=
  lv_if_lt hx hb hdg ht (fun h => kt ((zi_lt (b := 0) rx ⟨by omega, by omega⟩).mp h)) (fun h => kf (Int.not_lt.mp (fun q => h ((zi_lt (b := 0) rx ⟨by omega, by omega⟩).mpr q))))
theorem z0_ge (hx : p.tables.exec = Jvm.exec) (hb : c.code = cc) {x : Int} {off : Int} {tgt : Nat} (hdg : decode cc pc = .ok (.ifCond .ge off, 3)) (ht : (pc : Int) + off = (tgt : Int)) (rx : -2147483648 ≤ x ∧ x ≤ 2147483647)
    (kt : 0 ≤ x → W p l e R s m args below meth c H locs cells slots Q (F0 m tgt ls rest)) (kf : x < 0 → W p l e R s m args below meth c H locs cells slots Q (F0 m (pc + 3) ls rest)) : W p l e R s m args below meth c H locs cells slots Q (F0 m pc ls (.int (zi x) :: rest)) :=
  lv_if_ge hx hb hdg ht (fun h => kt ((zi_le (a := 0) ⟨by omega, by omega⟩ rx).mp h)) (fun h => kf (Int.not_le.mp (fun q => h ((zi_le (a := 0) ⟨by omega, by omega⟩ rx).mpr q))))
theorem z0_gt (hx : p.tables.exec = Jvm.exec) (hb : c.code = cc) {x : Int} {off : Int} {tgt : Nat} (hdg : decode cc pc = .ok (.ifCond .gt off, 3)) (ht : (pc : Int) + off = (tgt : Int)) (rx : -2147483648 ≤ x ∧ x ≤ 2147483647)
    (kt : 0 < x → W p l e R s m args below meth c H locs cells slots Q (F0 m tgt ls rest)) (kf : x ≤ 0 → W p l e R s m args below meth c H locs cells slots Q (F0 m (pc + 3) ls rest)) : W p l e R s m args below meth c H locs cells slots Q (F0 m pc ls (.int (zi x) :: rest)) :=
  lv_if_gt hx hb hdg ht (fun h => kt ((zi_lt (a := 0) ⟨by omega, by omega⟩ rx).mp h)) (fun h => kf (Int.not_lt.mp (fun q => h ((zi_lt (a := 0) ⟨by omega, by omega⟩ rx).mpr q))))
theorem z0_le (hx : p.tables.exec = Jvm.exec) (hb : c.code = cc) {x : Int} {off : Int} {tgt : Nat} (hdg : decode cc pc = .ok (.ifCond .le off, 3)) (ht : (pc : Int) + off = (tgt : Int)) (rx : -2147483648 ≤ x ∧ x ≤ 2147483647)
    (kt : x ≤ 0 → W p l e R s m args below meth c H locs cells slots Q (F0 m tgt ls rest)) (kf : 0 < x → W p l e R s m args below meth c H locs cells slots Q (F0 m (pc + 3) ls rest)) : W p l e R s m args below meth c H locs cells slots Q (F0 m pc ls (.int (zi x) :: rest)) :=
  lv_if_le hx hb hdg ht (fun h => kt ((zi_le (b := 0) rx ⟨by omega, by omega⟩).mp h)) (fun h => kf (Int.not_le.mp (fun q => h ((zi_le (b := 0) rx ⟨by omega, by omega⟩).mpr q))))
theorem z0_eq (hx : p.tables.exec = Jvm.exec) (hb : c.code = cc) {x : Int} {off : Int} {tgt : Nat} (hdg : decode cc pc = .ok (.ifCond .eq off, 3)) (ht : (pc : Int) + off = (tgt : Int)) (rx : -2147483648 ≤ x ∧ x ≤ 2147483647)
    (kt : x = 0 → W p l e R s m args below meth c H locs cells slots Q (F0 m tgt ls rest)) (kf : x ≠ 0 → W p l e R s m args below meth c H locs cells slots Q (F0 m (pc + 3) ls rest)) : W p l e R s m args below meth c H locs cells slots Q (F0 m pc ls (.int (zi x) :: rest)) :=
  lv_if_eq hx hb hdg ht (fun h => kt ((zi_eq (b := 0) rx ⟨by omega, by omega⟩).mp h)) (fun h => kf (fun q => h ((zi_eq (b := 0) rx ⟨by omega, by omega⟩).mpr q)))
theorem z0_ne (hx : p.tables.exec = Jvm.exec) (hb : c.code = cc) {x : Int} {off : Int} {tgt : Nat} (hdg : decode cc pc = .ok (.ifCond .ne off, 3)) (ht : (pc : Int) + off = (tgt : Int)) (rx : -2147483648 ≤ x ∧ x ≤ 2147483647)
    (kt : x ≠ 0 → W p l e R s m args below meth c H locs cells slots Q (F0 m tgt ls rest)) (kf : x = 0 → W p l e R s m args below meth c H locs cells slots Q (F0 m (pc + 3) ls rest)) : W p l e R s m args below meth c H locs cells slots Q (F0 m pc ls (.int (zi x) :: rest)) :=
  lv_if_ne hx hb hdg ht (fun h => kt (fun q => h ((zi_eq (b := 0) rx ⟨by omega, by omega⟩).mpr q))) (fun h => kf ((zi_eq (b := 0) rx ⟨by omega, by omega⟩).mp h))
/-- loops: a measure that falls -/
theorem zloop1 {α : Type} (mu : α → Nat) (Inv : α → Heap → List Loc → Array Slot → Prop) (step : ∀ a : α, (∀ b : α, mu b < mu a → ∀ (H : Heap) (locs : List Loc) (ls : Array Slot), Inv b H locs ls → W p l e R s m args below meth c H locs cells slots Q (F0 m pc ls st0)) → ∀ (H : Heap) (locs : List Loc) (ls : Array Slot), Inv a H locs ls → W p l e R s m args below meth c H locs cells slots Q (F0 m pc ls st0)) (a : α) (h : Inv a H locs ls) : W p l e R s m args below meth c H locs cells slots Q (F0 m pc ls st0) := by
  have key : ∀ (n : Nat) (a : α), mu a < n → ∀ (H : Heap) (locs : List Loc) (ls : Array Slot), Inv a H locs ls → W p l e R s m args below meth c H locs cells slots Q (F0 m pc ls st0) := by
    intro n
    induction n with
    | zero => intro a ha; omega
    | succ n ih => intro a ha H locs ls h; exact step a (fun b hb => ih b (by omega)) H locs ls h
  exact key _ a (Nat.lt_succ_self _) H locs ls h
theorem zloop2 {α β : Type} (mu : α → β → Nat) (Inv : α → β → Heap → List Loc → Array Slot → Prop) (step : ∀ (a : α) (b : β), (∀ (a' : α) (b' : β), mu a' b' < mu a b → ∀ (H : Heap) (locs : List Loc) (ls : Array Slot), Inv a' b' H locs ls → W p l e R s m args below meth c H locs cells slots Q (F0 m pc ls st0)) → ∀ (H : Heap) (locs : List Loc) (ls : Array Slot), Inv a b H locs ls → W p l e R s m args below meth c H locs cells slots Q (F0 m pc ls st0)) (a : α) (b : β) (h : Inv a b H locs ls) : W p l e R s m args below meth c H locs cells slots Q (F0 m pc ls st0) :=
  zloop1 (α := α × β) (fun q => mu q.1 q.2) (fun q => Inv q.1 q.2) (fun q ih H locs ls h => step q.1 q.2 (fun a' b' h' H locs ls hi => ih (a', b') h' H locs ls hi) H locs ls h) (a, b) h
theorem zloop3 {α β γ : Type} (mu : α → β → γ → Nat) (Inv : α → β → γ → Heap → List Loc → Array Slot → Prop) (step : ∀ (a : α) (b : β) (g : γ), (∀ (a' : α) (b' : β) (g' : γ), mu a' b' g' < mu a b g → ∀ (H : Heap) (locs : List Loc) (ls : Array Slot), Inv a' b' g' H locs ls → W p l e R s m args below meth c H locs cells slots Q (F0 m pc ls st0)) → ∀ (H : Heap) (locs : List Loc) (ls : Array Slot), Inv a b g H locs ls → W p l e R s m args below meth c H locs cells slots Q (F0 m pc ls st0)) (a : α) (b : β) (g : γ) (h : Inv a b g H locs ls) : W p l e R s m args below meth c H locs cells slots Q (F0 m pc ls st0) :=
  zloop1 (α := α × β × γ) (fun q => mu q.1 q.2.1 q.2.2) (fun q => Inv q.1 q.2.1 q.2.2) (fun q ih H locs ls h => step q.1 q.2.1 q.2.2 (fun a' b' g' h' H locs ls hi => ih (a', b', g') h' H locs ls hi) H locs ls h) (a, b, g) h
end ZRW
/-- answers: an int, nothing changed; an int, ints changed; nothing; a reference -/
def zq (G : zG) (ad : Nat → Nat) (X : Nat → Nat → Int) (P : Int → Prop) : Option Value → va_W → Prop := fun r w => ∃ v : Int, r = some (.int (zi v)) ∧ P v ∧ w = zpic G ad X
def zu (G : zG) (ad : Nat → Nat) (P : Int → (Nat → Nat → Int) → Prop) : Option Value → va_W → Prop := fun r w => ∃ (v : Int) (X' : Nat → Nat → Int), r = some (.int (zi v)) ∧ P v X' ∧ w = zpic G ad X'
def zv (G : zG) (ad : Nat → Nat) (P : (Nat → Nat → Int) → Prop) : Option Value → va_W → Prop := fun r w => ∃ X' : Nat → Nat → Int, r = none ∧ P X' ∧ w = zpic G ad X'
def za (G : zG) (ad : Nat → Nat) (k : Nat) (P : (Nat → Nat → Int) → Prop) : Option Value → va_W → Prop := fun r w => ∃ X' : Nat → Nat → Int, r = some (.ref (ad k)) ∧ P X' ∧ w = zpic G ad X'
end
section
/-! ===== what holds of the memory between calls: RULES and walls ===== -/
theorem zi_max {a b : Int} (ra : -2147483648 ≤ a ∧ a ≤ 2147483647) (rb : -2147483648 ≤ b ∧ b ≤ 2147483647) : (if zi a < zi b then zi b else zi a) = zi (max a b) := by
  by_cases h : a < b
  · rw [if_pos ((zi_lt ra rb).mpr h), Int.max_eq_right (by omega)]
  · rw [if_neg (fun q => h ((zi_lt ra rb).mp q)), Int.max_eq_left (by omega)]
theorem zi_min {a b : Int} (ra : -2147483648 ≤ a ∧ a ≤ 2147483647) (rb : -2147483648 ≤ b ∧ b ≤ 2147483647) : (if zi b < zi a then zi b else zi a) = zi (min a b) := by
  by_cases h : b < a
  · rw [if_pos ((zi_lt rb ra).mpr h), Int.min_eq_right (by omega)]
  · rw [if_neg (fun q => h ((zi_lt rb ra).mp q)), Int.min_eq_left (by omega)]
def zabs (a : Int) : Int := if 0 ≤ a then a else 0 - a
theorem zi_abs {a : Int} (ra : -2147483648 ≤ a ∧ a ≤ 2147483647) : (if 0 ≤ zi a then zi a else 0 - zi a) = zi (zabs a) := by
  have h0 : (0 : Int32) = zi 0 := rfl
  unfold zabs
  by_cases h : 0 ≤ a
  · rw [if_pos h, h0, if_pos ((zi_le ⟨by omega, by omega⟩ ra).mpr h)]
  · rw [if_neg h, h0, if_neg (fun q => h ((zi_le ⟨by omega, by omega⟩ ra).mp q)), zi_sub]
def zRok (X : Nat → Nat → Int) (r : Nat) : Prop := (0 ≤ X r 0 ∧ X r 0 ≤ 2) ∧ X r 1 = 0 ∧ ∀ f : Nat, f < 4 → 0 ≤ X (r + 1) f ∧ X (r + 1) f ≤ X (r + 2) f ∧ X (r + 2) f < zS f
def zWok (X : Nat → Nat → Int) (a : Nat) : Prop := (0 ≤ X a 1 ∧ X a 1 ≤ 8) ∧ (X a 2 = 0 ∨ X a 2 = 1) ∧ (∀ i : Nat, i < 8 → 0 ≤ X (a + 1) i ∧ X (a + 1) i < 8) ∧ (∀ i j : Nat, i < 8 → j < 8 → X (a + 1) i = X (a + 1) j → i = j) ∧ ∀ s : Nat, s < 8 → zRok X (a + 2 + 3 * s)
def zV (X : Nat → Nat → Int) : Prop := zWok X 0 ∧ zWok X 26
theorem zV.wok {X : Nat → Nat → Int} (h : zV X) {a : Nat} (ha : zIsW a) : zWok X a := by
  rcases ha with rfl | rfl
  · exact h.1
  · exact h.2
theorem zV.slot {X : Nat → Nat → Int} (h : zV X) {a i : Nat} (ha : zIsW a) (hi : i < 8) : (X (a + 1) i).toNat < 8 := by
  have := (h.wok ha).2.2.1 i hi
  omega
theorem zV.isR {X : Nat → Nat → Int} (h : zV X) {a i : Nat} (ha : zIsW a) (hi : i < 8) : zIsR (zr X a i) := ⟨a, _, ha, h.slot ha hi, rfl⟩
theorem zV.rok {X : Nat → Nat → Int} (h : zV X) {r : Nat} (hr : zIsR r) : zRok X r := by
  obtain ⟨a, s, ha, hs, rfl⟩ := hr
  exact (h.wok ha).2.2.2.2 s hs
theorem zS_le (f : Nat) : 4 ≤ zS f ∧ zS f ≤ 1024 := by
  unfold zS
  split <;> omega
/-- bounds with written numbers -/
theorem zV.r4 {X : Nat → Nat → Int} (h : zV X) {r : Nat} (hr : zIsR r) : (0 ≤ X r 0 ∧ X r 0 ≤ 2 ∧ X r 1 = 0) ∧ (0 ≤ X (r + 1) 0 ∧ X (r + 1) 0 ≤ X (r + 2) 0 ∧ X (r + 2) 0 < 256) ∧ (0 ≤ X (r + 1) 1 ∧ X (r + 1) 1 ≤ X (r + 2) 1 ∧ X (r + 2) 1 < 256) ∧ (0 ≤ X (r + 1) 2 ∧ X (r + 1) 2 ≤ X (r + 2) 2 ∧ X (r + 2) 2 < 1024) ∧ (0 ≤ X (r + 1) 3 ∧ X (r + 1) 3 ≤ X (r + 2) 3 ∧ X (r + 2) 3 < 4) := by
  obtain ⟨h1, h2, h3⟩ := h.rok hr
  exact ⟨⟨h1.1, h1.2, h2⟩, h3 0 (by omega), h3 1 (by omega), h3 2 (by omega), h3 3 (by omega)⟩
theorem zV.rf {X : Nat → Nat → Int} (h : zV X) {r f : Nat} (hr : zIsR r) (hf : f < 4) : 0 ≤ X (r + 1) f ∧ X (r + 1) f ≤ X (r + 2) f ∧ X (r + 2) f < zS f ∧ zS f ≤ 1024 := by
  have h1 := (h.rok hr).2.2 f hf
  have h2 := zS_le f
  omega
/-- a RULE is whole from a FIELD on; a PACKET (the row 70) meets it; it covers another -/
def zWhole (X : Nat → Nat → Int) (r f : Nat) : Prop := ∀ g : Nat, f ≤ g → g < 4 → X (r + 1) g = 0 ∧ X (r + 2) g = zS g - 1
def zMeets (X : Nat → Nat → Int) (r : Nat) : Prop := ∀ g : Nat, g < 4 → X (r + 1) g ≤ X 70 g ∧ X 70 g ≤ X (r + 2) g
def zCov (X : Nat → Nat → Int) (r q : Nat) : Prop := ∀ g : Nat, g < 4 → X (r + 1) g ≤ X (q + 1) g ∧ X (q + 2) g ≤ X (r + 2) g
def zW1 (X : Nat → Nat → Int) (r q g : Nat) : Int := max 0 (min (X (r + 2) g) (X (q + 2) g) - max (X (r + 1) g) (X (q + 1) g) + 1)
def zAW (X : Nat → Nat → Int) (r q : Nat) : Int := 1 * zW1 X r q 0 * zW1 X r q 1 * zW1 X r q 2 * zW1 X r q 3
/-- a PACKET in the row 70; RULES against each other -/
def zPk (X : Nat → Nat → Int) : Prop := ∀ g : Nat, g < 4 → 0 ≤ X 70 g ∧ X 70 g < zS g
def zAg (X : Nat → Nat → Int) (r q : Nat) : Prop := X r 0 ≠ 2 ∧ X q 0 ≠ 2 ∧ X r 0 ≠ X q 0 ∧ 0 < zAW X r q
theorem zW1_bd {X : Nat → Nat → Int} (h : zV X) {r q f : Nat} (hr : zIsR r) (hq : zIsR q) (hf : f < 4) : 0 ≤ zW1 X r q f ∧ zW1 X r q f ≤ zS f := by
  have h1 := h.rf hr hf
  have h2 := h.rf hq hf
  unfold zW1
  omega
theorem zAW_bd {X : Nat → Nat → Int} (h : zV X) {r q : Nat} (hr : zIsR r) (hq : zIsR q) : 0 ≤ zAW X r q ∧ zAW X r q ≤ 268435456 := by
  have a0 := zW1_bd h hr hq (show 0 < 4 by omega)
  have a1 := zW1_bd h hr hq (show 1 < 4 by omega)
  have a2 := zW1_bd h hr hq (show 2 < 4 by omega)
  have a3 := zW1_bd h hr hq (show 3 < 4 by omega)
  unfold zAW
  generalize zW1 X r q 0 = a at *
  generalize zW1 X r q 1 = b at *
  generalize zW1 X r q 2 = c at *
  generalize zW1 X r q 3 = d at *
  simp only [zS] at a0 a1 a2 a3
  have b1 : 0 ≤ a * b := Int.mul_nonneg a0.1 a1.1
  have b2 : a * b ≤ 256 * 256 := Int.mul_le_mul a0.2 a1.2 a1.1 (by omega)
  have c1 : 0 ≤ a * b * c := Int.mul_nonneg b1 a2.1
  have c2 : a * b * c ≤ 256 * 256 * 1024 := Int.mul_le_mul b2 a2.2 a2.1 (by omega)
  have d1 : 0 ≤ a * b * c * d := Int.mul_nonneg c1 a3.1
  have d2 : a * b * c * d ≤ 256 * 256 * 1024 * 4 := Int.mul_le_mul c2 a3.2 a3.1 (by omega)
  rw [Int.one_mul]
  omega
end
section
/-! ===== sets of RULES, as numbers ===== -/
theorem zi_shl1 {i : Nat} (h : i < 31) : zi 1 <<< (zi (i : Int) &&& 31) = zi ((2 ^ i : Nat) : Int) := by
  have key : ∀ j : Fin 31, zi 1 <<< (zi ((j.val : Nat) : Int) &&& 31) = zi ((2 ^ j.val : Nat) : Int) := by decide +kernel
  exact key ⟨i, h⟩
/-- the bit i of a -/
def zbit (a i : Nat) : Nat := a / 2 ^ i % 2
theorem zbit_le (a i : Nat) : zbit a i ≤ 1 := by unfold zbit; omega
theorem zbit_iff (a i : Nat) : zbit a i = 1 ↔ a.testBit i = true := by
  unfold zbit
  rw [Nat.testBit_eq_decide_div_mod_eq, decide_eq_true_iff]
theorem zi_shr {a i : Nat} (ha : a < 256) (hi : i < 8) : zi (a : Int) >>> (zi (i : Int) &&& 31) = zi ((a / 2 ^ i : Nat) : Int) := by
  have key : ∀ (x : Fin 256) (j : Fin 8), zi ((x.val : Nat) : Int) >>> (zi ((j.val : Nat) : Int) &&& 31) = zi ((x.val / 2 ^ j.val : Nat) : Int) := by decide +kernel
  exact key ⟨a, ha⟩ ⟨i, hi⟩
theorem zi_and1 (a i : Nat) : zi ((a / 2 ^ i : Nat) : Int) &&& zi 1 = zi ((zbit a i : Nat) : Int) := by
  have h := zi_and (a / 2 ^ i) 1
  rw [Nat.and_one_is_mod] at h
  exact h
/-- the numbers below n that p holds of -/
def zSet : Nat → (Nat → Bool) → Nat
  | 0, _ => 0
  | n + 1, p => if p n = true then zSet n p ||| 2 ^ n else zSet n p
theorem zSet_lt (n : Nat) (p : Nat → Bool) : zSet n p < 2 ^ n := by
  induction n with
  | zero => exact Nat.one_pos
  | succ n ih =>
    have h2 : (2 : Nat) ^ n < 2 ^ (n + 1) := Nat.pow_lt_pow_right (by omega) (Nat.lt_succ_self n)
    unfold zSet
    split
    · exact Nat.or_lt_two_pow (Nat.lt_trans ih h2) h2
    · exact Nat.lt_trans ih h2
theorem zSet_bit (n : Nat) (p : Nat → Bool) (i : Nat) : (zSet n p).testBit i = (decide (i < n) && p i) := by
  induction n with
  | zero => unfold zSet; simp
  | succ n ih =>
    unfold zSet
    by_cases h : p n = true
    · rw [if_pos h, Nat.testBit_or, ih, Nat.testBit_two_pow]
      by_cases hi : i = n
      · subst hi; simp [h]
      · have h1 : (i < n + 1) = (i < n) := by apply propext; omega
        have h2 : ¬ n = i := fun q => hi q.symm
        simp [h1, h2]
    · rw [if_neg h, ih]
      by_cases hi : i = n
      · subst hi; simp [h]
      · have h1 : (i < n + 1) = (i < n) := by apply propext; omega
        simp [h1]
theorem zSet_256 {n : Nat} (hn : n ≤ 8) (p : Nat → Bool) : zSet n p < 256 := Nat.lt_of_lt_of_le (zSet_lt n p) (Nat.pow_le_pow_right (by omega) hn)
theorem zSet_yes {n : Nat} {p : Nat → Bool} (h : p n = true) : zSet (n + 1) p = zSet n p ||| 2 ^ n := by
  show (if p n = true then _ else _) = _
  rw [if_pos h]
theorem zSet_no {n : Nat} {p : Nat → Bool} (h : ¬ p n = true) : zSet (n + 1) p = zSet n p := by
  show (if p n = true then _ else _) = _
  rw [if_neg h]
/-- how many RULES a wall has; its sets; the first of a set -/
def zN (X : Nat → Nat → Int) (a : Nat) : Nat := (X a 1).toNat
theorem zV.n {X : Nat → Nat → Int} (h : zV X) {a : Nat} (ha : zIsW a) : X a 1 = (zN X a : Int) ∧ zN X a ≤ 8 := by
  have := (h.wok ha).1
  unfold zN
  omega
def zHasB (X : Nat → Nat → Int) (r f : Nat) (v : Int) : Bool := decide (X (r + 1) f ≤ v) && decide (v ≤ X (r + 2) f)
theorem zHasB_iff {X : Nat → Nat → Int} {r f : Nat} {v : Int} : zHasB X r f v = true ↔ X (r + 1) f ≤ v ∧ v ≤ X (r + 2) f := by
  unfold zHasB
  rw [Bool.and_eq_true, decide_eq_true_iff, decide_eq_true_iff]
def zPd (X : Nat → Nat → Int) (a : Nat) : Nat → Bool := fun i => decide (X (zr X a i) 0 ≠ 2)
def zPh (X : Nat → Nat → Int) (a f : Nat) (v : Int) : Nat → Bool := fun i => zHasB X (zr X a i) f v
def zDec (X : Nat → Nat → Int) (a : Nat) : Nat := zSet (zN X a) (zPd X a)
def zHav (X : Nat → Nat → Int) (a f : Nat) (v : Int) : Nat := zSet (zN X a) (zPh X a f v)
def zFi (n u k : Nat) : Prop := k < n ∧ u.testBit k = true ∧ ∀ j : Nat, j < k → u.testBit j = false
def zNo (n u : Nat) : Prop := ∀ j : Nat, j < n → u.testBit j = false
theorem zFi.uniq {n u k k' : Nat} (h : zFi n u k) (h' : zFi n u k') : k = k' := by
  rcases Nat.lt_trichotomy k k' with q | q | q
  · have h1 := h'.2.2 k q
    rw [h.2.1] at h1
    cases h1
  · exact q
  · have h1 := h.2.2 k' q
    rw [h'.2.1] at h1
    cases h1
theorem zFi.no {n u k : Nat} (h : zFi n u k) (h' : zNo n u) : False := by
  have h1 := h' k h.1
  rw [h.2.1] at h1
  cases h1
/-- what a set of RULES that MEET allows; whether it is settled from a FIELD on -/
def zAl (X : Nat → Nat → Int) (a u : Nat) : Prop := (∃ k : Nat, zFi (zN X a) u k ∧ X (zr X a k) 0 = 1) ∨ (zNo (zN X a) u ∧ X a 2 = 1)
def zSe (X : Nat → Nat → Int) (a f u : Nat) : Prop := zNo (zN X a) u ∨ ∃ k : Nat, zFi (zN X a) u k ∧ zWhole X (zr X a k) f
theorem zAl_no {X : Nat → Nat → Int} {a u : Nat} (h : zNo (zN X a) u) : zAl X a u ↔ X a 2 = 1 :=
  ⟨fun q => q.elim (fun ⟨_, hk, _⟩ => (hk.no h).elim) (fun q => q.2), fun q => Or.inr ⟨h, q⟩⟩
theorem zAl_fi {X : Nat → Nat → Int} {a u k : Nat} (h : zFi (zN X a) u k) : zAl X a u ↔ X (zr X a k) 0 = 1 :=
  ⟨fun q => q.elim (fun ⟨_, hk, e⟩ => by rw [h.uniq hk]; exact e) (fun q => (h.no q.1).elim), fun q => Or.inl ⟨k, h, q⟩⟩
theorem zSe_fi {X : Nat → Nat → Int} {a f u k : Nat} (h : zFi (zN X a) u k) : zSe X a f u ↔ zWhole X (zr X a k) f :=
  ⟨fun q => q.elim (fun q => (h.no q).elim) (fun ⟨_, hk, e⟩ => by rw [h.uniq hk]; exact e), fun q => Or.inr ⟨k, h, q⟩⟩
theorem zbool {z : Int} (h : z = 0 ∨ z = 1) : narrow .boolean (.int (zi z)) = .int (zi z) := by
  rcases h with rfl | rfl <;> rfl
/-- a place where a piece may end -/
def zCutAt (X : Nat → Nat → Int) (a f n : Nat) (w : Int) : Prop := w = zS f ∨ ∃ j : Nat, j < n ∧ (w = X (zr X a j + 1) f ∨ w = X (zr X a j + 2) f + 1)
theorem zCutAt.succ {X : Nat → Nat → Int} {a f n : Nat} {w : Int} (h : zCutAt X a f n w) : zCutAt X a f (n + 1) w := h.elim Or.inl (fun ⟨j, hj, e⟩ => Or.inr ⟨j, Nat.lt_succ_of_lt hj, e⟩)
theorem zCutAt.lo (X : Nat → Nat → Int) (a f n : Nat) : zCutAt X a f (n + 1) (X (zr X a n + 1) f) := Or.inr ⟨n, Nat.lt_succ_self n, Or.inl rfl⟩
theorem zCutAt.hi (X : Nat → Nat → Int) (a f n : Nat) : zCutAt X a f (n + 1) (X (zr X a n + 2) f + 1) := Or.inr ⟨n, Nat.lt_succ_self n, Or.inr rfl⟩
theorem zCutAt.min {X : Nat → Nat → Int} {a f n : Nat} {w v : Int} (h : zCutAt X a f n w) (h2 : zCutAt X a f n v) : zCutAt X a f n (min w v) := by
  by_cases q : w ≤ v
  · rw [Int.min_eq_left q]; exact h
  · rw [Int.min_eq_right (by omega)]; exact h2
/-- the rule j of a wall covers the rule q -/
def zCvr (X : Nat → Nat → Int) (a q j : Nat) : Prop := X (zr X a j) 0 ≠ 2 ∧ zCov X (zr X a j) (zr X a q)
/-- the first of a set, as firstOf says it; the first that covers -/
def zIsF (n u : Nat) (w : Int) : Prop := (∃ k : Nat, w = (k : Int) ∧ zFi n u k) ∨ (w = -1 ∧ zNo n u)
def zIsC (X : Nat → Nat → Int) (a q : Nat) (w : Int) : Prop := (∃ k : Nat, w = (k : Int) ∧ zCvr X a q k ∧ ∀ j : Nat, j < k → ¬ zCvr X a q j) ∨ (w = -1 ∧ ∀ j : Nat, j < q → ¬ zCvr X a q j)
end
section
/-! RULES -/
theorem dX3_isNote_0 : decode cX3_isNote 0 = .ok (.aload_n 0, 1) := by decide +kernel
theorem dX3_isNote_1 : decode cX3_isNote 1 = .ok (.getfield 18, 3) := by decide +kernel
theorem dX3_isNote_4 : decode cX3_isNote 4 = .ok (.iconst 2, 1) := by decide +kernel
theorem dX3_isNote_5 : decode cX3_isNote 5 = .ok (.if_icmp .ne 7, 3) := by decide +kernel
theorem dX3_isNote_12 : decode cX3_isNote 12 = .ok (.iconst 0, 1) := by decide +kernel
theorem dX3_isNote_13 : decode cX3_isNote 13 = .ok (.ireturn, 1) := by decide +kernel
theorem dX3_isNote_8 : decode cX3_isNote 8 = .ok (.iconst 1, 1) := by decide +kernel
theorem dX3_isNote_9 : decode cX3_isNote 9 = .ok (.goto 4, 3) := by decide +kernel
theorem dX3_width_0 : decode cX3_width 0 = .ok (.aload_n 0, 1) := by decide +kernel
theorem dX3_width_1 : decode cX3_width 1 = .ok (.getfield 15, 3) := by decide +kernel
theorem dX3_width_4 : decode cX3_width 4 = .ok (.iload_n 1, 1) := by decide +kernel
theorem dX3_width_5 : decode cX3_width 5 = .ok (.iaload, 1) := by decide +kernel
theorem dX3_width_6 : decode cX3_width 6 = .ok (.aload_n 0, 1) := by decide +kernel
theorem dX3_width_7 : decode cX3_width 7 = .ok (.getfield 9, 3) := by decide +kernel
theorem dX3_width_10 : decode cX3_width 10 = .ok (.iload_n 1, 1) := by decide +kernel
theorem dX3_width_11 : decode cX3_width 11 = .ok (.iaload, 1) := by decide +kernel
theorem dX3_width_12 : decode cX3_width 12 = .ok (.isub, 1) := by decide +kernel
theorem dX3_width_13 : decode cX3_width 13 = .ok (.iconst 1, 1) := by decide +kernel
theorem dX3_width_14 : decode cX3_width 14 = .ok (.iadd, 1) := by decide +kernel
theorem dX3_width_15 : decode cX3_width 15 = .ok (.ireturn, 1) := by decide +kernel
theorem dX3_has_0 : decode cX3_has 0 = .ok (.aload_n 0, 1) := by decide +kernel
theorem dX3_has_1 : decode cX3_has 1 = .ok (.getfield 9, 3) := by decide +kernel
theorem dX3_has_4 : decode cX3_has 4 = .ok (.iload_n 1, 1) := by decide +kernel
theorem dX3_has_5 : decode cX3_has 5 = .ok (.iaload, 1) := by decide +kernel
theorem dX3_has_6 : decode cX3_has 6 = .ok (.iload_n 2, 1) := by decide +kernel
theorem dX3_has_7 : decode cX3_has 7 = .ok (.if_icmp .gt 17, 3) := by decide +kernel
theorem dX3_has_24 : decode cX3_has 24 = .ok (.iconst 0, 1) := by decide +kernel
theorem dX3_has_25 : decode cX3_has 25 = .ok (.ireturn, 1) := by decide +kernel
theorem dX3_has_10 : decode cX3_has 10 = .ok (.iload_n 2, 1) := by decide +kernel
theorem dX3_has_11 : decode cX3_has 11 = .ok (.aload_n 0, 1) := by decide +kernel
theorem dX3_has_12 : decode cX3_has 12 = .ok (.getfield 15, 3) := by decide +kernel
theorem dX3_has_15 : decode cX3_has 15 = .ok (.iload_n 1, 1) := by decide +kernel
theorem dX3_has_16 : decode cX3_has 16 = .ok (.iaload, 1) := by decide +kernel
theorem dX3_has_17 : decode cX3_has 17 = .ok (.if_icmp .gt 7, 3) := by decide +kernel
theorem dX3_has_20 : decode cX3_has 20 = .ok (.iconst 1, 1) := by decide +kernel
theorem dX3_has_21 : decode cX3_has 21 = .ok (.goto 4, 3) := by decide +kernel
theorem dX3_isWholeFrom_0 : decode cX3_isWholeFrom 0 = .ok (.iload_n 1, 1) := by decide +kernel
theorem dX3_isWholeFrom_1 : decode cX3_isWholeFrom 1 = .ok (.istore_n 2, 1) := by decide +kernel
theorem dX3_isWholeFrom_2 : decode cX3_isWholeFrom 2 = .ok (.iload_n 2, 1) := by decide +kernel
theorem dX3_isWholeFrom_3 : decode cX3_isWholeFrom 3 = .ok (.iconst 4, 1) := by decide +kernel
theorem dX3_isWholeFrom_4 : decode cX3_isWholeFrom 4 = .ok (.if_icmp .ge 36, 3) := by decide +kernel
theorem dX3_isWholeFrom_40 : decode cX3_isWholeFrom 40 = .ok (.iconst 1, 1) := by decide +kernel
theorem dX3_isWholeFrom_41 : decode cX3_isWholeFrom 41 = .ok (.ireturn, 1) := by decide +kernel
theorem dX3_isWholeFrom_7 : decode cX3_isWholeFrom 7 = .ok (.aload_n 0, 1) := by decide +kernel
theorem dX3_isWholeFrom_8 : decode cX3_isWholeFrom 8 = .ok (.getfield 9, 3) := by decide +kernel
theorem dX3_isWholeFrom_11 : decode cX3_isWholeFrom 11 = .ok (.iload_n 2, 1) := by decide +kernel
theorem dX3_isWholeFrom_12 : decode cX3_isWholeFrom 12 = .ok (.iaload, 1) := by decide +kernel
theorem dX3_isWholeFrom_13 : decode cX3_isWholeFrom 13 = .ok (.ifCond .ne 19, 3) := by decide +kernel
theorem dX3_isWholeFrom_32 : decode cX3_isWholeFrom 32 = .ok (.iconst 0, 1) := by decide +kernel
theorem dX3_isWholeFrom_33 : decode cX3_isWholeFrom 33 = .ok (.ireturn, 1) := by decide +kernel
theorem dX3_isWholeFrom_16 : decode cX3_isWholeFrom 16 = .ok (.aload_n 0, 1) := by decide +kernel
theorem dX3_isWholeFrom_17 : decode cX3_isWholeFrom 17 = .ok (.getfield 15, 3) := by decide +kernel
theorem dX3_isWholeFrom_20 : decode cX3_isWholeFrom 20 = .ok (.iload_n 2, 1) := by decide +kernel
theorem dX3_isWholeFrom_21 : decode cX3_isWholeFrom 21 = .ok (.iaload, 1) := by decide +kernel
theorem dX3_isWholeFrom_22 : decode cX3_isWholeFrom 22 = .ok (.getstatic 25, 3) := by decide +kernel
theorem dX3_isWholeFrom_25 : decode cX3_isWholeFrom 25 = .ok (.iload_n 2, 1) := by decide +kernel
theorem dX3_isWholeFrom_26 : decode cX3_isWholeFrom 26 = .ok (.iaload, 1) := by decide +kernel
theorem dX3_isWholeFrom_27 : decode cX3_isWholeFrom 27 = .ok (.iconst 1, 1) := by decide +kernel
theorem dX3_isWholeFrom_28 : decode cX3_isWholeFrom 28 = .ok (.isub, 1) := by decide +kernel
theorem dX3_isWholeFrom_29 : decode cX3_isWholeFrom 29 = .ok (.if_icmp .eq 5, 3) := by decide +kernel
theorem dX3_isWholeFrom_34 : decode cX3_isWholeFrom 34 = .ok (.iinc 2 1, 3) := by decide +kernel
theorem dX3_isWholeFrom_37 : decode cX3_isWholeFrom 37 = .ok (.goto (-35), 3) := by decide +kernel
theorem dX3_meets_0 : decode cX3_meets 0 = .ok (.iconst 0, 1) := by decide +kernel
theorem dX3_meets_1 : decode cX3_meets 1 = .ok (.istore_n 2, 1) := by decide +kernel
theorem dX3_meets_2 : decode cX3_meets 2 = .ok (.iload_n 2, 1) := by decide +kernel
theorem dX3_meets_3 : decode cX3_meets 3 = .ok (.iconst 4, 1) := by decide +kernel
theorem dX3_meets_4 : decode cX3_meets 4 = .ok (.if_icmp .ge 22, 3) := by decide +kernel
theorem dX3_meets_26 : decode cX3_meets 26 = .ok (.iconst 1, 1) := by decide +kernel
theorem dX3_meets_27 : decode cX3_meets 27 = .ok (.ireturn, 1) := by decide +kernel
theorem dX3_meets_7 : decode cX3_meets 7 = .ok (.aload_n 0, 1) := by decide +kernel
theorem dX3_meets_8 : decode cX3_meets 8 = .ok (.iload_n 2, 1) := by decide +kernel
theorem dX3_meets_9 : decode cX3_meets 9 = .ok (.aload_n 1, 1) := by decide +kernel
theorem dX3_meets_10 : decode cX3_meets 10 = .ok (.iload_n 2, 1) := by decide +kernel
theorem dX3_meets_11 : decode cX3_meets 11 = .ok (.iaload, 1) := by decide +kernel
set_option maxRecDepth 20000 in
theorem ggX3_meets_X3_has : GoodIn wsX3_meets wsX3_has := goodIn_r _ [5, 6, 7, 8, 9, 10, 11] (by decide +kernel) (by decide +kernel)
set_option maxRecDepth 20000 in
theorem gX3_meets_X3_has : GoodIn wsX3_meets (wsV RX3 28 RX3 yX3_has wsX3_has) := goodIn_app (goodIn_of _ (by decide +kernel)) ggX3_meets_X3_has
theorem dX3_meets_12 : decode cX3_meets 12 = .ok (.invokevirtual 28, 3) := by decide +kernel
theorem dX3_meets_15 : decode cX3_meets 15 = .ok (.ifCond .ne 5, 3) := by decide +kernel
theorem dX3_meets_20 : decode cX3_meets 20 = .ok (.iinc 2 1, 3) := by decide +kernel
theorem dX3_meets_23 : decode cX3_meets 23 = .ok (.goto (-21), 3) := by decide +kernel
theorem dX3_meets_18 : decode cX3_meets 18 = .ok (.iconst 0, 1) := by decide +kernel
theorem dX3_meets_19 : decode cX3_meets 19 = .ok (.ireturn, 1) := by decide +kernel
theorem dX3_covers_0 : decode cX3_covers 0 = .ok (.iconst 0, 1) := by decide +kernel
theorem dX3_covers_1 : decode cX3_covers 1 = .ok (.istore_n 2, 1) := by decide +kernel
theorem dX3_covers_2 : decode cX3_covers 2 = .ok (.iload_n 2, 1) := by decide +kernel
theorem dX3_covers_3 : decode cX3_covers 3 = .ok (.iconst 4, 1) := by decide +kernel
theorem dX3_covers_4 : decode cX3_covers 4 = .ok (.if_icmp .ge 41, 3) := by decide +kernel
theorem dX3_covers_45 : decode cX3_covers 45 = .ok (.iconst 1, 1) := by decide +kernel
theorem dX3_covers_46 : decode cX3_covers 46 = .ok (.ireturn, 1) := by decide +kernel
theorem dX3_covers_7 : decode cX3_covers 7 = .ok (.aload_n 1, 1) := by decide +kernel
theorem dX3_covers_8 : decode cX3_covers 8 = .ok (.getfield 9, 3) := by decide +kernel
theorem dX3_covers_11 : decode cX3_covers 11 = .ok (.iload_n 2, 1) := by decide +kernel
theorem dX3_covers_12 : decode cX3_covers 12 = .ok (.iaload, 1) := by decide +kernel
theorem dX3_covers_13 : decode cX3_covers 13 = .ok (.aload_n 0, 1) := by decide +kernel
theorem dX3_covers_14 : decode cX3_covers 14 = .ok (.getfield 9, 3) := by decide +kernel
theorem dX3_covers_17 : decode cX3_covers 17 = .ok (.iload_n 2, 1) := by decide +kernel
theorem dX3_covers_18 : decode cX3_covers 18 = .ok (.iaload, 1) := by decide +kernel
theorem dX3_covers_19 : decode cX3_covers 19 = .ok (.if_icmp .lt 18, 3) := by decide +kernel
theorem dX3_covers_37 : decode cX3_covers 37 = .ok (.iconst 0, 1) := by decide +kernel
theorem dX3_covers_38 : decode cX3_covers 38 = .ok (.ireturn, 1) := by decide +kernel
theorem dX3_covers_22 : decode cX3_covers 22 = .ok (.aload_n 1, 1) := by decide +kernel
theorem dX3_covers_23 : decode cX3_covers 23 = .ok (.getfield 15, 3) := by decide +kernel
theorem dX3_covers_26 : decode cX3_covers 26 = .ok (.iload_n 2, 1) := by decide +kernel
theorem dX3_covers_27 : decode cX3_covers 27 = .ok (.iaload, 1) := by decide +kernel
theorem dX3_covers_28 : decode cX3_covers 28 = .ok (.aload_n 0, 1) := by decide +kernel
theorem dX3_covers_29 : decode cX3_covers 29 = .ok (.getfield 15, 3) := by decide +kernel
theorem dX3_covers_32 : decode cX3_covers 32 = .ok (.iload_n 2, 1) := by decide +kernel
theorem dX3_covers_33 : decode cX3_covers 33 = .ok (.iaload, 1) := by decide +kernel
theorem dX3_covers_34 : decode cX3_covers 34 = .ok (.if_icmp .le 5, 3) := by decide +kernel
theorem dX3_covers_39 : decode cX3_covers 39 = .ok (.iinc 2 1, 3) := by decide +kernel
theorem dX3_covers_42 : decode cX3_covers 42 = .ok (.goto (-40), 3) := by decide +kernel
theorem dX3_amountWith_0 : decode cX3_amountWith 0 = .ok (.iconst 1, 1) := by decide +kernel
theorem dX3_amountWith_1 : decode cX3_amountWith 1 = .ok (.istore_n 2, 1) := by decide +kernel
theorem dX3_amountWith_2 : decode cX3_amountWith 2 = .ok (.iconst 0, 1) := by decide +kernel
theorem dX3_amountWith_3 : decode cX3_amountWith 3 = .ok (.istore_n 3, 1) := by decide +kernel
theorem dX3_amountWith_4 : decode cX3_amountWith 4 = .ok (.iload_n 3, 1) := by decide +kernel
theorem dX3_amountWith_5 : decode cX3_amountWith 5 = .ok (.iconst 4, 1) := by decide +kernel
theorem dX3_amountWith_6 : decode cX3_amountWith 6 = .ok (.if_icmp .ge 57, 3) := by decide +kernel
theorem dX3_amountWith_9 : decode cX3_amountWith 9 = .ok (.aload_n 0, 1) := by decide +kernel
theorem dX3_amountWith_10 : decode cX3_amountWith 10 = .ok (.getfield 9, 3) := by decide +kernel
theorem dX3_amountWith_13 : decode cX3_amountWith 13 = .ok (.iload_n 3, 1) := by decide +kernel
theorem dX3_amountWith_14 : decode cX3_amountWith 14 = .ok (.iaload, 1) := by decide +kernel
theorem dX3_amountWith_15 : decode cX3_amountWith 15 = .ok (.aload_n 1, 1) := by decide +kernel
theorem dX3_amountWith_16 : decode cX3_amountWith 16 = .ok (.getfield 9, 3) := by decide +kernel
theorem dX3_amountWith_19 : decode cX3_amountWith 19 = .ok (.iload_n 3, 1) := by decide +kernel
theorem dX3_amountWith_20 : decode cX3_amountWith 20 = .ok (.iaload, 1) := by decide +kernel
theorem dX3_amountWith_21 : decode cX3_amountWith 21 = .ok (.invokestatic 32, 3) := by decide +kernel
theorem dX3_amountWith_24 : decode cX3_amountWith 24 = .ok (.istore 4, 2) := by decide +kernel
theorem dX3_amountWith_26 : decode cX3_amountWith 26 = .ok (.aload_n 0, 1) := by decide +kernel
theorem dX3_amountWith_27 : decode cX3_amountWith 27 = .ok (.getfield 15, 3) := by decide +kernel
theorem dX3_amountWith_30 : decode cX3_amountWith 30 = .ok (.iload_n 3, 1) := by decide +kernel
theorem dX3_amountWith_31 : decode cX3_amountWith 31 = .ok (.iaload, 1) := by decide +kernel
theorem dX3_amountWith_32 : decode cX3_amountWith 32 = .ok (.aload_n 1, 1) := by decide +kernel
theorem dX3_amountWith_33 : decode cX3_amountWith 33 = .ok (.getfield 15, 3) := by decide +kernel
theorem dX3_amountWith_36 : decode cX3_amountWith 36 = .ok (.iload_n 3, 1) := by decide +kernel
theorem dX3_amountWith_37 : decode cX3_amountWith 37 = .ok (.iaload, 1) := by decide +kernel
theorem dX3_amountWith_38 : decode cX3_amountWith 38 = .ok (.invokestatic 38, 3) := by decide +kernel
theorem dX3_amountWith_41 : decode cX3_amountWith 41 = .ok (.istore 5, 2) := by decide +kernel
theorem dX3_amountWith_43 : decode cX3_amountWith 43 = .ok (.iload_n 2, 1) := by decide +kernel
theorem dX3_amountWith_44 : decode cX3_amountWith 44 = .ok (.iconst 0, 1) := by decide +kernel
theorem dX3_amountWith_45 : decode cX3_amountWith 45 = .ok (.iload 5, 2) := by decide +kernel
theorem dX3_amountWith_47 : decode cX3_amountWith 47 = .ok (.iload 4, 2) := by decide +kernel
theorem dX3_amountWith_49 : decode cX3_amountWith 49 = .ok (.isub, 1) := by decide +kernel
theorem dX3_amountWith_50 : decode cX3_amountWith 50 = .ok (.iconst 1, 1) := by decide +kernel
theorem dX3_amountWith_51 : decode cX3_amountWith 51 = .ok (.iadd, 1) := by decide +kernel
theorem dX3_amountWith_52 : decode cX3_amountWith 52 = .ok (.invokestatic 32, 3) := by decide +kernel
theorem dX3_amountWith_55 : decode cX3_amountWith 55 = .ok (.imul, 1) := by decide +kernel
theorem dX3_amountWith_56 : decode cX3_amountWith 56 = .ok (.istore_n 2, 1) := by decide +kernel
theorem dX3_amountWith_57 : decode cX3_amountWith 57 = .ok (.iinc 3 1, 3) := by decide +kernel
theorem dX3_amountWith_60 : decode cX3_amountWith 60 = .ok (.goto (-56), 3) := by decide +kernel
theorem dX3_amountWith_63 : decode cX3_amountWith 63 = .ok (.iload_n 2, 1) := by decide +kernel
theorem dX3_amountWith_64 : decode cX3_amountWith 64 = .ok (.ireturn, 1) := by decide +kernel
theorem dX3_isAgainst_0 : decode cX3_isAgainst 0 = .ok (.aload_n 0, 1) := by decide +kernel
set_option maxRecDepth 20000 in
theorem ggX3_isAgainst_X3_isNote : GoodIn wsX3_isAgainst wsX3_isNote := goodIn_r _ [6, 1, 20, 21, 22, 23] (by decide +kernel) (by decide +kernel)
set_option maxRecDepth 20000 in
theorem gX3_isAgainst_X3_isNote : GoodIn wsX3_isAgainst (wsV RX3 41 RX3 yX3_isNote wsX3_isNote) := goodIn_app (goodIn_of _ (by decide +kernel)) ggX3_isAgainst_X3_isNote
theorem dX3_isAgainst_1 : decode cX3_isAgainst 1 = .ok (.invokevirtual 41, 3) := by decide +kernel
theorem dX3_isAgainst_4 : decode cX3_isAgainst 4 = .ok (.ifCond .ne 33, 3) := by decide +kernel
theorem dX3_isAgainst_37 : decode cX3_isAgainst 37 = .ok (.iconst 0, 1) := by decide +kernel
theorem dX3_isAgainst_38 : decode cX3_isAgainst 38 = .ok (.ireturn, 1) := by decide +kernel
theorem dX3_isAgainst_7 : decode cX3_isAgainst 7 = .ok (.aload_n 1, 1) := by decide +kernel
theorem dX3_isAgainst_8 : decode cX3_isAgainst 8 = .ok (.invokevirtual 41, 3) := by decide +kernel
theorem dX3_isAgainst_11 : decode cX3_isAgainst 11 = .ok (.ifCond .ne 26, 3) := by decide +kernel
theorem dX3_isAgainst_14 : decode cX3_isAgainst 14 = .ok (.aload_n 0, 1) := by decide +kernel
theorem dX3_isAgainst_15 : decode cX3_isAgainst 15 = .ok (.getfield 18, 3) := by decide +kernel
theorem dX3_isAgainst_18 : decode cX3_isAgainst 18 = .ok (.aload_n 1, 1) := by decide +kernel
theorem dX3_isAgainst_19 : decode cX3_isAgainst 19 = .ok (.getfield 18, 3) := by decide +kernel
theorem dX3_isAgainst_22 : decode cX3_isAgainst 22 = .ok (.if_icmp .eq 15, 3) := by decide +kernel
theorem dX3_isAgainst_25 : decode cX3_isAgainst 25 = .ok (.aload_n 0, 1) := by decide +kernel
theorem dX3_isAgainst_26 : decode cX3_isAgainst 26 = .ok (.aload_n 1, 1) := by decide +kernel
set_option maxRecDepth 20000 in
theorem ggX3_isAgainst_X3_amountWith : GoodIn wsX3_isAgainst wsX3_amountWith := goodIn_r _ [10, 11, 12, 13, 14, 15, 16, 17, 18, 19, 20, 21, 22, 23] (by decide +kernel) (by decide +kernel)
set_option maxRecDepth 20000 in
theorem gX3_isAgainst_X3_amountWith : GoodIn wsX3_isAgainst (wsV RX3 45 RX3 yX3_amountWith wsX3_amountWith) := goodIn_app (goodIn_of _ (by decide +kernel)) ggX3_isAgainst_X3_amountWith
theorem dX3_isAgainst_27 : decode cX3_isAgainst 27 = .ok (.invokevirtual 45, 3) := by decide +kernel
theorem dX3_isAgainst_30 : decode cX3_isAgainst 30 = .ok (.ifCond .le 7, 3) := by decide +kernel
theorem dX3_isAgainst_33 : decode cX3_isAgainst 33 = .ok (.iconst 1, 1) := by decide +kernel
theorem dX3_isAgainst_34 : decode cX3_isAgainst 34 = .ok (.goto 4, 3) := by decide +kernel
theorem dX3_reset_0 : decode cX3_reset 0 = .ok (.aload_n 0, 1) := by decide +kernel
theorem dX3_reset_1 : decode cX3_reset 1 = .ok (.iload_n 1, 1) := by decide +kernel
theorem dX3_reset_2 : decode cX3_reset 2 = .ok (.putfield 18, 3) := by decide +kernel
theorem dX3_reset_5 : decode cX3_reset 5 = .ok (.aload_n 0, 1) := by decide +kernel
theorem dX3_reset_6 : decode cX3_reset 6 = .ok (.iconst 0, 1) := by decide +kernel
theorem dX3_reset_7 : decode cX3_reset 7 = .ok (.putfield 22, 3) := by decide +kernel
theorem dX3_reset_10 : decode cX3_reset 10 = .ok (.iconst 0, 1) := by decide +kernel
theorem dX3_reset_11 : decode cX3_reset 11 = .ok (.istore_n 2, 1) := by decide +kernel
theorem dX3_reset_12 : decode cX3_reset 12 = .ok (.iload_n 2, 1) := by decide +kernel
theorem dX3_reset_13 : decode cX3_reset 13 = .ok (.iconst 4, 1) := by decide +kernel
theorem dX3_reset_14 : decode cX3_reset 14 = .ok (.if_icmp .ge 29, 3) := by decide +kernel
theorem dX3_reset_43 : decode cX3_reset 43 = .ok (.return_, 1) := by decide +kernel
theorem dX3_reset_17 : decode cX3_reset 17 = .ok (.aload_n 0, 1) := by decide +kernel
theorem dX3_reset_18 : decode cX3_reset 18 = .ok (.getfield 9, 3) := by decide +kernel
theorem dX3_reset_21 : decode cX3_reset 21 = .ok (.iload_n 2, 1) := by decide +kernel
theorem dX3_reset_22 : decode cX3_reset 22 = .ok (.iconst 0, 1) := by decide +kernel
theorem dX3_reset_23 : decode cX3_reset 23 = .ok (.iastore, 1) := by decide +kernel
theorem dX3_reset_24 : decode cX3_reset 24 = .ok (.aload_n 0, 1) := by decide +kernel
theorem dX3_reset_25 : decode cX3_reset 25 = .ok (.getfield 15, 3) := by decide +kernel
theorem dX3_reset_28 : decode cX3_reset 28 = .ok (.iload_n 2, 1) := by decide +kernel
theorem dX3_reset_29 : decode cX3_reset 29 = .ok (.getstatic 25, 3) := by decide +kernel
theorem dX3_reset_32 : decode cX3_reset 32 = .ok (.iload_n 2, 1) := by decide +kernel
theorem dX3_reset_33 : decode cX3_reset 33 = .ok (.iaload, 1) := by decide +kernel
theorem dX3_reset_34 : decode cX3_reset 34 = .ok (.iconst 1, 1) := by decide +kernel
theorem dX3_reset_35 : decode cX3_reset 35 = .ok (.isub, 1) := by decide +kernel
theorem dX3_reset_36 : decode cX3_reset 36 = .ok (.iastore, 1) := by decide +kernel
theorem dX3_reset_37 : decode cX3_reset 37 = .ok (.iinc 2 1, 3) := by decide +kernel
theorem dX3_reset_40 : decode cX3_reset 40 = .ok (.goto (-28), 3) := by decide +kernel
theorem dX3_takeFrom_0 : decode cX3_takeFrom 0 = .ok (.aload_n 0, 1) := by decide +kernel
theorem dX3_takeFrom_1 : decode cX3_takeFrom 1 = .ok (.aload_n 1, 1) := by decide +kernel
theorem dX3_takeFrom_2 : decode cX3_takeFrom 2 = .ok (.getfield 18, 3) := by decide +kernel
theorem dX3_takeFrom_5 : decode cX3_takeFrom 5 = .ok (.putfield 18, 3) := by decide +kernel
theorem dX3_takeFrom_8 : decode cX3_takeFrom 8 = .ok (.iconst 0, 1) := by decide +kernel
theorem dX3_takeFrom_9 : decode cX3_takeFrom 9 = .ok (.istore_n 2, 1) := by decide +kernel
theorem dX3_takeFrom_10 : decode cX3_takeFrom 10 = .ok (.iload_n 2, 1) := by decide +kernel
theorem dX3_takeFrom_11 : decode cX3_takeFrom 11 = .ok (.iconst 4, 1) := by decide +kernel
theorem dX3_takeFrom_12 : decode cX3_takeFrom 12 = .ok (.if_icmp .ge 33, 3) := by decide +kernel
theorem dX3_takeFrom_45 : decode cX3_takeFrom 45 = .ok (.return_, 1) := by decide +kernel
theorem dX3_takeFrom_15 : decode cX3_takeFrom 15 = .ok (.aload_n 0, 1) := by decide +kernel
theorem dX3_takeFrom_16 : decode cX3_takeFrom 16 = .ok (.getfield 9, 3) := by decide +kernel
theorem dX3_takeFrom_19 : decode cX3_takeFrom 19 = .ok (.iload_n 2, 1) := by decide +kernel
theorem dX3_takeFrom_20 : decode cX3_takeFrom 20 = .ok (.aload_n 1, 1) := by decide +kernel
theorem dX3_takeFrom_21 : decode cX3_takeFrom 21 = .ok (.getfield 9, 3) := by decide +kernel
theorem dX3_takeFrom_24 : decode cX3_takeFrom 24 = .ok (.iload_n 2, 1) := by decide +kernel
theorem dX3_takeFrom_25 : decode cX3_takeFrom 25 = .ok (.iaload, 1) := by decide +kernel
theorem dX3_takeFrom_26 : decode cX3_takeFrom 26 = .ok (.iastore, 1) := by decide +kernel
theorem dX3_takeFrom_27 : decode cX3_takeFrom 27 = .ok (.aload_n 0, 1) := by decide +kernel
theorem dX3_takeFrom_28 : decode cX3_takeFrom 28 = .ok (.getfield 15, 3) := by decide +kernel
theorem dX3_takeFrom_31 : decode cX3_takeFrom 31 = .ok (.iload_n 2, 1) := by decide +kernel
theorem dX3_takeFrom_32 : decode cX3_takeFrom 32 = .ok (.aload_n 1, 1) := by decide +kernel
theorem dX3_takeFrom_33 : decode cX3_takeFrom 33 = .ok (.getfield 15, 3) := by decide +kernel
theorem dX3_takeFrom_36 : decode cX3_takeFrom 36 = .ok (.iload_n 2, 1) := by decide +kernel
theorem dX3_takeFrom_37 : decode cX3_takeFrom 37 = .ok (.iaload, 1) := by decide +kernel
theorem dX3_takeFrom_38 : decode cX3_takeFrom 38 = .ok (.iastore, 1) := by decide +kernel
theorem dX3_takeFrom_39 : decode cX3_takeFrom 39 = .ok (.iinc 2 1, 3) := by decide +kernel
theorem dX3_takeFrom_42 : decode cX3_takeFrom 42 = .ok (.goto (-32), 3) := by decide +kernel
set_option maxHeartbeats 4000000 in
set_option maxRecDepth 100000 in
/-- isNote -/
theorem c_X3_isNote (l : Launch) (G : zG) (ad : Nat → Nat) (X : Nat → Nat → Int) (r : Nat) (hV : zV X) (hR : zIsR r) : zR l G yX3_isNote wsX3_isNote { frames := 0, cells := 0, slots := 0, locals := 0 } (zpic G ad X) [.ref (ad r)] (zq G ad X (fun w => (w = 1 ∧ X r 0 = 2) ∨ (w = 0 ∧ X r 0 ≠ 2))) 0 0 := by
  refine zR_of (cc := cX3_isNote) (maxL := 1) (rt := (some .boolean)) (by decide) rfl (Nat.le_of_ble_eq_true rfl) ?_
  intro p e s m below meth c A ls hx hb hml hr hts hown hlocks hin0 hA hE hP hD hS hl
  have hl : lv_has ls 1 [(0, .ref (ad r))] := hl
  have hown : s.vm.findClass RX3 = some m.cls := hown
  have hr4 := hV.r4 hR
  have hw3 : ∀ w ∈ u_ws RX3 TX3 4, w ∈ wsX3_isNote := by decide +kernel
  have hf18 := hts (.fieldLink RX3 18 "Nettle$Rule" "verdict" "I") (by decide +kernel)
  refine lv_aload_n hx hb dX3_isNote_0 rfl (lv_at hl 0 rfl) ?_
  refine va_get (D := G.1) (ci := 3) (v := .int (zi (X r 0))) (C := RX3) (T := TX3) (N := 4) hx hb hts hw3 hown hE.1 hP r (p_r hR) rfl 0 (by decide) hf18 (fun _ h9 => h9) rfl dX3_isNote_1 ?_
  refine lv_iconst (v := zi 2) hx hb dX3_isNote_4 rfl ?_
  refine zc_ne (tgt := 12) hx hb dX3_isNote_5 (by decide) (by omega) (by decide) (fun h5 => ?_) (fun h5 => ?_)
  · refine lv_iconst (v := zi 0) hx hb dX3_isNote_12 rfl ?_
    exact zend_z hx hb hr hlocks (by decide +kernel) hP hD hS (Nat.le_of_ble_eq_true rfl) (Nat.le_of_ble_eq_true rfl) dX3_isNote_13 ⟨_, rfl, (by omega), rfl⟩
  · refine lv_iconst (v := zi 1) hx hb dX3_isNote_8 rfl ?_
    refine lv_goto (tgt := 13) hx hb dX3_isNote_9 (by decide) ?_
    exact zend_z hx hb hr hlocks (by decide +kernel) hP hD hS (Nat.le_of_ble_eq_true rfl) (Nat.le_of_ble_eq_true rfl) dX3_isNote_13 ⟨_, rfl, (by omega), rfl⟩

set_option maxHeartbeats 4000000 in
set_option maxRecDepth 100000 in
/-- width -/
theorem c_X3_width (l : Launch) (G : zG) (ad : Nat → Nat) (X : Nat → Nat → Int) (r : Nat) (f : Nat) (hV : zV X) (hR : zIsR r) (hf : f < 4) : zR l G yX3_width wsX3_width { frames := 0, cells := 0, slots := 0, locals := 0 } (zpic G ad X) [.ref (ad r), .int (zi (f : Int))] (zq G ad X (fun w => w = X (r + 2) f - X (r + 1) f + 1)) 0 0 := by
  refine zR_of (cc := cX3_width) (maxL := 2) (rt := (some .int)) (by decide) rfl (Nat.le_of_ble_eq_true rfl) ?_
  intro p e s m below meth c A ls hx hb hml hr hts hown hlocks hin0 hA hE hP hD hS hl
  have hl : lv_has ls 2 [(0, .ref (ad r)), (1, .int (zi (f : Int)))] := hl
  have hown : s.vm.findClass RX3 = some m.cls := hown
  have hrf := hV.rf hR hf
  have hw3 : ∀ w ∈ u_ws RX3 TX3 4, w ∈ wsX3_width := by decide +kernel
  have hf15 := hts (.fieldLink RX3 15 "Nettle$Rule" "highs" "[I") (by decide +kernel)
  have hf9 := hts (.fieldLink RX3 9 "Nettle$Rule" "lows" "[I") (by decide +kernel)
  refine lv_aload_n hx hb dX3_width_0 rfl (lv_at hl 0 rfl) ?_
  refine va_get (D := G.1) (ci := 3) (v := .ref (ad (r + 2))) (C := RX3) (T := TX3) (N := 4) hx hb hts hw3 hown hE.1 hP r (p_r hR) rfl 3 (by decide) hf15 (fun _ h9 => h9) rfl dX3_width_1 ?_
  refine lv_iload_n hx hb dX3_width_4 rfl (lv_at hl 1 rfl) ?_
  refine zild hx hb hE hP (r + 2) 4 (a_h hR) (by have := hR.lt; omega) f rfl (by omega) (by decide) dX3_width_5 ?_
  refine lv_aload_n hx hb dX3_width_6 rfl (lv_at hl 0 rfl) ?_
  refine va_get (D := G.1) (ci := 3) (v := .ref (ad (r + 1))) (C := RX3) (T := TX3) (N := 4) hx hb hts hw3 hown hE.1 hP r (p_r hR) rfl 2 (by decide) hf9 (fun _ h9 => h9) rfl dX3_width_7 ?_
  refine lv_iload_n hx hb dX3_width_10 rfl (lv_at hl 1 rfl) ?_
  refine zild hx hb hE hP (r + 1) 4 (a_l hR) (by have := hR.lt; omega) f rfl (by omega) (by decide) dX3_width_11 ?_
  refine lv_isub hx hb dX3_width_12 (zti (v := zi ((X (r + 2) f) - (X (r + 1) f))) (zi_sub _ _) ?_)
  refine lv_iconst (v := zi 1) hx hb dX3_width_13 rfl ?_
  refine lv_iadd hx hb dX3_width_14 (zti (v := zi (((X (r + 2) f) - (X (r + 1) f)) + 1)) (zi_add _ _) ?_)
  exact zend_i hx hb hr hlocks hP hD hS (Nat.le_of_ble_eq_true rfl) (Nat.le_of_ble_eq_true rfl) dX3_width_15 ⟨_, rfl, rfl, rfl⟩

set_option maxHeartbeats 4000000 in
set_option maxRecDepth 100000 in
/-- has -/
theorem c_X3_has (l : Launch) (G : zG) (ad : Nat → Nat) (X : Nat → Nat → Int) (r : Nat) (f : Nat) (v : Int) (hV : zV X) (hR : zIsR r) (hf : f < 4) (hv : -2147483648 ≤ v ∧ v ≤ 2147483647) : zR l G yX3_has wsX3_has { frames := 0, cells := 0, slots := 0, locals := 0 } (zpic G ad X) [.ref (ad r), .int (zi (f : Int)), .int (zi v)] (zq G ad X (fun w => (w = 1 ∧ X (r + 1) f ≤ v ∧ v ≤ X (r + 2) f) ∨ (w = 0 ∧ ¬ (X (r + 1) f ≤ v ∧ v ≤ X (r + 2) f)))) 0 0 := by
  refine zR_of (cc := cX3_has) (maxL := 3) (rt := (some .boolean)) (by decide) rfl (Nat.le_of_ble_eq_true rfl) ?_
  intro p e s m below meth c A ls hx hb hml hr hts hown hlocks hin0 hA hE hP hD hS hl
  have hl : lv_has ls 3 [(0, .ref (ad r)), (1, .int (zi (f : Int))), (2, .int (zi v))] := hl
  have hown : s.vm.findClass RX3 = some m.cls := hown
  have hrf := hV.rf hR hf
  have hw3 : ∀ w ∈ u_ws RX3 TX3 4, w ∈ wsX3_has := by decide +kernel
  have hf9 := hts (.fieldLink RX3 9 "Nettle$Rule" "lows" "[I") (by decide +kernel)
  have hf15 := hts (.fieldLink RX3 15 "Nettle$Rule" "highs" "[I") (by decide +kernel)
  refine lv_aload_n hx hb dX3_has_0 rfl (lv_at hl 0 rfl) ?_
  refine va_get (D := G.1) (ci := 3) (v := .ref (ad (r + 1))) (C := RX3) (T := TX3) (N := 4) hx hb hts hw3 hown hE.1 hP r (p_r hR) rfl 2 (by decide) hf9 (fun _ h9 => h9) rfl dX3_has_1 ?_
  refine lv_iload_n hx hb dX3_has_4 rfl (lv_at hl 1 rfl) ?_
  refine zild hx hb hE hP (r + 1) 4 (a_l hR) (by have := hR.lt; omega) f rfl (by omega) (by decide) dX3_has_5 ?_
  refine lv_iload_n hx hb dX3_has_6 rfl (lv_at hl 2 rfl) ?_
  refine zc_gt (tgt := 24) hx hb dX3_has_7 (by decide) (by omega) (by omega) (fun h7 => ?_) (fun h7 => ?_)
  · refine lv_iconst (v := zi 0) hx hb dX3_has_24 rfl ?_
    exact zend_z hx hb hr hlocks (by decide +kernel) hP hD hS (Nat.le_of_ble_eq_true rfl) (Nat.le_of_ble_eq_true rfl) dX3_has_25 ⟨_, rfl, (by omega), rfl⟩
  · refine lv_iload_n hx hb dX3_has_10 rfl (lv_at hl 2 rfl) ?_
    refine lv_aload_n hx hb dX3_has_11 rfl (lv_at hl 0 rfl) ?_
    refine va_get (D := G.1) (ci := 3) (v := .ref (ad (r + 2))) (C := RX3) (T := TX3) (N := 4) hx hb hts hw3 hown hE.1 hP r (p_r hR) rfl 3 (by decide) hf15 (fun _ h9 => h9) rfl dX3_has_12 ?_
    refine lv_iload_n hx hb dX3_has_15 rfl (lv_at hl 1 rfl) ?_
    refine zild hx hb hE hP (r + 2) 4 (a_h hR) (by have := hR.lt; omega) f rfl (by omega) (by decide) dX3_has_16 ?_
    refine zc_gt (tgt := 24) hx hb dX3_has_17 (by decide) (by omega) (by omega) (fun h17 => ?_) (fun h17 => ?_)
    · refine lv_iconst (v := zi 0) hx hb dX3_has_24 rfl ?_
      exact zend_z hx hb hr hlocks (by decide +kernel) hP hD hS (Nat.le_of_ble_eq_true rfl) (Nat.le_of_ble_eq_true rfl) dX3_has_25 ⟨_, rfl, (by omega), rfl⟩
    · refine lv_iconst (v := zi 1) hx hb dX3_has_20 rfl ?_
      refine lv_goto (tgt := 25) hx hb dX3_has_21 (by decide) ?_
      exact zend_z hx hb hr hlocks (by decide +kernel) hP hD hS (Nat.le_of_ble_eq_true rfl) (Nat.le_of_ble_eq_true rfl) dX3_has_25 ⟨_, rfl, (by omega), rfl⟩

set_option maxHeartbeats 4000000 in
set_option maxRecDepth 100000 in
/-- isWholeFrom -/
theorem c_X3_isWholeFrom (l : Launch) (G : zG) (ad : Nat → Nat) (X : Nat → Nat → Int) (r : Nat) (f : Nat) (hV : zV X) (hR : zIsR r) (hf : f ≤ 4) : zR l G yX3_isWholeFrom wsX3_isWholeFrom { frames := 0, cells := 0, slots := 0, locals := 0 } (zpic G ad X) [.ref (ad r), .int (zi (f : Int))] (zq G ad X (fun w => (w = 1 ∧ zWhole X r f) ∨ (w = 0 ∧ ¬ zWhole X r f))) 0 0 := by
  refine zR_of (cc := cX3_isWholeFrom) (maxL := 3) (rt := (some .boolean)) (by decide) rfl (Nat.le_of_ble_eq_true rfl) ?_
  intro p e s m below meth c A ls hx hb hml hr hts hown hlocks hin0 hA hE hP hD hS hl
  have hl : lv_has ls 3 [(0, .ref (ad r)), (1, .int (zi (f : Int)))] := hl
  have hown : s.vm.findClass RX3 = some m.cls := hown
  have hw3 : ∀ w ∈ u_ws RX3 TX3 4, w ∈ wsX3_isWholeFrom := by decide +kernel
  have hf9 := hts (.fieldLink RX3 9 "Nettle$Rule" "lows" "[I") (by decide +kernel)
  have hf15 := hts (.fieldLink RX3 15 "Nettle$Rule" "highs" "[I") (by decide +kernel)
  refine lv_iload_n hx hb dX3_isWholeFrom_0 rfl (lv_at hl 1 rfl) ?_
  refine lv_istore_n (lv' := [(2, .int (zi (f : Int))), (0, .ref (ad r)), (1, .int (zi (f : Int)))]) hx hb dX3_isWholeFrom_1 rfl hl (by decide) rfl (fun ls hl => ?_)
  refine zloop1 (fun (g : Nat) => 4 - g) (fun (g : Nat) (H : Heap) (locs : List Loc) (ls : Array Slot) => va_P G.1 vwCl (zpic G ad X) H ∧ va_D A (zpic G ad X) ∧ va_S A s.heap H locs ∧ lv_has ls 3 [(2, .int (zi (g : Int))), (0, .ref (ad r))] ∧ (f ≤ g ∧ g ≤ 4) ∧ (∀ k : Nat, f ≤ k → k < g → X (r + 1) k = 0 ∧ X (r + 2) k = zS k - 1)) ?_ f ⟨hP, hD, hS, lv_sub hl [0, 1] rfl, ⟨Nat.le_refl _, hf⟩, (fun k h1 h2 => by omega)⟩
  intro g ih H locs ls ⟨hP, hD, hS, hl, hg, hw⟩
  refine lv_iload_n hx hb dX3_isWholeFrom_2 rfl (lv_at hl 0 rfl) ?_
  refine lv_iconst (v := zi 4) hx hb dX3_isWholeFrom_3 rfl ?_
  refine zc_ge (tgt := 40) hx hb dX3_isWholeFrom_4 (by decide) (by omega) (by decide) (fun h4 => ?_) (fun h4 => ?_)
  · refine lv_iconst (v := zi 1) hx hb dX3_isWholeFrom_40 rfl ?_
    exact zend_z hx hb hr hlocks (by decide +kernel) hP hD hS (Nat.le_of_ble_eq_true rfl) (Nat.le_of_ble_eq_true rfl) dX3_isWholeFrom_41 ⟨_, rfl, (Or.inl ⟨rfl, fun k h1 h2 => hw k h1 (by omega)⟩), rfl⟩
  · have hrf := hV.rf hR (show g < 4 by omega)
    refine lv_aload_n hx hb dX3_isWholeFrom_7 rfl (lv_at hl 1 rfl) ?_
    refine va_get (D := G.1) (ci := 3) (v := .ref (ad (r + 1))) (C := RX3) (T := TX3) (N := 4) hx hb hts hw3 hown hE.1 hP r (p_r hR) rfl 2 (by decide) hf9 (fun _ h9 => h9) rfl dX3_isWholeFrom_8 ?_
    refine lv_iload_n hx hb dX3_isWholeFrom_11 rfl (lv_at hl 0 rfl) ?_
    refine zild hx hb hE hP (r + 1) 4 (a_l hR) (by have := hR.lt; omega) g rfl (by omega) (by decide) dX3_isWholeFrom_12 ?_
    refine z0_ne (tgt := 32) hx hb dX3_isWholeFrom_13 (by decide) (by omega) (fun h13 => ?_) (fun h13 => ?_)
    · refine lv_iconst (v := zi 0) hx hb dX3_isWholeFrom_32 rfl ?_
      exact zend_z hx hb hr hlocks (by decide +kernel) hP hD hS (Nat.le_of_ble_eq_true rfl) (Nat.le_of_ble_eq_true rfl) dX3_isWholeFrom_33 ⟨_, rfl, (Or.inr ⟨rfl, fun q => by have := q g hg.1 (by omega); omega⟩), rfl⟩
    · refine lv_aload_n hx hb dX3_isWholeFrom_16 rfl (lv_at hl 1 rfl) ?_
      refine va_get (D := G.1) (ci := 3) (v := .ref (ad (r + 2))) (C := RX3) (T := TX3) (N := 4) hx hb hts hw3 hown hE.1 hP r (p_r hR) rfl 3 (by decide) hf15 (fun _ h9 => h9) rfl dX3_isWholeFrom_17 ?_
      refine lv_iload_n hx hb dX3_isWholeFrom_20 rfl (lv_at hl 0 rfl) ?_
      refine zild hx hb hE hP (r + 2) 4 (a_h hR) (by have := hR.lt; omega) g rfl (by omega) (by decide) dX3_isWholeFrom_21 ?_
      refine va_getsN hx hb hE.2.1.1 hS hown (va_Nw.use rfl hE.2.2.2.1.2.2.2.2.2.2.1) (fun _ h9 => h9) dX3_isWholeFrom_22 ?_
      refine lv_iload_n hx hb dX3_isWholeFrom_25 rfl (lv_at hl 0 rfl) ?_
      refine zsz_ld hx hb hE hS g rfl (by omega) dX3_isWholeFrom_26 ?_
      refine lv_iconst (v := zi 1) hx hb dX3_isWholeFrom_27 rfl ?_
      refine lv_isub hx hb dX3_isWholeFrom_28 (zti (v := zi ((zS g) - 1)) (zi_sub _ _) ?_)
      refine zc_eq (tgt := 34) hx hb dX3_isWholeFrom_29 (by decide) (by omega) (by omega) (fun h29 => ?_) (fun h29 => ?_)
      · refine lv_iinc (v := zi ((g : Int) + 1)) (lv' := [(2, .int (zi ((g : Int) + 1))), (0, .ref (ad r))]) hx hb dX3_isWholeFrom_34 hl (k := 0) rfl (zi_add _ _) (by decide) rfl (fun ls hl => ?_)
        refine lv_goto (tgt := 2) hx hb dX3_isWholeFrom_37 (by decide) ?_
        exact ih (g + 1) (by omega) H locs ls ⟨hP, hD, hS, lv_sub hl [0, 1] rfl, (by omega), (fun k h1 h2 => by rcases Nat.lt_or_eq_of_le (Nat.le_of_lt_succ h2) with hk | rfl; exact hw k h1 hk; exact ⟨by omega, by omega⟩)⟩
      · refine lv_iconst (v := zi 0) hx hb dX3_isWholeFrom_32 rfl ?_
        exact zend_z hx hb hr hlocks (by decide +kernel) hP hD hS (Nat.le_of_ble_eq_true rfl) (Nat.le_of_ble_eq_true rfl) dX3_isWholeFrom_33 ⟨_, rfl, (Or.inr ⟨rfl, fun q => by have := q g hg.1 (by omega); omega⟩), rfl⟩

set_option maxHeartbeats 4000000 in
set_option maxRecDepth 100000 in
/-- meets -/
theorem c_X3_meets (l : Launch) (G : zG) (ad : Nat → Nat) (X : Nat → Nat → Int) (r : Nat) (hV : zV X) (hR : zIsR r) (hp : zPk X) : zR l G yX3_meets wsX3_meets { frames := 1, cells := 0, slots := 0, locals := 22 } (zpic G ad X) [.ref (ad r), .ref (ad 70)] (zq G ad X (fun w => (w = 1 ∧ zMeets X r) ∨ (w = 0 ∧ ¬ zMeets X r))) 0 0 := by
  refine zR_of (cc := cX3_meets) (maxL := 3) (rt := (some .boolean)) (by decide) rfl (Nat.le_of_ble_eq_true rfl) ?_
  intro p e s m below meth c A ls hx hb hml hr hts hown hlocks hin0 hA hE hP hD hS hl
  have hl : lv_has ls 3 [(0, .ref (ad r)), (1, .ref (ad 70))] := hl
  have hown : s.vm.findClass RX3 = some m.cls := hown
  refine lv_iconst (v := zi 0) hx hb dX3_meets_0 rfl ?_
  refine lv_istore_n (lv' := [(2, .int (zi 0)), (0, .ref (ad r)), (1, .ref (ad 70))]) hx hb dX3_meets_1 rfl hl (by decide) rfl (fun ls hl => ?_)
  refine zloop1 (fun (g : Nat) => 4 - g) (fun (g : Nat) (H : Heap) (locs : List Loc) (ls : Array Slot) => va_P G.1 vwCl (zpic G ad X) H ∧ va_D A (zpic G ad X) ∧ va_S A s.heap H locs ∧ lv_has ls 3 [(2, .int (zi (g : Int))), (1, .ref (ad 70)), (0, .ref (ad r))] ∧ (g ≤ 4) ∧ (∀ k : Nat, k < g → X (r + 1) k ≤ X 70 k ∧ X 70 k ≤ X (r + 2) k)) ?_ 0 ⟨hP, hD, hS, lv_sub hl [0, 2, 1] rfl, (by omega), (fun k h1 => by omega)⟩
  intro g ih H locs ls ⟨hP, hD, hS, hl, hg, hw⟩
  refine lv_iload_n hx hb dX3_meets_2 rfl (lv_at hl 0 rfl) ?_
  refine lv_iconst (v := zi 4) hx hb dX3_meets_3 rfl ?_
  refine zc_ge (tgt := 26) hx hb dX3_meets_4 (by decide) (by omega) (by decide) (fun h4 => ?_) (fun h4 => ?_)
  · refine lv_iconst (v := zi 1) hx hb dX3_meets_26 rfl ?_
    exact zend_z hx hb hr hlocks (by decide +kernel) hP hD hS (Nat.le_of_ble_eq_true rfl) (Nat.le_of_ble_eq_true rfl) dX3_meets_27 ⟨_, rfl, (Or.inl ⟨rfl, fun k h1 => hw k (by omega)⟩), rfl⟩
  · have hpg := hp g (by omega)
    have hsg := zS_le g
    refine lv_aload_n hx hb dX3_meets_7 rfl (lv_at hl 2 rfl) ?_
    refine lv_iload_n hx hb dX3_meets_8 rfl (lv_at hl 0 rfl) ?_
    refine lv_aload_n hx hb dX3_meets_9 rfl (lv_at hl 1 rfl) ?_
    refine lv_iload_n hx hb dX3_meets_10 rfl (lv_at hl 0 rfl) ?_
    refine zild hx hb hE hP 70 4 (fun _ => rfl) (by decide) g rfl (by omega) (by decide) dX3_meets_11 ?_
    refine zcall (wr := []) (va_runV (As := [.int (zi (g : Int)), .int (zi (X 70 g))]) (rest := []) ⟨hx, hb, hml, hown, hts⟩ (c_X3_has l G ad X r g (X 70 g) hV hR (by omega) (by omega) H.size) (cwV 2 hts gX3_meets_X3_has rfl rfl rfl (by decide +kernel) ⟨Nat.le_of_ble_eq_true rfl, Nat.le_of_ble_eq_true rfl⟩) (zPreV (wr := []) (wc := zpic G ad X) (q0 := r) (ci := 3) (q := (RX3, TX3, 4)) hP hD hE hS hA rfl (p_r hR)) rfl rfl hl.1 rfl (lv_room (Nat.le_of_ble_eq_true rfl)) dX3_meets_12 ⟨Nat.le_of_ble_eq_true rfl, Nat.le_of_ble_eq_true rfl⟩) hP hD hS hA (fun _ _ H locs hf hP hD hS => ?_)
    obtain ⟨v1, rfl, hv1, rfl⟩ := hf
    have hP : va_P G.1 vwCl (zpic G ad X) H := hP
    have hD : va_D A (zpic G ad X) := hD
    refine W.eq (g2 := F0 m 15 ls [.int (zi v1)]) rfl ?_
    refine z0_ne (tgt := 20) hx hb dX3_meets_15 (by decide) (by omega) (fun h15 => ?_) (fun h15 => ?_)
    · refine lv_iinc (v := zi ((g : Int) + 1)) (lv' := [(2, .int (zi ((g : Int) + 1))), (1, .ref (ad 70)), (0, .ref (ad r))]) hx hb dX3_meets_20 hl (k := 0) rfl (zi_add _ _) (by decide) rfl (fun ls hl => ?_)
      refine lv_goto (tgt := 2) hx hb dX3_meets_23 (by decide) ?_
      exact ih (g + 1) (by omega) H locs ls ⟨hP, hD, hS, lv_sub hl [0, 1, 2] rfl, (by omega), (fun k h1 => by rcases Nat.lt_or_eq_of_le (Nat.le_of_lt_succ h1) with hk | rfl; exact hw k hk; omega)⟩
    · refine lv_iconst (v := zi 0) hx hb dX3_meets_18 rfl ?_
      exact zend_z hx hb hr hlocks (by decide +kernel) hP hD hS (Nat.le_of_ble_eq_true rfl) (Nat.le_of_ble_eq_true rfl) dX3_meets_19 ⟨_, rfl, (Or.inr ⟨rfl, fun q => by have := q g (by omega); omega⟩), rfl⟩

set_option maxHeartbeats 4000000 in
set_option maxRecDepth 100000 in
/-- covers -/
theorem c_X3_covers (l : Launch) (G : zG) (ad : Nat → Nat) (X : Nat → Nat → Int) (r : Nat) (q : Nat) (hV : zV X) (hR : zIsR r) (hQ : zIsR q) : zR l G yX3_covers wsX3_covers { frames := 0, cells := 0, slots := 0, locals := 0 } (zpic G ad X) [.ref (ad r), .ref (ad q)] (zq G ad X (fun w => (w = 1 ∧ zCov X r q) ∨ (w = 0 ∧ ¬ zCov X r q))) 0 0 := by
  refine zR_of (cc := cX3_covers) (maxL := 3) (rt := (some .boolean)) (by decide) rfl (Nat.le_of_ble_eq_true rfl) ?_
  intro p e s m below meth c A ls hx hb hml hr hts hown hlocks hin0 hA hE hP hD hS hl
  have hl : lv_has ls 3 [(0, .ref (ad r)), (1, .ref (ad q))] := hl
  have hown : s.vm.findClass RX3 = some m.cls := hown
  have hw3 : ∀ w ∈ u_ws RX3 TX3 4, w ∈ wsX3_covers := by decide +kernel
  have hf9 := hts (.fieldLink RX3 9 "Nettle$Rule" "lows" "[I") (by decide +kernel)
  have hf15 := hts (.fieldLink RX3 15 "Nettle$Rule" "highs" "[I") (by decide +kernel)
  refine lv_iconst (v := zi 0) hx hb dX3_covers_0 rfl ?_
  refine lv_istore_n (lv' := [(2, .int (zi 0)), (0, .ref (ad r)), (1, .ref (ad q))]) hx hb dX3_covers_1 rfl hl (by decide) rfl (fun ls hl => ?_)
  refine zloop1 (fun (g : Nat) => 4 - g) (fun (g : Nat) (H : Heap) (locs : List Loc) (ls : Array Slot) => va_P G.1 vwCl (zpic G ad X) H ∧ va_D A (zpic G ad X) ∧ va_S A s.heap H locs ∧ lv_has ls 3 [(2, .int (zi (g : Int))), (1, .ref (ad q)), (0, .ref (ad r))] ∧ (g ≤ 4) ∧ (∀ k : Nat, k < g → X (r + 1) k ≤ X (q + 1) k ∧ X (q + 2) k ≤ X (r + 2) k)) ?_ 0 ⟨hP, hD, hS, lv_sub hl [0, 2, 1] rfl, (by omega), (fun k h1 => by omega)⟩
  intro g ih H locs ls ⟨hP, hD, hS, hl, hg, hw⟩
  refine lv_iload_n hx hb dX3_covers_2 rfl (lv_at hl 0 rfl) ?_
  refine lv_iconst (v := zi 4) hx hb dX3_covers_3 rfl ?_
  refine zc_ge (tgt := 45) hx hb dX3_covers_4 (by decide) (by omega) (by decide) (fun h4 => ?_) (fun h4 => ?_)
  · refine lv_iconst (v := zi 1) hx hb dX3_covers_45 rfl ?_
    exact zend_z hx hb hr hlocks (by decide +kernel) hP hD hS (Nat.le_of_ble_eq_true rfl) (Nat.le_of_ble_eq_true rfl) dX3_covers_46 ⟨_, rfl, (Or.inl ⟨rfl, fun k h1 => hw k (by omega)⟩), rfl⟩
  · have hrf := hV.rf hR (show g < 4 by omega)
    have hqf := hV.rf hQ (show g < 4 by omega)
    refine lv_aload_n hx hb dX3_covers_7 rfl (lv_at hl 1 rfl) ?_
    refine va_get (D := G.1) (ci := 3) (v := .ref (ad (q + 1))) (C := RX3) (T := TX3) (N := 4) hx hb hts hw3 hown hE.1 hP q (p_r hQ) rfl 2 (by decide) hf9 (fun _ h9 => h9) rfl dX3_covers_8 ?_
    refine lv_iload_n hx hb dX3_covers_11 rfl (lv_at hl 0 rfl) ?_
    refine zild hx hb hE hP (q + 1) 4 (a_l hQ) (by have := hQ.lt; omega) g rfl (by omega) (by decide) dX3_covers_12 ?_
    refine lv_aload_n hx hb dX3_covers_13 rfl (lv_at hl 2 rfl) ?_
    refine va_get (D := G.1) (ci := 3) (v := .ref (ad (r + 1))) (C := RX3) (T := TX3) (N := 4) hx hb hts hw3 hown hE.1 hP r (p_r hR) rfl 2 (by decide) hf9 (fun _ h9 => h9) rfl dX3_covers_14 ?_
    refine lv_iload_n hx hb dX3_covers_17 rfl (lv_at hl 0 rfl) ?_
    refine zild hx hb hE hP (r + 1) 4 (a_l hR) (by have := hR.lt; omega) g rfl (by omega) (by decide) dX3_covers_18 ?_
    refine zc_lt (tgt := 37) hx hb dX3_covers_19 (by decide) (by omega) (by omega) (fun h19 => ?_) (fun h19 => ?_)
    · refine lv_iconst (v := zi 0) hx hb dX3_covers_37 rfl ?_
      exact zend_z hx hb hr hlocks (by decide +kernel) hP hD hS (Nat.le_of_ble_eq_true rfl) (Nat.le_of_ble_eq_true rfl) dX3_covers_38 ⟨_, rfl, (Or.inr ⟨rfl, fun z => by have := z g (by omega); omega⟩), rfl⟩
    · refine lv_aload_n hx hb dX3_covers_22 rfl (lv_at hl 1 rfl) ?_
      refine va_get (D := G.1) (ci := 3) (v := .ref (ad (q + 2))) (C := RX3) (T := TX3) (N := 4) hx hb hts hw3 hown hE.1 hP q (p_r hQ) rfl 3 (by decide) hf15 (fun _ h9 => h9) rfl dX3_covers_23 ?_
      refine lv_iload_n hx hb dX3_covers_26 rfl (lv_at hl 0 rfl) ?_
      refine zild hx hb hE hP (q + 2) 4 (a_h hQ) (by have := hQ.lt; omega) g rfl (by omega) (by decide) dX3_covers_27 ?_
      refine lv_aload_n hx hb dX3_covers_28 rfl (lv_at hl 2 rfl) ?_
      refine va_get (D := G.1) (ci := 3) (v := .ref (ad (r + 2))) (C := RX3) (T := TX3) (N := 4) hx hb hts hw3 hown hE.1 hP r (p_r hR) rfl 3 (by decide) hf15 (fun _ h9 => h9) rfl dX3_covers_29 ?_
      refine lv_iload_n hx hb dX3_covers_32 rfl (lv_at hl 0 rfl) ?_
      refine zild hx hb hE hP (r + 2) 4 (a_h hR) (by have := hR.lt; omega) g rfl (by omega) (by decide) dX3_covers_33 ?_
      refine zc_le (tgt := 39) hx hb dX3_covers_34 (by decide) (by omega) (by omega) (fun h34 => ?_) (fun h34 => ?_)
      · refine lv_iinc (v := zi ((g : Int) + 1)) (lv' := [(2, .int (zi ((g : Int) + 1))), (1, .ref (ad q)), (0, .ref (ad r))]) hx hb dX3_covers_39 hl (k := 0) rfl (zi_add _ _) (by decide) rfl (fun ls hl => ?_)
        refine lv_goto (tgt := 2) hx hb dX3_covers_42 (by decide) ?_
        exact ih (g + 1) (by omega) H locs ls ⟨hP, hD, hS, lv_sub hl [0, 1, 2] rfl, (by omega), (fun k h1 => by rcases Nat.lt_or_eq_of_le (Nat.le_of_lt_succ h1) with hk | rfl; exact hw k hk; omega)⟩
      · refine lv_iconst (v := zi 0) hx hb dX3_covers_37 rfl ?_
        exact zend_z hx hb hr hlocks (by decide +kernel) hP hD hS (Nat.le_of_ble_eq_true rfl) (Nat.le_of_ble_eq_true rfl) dX3_covers_38 ⟨_, rfl, (Or.inr ⟨rfl, fun z => by have := z g (by omega); omega⟩), rfl⟩

set_option maxHeartbeats 4000000 in
set_option maxRecDepth 100000 in
/-- amountWith -/
theorem c_X3_amountWith (l : Launch) (G : zG) (ad : Nat → Nat) (X : Nat → Nat → Int) (r : Nat) (q : Nat) (hV : zV X) (hR : zIsR r) (hQ : zIsR q) : zR l G yX3_amountWith wsX3_amountWith { frames := 1, cells := 0, slots := 0, locals := 15 } (zpic G ad X) [.ref (ad r), .ref (ad q)] (zq G ad X (fun w => w = zAW X r q ∧ 0 ≤ w ∧ w ≤ 268435456)) 0 0 := by
  refine zR_of (cc := cX3_amountWith) (maxL := 6) (rt := (some .int)) (by decide) rfl (Nat.le_of_ble_eq_true rfl) ?_
  intro p e s m below meth c A ls hx hb hml hr hts hown hlocks hin0 hA hE hP hD hS hl
  have hl : lv_has ls 6 [(0, .ref (ad r)), (1, .ref (ad q))] := hl
  have hown : s.vm.findClass RX3 = some m.cls := hown
  have hr4 := hV.r4 hR
  have hq4 := hV.r4 hQ
  have hw3 : ∀ w ∈ u_ws RX3 TX3 4, w ∈ wsX3_amountWith := by decide +kernel
  have hf9 := hts (.fieldLink RX3 9 "Nettle$Rule" "lows" "[I") (by decide +kernel)
  have hmamax := hts (.code Lib.Math.max.name Lib.Math.max.code 2 (some .int)) (by decide +kernel)
  have hml32 := hts (.methodLink RX3 32 Lib.Math.max.name) (by decide +kernel)
  have hstmax := hts (.static Lib.Math.max.name) (by decide +kernel)
  have hiniMath := hts (.initialized "java/lang/Math") (by decide +kernel)
  have hf15 := hts (.fieldLink RX3 15 "Nettle$Rule" "highs" "[I") (by decide +kernel)
  have hmamin := hts (.code Lib.Math.min.name Lib.Math.min.code 2 (some .int)) (by decide +kernel)
  have hml38 := hts (.methodLink RX3 38 Lib.Math.min.name) (by decide +kernel)
  have hstmin := hts (.static Lib.Math.min.name) (by decide +kernel)
  refine lv_iconst (v := zi 1) hx hb dX3_amountWith_0 rfl ?_
  refine lv_istore_n (lv' := [(2, .int (zi 1)), (0, .ref (ad r)), (1, .ref (ad q))]) hx hb dX3_amountWith_1 rfl hl (by decide) rfl (fun ls hl => ?_)
  refine lv_iconst (v := zi 0) hx hb dX3_amountWith_2 rfl ?_
  refine lv_istore_n (lv' := [(3, .int (zi 0)), (2, .int (zi 1)), (0, .ref (ad r)), (1, .ref (ad q))]) hx hb dX3_amountWith_3 rfl hl (by decide) rfl (fun ls hl => ?_)
  refine lv_iload_n hx hb dX3_amountWith_4 rfl (lv_at hl 0 rfl) ?_
  refine lv_iconst (v := zi 4) hx hb dX3_amountWith_5 rfl ?_
  refine zc_ge (tgt := 63) hx hb dX3_amountWith_6 (by decide) (by decide) (by decide) (fun h9 => absurd h9 (by decide)) (fun h6 => ?_)
  refine lv_aload_n hx hb dX3_amountWith_9 rfl (lv_at hl 2 rfl) ?_
  refine va_get (D := G.1) (ci := 3) (v := .ref (ad (r + 1))) (C := RX3) (T := TX3) (N := 4) hx hb hts hw3 hown hE.1 hP r (p_r hR) rfl 2 (by decide) hf9 (fun _ h9 => h9) rfl dX3_amountWith_10 ?_
  refine lv_iload_n hx hb dX3_amountWith_13 rfl (lv_at hl 0 rfl) ?_
  refine zild hx hb hE hP (r + 1) 4 (a_l hR) (by have := hR.lt; omega) 0 rfl (by decide) (by decide) dX3_amountWith_14 ?_
  refine lv_aload_n hx hb dX3_amountWith_15 rfl (lv_at hl 3 rfl) ?_
  refine va_get (D := G.1) (ci := 3) (v := .ref (ad (q + 1))) (C := RX3) (T := TX3) (N := 4) hx hb hts hw3 hown hE.1 hP q (p_r hQ) rfl 2 (by decide) hf9 (fun _ h9 => h9) rfl dX3_amountWith_16 ?_
  refine lv_iload_n hx hb dX3_amountWith_19 rfl (lv_at hl 0 rfl) ?_
  refine zild hx hb hE hP (q + 1) 4 (a_l hQ) (by have := hQ.lt; omega) 0 rfl (by decide) (by decide) dX3_amountWith_20 ?_
  refine va_mmax hx hb (hml.trans hl.1.symm) hown hml32 hstmax hiniMath hmamax (Nat.le_of_ble_eq_true rfl) (Nat.le_of_ble_eq_true rfl) (Nat.le_of_ble_eq_true rfl) (Nat.le_of_ble_eq_true rfl) dX3_amountWith_21 ?_
  refine zti (v := zi (max (X (r + 1) 0) (X (q + 1) 0))) (zi_max (by omega) (by omega)) ?_
  refine lv_istore (lv' := [(4, .int (zi (max (X (r + 1) 0) (X (q + 1) 0)))), (3, .int (zi 0)), (2, .int (zi 1)), (0, .ref (ad r)), (1, .ref (ad q))]) hx hb dX3_amountWith_24 hl (by decide) rfl (fun ls hl => ?_)
  refine lv_aload_n hx hb dX3_amountWith_26 rfl (lv_at hl 3 rfl) ?_
  refine va_get (D := G.1) (ci := 3) (v := .ref (ad (r + 2))) (C := RX3) (T := TX3) (N := 4) hx hb hts hw3 hown hE.1 hP r (p_r hR) rfl 3 (by decide) hf15 (fun _ h9 => h9) rfl dX3_amountWith_27 ?_
  refine lv_iload_n hx hb dX3_amountWith_30 rfl (lv_at hl 1 rfl) ?_
  refine zild hx hb hE hP (r + 2) 4 (a_h hR) (by have := hR.lt; omega) 0 rfl (by decide) (by decide) dX3_amountWith_31 ?_
  refine lv_aload_n hx hb dX3_amountWith_32 rfl (lv_at hl 4 rfl) ?_
  refine va_get (D := G.1) (ci := 3) (v := .ref (ad (q + 2))) (C := RX3) (T := TX3) (N := 4) hx hb hts hw3 hown hE.1 hP q (p_r hQ) rfl 3 (by decide) hf15 (fun _ h9 => h9) rfl dX3_amountWith_33 ?_
  refine lv_iload_n hx hb dX3_amountWith_36 rfl (lv_at hl 1 rfl) ?_
  refine zild hx hb hE hP (q + 2) 4 (a_h hQ) (by have := hQ.lt; omega) 0 rfl (by decide) (by decide) dX3_amountWith_37 ?_
  refine va_mmin hx hb (hml.trans hl.1.symm) hown hml38 hstmin hiniMath hmamin (Nat.le_of_ble_eq_true rfl) (Nat.le_of_ble_eq_true rfl) (Nat.le_of_ble_eq_true rfl) (Nat.le_of_ble_eq_true rfl) dX3_amountWith_38 ?_
  refine zti (v := zi (min (X (r + 2) 0) (X (q + 2) 0))) (zi_min (by omega) (by omega)) ?_
  refine lv_istore (lv' := [(5, .int (zi (min (X (r + 2) 0) (X (q + 2) 0)))), (4, .int (zi (max (X (r + 1) 0) (X (q + 1) 0)))), (3, .int (zi 0)), (2, .int (zi 1)), (0, .ref (ad r)), (1, .ref (ad q))]) hx hb dX3_amountWith_41 hl (by decide) rfl (fun ls hl => ?_)
  refine lv_iload_n hx hb dX3_amountWith_43 rfl (lv_at hl 3 rfl) ?_
  refine lv_iconst (v := zi 0) hx hb dX3_amountWith_44 rfl ?_
  refine lv_iload hx hb dX3_amountWith_45 (lv_at hl 0 rfl) ?_
  refine lv_iload hx hb dX3_amountWith_47 (lv_at hl 1 rfl) ?_
  refine lv_isub hx hb dX3_amountWith_49 (zti (v := zi ((min (X (r + 2) 0) (X (q + 2) 0)) - (max (X (r + 1) 0) (X (q + 1) 0)))) (zi_sub _ _) ?_)
  refine lv_iconst (v := zi 1) hx hb dX3_amountWith_50 rfl ?_
  refine lv_iadd hx hb dX3_amountWith_51 (zti (v := zi (((min (X (r + 2) 0) (X (q + 2) 0)) - (max (X (r + 1) 0) (X (q + 1) 0))) + 1)) (zi_add _ _) ?_)
  refine va_mmax hx hb (hml.trans hl.1.symm) hown hml32 hstmax hiniMath hmamax (Nat.le_of_ble_eq_true rfl) (Nat.le_of_ble_eq_true rfl) (Nat.le_of_ble_eq_true rfl) (Nat.le_of_ble_eq_true rfl) dX3_amountWith_52 ?_
  refine zti (v := zi (max 0 (((min (X (r + 2) 0) (X (q + 2) 0)) - (max (X (r + 1) 0) (X (q + 1) 0))) + 1))) (zi_max (by decide) (by omega)) ?_
  refine lv_imul hx hb dX3_amountWith_55 (zti (v := zi (1 * (max 0 (((min (X (r + 2) 0) (X (q + 2) 0)) - (max (X (r + 1) 0) (X (q + 1) 0))) + 1)))) (zi_mul _ _) ?_)
  refine lv_istore_n (lv' := [(2, .int (zi (1 * (max 0 (((min (X (r + 2) 0) (X (q + 2) 0)) - (max (X (r + 1) 0) (X (q + 1) 0))) + 1))))), (5, .int (zi (min (X (r + 2) 0) (X (q + 2) 0)))), (4, .int (zi (max (X (r + 1) 0) (X (q + 1) 0)))), (3, .int (zi 0)), (0, .ref (ad r)), (1, .ref (ad q))]) hx hb dX3_amountWith_56 rfl hl (by decide) rfl (fun ls hl => ?_)
  refine lv_iinc (v := zi 1) (lv' := [(3, .int (zi 1)), (2, .int (zi (1 * (max 0 (((min (X (r + 2) 0) (X (q + 2) 0)) - (max (X (r + 1) 0) (X (q + 1) 0))) + 1))))), (5, .int (zi (min (X (r + 2) 0) (X (q + 2) 0)))), (4, .int (zi (max (X (r + 1) 0) (X (q + 1) 0)))), (0, .ref (ad r)), (1, .ref (ad q))]) hx hb dX3_amountWith_57 hl (k := 3) rfl (zi_add _ _) (by decide) rfl (fun ls hl => ?_)
  refine lv_goto (tgt := 4) hx hb dX3_amountWith_60 (by decide) ?_
  refine lv_iload_n hx hb dX3_amountWith_4 rfl (lv_at hl 0 rfl) ?_
  refine lv_iconst (v := zi 4) hx hb dX3_amountWith_5 rfl ?_
  refine zc_ge (tgt := 63) hx hb dX3_amountWith_6 (by decide) (by decide) (by decide) (fun h9 => absurd h9 (by decide)) (fun h6 => ?_)
  refine lv_aload_n hx hb dX3_amountWith_9 rfl (lv_at hl 4 rfl) ?_
  refine va_get (D := G.1) (ci := 3) (v := .ref (ad (r + 1))) (C := RX3) (T := TX3) (N := 4) hx hb hts hw3 hown hE.1 hP r (p_r hR) rfl 2 (by decide) hf9 (fun _ h9 => h9) rfl dX3_amountWith_10 ?_
  refine lv_iload_n hx hb dX3_amountWith_13 rfl (lv_at hl 0 rfl) ?_
  refine zild hx hb hE hP (r + 1) 4 (a_l hR) (by have := hR.lt; omega) 1 rfl (by decide) (by decide) dX3_amountWith_14 ?_
  refine lv_aload_n hx hb dX3_amountWith_15 rfl (lv_at hl 5 rfl) ?_
  refine va_get (D := G.1) (ci := 3) (v := .ref (ad (q + 1))) (C := RX3) (T := TX3) (N := 4) hx hb hts hw3 hown hE.1 hP q (p_r hQ) rfl 2 (by decide) hf9 (fun _ h9 => h9) rfl dX3_amountWith_16 ?_
  refine lv_iload_n hx hb dX3_amountWith_19 rfl (lv_at hl 0 rfl) ?_
  refine zild hx hb hE hP (q + 1) 4 (a_l hQ) (by have := hQ.lt; omega) 1 rfl (by decide) (by decide) dX3_amountWith_20 ?_
  refine va_mmax hx hb (hml.trans hl.1.symm) hown hml32 hstmax hiniMath hmamax (Nat.le_of_ble_eq_true rfl) (Nat.le_of_ble_eq_true rfl) (Nat.le_of_ble_eq_true rfl) (Nat.le_of_ble_eq_true rfl) dX3_amountWith_21 ?_
  refine zti (v := zi (max (X (r + 1) 1) (X (q + 1) 1))) (zi_max (by omega) (by omega)) ?_
  refine lv_istore (lv' := [(4, .int (zi (max (X (r + 1) 1) (X (q + 1) 1)))), (3, .int (zi 1)), (2, .int (zi (1 * (max 0 (((min (X (r + 2) 0) (X (q + 2) 0)) - (max (X (r + 1) 0) (X (q + 1) 0))) + 1))))), (5, .int (zi (min (X (r + 2) 0) (X (q + 2) 0)))), (0, .ref (ad r)), (1, .ref (ad q))]) hx hb dX3_amountWith_24 hl (by decide) rfl (fun ls hl => ?_)
  refine lv_aload_n hx hb dX3_amountWith_26 rfl (lv_at hl 4 rfl) ?_
  refine va_get (D := G.1) (ci := 3) (v := .ref (ad (r + 2))) (C := RX3) (T := TX3) (N := 4) hx hb hts hw3 hown hE.1 hP r (p_r hR) rfl 3 (by decide) hf15 (fun _ h9 => h9) rfl dX3_amountWith_27 ?_
  refine lv_iload_n hx hb dX3_amountWith_30 rfl (lv_at hl 1 rfl) ?_
  refine zild hx hb hE hP (r + 2) 4 (a_h hR) (by have := hR.lt; omega) 1 rfl (by decide) (by decide) dX3_amountWith_31 ?_
  refine lv_aload_n hx hb dX3_amountWith_32 rfl (lv_at hl 5 rfl) ?_
  refine va_get (D := G.1) (ci := 3) (v := .ref (ad (q + 2))) (C := RX3) (T := TX3) (N := 4) hx hb hts hw3 hown hE.1 hP q (p_r hQ) rfl 3 (by decide) hf15 (fun _ h9 => h9) rfl dX3_amountWith_33 ?_
  refine lv_iload_n hx hb dX3_amountWith_36 rfl (lv_at hl 1 rfl) ?_
  refine zild hx hb hE hP (q + 2) 4 (a_h hQ) (by have := hQ.lt; omega) 1 rfl (by decide) (by decide) dX3_amountWith_37 ?_
  refine va_mmin hx hb (hml.trans hl.1.symm) hown hml38 hstmin hiniMath hmamin (Nat.le_of_ble_eq_true rfl) (Nat.le_of_ble_eq_true rfl) (Nat.le_of_ble_eq_true rfl) (Nat.le_of_ble_eq_true rfl) dX3_amountWith_38 ?_
  refine zti (v := zi (min (X (r + 2) 1) (X (q + 2) 1))) (zi_min (by omega) (by omega)) ?_
  refine lv_istore (lv' := [(5, .int (zi (min (X (r + 2) 1) (X (q + 2) 1)))), (4, .int (zi (max (X (r + 1) 1) (X (q + 1) 1)))), (3, .int (zi 1)), (2, .int (zi (1 * (max 0 (((min (X (r + 2) 0) (X (q + 2) 0)) - (max (X (r + 1) 0) (X (q + 1) 0))) + 1))))), (0, .ref (ad r)), (1, .ref (ad q))]) hx hb dX3_amountWith_41 hl (by decide) rfl (fun ls hl => ?_)
  refine lv_iload_n hx hb dX3_amountWith_43 rfl (lv_at hl 3 rfl) ?_
  refine lv_iconst (v := zi 0) hx hb dX3_amountWith_44 rfl ?_
  refine lv_iload hx hb dX3_amountWith_45 (lv_at hl 0 rfl) ?_
  refine lv_iload hx hb dX3_amountWith_47 (lv_at hl 1 rfl) ?_
  refine lv_isub hx hb dX3_amountWith_49 (zti (v := zi ((min (X (r + 2) 1) (X (q + 2) 1)) - (max (X (r + 1) 1) (X (q + 1) 1)))) (zi_sub _ _) ?_)
  refine lv_iconst (v := zi 1) hx hb dX3_amountWith_50 rfl ?_
  refine lv_iadd hx hb dX3_amountWith_51 (zti (v := zi (((min (X (r + 2) 1) (X (q + 2) 1)) - (max (X (r + 1) 1) (X (q + 1) 1))) + 1)) (zi_add _ _) ?_)
  refine va_mmax hx hb (hml.trans hl.1.symm) hown hml32 hstmax hiniMath hmamax (Nat.le_of_ble_eq_true rfl) (Nat.le_of_ble_eq_true rfl) (Nat.le_of_ble_eq_true rfl) (Nat.le_of_ble_eq_true rfl) dX3_amountWith_52 ?_
  refine zti (v := zi (max 0 (((min (X (r + 2) 1) (X (q + 2) 1)) - (max (X (r + 1) 1) (X (q + 1) 1))) + 1))) (zi_max (by decide) (by omega)) ?_
  refine lv_imul hx hb dX3_amountWith_55 (zti (v := zi ((1 * (max 0 (((min (X (r + 2) 0) (X (q + 2) 0)) - (max (X (r + 1) 0) (X (q + 1) 0))) + 1))) * (max 0 (((min (X (r + 2) 1) (X (q + 2) 1)) - (max (X (r + 1) 1) (X (q + 1) 1))) + 1)))) (zi_mul _ _) ?_)
  refine lv_istore_n (lv' := [(2, .int (zi ((1 * (max 0 (((min (X (r + 2) 0) (X (q + 2) 0)) - (max (X (r + 1) 0) (X (q + 1) 0))) + 1))) * (max 0 (((min (X (r + 2) 1) (X (q + 2) 1)) - (max (X (r + 1) 1) (X (q + 1) 1))) + 1))))), (5, .int (zi (min (X (r + 2) 1) (X (q + 2) 1)))), (4, .int (zi (max (X (r + 1) 1) (X (q + 1) 1)))), (3, .int (zi 1)), (0, .ref (ad r)), (1, .ref (ad q))]) hx hb dX3_amountWith_56 rfl hl (by decide) rfl (fun ls hl => ?_)
  refine lv_iinc (v := zi 2) (lv' := [(3, .int (zi 2)), (2, .int (zi ((1 * (max 0 (((min (X (r + 2) 0) (X (q + 2) 0)) - (max (X (r + 1) 0) (X (q + 1) 0))) + 1))) * (max 0 (((min (X (r + 2) 1) (X (q + 2) 1)) - (max (X (r + 1) 1) (X (q + 1) 1))) + 1))))), (5, .int (zi (min (X (r + 2) 1) (X (q + 2) 1)))), (4, .int (zi (max (X (r + 1) 1) (X (q + 1) 1)))), (0, .ref (ad r)), (1, .ref (ad q))]) hx hb dX3_amountWith_57 hl (k := 3) rfl (zi_add _ _) (by decide) rfl (fun ls hl => ?_)
  refine lv_goto (tgt := 4) hx hb dX3_amountWith_60 (by decide) ?_
  refine lv_iload_n hx hb dX3_amountWith_4 rfl (lv_at hl 0 rfl) ?_
  refine lv_iconst (v := zi 4) hx hb dX3_amountWith_5 rfl ?_
  refine zc_ge (tgt := 63) hx hb dX3_amountWith_6 (by decide) (by decide) (by decide) (fun h9 => absurd h9 (by decide)) (fun h6 => ?_)
  refine lv_aload_n hx hb dX3_amountWith_9 rfl (lv_at hl 4 rfl) ?_
  refine va_get (D := G.1) (ci := 3) (v := .ref (ad (r + 1))) (C := RX3) (T := TX3) (N := 4) hx hb hts hw3 hown hE.1 hP r (p_r hR) rfl 2 (by decide) hf9 (fun _ h9 => h9) rfl dX3_amountWith_10 ?_
  refine lv_iload_n hx hb dX3_amountWith_13 rfl (lv_at hl 0 rfl) ?_
  refine zild hx hb hE hP (r + 1) 4 (a_l hR) (by have := hR.lt; omega) 2 rfl (by decide) (by decide) dX3_amountWith_14 ?_
  refine lv_aload_n hx hb dX3_amountWith_15 rfl (lv_at hl 5 rfl) ?_
  refine va_get (D := G.1) (ci := 3) (v := .ref (ad (q + 1))) (C := RX3) (T := TX3) (N := 4) hx hb hts hw3 hown hE.1 hP q (p_r hQ) rfl 2 (by decide) hf9 (fun _ h9 => h9) rfl dX3_amountWith_16 ?_
  refine lv_iload_n hx hb dX3_amountWith_19 rfl (lv_at hl 0 rfl) ?_
  refine zild hx hb hE hP (q + 1) 4 (a_l hQ) (by have := hQ.lt; omega) 2 rfl (by decide) (by decide) dX3_amountWith_20 ?_
  refine va_mmax hx hb (hml.trans hl.1.symm) hown hml32 hstmax hiniMath hmamax (Nat.le_of_ble_eq_true rfl) (Nat.le_of_ble_eq_true rfl) (Nat.le_of_ble_eq_true rfl) (Nat.le_of_ble_eq_true rfl) dX3_amountWith_21 ?_
  refine zti (v := zi (max (X (r + 1) 2) (X (q + 1) 2))) (zi_max (by omega) (by omega)) ?_
  refine lv_istore (lv' := [(4, .int (zi (max (X (r + 1) 2) (X (q + 1) 2)))), (3, .int (zi 2)), (2, .int (zi ((1 * (max 0 (((min (X (r + 2) 0) (X (q + 2) 0)) - (max (X (r + 1) 0) (X (q + 1) 0))) + 1))) * (max 0 (((min (X (r + 2) 1) (X (q + 2) 1)) - (max (X (r + 1) 1) (X (q + 1) 1))) + 1))))), (5, .int (zi (min (X (r + 2) 1) (X (q + 2) 1)))), (0, .ref (ad r)), (1, .ref (ad q))]) hx hb dX3_amountWith_24 hl (by decide) rfl (fun ls hl => ?_)
  refine lv_aload_n hx hb dX3_amountWith_26 rfl (lv_at hl 4 rfl) ?_
  refine va_get (D := G.1) (ci := 3) (v := .ref (ad (r + 2))) (C := RX3) (T := TX3) (N := 4) hx hb hts hw3 hown hE.1 hP r (p_r hR) rfl 3 (by decide) hf15 (fun _ h9 => h9) rfl dX3_amountWith_27 ?_
  refine lv_iload_n hx hb dX3_amountWith_30 rfl (lv_at hl 1 rfl) ?_
  refine zild hx hb hE hP (r + 2) 4 (a_h hR) (by have := hR.lt; omega) 2 rfl (by decide) (by decide) dX3_amountWith_31 ?_
  refine lv_aload_n hx hb dX3_amountWith_32 rfl (lv_at hl 5 rfl) ?_
  refine va_get (D := G.1) (ci := 3) (v := .ref (ad (q + 2))) (C := RX3) (T := TX3) (N := 4) hx hb hts hw3 hown hE.1 hP q (p_r hQ) rfl 3 (by decide) hf15 (fun _ h9 => h9) rfl dX3_amountWith_33 ?_
  refine lv_iload_n hx hb dX3_amountWith_36 rfl (lv_at hl 1 rfl) ?_
  refine zild hx hb hE hP (q + 2) 4 (a_h hQ) (by have := hQ.lt; omega) 2 rfl (by decide) (by decide) dX3_amountWith_37 ?_
  refine va_mmin hx hb (hml.trans hl.1.symm) hown hml38 hstmin hiniMath hmamin (Nat.le_of_ble_eq_true rfl) (Nat.le_of_ble_eq_true rfl) (Nat.le_of_ble_eq_true rfl) (Nat.le_of_ble_eq_true rfl) dX3_amountWith_38 ?_
  refine zti (v := zi (min (X (r + 2) 2) (X (q + 2) 2))) (zi_min (by omega) (by omega)) ?_
  refine lv_istore (lv' := [(5, .int (zi (min (X (r + 2) 2) (X (q + 2) 2)))), (4, .int (zi (max (X (r + 1) 2) (X (q + 1) 2)))), (3, .int (zi 2)), (2, .int (zi ((1 * (max 0 (((min (X (r + 2) 0) (X (q + 2) 0)) - (max (X (r + 1) 0) (X (q + 1) 0))) + 1))) * (max 0 (((min (X (r + 2) 1) (X (q + 2) 1)) - (max (X (r + 1) 1) (X (q + 1) 1))) + 1))))), (0, .ref (ad r)), (1, .ref (ad q))]) hx hb dX3_amountWith_41 hl (by decide) rfl (fun ls hl => ?_)
  refine lv_iload_n hx hb dX3_amountWith_43 rfl (lv_at hl 3 rfl) ?_
  refine lv_iconst (v := zi 0) hx hb dX3_amountWith_44 rfl ?_
  refine lv_iload hx hb dX3_amountWith_45 (lv_at hl 0 rfl) ?_
  refine lv_iload hx hb dX3_amountWith_47 (lv_at hl 1 rfl) ?_
  refine lv_isub hx hb dX3_amountWith_49 (zti (v := zi ((min (X (r + 2) 2) (X (q + 2) 2)) - (max (X (r + 1) 2) (X (q + 1) 2)))) (zi_sub _ _) ?_)
  refine lv_iconst (v := zi 1) hx hb dX3_amountWith_50 rfl ?_
  refine lv_iadd hx hb dX3_amountWith_51 (zti (v := zi (((min (X (r + 2) 2) (X (q + 2) 2)) - (max (X (r + 1) 2) (X (q + 1) 2))) + 1)) (zi_add _ _) ?_)
  refine va_mmax hx hb (hml.trans hl.1.symm) hown hml32 hstmax hiniMath hmamax (Nat.le_of_ble_eq_true rfl) (Nat.le_of_ble_eq_true rfl) (Nat.le_of_ble_eq_true rfl) (Nat.le_of_ble_eq_true rfl) dX3_amountWith_52 ?_
  refine zti (v := zi (max 0 (((min (X (r + 2) 2) (X (q + 2) 2)) - (max (X (r + 1) 2) (X (q + 1) 2))) + 1))) (zi_max (by decide) (by omega)) ?_
  refine lv_imul hx hb dX3_amountWith_55 (zti (v := zi (((1 * (max 0 (((min (X (r + 2) 0) (X (q + 2) 0)) - (max (X (r + 1) 0) (X (q + 1) 0))) + 1))) * (max 0 (((min (X (r + 2) 1) (X (q + 2) 1)) - (max (X (r + 1) 1) (X (q + 1) 1))) + 1))) * (max 0 (((min (X (r + 2) 2) (X (q + 2) 2)) - (max (X (r + 1) 2) (X (q + 1) 2))) + 1)))) (zi_mul _ _) ?_)
  refine lv_istore_n (lv' := [(2, .int (zi (((1 * (max 0 (((min (X (r + 2) 0) (X (q + 2) 0)) - (max (X (r + 1) 0) (X (q + 1) 0))) + 1))) * (max 0 (((min (X (r + 2) 1) (X (q + 2) 1)) - (max (X (r + 1) 1) (X (q + 1) 1))) + 1))) * (max 0 (((min (X (r + 2) 2) (X (q + 2) 2)) - (max (X (r + 1) 2) (X (q + 1) 2))) + 1))))), (5, .int (zi (min (X (r + 2) 2) (X (q + 2) 2)))), (4, .int (zi (max (X (r + 1) 2) (X (q + 1) 2)))), (3, .int (zi 2)), (0, .ref (ad r)), (1, .ref (ad q))]) hx hb dX3_amountWith_56 rfl hl (by decide) rfl (fun ls hl => ?_)
  refine lv_iinc (v := zi 3) (lv' := [(3, .int (zi 3)), (2, .int (zi (((1 * (max 0 (((min (X (r + 2) 0) (X (q + 2) 0)) - (max (X (r + 1) 0) (X (q + 1) 0))) + 1))) * (max 0 (((min (X (r + 2) 1) (X (q + 2) 1)) - (max (X (r + 1) 1) (X (q + 1) 1))) + 1))) * (max 0 (((min (X (r + 2) 2) (X (q + 2) 2)) - (max (X (r + 1) 2) (X (q + 1) 2))) + 1))))), (5, .int (zi (min (X (r + 2) 2) (X (q + 2) 2)))), (4, .int (zi (max (X (r + 1) 2) (X (q + 1) 2)))), (0, .ref (ad r)), (1, .ref (ad q))]) hx hb dX3_amountWith_57 hl (k := 3) rfl (zi_add _ _) (by decide) rfl (fun ls hl => ?_)
  refine lv_goto (tgt := 4) hx hb dX3_amountWith_60 (by decide) ?_
  refine lv_iload_n hx hb dX3_amountWith_4 rfl (lv_at hl 0 rfl) ?_
  refine lv_iconst (v := zi 4) hx hb dX3_amountWith_5 rfl ?_
  refine zc_ge (tgt := 63) hx hb dX3_amountWith_6 (by decide) (by decide) (by decide) (fun h9 => absurd h9 (by decide)) (fun h6 => ?_)
  refine lv_aload_n hx hb dX3_amountWith_9 rfl (lv_at hl 4 rfl) ?_
  refine va_get (D := G.1) (ci := 3) (v := .ref (ad (r + 1))) (C := RX3) (T := TX3) (N := 4) hx hb hts hw3 hown hE.1 hP r (p_r hR) rfl 2 (by decide) hf9 (fun _ h9 => h9) rfl dX3_amountWith_10 ?_
  refine lv_iload_n hx hb dX3_amountWith_13 rfl (lv_at hl 0 rfl) ?_
  refine zild hx hb hE hP (r + 1) 4 (a_l hR) (by have := hR.lt; omega) 3 rfl (by decide) (by decide) dX3_amountWith_14 ?_
  refine lv_aload_n hx hb dX3_amountWith_15 rfl (lv_at hl 5 rfl) ?_
  refine va_get (D := G.1) (ci := 3) (v := .ref (ad (q + 1))) (C := RX3) (T := TX3) (N := 4) hx hb hts hw3 hown hE.1 hP q (p_r hQ) rfl 2 (by decide) hf9 (fun _ h9 => h9) rfl dX3_amountWith_16 ?_
  refine lv_iload_n hx hb dX3_amountWith_19 rfl (lv_at hl 0 rfl) ?_
  refine zild hx hb hE hP (q + 1) 4 (a_l hQ) (by have := hQ.lt; omega) 3 rfl (by decide) (by decide) dX3_amountWith_20 ?_
  refine va_mmax hx hb (hml.trans hl.1.symm) hown hml32 hstmax hiniMath hmamax (Nat.le_of_ble_eq_true rfl) (Nat.le_of_ble_eq_true rfl) (Nat.le_of_ble_eq_true rfl) (Nat.le_of_ble_eq_true rfl) dX3_amountWith_21 ?_
  refine zti (v := zi (max (X (r + 1) 3) (X (q + 1) 3))) (zi_max (by omega) (by omega)) ?_
  refine lv_istore (lv' := [(4, .int (zi (max (X (r + 1) 3) (X (q + 1) 3)))), (3, .int (zi 3)), (2, .int (zi (((1 * (max 0 (((min (X (r + 2) 0) (X (q + 2) 0)) - (max (X (r + 1) 0) (X (q + 1) 0))) + 1))) * (max 0 (((min (X (r + 2) 1) (X (q + 2) 1)) - (max (X (r + 1) 1) (X (q + 1) 1))) + 1))) * (max 0 (((min (X (r + 2) 2) (X (q + 2) 2)) - (max (X (r + 1) 2) (X (q + 1) 2))) + 1))))), (5, .int (zi (min (X (r + 2) 2) (X (q + 2) 2)))), (0, .ref (ad r)), (1, .ref (ad q))]) hx hb dX3_amountWith_24 hl (by decide) rfl (fun ls hl => ?_)
  refine lv_aload_n hx hb dX3_amountWith_26 rfl (lv_at hl 4 rfl) ?_
  refine va_get (D := G.1) (ci := 3) (v := .ref (ad (r + 2))) (C := RX3) (T := TX3) (N := 4) hx hb hts hw3 hown hE.1 hP r (p_r hR) rfl 3 (by decide) hf15 (fun _ h9 => h9) rfl dX3_amountWith_27 ?_
  refine lv_iload_n hx hb dX3_amountWith_30 rfl (lv_at hl 1 rfl) ?_
  refine zild hx hb hE hP (r + 2) 4 (a_h hR) (by have := hR.lt; omega) 3 rfl (by decide) (by decide) dX3_amountWith_31 ?_
  refine lv_aload_n hx hb dX3_amountWith_32 rfl (lv_at hl 5 rfl) ?_
  refine va_get (D := G.1) (ci := 3) (v := .ref (ad (q + 2))) (C := RX3) (T := TX3) (N := 4) hx hb hts hw3 hown hE.1 hP q (p_r hQ) rfl 3 (by decide) hf15 (fun _ h9 => h9) rfl dX3_amountWith_33 ?_
  refine lv_iload_n hx hb dX3_amountWith_36 rfl (lv_at hl 1 rfl) ?_
  refine zild hx hb hE hP (q + 2) 4 (a_h hQ) (by have := hQ.lt; omega) 3 rfl (by decide) (by decide) dX3_amountWith_37 ?_
  refine va_mmin hx hb (hml.trans hl.1.symm) hown hml38 hstmin hiniMath hmamin (Nat.le_of_ble_eq_true rfl) (Nat.le_of_ble_eq_true rfl) (Nat.le_of_ble_eq_true rfl) (Nat.le_of_ble_eq_true rfl) dX3_amountWith_38 ?_
  refine zti (v := zi (min (X (r + 2) 3) (X (q + 2) 3))) (zi_min (by omega) (by omega)) ?_
  refine lv_istore (lv' := [(5, .int (zi (min (X (r + 2) 3) (X (q + 2) 3)))), (4, .int (zi (max (X (r + 1) 3) (X (q + 1) 3)))), (3, .int (zi 3)), (2, .int (zi (((1 * (max 0 (((min (X (r + 2) 0) (X (q + 2) 0)) - (max (X (r + 1) 0) (X (q + 1) 0))) + 1))) * (max 0 (((min (X (r + 2) 1) (X (q + 2) 1)) - (max (X (r + 1) 1) (X (q + 1) 1))) + 1))) * (max 0 (((min (X (r + 2) 2) (X (q + 2) 2)) - (max (X (r + 1) 2) (X (q + 1) 2))) + 1))))), (0, .ref (ad r)), (1, .ref (ad q))]) hx hb dX3_amountWith_41 hl (by decide) rfl (fun ls hl => ?_)
  refine lv_iload_n hx hb dX3_amountWith_43 rfl (lv_at hl 3 rfl) ?_
  refine lv_iconst (v := zi 0) hx hb dX3_amountWith_44 rfl ?_
  refine lv_iload hx hb dX3_amountWith_45 (lv_at hl 0 rfl) ?_
  refine lv_iload hx hb dX3_amountWith_47 (lv_at hl 1 rfl) ?_
  refine lv_isub hx hb dX3_amountWith_49 (zti (v := zi ((min (X (r + 2) 3) (X (q + 2) 3)) - (max (X (r + 1) 3) (X (q + 1) 3)))) (zi_sub _ _) ?_)
  refine lv_iconst (v := zi 1) hx hb dX3_amountWith_50 rfl ?_
  refine lv_iadd hx hb dX3_amountWith_51 (zti (v := zi (((min (X (r + 2) 3) (X (q + 2) 3)) - (max (X (r + 1) 3) (X (q + 1) 3))) + 1)) (zi_add _ _) ?_)
  refine va_mmax hx hb (hml.trans hl.1.symm) hown hml32 hstmax hiniMath hmamax (Nat.le_of_ble_eq_true rfl) (Nat.le_of_ble_eq_true rfl) (Nat.le_of_ble_eq_true rfl) (Nat.le_of_ble_eq_true rfl) dX3_amountWith_52 ?_
  refine zti (v := zi (max 0 (((min (X (r + 2) 3) (X (q + 2) 3)) - (max (X (r + 1) 3) (X (q + 1) 3))) + 1))) (zi_max (by decide) (by omega)) ?_
  refine lv_imul hx hb dX3_amountWith_55 (zti (v := zi ((((1 * (max 0 (((min (X (r + 2) 0) (X (q + 2) 0)) - (max (X (r + 1) 0) (X (q + 1) 0))) + 1))) * (max 0 (((min (X (r + 2) 1) (X (q + 2) 1)) - (max (X (r + 1) 1) (X (q + 1) 1))) + 1))) * (max 0 (((min (X (r + 2) 2) (X (q + 2) 2)) - (max (X (r + 1) 2) (X (q + 1) 2))) + 1))) * (max 0 (((min (X (r + 2) 3) (X (q + 2) 3)) - (max (X (r + 1) 3) (X (q + 1) 3))) + 1)))) (zi_mul _ _) ?_)
  refine lv_istore_n (lv' := [(2, .int (zi ((((1 * (max 0 (((min (X (r + 2) 0) (X (q + 2) 0)) - (max (X (r + 1) 0) (X (q + 1) 0))) + 1))) * (max 0 (((min (X (r + 2) 1) (X (q + 2) 1)) - (max (X (r + 1) 1) (X (q + 1) 1))) + 1))) * (max 0 (((min (X (r + 2) 2) (X (q + 2) 2)) - (max (X (r + 1) 2) (X (q + 1) 2))) + 1))) * (max 0 (((min (X (r + 2) 3) (X (q + 2) 3)) - (max (X (r + 1) 3) (X (q + 1) 3))) + 1))))), (5, .int (zi (min (X (r + 2) 3) (X (q + 2) 3)))), (4, .int (zi (max (X (r + 1) 3) (X (q + 1) 3)))), (3, .int (zi 3)), (0, .ref (ad r)), (1, .ref (ad q))]) hx hb dX3_amountWith_56 rfl hl (by decide) rfl (fun ls hl => ?_)
  refine lv_iinc (v := zi 4) (lv' := [(3, .int (zi 4)), (2, .int (zi ((((1 * (max 0 (((min (X (r + 2) 0) (X (q + 2) 0)) - (max (X (r + 1) 0) (X (q + 1) 0))) + 1))) * (max 0 (((min (X (r + 2) 1) (X (q + 2) 1)) - (max (X (r + 1) 1) (X (q + 1) 1))) + 1))) * (max 0 (((min (X (r + 2) 2) (X (q + 2) 2)) - (max (X (r + 1) 2) (X (q + 1) 2))) + 1))) * (max 0 (((min (X (r + 2) 3) (X (q + 2) 3)) - (max (X (r + 1) 3) (X (q + 1) 3))) + 1))))), (5, .int (zi (min (X (r + 2) 3) (X (q + 2) 3)))), (4, .int (zi (max (X (r + 1) 3) (X (q + 1) 3)))), (0, .ref (ad r)), (1, .ref (ad q))]) hx hb dX3_amountWith_57 hl (k := 3) rfl (zi_add _ _) (by decide) rfl (fun ls hl => ?_)
  refine lv_goto (tgt := 4) hx hb dX3_amountWith_60 (by decide) ?_
  refine lv_iload_n hx hb dX3_amountWith_4 rfl (lv_at hl 0 rfl) ?_
  refine lv_iconst (v := zi 4) hx hb dX3_amountWith_5 rfl ?_
  refine zc_ge (tgt := 63) hx hb dX3_amountWith_6 (by decide) (by decide) (by decide) (fun h6 => ?_) (fun h9 => absurd h9 (by decide))
  refine lv_iload_n hx hb dX3_amountWith_63 rfl (lv_at hl 1 rfl) ?_
  exact zend_i hx hb hr hlocks hP hD hS (Nat.le_of_ble_eq_true rfl) (Nat.le_of_ble_eq_true rfl) dX3_amountWith_64 ⟨_, rfl, ⟨rfl, zAW_bd hV hR hQ⟩, rfl⟩

set_option maxHeartbeats 4000000 in
set_option maxRecDepth 100000 in
/-- isAgainst -/
theorem c_X3_isAgainst (l : Launch) (G : zG) (ad : Nat → Nat) (X : Nat → Nat → Int) (r : Nat) (q : Nat) (hV : zV X) (hR : zIsR r) (hQ : zIsR q) : zR l G yX3_isAgainst wsX3_isAgainst { frames := 2, cells := 0, slots := 0, locals := 40 } (zpic G ad X) [.ref (ad r), .ref (ad q)] (zq G ad X (fun w => (w = 1 ∧ zAg X r q) ∨ (w = 0 ∧ ¬ zAg X r q))) 0 0 := by
  refine zR_of (cc := cX3_isAgainst) (maxL := 2) (rt := (some .boolean)) (by decide) rfl (Nat.le_of_ble_eq_true rfl) ?_
  intro p e s m below meth c A ls hx hb hml hr hts hown hlocks hin0 hA hE hP hD hS hl
  have hl : lv_has ls 2 [(0, .ref (ad r)), (1, .ref (ad q))] := hl
  have hown : s.vm.findClass RX3 = some m.cls := hown
  have hr4 := hV.r4 hR
  have hq4 := hV.r4 hQ
  have hw3 : ∀ w ∈ u_ws RX3 TX3 4, w ∈ wsX3_isAgainst := by decide +kernel
  have hf18 := hts (.fieldLink RX3 18 "Nettle$Rule" "verdict" "I") (by decide +kernel)
  refine lv_aload_n hx hb dX3_isAgainst_0 rfl (lv_at hl 0 rfl) ?_
  refine zcall (wr := []) (va_runV (As := []) (rest := []) ⟨hx, hb, hml, hown, hts⟩ (c_X3_isNote l G ad X r hV hR s.heap.size) (cwV 0 hts gX3_isAgainst_X3_isNote rfl rfl rfl (by decide +kernel) ⟨Nat.le_of_ble_eq_true rfl, Nat.le_of_ble_eq_true rfl⟩) (zPreV (wr := []) (wc := zpic G ad X) (q0 := r) (ci := 3) (q := (RX3, TX3, 4)) hP hD hE hS hA rfl (p_r hR)) rfl rfl hl.1 rfl (lv_room (Nat.le_of_ble_eq_true rfl)) dX3_isAgainst_1 ⟨Nat.le_of_ble_eq_true rfl, Nat.le_of_ble_eq_true rfl⟩) hP hD hS hA (fun _ _ H locs hf hP hD hS => ?_)
  obtain ⟨v1, rfl, hv1, rfl⟩ := hf
  have hP : va_P G.1 vwCl (zpic G ad X) H := hP
  have hD : va_D A (zpic G ad X) := hD
  refine W.eq (g2 := F0 m 4 ls [.int (zi v1)]) rfl ?_
  refine z0_ne (tgt := 37) hx hb dX3_isAgainst_4 (by decide) (by omega) (fun h4 => ?_) (fun h4 => ?_)
  · refine lv_iconst (v := zi 0) hx hb dX3_isAgainst_37 rfl ?_
    exact zend_z hx hb hr hlocks (by decide +kernel) hP hD hS (Nat.le_of_ble_eq_true rfl) (Nat.le_of_ble_eq_true rfl) dX3_isAgainst_38 ⟨_, rfl, (by unfold zAg; omega), rfl⟩
  · refine lv_aload_n hx hb dX3_isAgainst_7 rfl (lv_at hl 1 rfl) ?_
    refine zcall (wr := []) (va_runV (As := []) (rest := []) ⟨hx, hb, hml, hown, hts⟩ (c_X3_isNote l G ad X q hV hQ H.size) (cwV 0 hts gX3_isAgainst_X3_isNote rfl rfl rfl (by decide +kernel) ⟨Nat.le_of_ble_eq_true rfl, Nat.le_of_ble_eq_true rfl⟩) (zPreV (wr := []) (wc := zpic G ad X) (q0 := q) (ci := 3) (q := (RX3, TX3, 4)) hP hD hE hS hA rfl (p_r hQ)) rfl rfl hl.1 rfl (lv_room (Nat.le_of_ble_eq_true rfl)) dX3_isAgainst_8 ⟨Nat.le_of_ble_eq_true rfl, Nat.le_of_ble_eq_true rfl⟩) hP hD hS hA (fun _ _ H locs hf hP hD hS => ?_)
    obtain ⟨v2, rfl, hv2, rfl⟩ := hf
    have hP : va_P G.1 vwCl (zpic G ad X) H := hP
    have hD : va_D A (zpic G ad X) := hD
    refine W.eq (g2 := F0 m 11 ls [.int (zi v2)]) rfl ?_
    refine z0_ne (tgt := 37) hx hb dX3_isAgainst_11 (by decide) (by omega) (fun h11 => ?_) (fun h11 => ?_)
    · refine lv_iconst (v := zi 0) hx hb dX3_isAgainst_37 rfl ?_
      exact zend_z hx hb hr hlocks (by decide +kernel) hP hD hS (Nat.le_of_ble_eq_true rfl) (Nat.le_of_ble_eq_true rfl) dX3_isAgainst_38 ⟨_, rfl, (by unfold zAg; omega), rfl⟩
    · refine lv_aload_n hx hb dX3_isAgainst_14 rfl (lv_at hl 0 rfl) ?_
      refine va_get (D := G.1) (ci := 3) (v := .int (zi (X r 0))) (C := RX3) (T := TX3) (N := 4) hx hb hts hw3 hown hE.1 hP r (p_r hR) rfl 0 (by decide) hf18 (fun _ h9 => h9) rfl dX3_isAgainst_15 ?_
      refine lv_aload_n hx hb dX3_isAgainst_18 rfl (lv_at hl 1 rfl) ?_
      refine va_get (D := G.1) (ci := 3) (v := .int (zi (X q 0))) (C := RX3) (T := TX3) (N := 4) hx hb hts hw3 hown hE.1 hP q (p_r hQ) rfl 0 (by decide) hf18 (fun _ h9 => h9) rfl dX3_isAgainst_19 ?_
      refine zc_eq (tgt := 37) hx hb dX3_isAgainst_22 (by decide) (by omega) (by omega) (fun h22 => ?_) (fun h22 => ?_)
      · refine lv_iconst (v := zi 0) hx hb dX3_isAgainst_37 rfl ?_
        exact zend_z hx hb hr hlocks (by decide +kernel) hP hD hS (Nat.le_of_ble_eq_true rfl) (Nat.le_of_ble_eq_true rfl) dX3_isAgainst_38 ⟨_, rfl, (by unfold zAg; omega), rfl⟩
      · refine lv_aload_n hx hb dX3_isAgainst_25 rfl (lv_at hl 0 rfl) ?_
        refine lv_aload_n hx hb dX3_isAgainst_26 rfl (lv_at hl 1 rfl) ?_
        refine zcall (wr := []) (va_runV (As := [.ref (ad q)]) (rest := []) ⟨hx, hb, hml, hown, hts⟩ (c_X3_amountWith l G ad X r q hV hR hQ H.size) (cwV 1 hts gX3_isAgainst_X3_amountWith rfl rfl rfl (by decide +kernel) ⟨Nat.le_of_ble_eq_true rfl, Nat.le_of_ble_eq_true rfl⟩) (zPreV (wr := []) (wc := zpic G ad X) (q0 := r) (ci := 3) (q := (RX3, TX3, 4)) hP hD hE hS hA rfl (p_r hR)) rfl rfl hl.1 rfl (lv_room (Nat.le_of_ble_eq_true rfl)) dX3_isAgainst_27 ⟨Nat.le_of_ble_eq_true rfl, Nat.le_of_ble_eq_true rfl⟩) hP hD hS hA (fun _ _ H locs hf hP hD hS => ?_)
        obtain ⟨v3, rfl, hv3, rfl⟩ := hf
        have hP : va_P G.1 vwCl (zpic G ad X) H := hP
        have hD : va_D A (zpic G ad X) := hD
        refine W.eq (g2 := F0 m 30 ls [.int (zi v3)]) rfl ?_
        refine z0_le (tgt := 37) hx hb dX3_isAgainst_30 (by decide) (by omega) (fun h30 => ?_) (fun h30 => ?_)
        · refine lv_iconst (v := zi 0) hx hb dX3_isAgainst_37 rfl ?_
          exact zend_z hx hb hr hlocks (by decide +kernel) hP hD hS (Nat.le_of_ble_eq_true rfl) (Nat.le_of_ble_eq_true rfl) dX3_isAgainst_38 ⟨_, rfl, (by unfold zAg; omega), rfl⟩
        · refine lv_iconst (v := zi 1) hx hb dX3_isAgainst_33 rfl ?_
          refine lv_goto (tgt := 38) hx hb dX3_isAgainst_34 (by decide) ?_
          exact zend_z hx hb hr hlocks (by decide +kernel) hP hD hS (Nat.le_of_ble_eq_true rfl) (Nat.le_of_ble_eq_true rfl) dX3_isAgainst_38 ⟨_, rfl, (by unfold zAg; omega), rfl⟩

set_option maxHeartbeats 4000000 in
set_option maxRecDepth 100000 in
/-- reset -/
theorem c_X3_reset (l : Launch) (G : zG) (ad : Nat → Nat) (X : Nat → Nat → Int) (r : Nat) (v : Int) (hV : zV X) (hR : zIsR r) : zR l G yX3_reset wsX3_reset { frames := 0, cells := 0, slots := 0, locals := 0 } (zpic G ad X) [.ref (ad r), .int (zi v)] (zv G ad (fun Y => Y r 0 = v ∧ Y r 1 = 0 ∧ (∀ k : Nat, k < 4 → Y (r + 1) k = 0 ∧ Y (r + 2) k = zS k - 1) ∧ ∀ k : Nat, k ≠ r → k ≠ r + 1 → k ≠ r + 2 → Y k = X k)) 0 0 := by
  refine zR_of (cc := cX3_reset) (maxL := 3) (rt := none) (by decide) rfl (Nat.le_of_ble_eq_true rfl) ?_
  intro p e s m below meth c A ls hx hb hml hr hts hown hlocks hin0 hA hE hP hD hS hl
  have hl : lv_has ls 3 [(0, .ref (ad r)), (1, .int (zi v))] := hl
  have hown : s.vm.findClass RX3 = some m.cls := hown
  have hw3 : ∀ w ∈ u_ws RX3 TX3 4, w ∈ wsX3_reset := by decide +kernel
  have hf18 := hts (.fieldLink RX3 18 "Nettle$Rule" "verdict" "I") (by decide +kernel)
  have hf22 := hts (.fieldLink RX3 22 "Nettle$Rule" "hits" "I") (by decide +kernel)
  have hf9 := hts (.fieldLink RX3 9 "Nettle$Rule" "lows" "[I") (by decide +kernel)
  have hf15 := hts (.fieldLink RX3 15 "Nettle$Rule" "highs" "[I") (by decide +kernel)
  refine lv_aload_n hx hb dX3_reset_0 rfl (lv_at hl 0 rfl) ?_
  refine lv_iload_n hx hb dX3_reset_1 rfl (lv_at hl 1 rfl) ?_
  refine zput (C := RX3) (T := TX3) (N := 4) (ci := 3) (v := .int (zi v)) (ty := tyX3 0) hx hb hts hw3 tyX3 tyX3_ok nmX3 hown hE hP hD hS r (p_r hR) rfl 0 (by decide) hf18 (fun _ h9 => h9) rfl (by decide +kernel) rfl rfl (Nat.le_of_ble_eq_true rfl) (s_r0 hR v) dX3_reset_2 (fun H locs hP hD hS => ?_)
  refine lv_aload_n hx hb dX3_reset_5 rfl (lv_at hl 0 rfl) ?_
  refine lv_iconst (v := zi 0) hx hb dX3_reset_6 rfl ?_
  refine zput (C := RX3) (T := TX3) (N := 4) (ci := 3) (v := .int (zi 0)) (ty := tyX3 1) hx hb hts hw3 tyX3 tyX3_ok nmX3 hown hE hP hD hS r (p_r hR) rfl 1 (by decide) hf22 (fun _ h9 => h9) rfl (by decide +kernel) rfl rfl (Nat.le_of_ble_eq_true rfl) (s_r1 hR 0) dX3_reset_7 (fun H locs hP hD hS => ?_)
  refine lv_iconst (v := zi 0) hx hb dX3_reset_10 rfl ?_
  refine lv_istore_n (lv' := [(2, .int (zi 0)), (0, .ref (ad r)), (1, .int (zi v))]) hx hb dX3_reset_11 rfl hl (by decide) rfl (fun ls hl => ?_)
  refine zloop2 (fun (g : Nat) (Y : Nat → Nat → Int) => 4 - g) (fun (g : Nat) (Y : Nat → Nat → Int) (H : Heap) (locs : List Loc) (ls : Array Slot) => va_P G.1 vwCl (zpic G ad Y) H ∧ va_D A (zpic G ad Y) ∧ va_S A s.heap H locs ∧ lv_has ls 3 [(2, .int (zi (g : Int))), (0, .ref (ad r))] ∧ (g ≤ 4) ∧ (Y r 0 = v ∧ Y r 1 = 0) ∧ (∀ k : Nat, k < g → Y (r + 1) k = 0 ∧ Y (r + 2) k = zS k - 1) ∧ (∀ k : Nat, k ≠ r → k ≠ r + 1 → k ≠ r + 2 → Y k = X k)) ?_ 0 (zw (zw X r 0 v) r 1 0) ⟨hP, hD, hS, lv_sub hl [0, 1] rfl, (by omega), (by simp [zw_get]), (fun k h1 => by omega), (fun k h1 h2 h3 => by rw [zw_cell h1, zw_cell h1])⟩
  intro g Y ih H locs ls ⟨hP, hD, hS, hl, hg, hy0, hy1, hy2⟩
  refine lv_iload_n hx hb dX3_reset_12 rfl (lv_at hl 0 rfl) ?_
  refine lv_iconst (v := zi 4) hx hb dX3_reset_13 rfl ?_
  refine zc_ge (tgt := 43) hx hb dX3_reset_14 (by decide) (by omega) (by decide) (fun h14 => ?_) (fun h14 => ?_)
  · exact zend_v hx hb hr hlocks hP hD hS (Nat.le_of_ble_eq_true rfl) (Nat.le_of_ble_eq_true rfl) dX3_reset_43 ⟨_, rfl, ⟨hy0.1, hy0.2, fun k h1 => hy1 k (by omega), hy2⟩, rfl⟩
  · refine lv_aload_n hx hb dX3_reset_17 rfl (lv_at hl 1 rfl) ?_
    refine va_get (D := G.1) (ci := 3) (v := .ref (ad (r + 1))) (C := RX3) (T := TX3) (N := 4) hx hb hts hw3 hown hE.1 hP r (p_r hR) rfl 2 (by decide) hf9 (fun _ h9 => h9) rfl dX3_reset_18 ?_
    refine lv_iload_n hx hb dX3_reset_21 rfl (lv_at hl 0 rfl) ?_
    refine lv_iconst (v := zi 0) hx hb dX3_reset_22 rfl ?_
    refine zist hx hb hE hP hD hS (r + 1) 4 (a_l hR) (by have := hR.lt; omega) g rfl (by omega) (by decide) dX3_reset_23 (fun H locs hP hD hS => ?_)
    refine lv_aload_n hx hb dX3_reset_24 rfl (lv_at hl 1 rfl) ?_
    refine va_get (D := G.1) (ci := 3) (v := .ref (ad (r + 2))) (C := RX3) (T := TX3) (N := 4) hx hb hts hw3 hown hE.1 hP r (p_r hR) rfl 3 (by decide) hf15 (fun _ h9 => h9) rfl dX3_reset_25 ?_
    refine lv_iload_n hx hb dX3_reset_28 rfl (lv_at hl 0 rfl) ?_
    refine va_getsN hx hb hE.2.1.1 hS hown (va_Nw.use rfl hE.2.2.2.1.2.2.2.2.2.2.1) (fun _ h9 => h9) dX3_reset_29 ?_
    refine lv_iload_n hx hb dX3_reset_32 rfl (lv_at hl 0 rfl) ?_
    refine zsz_ld hx hb hE hS g rfl (by omega) dX3_reset_33 ?_
    refine lv_iconst (v := zi 1) hx hb dX3_reset_34 rfl ?_
    refine lv_isub hx hb dX3_reset_35 (zti (v := zi ((zS g) - 1)) (zi_sub _ _) ?_)
    refine zist hx hb hE hP hD hS (r + 2) 4 (a_h hR) (by have := hR.lt; omega) g rfl (by omega) (by decide) dX3_reset_36 (fun H locs hP hD hS => ?_)
    refine lv_iinc (v := zi ((g : Int) + 1)) (lv' := [(2, .int (zi ((g : Int) + 1))), (0, .ref (ad r))]) hx hb dX3_reset_37 hl (k := 0) rfl (zi_add _ _) (by decide) rfl (fun ls hl => ?_)
    refine lv_goto (tgt := 12) hx hb dX3_reset_40 (by decide) ?_
    exact ih (g + 1) (zw (zw Y (r + 1) g 0) (r + 2) g ((zS g) - 1)) (by omega) H locs ls ⟨hP, hD, hS, lv_sub hl [0, 1] rfl, (by omega), (by simpa [zw_get] using hy0), (fun k h1 => by rcases Nat.lt_or_eq_of_le (Nat.le_of_lt_succ h1) with hk | rfl; (have hn : k ≠ g := Nat.ne_of_lt hk); simpa [zw_get, hn] using hy1 k hk; simp [zw_get]), (fun k h1 h2 h3 => by rw [zw_cell h3, zw_cell h2]; exact hy2 k h1 h2 h3)⟩

set_option maxHeartbeats 4000000 in
set_option maxRecDepth 100000 in
/-- takeFrom -/
theorem c_X3_takeFrom (l : Launch) (G : zG) (ad : Nat → Nat) (X : Nat → Nat → Int) (r : Nat) (q : Nat) (hV : zV X) (hR : zIsR r) (hQ : zIsR q) (hrq : r + 2 < q ∨ q + 2 < r) : zR l G yX3_takeFrom wsX3_takeFrom { frames := 0, cells := 0, slots := 0, locals := 0 } (zpic G ad X) [.ref (ad r), .ref (ad q)] (zv G ad (fun Y => Y r 0 = X q 0 ∧ Y r 1 = X r 1 ∧ (∀ k : Nat, k < 4 → Y (r + 1) k = X (q + 1) k ∧ Y (r + 2) k = X (q + 2) k) ∧ ∀ k : Nat, k ≠ r → k ≠ r + 1 → k ≠ r + 2 → Y k = X k)) 0 0 := by
  refine zR_of (cc := cX3_takeFrom) (maxL := 3) (rt := none) (by decide) rfl (Nat.le_of_ble_eq_true rfl) ?_
  intro p e s m below meth c A ls hx hb hml hr hts hown hlocks hin0 hA hE hP hD hS hl
  have hl : lv_has ls 3 [(0, .ref (ad r)), (1, .ref (ad q))] := hl
  have hown : s.vm.findClass RX3 = some m.cls := hown
  have hw3 : ∀ w ∈ u_ws RX3 TX3 4, w ∈ wsX3_takeFrom := by decide +kernel
  have hf18 := hts (.fieldLink RX3 18 "Nettle$Rule" "verdict" "I") (by decide +kernel)
  have hf9 := hts (.fieldLink RX3 9 "Nettle$Rule" "lows" "[I") (by decide +kernel)
  have hf15 := hts (.fieldLink RX3 15 "Nettle$Rule" "highs" "[I") (by decide +kernel)
  refine lv_aload_n hx hb dX3_takeFrom_0 rfl (lv_at hl 0 rfl) ?_
  refine lv_aload_n hx hb dX3_takeFrom_1 rfl (lv_at hl 1 rfl) ?_
  refine va_get (D := G.1) (ci := 3) (v := .int (zi (X q 0))) (C := RX3) (T := TX3) (N := 4) hx hb hts hw3 hown hE.1 hP q (p_r hQ) rfl 0 (by decide) hf18 (fun _ h9 => h9) rfl dX3_takeFrom_2 ?_
  refine zput (C := RX3) (T := TX3) (N := 4) (ci := 3) (v := .int (zi (X q 0))) (ty := tyX3 0) hx hb hts hw3 tyX3 tyX3_ok nmX3 hown hE hP hD hS r (p_r hR) rfl 0 (by decide) hf18 (fun _ h9 => h9) rfl (by decide +kernel) rfl rfl (Nat.le_of_ble_eq_true rfl) (s_r0 hR (X q 0)) dX3_takeFrom_5 (fun H locs hP hD hS => ?_)
  refine lv_iconst (v := zi 0) hx hb dX3_takeFrom_8 rfl ?_
  refine lv_istore_n (lv' := [(2, .int (zi 0)), (0, .ref (ad r)), (1, .ref (ad q))]) hx hb dX3_takeFrom_9 rfl hl (by decide) rfl (fun ls hl => ?_)
  refine zloop2 (fun (g : Nat) (Y : Nat → Nat → Int) => 4 - g) (fun (g : Nat) (Y : Nat → Nat → Int) (H : Heap) (locs : List Loc) (ls : Array Slot) => va_P G.1 vwCl (zpic G ad Y) H ∧ va_D A (zpic G ad Y) ∧ va_S A s.heap H locs ∧ lv_has ls 3 [(2, .int (zi (g : Int))), (1, .ref (ad q)), (0, .ref (ad r))] ∧ (g ≤ 4) ∧ (Y r 0 = X q 0 ∧ Y r 1 = X r 1) ∧ (∀ k : Nat, k < g → Y (r + 1) k = X (q + 1) k ∧ Y (r + 2) k = X (q + 2) k) ∧ (∀ k : Nat, k ≠ r → k ≠ r + 1 → k ≠ r + 2 → Y k = X k)) ?_ 0 (zw X r 0 (X q 0)) ⟨hP, hD, hS, lv_sub hl [0, 2, 1] rfl, (by omega), (by simp [zw_get]), (fun k h1 => by omega), (fun k h1 h2 h3 => by rw [zw_cell h1])⟩
  intro g Y ih H locs ls ⟨hP, hD, hS, hl, hg, hy0, hy1, hy2⟩
  refine lv_iload_n hx hb dX3_takeFrom_10 rfl (lv_at hl 0 rfl) ?_
  refine lv_iconst (v := zi 4) hx hb dX3_takeFrom_11 rfl ?_
  refine zc_ge (tgt := 45) hx hb dX3_takeFrom_12 (by decide) (by omega) (by decide) (fun h12 => ?_) (fun h12 => ?_)
  · exact zend_v hx hb hr hlocks hP hD hS (Nat.le_of_ble_eq_true rfl) (Nat.le_of_ble_eq_true rfl) dX3_takeFrom_45 ⟨_, rfl, ⟨hy0.1, hy0.2, fun k h1 => hy1 k (by omega), hy2⟩, rfl⟩
  · refine lv_aload_n hx hb dX3_takeFrom_15 rfl (lv_at hl 2 rfl) ?_
    refine va_get (D := G.1) (ci := 3) (v := .ref (ad (r + 1))) (C := RX3) (T := TX3) (N := 4) hx hb hts hw3 hown hE.1 hP r (p_r hR) rfl 2 (by decide) hf9 (fun _ h9 => h9) rfl dX3_takeFrom_16 ?_
    refine lv_iload_n hx hb dX3_takeFrom_19 rfl (lv_at hl 0 rfl) ?_
    refine lv_aload_n hx hb dX3_takeFrom_20 rfl (lv_at hl 1 rfl) ?_
    refine va_get (D := G.1) (ci := 3) (v := .ref (ad (q + 1))) (C := RX3) (T := TX3) (N := 4) hx hb hts hw3 hown hE.1 hP q (p_r hQ) rfl 2 (by decide) hf9 (fun _ h9 => h9) rfl dX3_takeFrom_21 ?_
    refine lv_iload_n hx hb dX3_takeFrom_24 rfl (lv_at hl 0 rfl) ?_
    refine zild hx hb hE hP (q + 1) 4 (a_l hQ) (by have := hQ.lt; omega) g rfl (by omega) (by decide) dX3_takeFrom_25 ?_
    refine zist hx hb hE hP hD hS (r + 1) 4 (a_l hR) (by have := hR.lt; omega) g rfl (by omega) (by decide) dX3_takeFrom_26 (fun H locs hP hD hS => ?_)
    refine lv_aload_n hx hb dX3_takeFrom_27 rfl (lv_at hl 2 rfl) ?_
    refine va_get (D := G.1) (ci := 3) (v := .ref (ad (r + 2))) (C := RX3) (T := TX3) (N := 4) hx hb hts hw3 hown hE.1 hP r (p_r hR) rfl 3 (by decide) hf15 (fun _ h9 => h9) rfl dX3_takeFrom_28 ?_
    refine lv_iload_n hx hb dX3_takeFrom_31 rfl (lv_at hl 0 rfl) ?_
    refine lv_aload_n hx hb dX3_takeFrom_32 rfl (lv_at hl 1 rfl) ?_
    refine va_get (D := G.1) (ci := 3) (v := .ref (ad (q + 2))) (C := RX3) (T := TX3) (N := 4) hx hb hts hw3 hown hE.1 hP q (p_r hQ) rfl 3 (by decide) hf15 (fun _ h9 => h9) rfl dX3_takeFrom_33 ?_
    refine lv_iload_n hx hb dX3_takeFrom_36 rfl (lv_at hl 0 rfl) ?_
    refine zild hx hb hE hP (q + 2) 4 (a_h hQ) (by have := hQ.lt; omega) g rfl (by omega) (by decide) dX3_takeFrom_37 ?_
    refine zist hx hb hE hP hD hS (r + 2) 4 (a_h hR) (by have := hR.lt; omega) g rfl (by omega) (by decide) dX3_takeFrom_38 (fun H locs hP hD hS => ?_)
    refine lv_iinc (v := zi ((g : Int) + 1)) (lv' := [(2, .int (zi ((g : Int) + 1))), (1, .ref (ad q)), (0, .ref (ad r))]) hx hb dX3_takeFrom_39 hl (k := 0) rfl (zi_add _ _) (by decide) rfl (fun ls hl => ?_)
    refine lv_goto (tgt := 10) hx hb dX3_takeFrom_42 (by decide) ?_
    exact ih (g + 1) (zw (zw Y (r + 1) g (Y (q + 1) g)) (r + 2) g ((zw Y (r + 1) g (Y (q + 1) g)) (q + 2) g)) (by omega) H locs ls ⟨hP, hD, hS, lv_sub hl [0, 1, 2] rfl, (by omega), (by simpa [zw_get] using hy0), (fun k h1 => by have e1 : Y (q + 1) = X (q + 1) := hy2 _ (by omega) (by omega) (by omega); have e2 : Y (q + 2) = X (q + 2) := hy2 _ (by omega) (by omega) (by omega); rcases Nat.lt_or_eq_of_le (Nat.le_of_lt_succ h1) with hk | rfl; (have hn : k ≠ g := Nat.ne_of_lt hk); simpa [zw_get, hn] using hy1 k hk; (have hn1 : ¬ q + 2 = r + 1 := by omega); simp [zw_get, hn1, e1, e2]), (fun k h1 h2 h3 => by rw [zw_cell h3, zw_cell h2]; exact hy2 k h1 h2 h3)⟩
end
section
/-! walls: what is asked of them -/
theorem dX6_firstOf_0 : decode cX6_firstOf 0 = .ok (.iconst 0, 1) := by decide +kernel
theorem dX6_firstOf_1 : decode cX6_firstOf 1 = .ok (.istore_n 2, 1) := by decide +kernel
theorem dX6_firstOf_2 : decode cX6_firstOf 2 = .ok (.iload_n 2, 1) := by decide +kernel
theorem dX6_firstOf_3 : decode cX6_firstOf 3 = .ok (.aload_n 0, 1) := by decide +kernel
theorem dX6_firstOf_4 : decode cX6_firstOf 4 = .ok (.getfield 18, 3) := by decide +kernel
theorem dX6_firstOf_7 : decode cX6_firstOf 7 = .ok (.if_icmp .ge 20, 3) := by decide +kernel
theorem dX6_firstOf_27 : decode cX6_firstOf 27 = .ok (.iconst (-1), 1) := by decide +kernel
theorem dX6_firstOf_28 : decode cX6_firstOf 28 = .ok (.ireturn, 1) := by decide +kernel
theorem dX6_firstOf_10 : decode cX6_firstOf 10 = .ok (.iload_n 1, 1) := by decide +kernel
theorem dX6_firstOf_11 : decode cX6_firstOf 11 = .ok (.iload_n 2, 1) := by decide +kernel
theorem dX6_firstOf_12 : decode cX6_firstOf 12 = .ok (.ishr, 1) := by decide +kernel
theorem dX6_firstOf_13 : decode cX6_firstOf 13 = .ok (.iconst 1, 1) := by decide +kernel
theorem dX6_firstOf_14 : decode cX6_firstOf 14 = .ok (.iand, 1) := by decide +kernel
theorem dX6_firstOf_15 : decode cX6_firstOf 15 = .ok (.iconst 1, 1) := by decide +kernel
theorem dX6_firstOf_16 : decode cX6_firstOf 16 = .ok (.if_icmp .ne 5, 3) := by decide +kernel
theorem dX6_firstOf_21 : decode cX6_firstOf 21 = .ok (.iinc 2 1, 3) := by decide +kernel
theorem dX6_firstOf_24 : decode cX6_firstOf 24 = .ok (.goto (-22), 3) := by decide +kernel
theorem dX6_firstOf_19 : decode cX6_firstOf 19 = .ok (.iload_n 2, 1) := by decide +kernel
theorem dX6_firstOf_20 : decode cX6_firstOf 20 = .ok (.ireturn, 1) := by decide +kernel
theorem dX6_allows_0 : decode cX6_allows 0 = .ok (.aload_n 0, 1) := by decide +kernel
theorem dX6_allows_1 : decode cX6_allows 1 = .ok (.iload_n 1, 1) := by decide +kernel
set_option maxRecDepth 20000 in
theorem ggX6_allows_X6_firstOf : GoodIn wsX6_allows wsX6_firstOf := goodIn_r _ [8, 9, 10, 11, 12] (by decide +kernel) (by decide +kernel)
set_option maxRecDepth 20000 in
theorem gX6_allows_X6_firstOf : GoodIn wsX6_allows (wsV RX6 62 RX6 yX6_firstOf wsX6_firstOf) := goodIn_app (goodIn_of _ (by decide +kernel)) ggX6_allows_X6_firstOf
theorem dX6_allows_2 : decode cX6_allows 2 = .ok (.invokevirtual 62, 3) := by decide +kernel
theorem dX6_allows_5 : decode cX6_allows 5 = .ok (.istore_n 2, 1) := by decide +kernel
theorem dX6_allows_6 : decode cX6_allows 6 = .ok (.iload_n 2, 1) := by decide +kernel
theorem dX6_allows_7 : decode cX6_allows 7 = .ok (.ifCond .ge 10, 3) := by decide +kernel
theorem dX6_allows_17 : decode cX6_allows 17 = .ok (.aload_n 0, 1) := by decide +kernel
theorem dX6_allows_18 : decode cX6_allows 18 = .ok (.getfield 11, 3) := by decide +kernel
theorem dX6_allows_21 : decode cX6_allows 21 = .ok (.iload_n 2, 1) := by decide +kernel
theorem dX6_allows_22 : decode cX6_allows 22 = .ok (.aaload, 1) := by decide +kernel
theorem dX6_allows_23 : decode cX6_allows 23 = .ok (.getfield 66, 3) := by decide +kernel
theorem dX6_allows_26 : decode cX6_allows 26 = .ok (.iconst 1, 1) := by decide +kernel
theorem dX6_allows_27 : decode cX6_allows 27 = .ok (.if_icmp .ne 7, 3) := by decide +kernel
theorem dX6_allows_34 : decode cX6_allows 34 = .ok (.iconst 0, 1) := by decide +kernel
theorem dX6_allows_35 : decode cX6_allows 35 = .ok (.ireturn, 1) := by decide +kernel
theorem dX6_allows_30 : decode cX6_allows 30 = .ok (.iconst 1, 1) := by decide +kernel
theorem dX6_allows_31 : decode cX6_allows 31 = .ok (.goto 4, 3) := by decide +kernel
theorem dX6_allows_10 : decode cX6_allows 10 = .ok (.aload_n 0, 1) := by decide +kernel
theorem dX6_allows_11 : decode cX6_allows 11 = .ok (.getfield 34, 3) := by decide +kernel
theorem dX6_allows_14 : decode cX6_allows 14 = .ok (.goto 21, 3) := by decide +kernel
theorem dX6_isSettled_0 : decode cX6_isSettled 0 = .ok (.aload_n 0, 1) := by decide +kernel
theorem dX6_isSettled_1 : decode cX6_isSettled 1 = .ok (.iload_n 2, 1) := by decide +kernel
set_option maxRecDepth 20000 in
theorem ggX6_isSettled_X6_firstOf : GoodIn wsX6_isSettled wsX6_firstOf := goodIn_r _ [6, 7, 15, 16, 17] (by decide +kernel) (by decide +kernel)
set_option maxRecDepth 20000 in
theorem gX6_isSettled_X6_firstOf : GoodIn wsX6_isSettled (wsV RX6 62 RX6 yX6_firstOf wsX6_firstOf) := goodIn_app (goodIn_of _ (by decide +kernel)) ggX6_isSettled_X6_firstOf
theorem dX6_isSettled_2 : decode cX6_isSettled 2 = .ok (.invokevirtual 62, 3) := by decide +kernel
theorem dX6_isSettled_5 : decode cX6_isSettled 5 = .ok (.istore_n 3, 1) := by decide +kernel
theorem dX6_isSettled_6 : decode cX6_isSettled 6 = .ok (.iload_n 3, 1) := by decide +kernel
theorem dX6_isSettled_7 : decode cX6_isSettled 7 = .ok (.ifCond .lt 16, 3) := by decide +kernel
theorem dX6_isSettled_23 : decode cX6_isSettled 23 = .ok (.iconst 1, 1) := by decide +kernel
theorem dX6_isSettled_24 : decode cX6_isSettled 24 = .ok (.goto 4, 3) := by decide +kernel
theorem dX6_isSettled_28 : decode cX6_isSettled 28 = .ok (.ireturn, 1) := by decide +kernel
theorem dX6_isSettled_10 : decode cX6_isSettled 10 = .ok (.aload_n 0, 1) := by decide +kernel
theorem dX6_isSettled_11 : decode cX6_isSettled 11 = .ok (.getfield 11, 3) := by decide +kernel
theorem dX6_isSettled_14 : decode cX6_isSettled 14 = .ok (.iload_n 3, 1) := by decide +kernel
theorem dX6_isSettled_15 : decode cX6_isSettled 15 = .ok (.aaload, 1) := by decide +kernel
theorem dX6_isSettled_16 : decode cX6_isSettled 16 = .ok (.iload_n 1, 1) := by decide +kernel
set_option maxRecDepth 20000 in
theorem ggX6_isSettled_X3_isWholeFrom : GoodIn wsX6_isSettled wsX3_isWholeFrom := goodIn_r _ [12, 13, 14, 18, 19, 20, 21] (by decide +kernel) (by decide +kernel)
set_option maxRecDepth 20000 in
theorem gX6_isSettled_X3_isWholeFrom : GoodIn wsX6_isSettled (wsV RX6 69 RX3 yX3_isWholeFrom wsX3_isWholeFrom) := goodIn_app (goodIn_of _ (by decide +kernel)) ggX6_isSettled_X3_isWholeFrom
theorem dX6_isSettled_17 : decode cX6_isSettled 17 = .ok (.invokevirtual 69, 3) := by decide +kernel
theorem dX6_isSettled_20 : decode cX6_isSettled 20 = .ok (.ifCond .eq 7, 3) := by decide +kernel
theorem dX6_isSettled_27 : decode cX6_isSettled 27 = .ok (.iconst 0, 1) := by decide +kernel
theorem dX6_deciders_0 : decode cX6_deciders 0 = .ok (.iconst 0, 1) := by decide +kernel
theorem dX6_deciders_1 : decode cX6_deciders 1 = .ok (.istore_n 1, 1) := by decide +kernel
theorem dX6_deciders_2 : decode cX6_deciders 2 = .ok (.iconst 0, 1) := by decide +kernel
theorem dX6_deciders_3 : decode cX6_deciders 3 = .ok (.istore_n 2, 1) := by decide +kernel
theorem dX6_deciders_4 : decode cX6_deciders 4 = .ok (.iload_n 2, 1) := by decide +kernel
theorem dX6_deciders_5 : decode cX6_deciders 5 = .ok (.aload_n 0, 1) := by decide +kernel
theorem dX6_deciders_6 : decode cX6_deciders 6 = .ok (.getfield 18, 3) := by decide +kernel
theorem dX6_deciders_9 : decode cX6_deciders 9 = .ok (.if_icmp .ge 27, 3) := by decide +kernel
theorem dX6_deciders_36 : decode cX6_deciders 36 = .ok (.iload_n 1, 1) := by decide +kernel
theorem dX6_deciders_37 : decode cX6_deciders 37 = .ok (.ireturn, 1) := by decide +kernel
theorem dX6_deciders_12 : decode cX6_deciders 12 = .ok (.aload_n 0, 1) := by decide +kernel
theorem dX6_deciders_13 : decode cX6_deciders 13 = .ok (.getfield 11, 3) := by decide +kernel
theorem dX6_deciders_16 : decode cX6_deciders 16 = .ok (.iload_n 2, 1) := by decide +kernel
theorem dX6_deciders_17 : decode cX6_deciders 17 = .ok (.aaload, 1) := by decide +kernel
set_option maxRecDepth 20000 in
theorem ggX6_deciders_X3_isNote : GoodIn wsX6_deciders wsX3_isNote := goodIn_r _ [7, 8, 12, 13, 14, 15] (by decide +kernel) (by decide +kernel)
set_option maxRecDepth 20000 in
theorem gX6_deciders_X3_isNote : GoodIn wsX6_deciders (wsV RX6 38 RX3 yX3_isNote wsX3_isNote) := goodIn_app (goodIn_of _ (by decide +kernel)) ggX6_deciders_X3_isNote
theorem dX6_deciders_18 : decode cX6_deciders 18 = .ok (.invokevirtual 38, 3) := by decide +kernel
theorem dX6_deciders_21 : decode cX6_deciders 21 = .ok (.ifCond .ne 9, 3) := by decide +kernel
theorem dX6_deciders_30 : decode cX6_deciders 30 = .ok (.iinc 2 1, 3) := by decide +kernel
theorem dX6_deciders_33 : decode cX6_deciders 33 = .ok (.goto (-29), 3) := by decide +kernel
theorem dX6_deciders_24 : decode cX6_deciders 24 = .ok (.iload_n 1, 1) := by decide +kernel
theorem dX6_deciders_25 : decode cX6_deciders 25 = .ok (.iconst 1, 1) := by decide +kernel
theorem dX6_deciders_26 : decode cX6_deciders 26 = .ok (.iload_n 2, 1) := by decide +kernel
theorem dX6_deciders_27 : decode cX6_deciders 27 = .ok (.ishl, 1) := by decide +kernel
theorem dX6_deciders_28 : decode cX6_deciders 28 = .ok (.ior, 1) := by decide +kernel
theorem dX6_deciders_29 : decode cX6_deciders 29 = .ok (.istore_n 1, 1) := by decide +kernel
theorem dX6_having_0 : decode cX6_having 0 = .ok (.iconst 0, 1) := by decide +kernel
theorem dX6_having_1 : decode cX6_having 1 = .ok (.istore_n 3, 1) := by decide +kernel
theorem dX6_having_2 : decode cX6_having 2 = .ok (.iconst 0, 1) := by decide +kernel
theorem dX6_having_3 : decode cX6_having 3 = .ok (.istore 4, 2) := by decide +kernel
theorem dX6_having_5 : decode cX6_having 5 = .ok (.iload 4, 2) := by decide +kernel
theorem dX6_having_7 : decode cX6_having 7 = .ok (.aload_n 0, 1) := by decide +kernel
theorem dX6_having_8 : decode cX6_having 8 = .ok (.getfield 18, 3) := by decide +kernel
theorem dX6_having_11 : decode cX6_having 11 = .ok (.if_icmp .ge 31, 3) := by decide +kernel
theorem dX6_having_42 : decode cX6_having 42 = .ok (.iload_n 3, 1) := by decide +kernel
theorem dX6_having_43 : decode cX6_having 43 = .ok (.ireturn, 1) := by decide +kernel
theorem dX6_having_14 : decode cX6_having 14 = .ok (.aload_n 0, 1) := by decide +kernel
theorem dX6_having_15 : decode cX6_having 15 = .ok (.getfield 11, 3) := by decide +kernel
theorem dX6_having_18 : decode cX6_having 18 = .ok (.iload 4, 2) := by decide +kernel
theorem dX6_having_20 : decode cX6_having 20 = .ok (.aaload, 1) := by decide +kernel
theorem dX6_having_21 : decode cX6_having 21 = .ok (.iload_n 1, 1) := by decide +kernel
theorem dX6_having_22 : decode cX6_having 22 = .ok (.iload_n 2, 1) := by decide +kernel
set_option maxRecDepth 20000 in
theorem ggX6_having_X3_has : GoodIn wsX6_having wsX3_has := goodIn_r _ [7, 8, 9, 13, 14, 15, 16] (by decide +kernel) (by decide +kernel)
set_option maxRecDepth 20000 in
theorem gX6_having_X3_has : GoodIn wsX6_having (wsV RX6 42 RX3 yX3_has wsX3_has) := goodIn_app (goodIn_of _ (by decide +kernel)) ggX6_having_X3_has
theorem dX6_having_23 : decode cX6_having 23 = .ok (.invokevirtual 42, 3) := by decide +kernel
theorem dX6_having_26 : decode cX6_having 26 = .ok (.ifCond .eq 10, 3) := by decide +kernel
theorem dX6_having_36 : decode cX6_having 36 = .ok (.iinc 4 1, 3) := by decide +kernel
theorem dX6_having_39 : decode cX6_having 39 = .ok (.goto (-34), 3) := by decide +kernel
theorem dX6_having_29 : decode cX6_having 29 = .ok (.iload_n 3, 1) := by decide +kernel
theorem dX6_having_30 : decode cX6_having 30 = .ok (.iconst 1, 1) := by decide +kernel
theorem dX6_having_31 : decode cX6_having 31 = .ok (.iload 4, 2) := by decide +kernel
theorem dX6_having_33 : decode cX6_having 33 = .ok (.ishl, 1) := by decide +kernel
theorem dX6_having_34 : decode cX6_having 34 = .ok (.ior, 1) := by decide +kernel
theorem dX6_having_35 : decode cX6_having 35 = .ok (.istore_n 3, 1) := by decide +kernel
theorem dX6_nextCut_0 : decode cX6_nextCut 0 = .ok (.getstatic 46, 3) := by decide +kernel
theorem dX6_nextCut_3 : decode cX6_nextCut 3 = .ok (.iload_n 1, 1) := by decide +kernel
theorem dX6_nextCut_4 : decode cX6_nextCut 4 = .ok (.iaload, 1) := by decide +kernel
theorem dX6_nextCut_5 : decode cX6_nextCut 5 = .ok (.istore_n 3, 1) := by decide +kernel
theorem dX6_nextCut_6 : decode cX6_nextCut 6 = .ok (.iconst 0, 1) := by decide +kernel
theorem dX6_nextCut_7 : decode cX6_nextCut 7 = .ok (.istore 4, 2) := by decide +kernel
theorem dX6_nextCut_9 : decode cX6_nextCut 9 = .ok (.iload 4, 2) := by decide +kernel
theorem dX6_nextCut_11 : decode cX6_nextCut 11 = .ok (.aload_n 0, 1) := by decide +kernel
theorem dX6_nextCut_12 : decode cX6_nextCut 12 = .ok (.getfield 18, 3) := by decide +kernel
theorem dX6_nextCut_15 : decode cX6_nextCut 15 = .ok (.if_icmp .ge 77, 3) := by decide +kernel
theorem dX6_nextCut_92 : decode cX6_nextCut 92 = .ok (.iload_n 3, 1) := by decide +kernel
theorem dX6_nextCut_93 : decode cX6_nextCut 93 = .ok (.ireturn, 1) := by decide +kernel
theorem dX6_nextCut_18 : decode cX6_nextCut 18 = .ok (.aload_n 0, 1) := by decide +kernel
theorem dX6_nextCut_19 : decode cX6_nextCut 19 = .ok (.getfield 11, 3) := by decide +kernel
theorem dX6_nextCut_22 : decode cX6_nextCut 22 = .ok (.iload 4, 2) := by decide +kernel
theorem dX6_nextCut_24 : decode cX6_nextCut 24 = .ok (.aaload, 1) := by decide +kernel
theorem dX6_nextCut_25 : decode cX6_nextCut 25 = .ok (.getfield 50, 3) := by decide +kernel
theorem dX6_nextCut_28 : decode cX6_nextCut 28 = .ok (.iload_n 1, 1) := by decide +kernel
theorem dX6_nextCut_29 : decode cX6_nextCut 29 = .ok (.iaload, 1) := by decide +kernel
theorem dX6_nextCut_30 : decode cX6_nextCut 30 = .ok (.iload_n 2, 1) := by decide +kernel
theorem dX6_nextCut_31 : decode cX6_nextCut 31 = .ok (.if_icmp .le 20, 3) := by decide +kernel
theorem dX6_nextCut_51 : decode cX6_nextCut 51 = .ok (.aload_n 0, 1) := by decide +kernel
theorem dX6_nextCut_52 : decode cX6_nextCut 52 = .ok (.getfield 11, 3) := by decide +kernel
theorem dX6_nextCut_55 : decode cX6_nextCut 55 = .ok (.iload 4, 2) := by decide +kernel
theorem dX6_nextCut_57 : decode cX6_nextCut 57 = .ok (.aaload, 1) := by decide +kernel
theorem dX6_nextCut_58 : decode cX6_nextCut 58 = .ok (.getfield 59, 3) := by decide +kernel
theorem dX6_nextCut_61 : decode cX6_nextCut 61 = .ok (.iload_n 1, 1) := by decide +kernel
theorem dX6_nextCut_62 : decode cX6_nextCut 62 = .ok (.iaload, 1) := by decide +kernel
theorem dX6_nextCut_63 : decode cX6_nextCut 63 = .ok (.iload_n 2, 1) := by decide +kernel
theorem dX6_nextCut_64 : decode cX6_nextCut 64 = .ok (.if_icmp .lt 22, 3) := by decide +kernel
theorem dX6_nextCut_86 : decode cX6_nextCut 86 = .ok (.iinc 4 1, 3) := by decide +kernel
theorem dX6_nextCut_89 : decode cX6_nextCut 89 = .ok (.goto (-80), 3) := by decide +kernel
theorem dX6_nextCut_67 : decode cX6_nextCut 67 = .ok (.iload_n 3, 1) := by decide +kernel
theorem dX6_nextCut_68 : decode cX6_nextCut 68 = .ok (.aload_n 0, 1) := by decide +kernel
theorem dX6_nextCut_69 : decode cX6_nextCut 69 = .ok (.getfield 11, 3) := by decide +kernel
theorem dX6_nextCut_72 : decode cX6_nextCut 72 = .ok (.iload 4, 2) := by decide +kernel
theorem dX6_nextCut_74 : decode cX6_nextCut 74 = .ok (.aaload, 1) := by decide +kernel
theorem dX6_nextCut_75 : decode cX6_nextCut 75 = .ok (.getfield 59, 3) := by decide +kernel
theorem dX6_nextCut_78 : decode cX6_nextCut 78 = .ok (.iload_n 1, 1) := by decide +kernel
theorem dX6_nextCut_79 : decode cX6_nextCut 79 = .ok (.iaload, 1) := by decide +kernel
theorem dX6_nextCut_80 : decode cX6_nextCut 80 = .ok (.iconst 1, 1) := by decide +kernel
theorem dX6_nextCut_81 : decode cX6_nextCut 81 = .ok (.iadd, 1) := by decide +kernel
theorem dX6_nextCut_82 : decode cX6_nextCut 82 = .ok (.invokestatic 53, 3) := by decide +kernel
theorem dX6_nextCut_85 : decode cX6_nextCut 85 = .ok (.istore_n 3, 1) := by decide +kernel
theorem dX6_nextCut_34 : decode cX6_nextCut 34 = .ok (.iload_n 3, 1) := by decide +kernel
theorem dX6_nextCut_35 : decode cX6_nextCut 35 = .ok (.aload_n 0, 1) := by decide +kernel
theorem dX6_nextCut_36 : decode cX6_nextCut 36 = .ok (.getfield 11, 3) := by decide +kernel
theorem dX6_nextCut_39 : decode cX6_nextCut 39 = .ok (.iload 4, 2) := by decide +kernel
theorem dX6_nextCut_41 : decode cX6_nextCut 41 = .ok (.aaload, 1) := by decide +kernel
theorem dX6_nextCut_42 : decode cX6_nextCut 42 = .ok (.getfield 50, 3) := by decide +kernel
theorem dX6_nextCut_45 : decode cX6_nextCut 45 = .ok (.iload_n 1, 1) := by decide +kernel
theorem dX6_nextCut_46 : decode cX6_nextCut 46 = .ok (.iaload, 1) := by decide +kernel
theorem dX6_nextCut_47 : decode cX6_nextCut 47 = .ok (.invokestatic 53, 3) := by decide +kernel
theorem dX6_nextCut_50 : decode cX6_nextCut 50 = .ok (.istore_n 3, 1) := by decide +kernel
theorem dX6_firstCover_0 : decode cX6_firstCover 0 = .ok (.iconst 0, 1) := by decide +kernel
theorem dX6_firstCover_1 : decode cX6_firstCover 1 = .ok (.istore_n 2, 1) := by decide +kernel
theorem dX6_firstCover_2 : decode cX6_firstCover 2 = .ok (.iload_n 2, 1) := by decide +kernel
theorem dX6_firstCover_3 : decode cX6_firstCover 3 = .ok (.iload_n 1, 1) := by decide +kernel
theorem dX6_firstCover_4 : decode cX6_firstCover 4 = .ok (.if_icmp .ge 41, 3) := by decide +kernel
theorem dX6_firstCover_45 : decode cX6_firstCover 45 = .ok (.iconst (-1), 1) := by decide +kernel
theorem dX6_firstCover_46 : decode cX6_firstCover 46 = .ok (.ireturn, 1) := by decide +kernel
theorem dX6_firstCover_7 : decode cX6_firstCover 7 = .ok (.aload_n 0, 1) := by decide +kernel
theorem dX6_firstCover_8 : decode cX6_firstCover 8 = .ok (.getfield 11, 3) := by decide +kernel
theorem dX6_firstCover_11 : decode cX6_firstCover 11 = .ok (.iload_n 2, 1) := by decide +kernel
theorem dX6_firstCover_12 : decode cX6_firstCover 12 = .ok (.aaload, 1) := by decide +kernel
set_option maxRecDepth 20000 in
theorem ggX6_firstCover_X3_isNote : GoodIn wsX6_firstCover wsX3_isNote := goodIn_r _ [6, 7, 17, 18, 19, 20] (by decide +kernel) (by decide +kernel)
set_option maxRecDepth 20000 in
theorem gX6_firstCover_X3_isNote : GoodIn wsX6_firstCover (wsV RX6 38 RX3 yX3_isNote wsX3_isNote) := goodIn_app (goodIn_of _ (by decide +kernel)) ggX6_firstCover_X3_isNote
theorem dX6_firstCover_13 : decode cX6_firstCover 13 = .ok (.invokevirtual 38, 3) := by decide +kernel
theorem dX6_firstCover_16 : decode cX6_firstCover 16 = .ok (.ifCond .ne 23, 3) := by decide +kernel
theorem dX6_firstCover_39 : decode cX6_firstCover 39 = .ok (.iinc 2 1, 3) := by decide +kernel
theorem dX6_firstCover_42 : decode cX6_firstCover 42 = .ok (.goto (-40), 3) := by decide +kernel
theorem dX6_firstCover_19 : decode cX6_firstCover 19 = .ok (.aload_n 0, 1) := by decide +kernel
theorem dX6_firstCover_20 : decode cX6_firstCover 20 = .ok (.getfield 11, 3) := by decide +kernel
theorem dX6_firstCover_23 : decode cX6_firstCover 23 = .ok (.iload_n 2, 1) := by decide +kernel
theorem dX6_firstCover_24 : decode cX6_firstCover 24 = .ok (.aaload, 1) := by decide +kernel
theorem dX6_firstCover_25 : decode cX6_firstCover 25 = .ok (.aload_n 0, 1) := by decide +kernel
theorem dX6_firstCover_26 : decode cX6_firstCover 26 = .ok (.getfield 11, 3) := by decide +kernel
theorem dX6_firstCover_29 : decode cX6_firstCover 29 = .ok (.iload_n 1, 1) := by decide +kernel
theorem dX6_firstCover_30 : decode cX6_firstCover 30 = .ok (.aaload, 1) := by decide +kernel
set_option maxRecDepth 20000 in
theorem ggX6_firstCover_X3_covers : GoodIn wsX6_firstCover wsX3_covers := goodIn_r _ [11, 12, 13, 17, 18, 19, 20] (by decide +kernel) (by decide +kernel)
set_option maxRecDepth 20000 in
theorem gX6_firstCover_X3_covers : GoodIn wsX6_firstCover (wsV RX6 73 RX3 yX3_covers wsX3_covers) := goodIn_app (goodIn_of _ (by decide +kernel)) ggX6_firstCover_X3_covers
theorem dX6_firstCover_31 : decode cX6_firstCover 31 = .ok (.invokevirtual 73, 3) := by decide +kernel
theorem dX6_firstCover_34 : decode cX6_firstCover 34 = .ok (.ifCond .eq 5, 3) := by decide +kernel
theorem dX6_firstCover_37 : decode cX6_firstCover 37 = .ok (.iload_n 2, 1) := by decide +kernel
theorem dX6_firstCover_38 : decode cX6_firstCover 38 = .ok (.ireturn, 1) := by decide +kernel
set_option maxHeartbeats 4000000 in
set_option maxRecDepth 100000 in
/-- firstOf -/
theorem c_X6_firstOf (l : Launch) (G : zG) (ad : Nat → Nat) (X : Nat → Nat → Int) (a : Nat) (u : Nat) (hV : zV X) (hW : zIsW a) (hu : u < 256) : zR l G yX6_firstOf wsX6_firstOf { frames := 0, cells := 0, slots := 0, locals := 0 } (zpic G ad X) [.ref (ad a), .int (zi (u : Int))] (zq G ad X (fun w => -1 ≤ w ∧ w < 8 ∧ zIsF (zN X a) u w)) 0 0 := by
  refine zR_of (cc := cX6_firstOf) (maxL := 3) (rt := (some .int)) (by decide) rfl (Nat.le_of_ble_eq_true rfl) ?_
  intro p e s m below meth c A ls hx hb hml hr hts hown hlocks hin0 hA hE hP hD hS hl
  have hl : lv_has ls 3 [(0, .ref (ad a)), (1, .int (zi (u : Int)))] := hl
  have hown : s.vm.findClass RX6 = some m.cls := hown
  have hn := hV.n hW
  have hw6 : ∀ w ∈ u_ws RX6 TX6 3, w ∈ wsX6_firstOf := by decide +kernel
  have hf18 := hts (.fieldLink RX6 18 "Nettle$Wall" "count" "I") (by decide +kernel)
  refine lv_iconst (v := zi 0) hx hb dX6_firstOf_0 rfl ?_
  refine lv_istore_n (lv' := [(2, .int (zi 0)), (0, .ref (ad a)), (1, .int (zi (u : Int)))]) hx hb dX6_firstOf_1 rfl hl (by decide) rfl (fun ls hl => ?_)
  refine zloop1 (fun (k : Nat) => 8 - k) (fun (k : Nat) (H : Heap) (locs : List Loc) (ls : Array Slot) => va_P G.1 vwCl (zpic G ad X) H ∧ va_D A (zpic G ad X) ∧ va_S A s.heap H locs ∧ lv_has ls 3 [(2, .int (zi (k : Int))), (1, .int (zi (u : Int))), (0, .ref (ad a))] ∧ (k ≤ zN X a) ∧ (∀ j : Nat, j < k → u.testBit j = false)) ?_ 0 ⟨hP, hD, hS, lv_sub hl [0, 2, 1] rfl, (by omega), (fun j h1 => by omega)⟩
  intro k ih H locs ls ⟨hP, hD, hS, hl, hk, hw⟩
  refine lv_iload_n hx hb dX6_firstOf_2 rfl (lv_at hl 0 rfl) ?_
  refine lv_aload_n hx hb dX6_firstOf_3 rfl (lv_at hl 2 rfl) ?_
  refine va_get (D := G.1) (ci := 6) (v := .int (zi (X a 1))) (C := RX6) (T := TX6) (N := 3) hx hb hts hw6 hown hE.1 hP a (p_w hW) rfl 1 (by decide) hf18 (fun _ h9 => h9) rfl dX6_firstOf_4 ?_
  refine zc_ge (tgt := 27) hx hb dX6_firstOf_7 (by decide) (by omega) (by omega) (fun h7 => ?_) (fun h7 => ?_)
  · refine lv_iconst (v := zi (-1)) hx hb dX6_firstOf_27 rfl ?_
    exact zend_i hx hb hr hlocks hP hD hS (Nat.le_of_ble_eq_true rfl) (Nat.le_of_ble_eq_true rfl) dX6_firstOf_28 ⟨_, rfl, ⟨by omega, by omega, Or.inr ⟨rfl, fun j h => hw j (by omega)⟩⟩, rfl⟩
  · have hbt := zbit_le u k
    refine lv_iload_n hx hb dX6_firstOf_10 rfl (lv_at hl 1 rfl) ?_
    refine lv_iload_n hx hb dX6_firstOf_11 rfl (lv_at hl 0 rfl) ?_
    refine lv_ishr hx hb dX6_firstOf_12 (zti (v := zi ((u / 2 ^ k : Nat) : Int)) (zi_shr hu (by omega)) ?_)
    refine lv_iconst (v := zi 1) hx hb dX6_firstOf_13 rfl ?_
    refine lv_iand hx hb dX6_firstOf_14 (zti (v := zi ((zbit u k : Nat) : Int)) (zi_and1 _ _) ?_)
    refine lv_iconst (v := zi 1) hx hb dX6_firstOf_15 rfl ?_
    refine zc_ne (tgt := 21) hx hb dX6_firstOf_16 (by decide) (by omega) (by decide) (fun h16 => ?_) (fun h16 => ?_)
    · refine lv_iinc (v := zi ((k : Int) + 1)) (lv' := [(2, .int (zi ((k : Int) + 1))), (1, .int (zi (u : Int))), (0, .ref (ad a))]) hx hb dX6_firstOf_21 hl (k := 0) rfl (zi_add _ _) (by decide) rfl (fun ls hl => ?_)
      refine lv_goto (tgt := 2) hx hb dX6_firstOf_24 (by decide) ?_
      exact ih (k + 1) (by omega) H locs ls ⟨hP, hD, hS, lv_sub hl [0, 1, 2] rfl, (by omega), (fun j h1 => by by_cases hk : j < k; exact hw j hk; have hjk : j = k := (by omega); rw [hjk]; exact Bool.eq_false_iff.mpr (fun hb => by have := (zbit_iff u k).mpr hb; omega))⟩
    · refine lv_iload_n hx hb dX6_firstOf_19 rfl (lv_at hl 0 rfl) ?_
      exact zend_i hx hb hr hlocks hP hD hS (Nat.le_of_ble_eq_true rfl) (Nat.le_of_ble_eq_true rfl) dX6_firstOf_20 ⟨_, rfl, ⟨by omega, by omega, Or.inl ⟨k, rfl, by omega, (zbit_iff u k).mp (by omega), hw⟩⟩, rfl⟩

set_option maxHeartbeats 4000000 in
set_option maxRecDepth 100000 in
/-- allows -/
theorem c_X6_allows (l : Launch) (G : zG) (ad : Nat → Nat) (X : Nat → Nat → Int) (a : Nat) (u : Nat) (hV : zV X) (hW : zIsW a) (hu : u < 256) : zR l G yX6_allows wsX6_allows { frames := 1, cells := 0, slots := 0, locals := 22 } (zpic G ad X) [.ref (ad a), .int (zi (u : Int))] (zq G ad X (fun w => (w = 1 ∧ zAl X a u) ∨ (w = 0 ∧ ¬ zAl X a u))) 0 0 := by
  refine zR_of (cc := cX6_allows) (maxL := 3) (rt := (some .boolean)) (by decide) rfl (Nat.le_of_ble_eq_true rfl) ?_
  intro p e s m below meth c A ls hx hb hml hr hts hown hlocks hin0 hA hE hP hD hS hl
  have hl : lv_has ls 3 [(0, .ref (ad a)), (1, .int (zi (u : Int)))] := hl
  have hown : s.vm.findClass RX6 = some m.cls := hown
  have hn := hV.n hW
  have hlw := (hV.wok hW).2.1
  have hw6 : ∀ w ∈ u_ws RX6 TX6 3, w ∈ wsX6_allows := by decide +kernel
  have hf11 := hts (.fieldLink RX6 11 "Nettle$Wall" "rows" "[LNettle$Rule;") (by decide +kernel)
  have hw3 : ∀ w ∈ u_ws RX3 TX3 4, w ∈ wsX6_allows := by decide +kernel
  have hf66 := hts (.fieldLink RX6 66 "Nettle$Rule" "verdict" "I") (by decide +kernel)
  have hf34 := hts (.fieldLink RX6 34 "Nettle$Wall" "isLastAllow" "Z") (by decide +kernel)
  refine lv_aload_n hx hb dX6_allows_0 rfl (lv_at hl 0 rfl) ?_
  refine lv_iload_n hx hb dX6_allows_1 rfl (lv_at hl 1 rfl) ?_
  refine zcall (wr := []) (va_runV (As := [.int (zi (u : Int))]) (rest := []) ⟨hx, hb, hml, hown, hts⟩ (c_X6_firstOf l G ad X a u hV hW (by omega) s.heap.size) (cwV 1 hts gX6_allows_X6_firstOf rfl rfl rfl (by decide +kernel) ⟨Nat.le_of_ble_eq_true rfl, Nat.le_of_ble_eq_true rfl⟩) (zPreV (wr := []) (wc := zpic G ad X) (q0 := a) (ci := 6) (q := (RX6, TX6, 3)) hP hD hE hS hA rfl (p_w hW)) rfl rfl hl.1 rfl (lv_room (Nat.le_of_ble_eq_true rfl)) dX6_allows_2 ⟨Nat.le_of_ble_eq_true rfl, Nat.le_of_ble_eq_true rfl⟩) hP hD hS hA (fun _ _ H locs hf hP hD hS => ?_)
  obtain ⟨v1, rfl, hv1, rfl⟩ := hf
  have hP : va_P G.1 vwCl (zpic G ad X) H := hP
  have hD : va_D A (zpic G ad X) := hD
  refine W.eq (g2 := F0 m 5 ls [.int (zi v1)]) rfl ?_
  refine lv_istore_n (lv' := [(2, .int (zi v1)), (0, .ref (ad a)), (1, .int (zi (u : Int)))]) hx hb dX6_allows_5 rfl hl (by decide) rfl (fun ls hl => ?_)
  refine lv_iload_n hx hb dX6_allows_6 rfl (lv_at hl 0 rfl) ?_
  refine z0_ge (tgt := 17) hx hb dX6_allows_7 (by decide) (by omega) (fun h7 => ?_) (fun h7 => ?_)
  · obtain ⟨k, rfl, hk⟩ : ∃ k : Nat, v1 = (k : Int) ∧ zFi (zN X a) u k := by rcases hv1.2.2 with h | h; exact h; omega
    have hk1 := hk.1
    have hr4 := hV.r4 (hV.isR hW (show k < 8 by omega))
    refine lv_aload_n hx hb dX6_allows_17 rfl (lv_at hl 1 rfl) ?_
    refine va_get (D := G.1) (ci := 6) (v := .ref (ad (a + 1))) (C := RX6) (T := TX6) (N := 3) hx hb hts hw6 hown hE.1 hP a (p_w hW) rfl 0 (by decide) hf11 (fun _ h9 => h9) rfl dX6_allows_18 ?_
    refine lv_iload_n hx hb dX6_allows_21 rfl (lv_at hl 0 rfl) ?_
    refine zqld hx hb hE hP hW k rfl (by omega) dX6_allows_22 ?_
    have hR1 : zIsR (zr X a k) := hV.isR hW (by omega)
    refine va_get (D := G.1) (ci := 3) (v := .int (zi (X (zr X a k) 0))) (C := RX3) (T := TX3) (N := 4) hx hb hts hw3 hown hE.1 hP (zr X a k) (p_r hR1) rfl 0 (by decide) hf66 (fun _ h9 => h9) rfl dX6_allows_23 ?_
    refine lv_iconst (v := zi 1) hx hb dX6_allows_26 rfl ?_
    refine zc_ne (tgt := 34) hx hb dX6_allows_27 (by decide) (by omega) (by decide) (fun h27 => ?_) (fun h27 => ?_)
    · refine lv_iconst (v := zi 0) hx hb dX6_allows_34 rfl ?_
      exact zend_z hx hb hr hlocks (by decide +kernel) hP hD hS (Nat.le_of_ble_eq_true rfl) (Nat.le_of_ble_eq_true rfl) dX6_allows_35 ⟨_, rfl, (by rw [zAl_fi hk]; omega), rfl⟩
    · refine lv_iconst (v := zi 1) hx hb dX6_allows_30 rfl ?_
      refine lv_goto (tgt := 35) hx hb dX6_allows_31 (by decide) ?_
      exact zend_z hx hb hr hlocks (by decide +kernel) hP hD hS (Nat.le_of_ble_eq_true rfl) (Nat.le_of_ble_eq_true rfl) dX6_allows_35 ⟨_, rfl, (by rw [zAl_fi hk]; omega), rfl⟩
  · have hno : zNo (zN X a) u := by rcases hv1.2.2 with ⟨k, h, -⟩ | h; omega; exact h.2
    refine lv_aload_n hx hb dX6_allows_10 rfl (lv_at hl 1 rfl) ?_
    refine va_get (D := G.1) (ci := 6) (v := .int (zi (X a 2))) (C := RX6) (T := TX6) (N := 3) hx hb hts hw6 hown hE.1 hP a (p_w hW) rfl 2 (by decide) hf34 (fun _ h9 => h9) rfl dX6_allows_11 ?_
    refine lv_goto (tgt := 35) hx hb dX6_allows_14 (by decide) ?_
    exact zend_z hx hb hr hlocks (zbool hlw) hP hD hS (Nat.le_of_ble_eq_true rfl) (Nat.le_of_ble_eq_true rfl) dX6_allows_35 ⟨_, rfl, (by rw [zAl_no hno]; omega), rfl⟩

set_option maxHeartbeats 4000000 in
set_option maxRecDepth 100000 in
/-- isSettled -/
theorem c_X6_isSettled (l : Launch) (G : zG) (ad : Nat → Nat) (X : Nat → Nat → Int) (a : Nat) (f : Nat) (u : Nat) (hV : zV X) (hW : zIsW a) (hf : f ≤ 4) (hu : u < 256) : zR l G yX6_isSettled wsX6_isSettled { frames := 1, cells := 0, slots := 0, locals := 22 } (zpic G ad X) [.ref (ad a), .int (zi (f : Int)), .int (zi (u : Int))] (zq G ad X (fun w => (w = 1 ∧ zSe X a f u) ∨ (w = 0 ∧ ¬ zSe X a f u))) 0 0 := by
  refine zR_of (cc := cX6_isSettled) (maxL := 4) (rt := (some .boolean)) (by decide) rfl (Nat.le_of_ble_eq_true rfl) ?_
  intro p e s m below meth c A ls hx hb hml hr hts hown hlocks hin0 hA hE hP hD hS hl
  have hl : lv_has ls 4 [(0, .ref (ad a)), (1, .int (zi (f : Int))), (2, .int (zi (u : Int)))] := hl
  have hown : s.vm.findClass RX6 = some m.cls := hown
  have hn := hV.n hW
  have hw6 : ∀ w ∈ u_ws RX6 TX6 3, w ∈ wsX6_isSettled := by decide +kernel
  have hf11 := hts (.fieldLink RX6 11 "Nettle$Wall" "rows" "[LNettle$Rule;") (by decide +kernel)
  refine lv_aload_n hx hb dX6_isSettled_0 rfl (lv_at hl 0 rfl) ?_
  refine lv_iload_n hx hb dX6_isSettled_1 rfl (lv_at hl 2 rfl) ?_
  refine zcall (wr := []) (va_runV (As := [.int (zi (u : Int))]) (rest := []) ⟨hx, hb, hml, hown, hts⟩ (c_X6_firstOf l G ad X a u hV hW (by omega) s.heap.size) (cwV 1 hts gX6_isSettled_X6_firstOf rfl rfl rfl (by decide +kernel) ⟨Nat.le_of_ble_eq_true rfl, Nat.le_of_ble_eq_true rfl⟩) (zPreV (wr := []) (wc := zpic G ad X) (q0 := a) (ci := 6) (q := (RX6, TX6, 3)) hP hD hE hS hA rfl (p_w hW)) rfl rfl hl.1 rfl (lv_room (Nat.le_of_ble_eq_true rfl)) dX6_isSettled_2 ⟨Nat.le_of_ble_eq_true rfl, Nat.le_of_ble_eq_true rfl⟩) hP hD hS hA (fun _ _ H locs hf hP hD hS => ?_)
  obtain ⟨v1, rfl, hv1, rfl⟩ := hf
  have hP : va_P G.1 vwCl (zpic G ad X) H := hP
  have hD : va_D A (zpic G ad X) := hD
  refine W.eq (g2 := F0 m 5 ls [.int (zi v1)]) rfl ?_
  refine lv_istore_n (lv' := [(3, .int (zi v1)), (0, .ref (ad a)), (1, .int (zi (f : Int))), (2, .int (zi (u : Int)))]) hx hb dX6_isSettled_5 rfl hl (by decide) rfl (fun ls hl => ?_)
  refine lv_iload_n hx hb dX6_isSettled_6 rfl (lv_at hl 0 rfl) ?_
  refine z0_lt (tgt := 23) hx hb dX6_isSettled_7 (by decide) (by omega) (fun h7 => ?_) (fun h7 => ?_)
  · have hno : zNo (zN X a) u := by rcases hv1.2.2 with ⟨k, h, -⟩ | h; omega; exact h.2
    refine lv_iconst (v := zi 1) hx hb dX6_isSettled_23 rfl ?_
    refine lv_goto (tgt := 28) hx hb dX6_isSettled_24 (by decide) ?_
    exact zend_z hx hb hr hlocks (by decide +kernel) hP hD hS (Nat.le_of_ble_eq_true rfl) (Nat.le_of_ble_eq_true rfl) dX6_isSettled_28 ⟨_, rfl, (Or.inl ⟨rfl, Or.inl hno⟩), rfl⟩
  · obtain ⟨k, rfl, hk⟩ : ∃ k : Nat, v1 = (k : Int) ∧ zFi (zN X a) u k := by rcases hv1.2.2 with h | h; exact h; omega
    have hk1 := hk.1
    have hr4 := hV.r4 (hV.isR hW (show k < 8 by omega))
    refine lv_aload_n hx hb dX6_isSettled_10 rfl (lv_at hl 1 rfl) ?_
    refine va_get (D := G.1) (ci := 6) (v := .ref (ad (a + 1))) (C := RX6) (T := TX6) (N := 3) hx hb hts hw6 hown hE.1 hP a (p_w hW) rfl 0 (by decide) hf11 (fun _ h9 => h9) rfl dX6_isSettled_11 ?_
    refine lv_iload_n hx hb dX6_isSettled_14 rfl (lv_at hl 0 rfl) ?_
    refine zqld hx hb hE hP hW k rfl (by omega) dX6_isSettled_15 ?_
    have hR1 : zIsR (zr X a k) := hV.isR hW (by omega)
    refine lv_iload_n hx hb dX6_isSettled_16 rfl (lv_at hl 2 rfl) ?_
    refine zcall (wr := []) (va_runV (As := [.int (zi (f : Int))]) (rest := []) ⟨hx, hb, hml, hown, hts⟩ (c_X3_isWholeFrom l G ad X (zr X a k) f hV hR1 (by omega) H.size) (cwV 1 hts gX6_isSettled_X3_isWholeFrom rfl rfl rfl (by decide +kernel) ⟨Nat.le_of_ble_eq_true rfl, Nat.le_of_ble_eq_true rfl⟩) (zPreV (wr := []) (wc := zpic G ad X) (q0 := (zr X a k)) (ci := 3) (q := (RX3, TX3, 4)) hP hD hE hS hA rfl (p_r hR1)) rfl rfl hl.1 rfl (lv_room (Nat.le_of_ble_eq_true rfl)) dX6_isSettled_17 ⟨Nat.le_of_ble_eq_true rfl, Nat.le_of_ble_eq_true rfl⟩) hP hD hS hA (fun _ _ H locs hf hP hD hS => ?_)
    obtain ⟨v2, rfl, hv2, rfl⟩ := hf
    have hP : va_P G.1 vwCl (zpic G ad X) H := hP
    have hD : va_D A (zpic G ad X) := hD
    refine W.eq (g2 := F0 m 20 ls [.int (zi v2)]) rfl ?_
    refine z0_eq (tgt := 27) hx hb dX6_isSettled_20 (by decide) (by omega) (fun h20 => ?_) (fun h20 => ?_)
    · refine lv_iconst (v := zi 0) hx hb dX6_isSettled_27 rfl ?_
      exact zend_z hx hb hr hlocks (by decide +kernel) hP hD hS (Nat.le_of_ble_eq_true rfl) (Nat.le_of_ble_eq_true rfl) dX6_isSettled_28 ⟨_, rfl, (Or.inr ⟨rfl, fun q => by rcases hv2 with h | h; omega; exact h.2 ((zSe_fi hk).mp q)⟩), rfl⟩
    · refine lv_iconst (v := zi 1) hx hb dX6_isSettled_23 rfl ?_
      refine lv_goto (tgt := 28) hx hb dX6_isSettled_24 (by decide) ?_
      exact zend_z hx hb hr hlocks (by decide +kernel) hP hD hS (Nat.le_of_ble_eq_true rfl) (Nat.le_of_ble_eq_true rfl) dX6_isSettled_28 ⟨_, rfl, (Or.inl ⟨rfl, (zSe_fi hk).mpr (by rcases hv2 with h | h; exact h.2; omega)⟩), rfl⟩

set_option maxHeartbeats 4000000 in
set_option maxRecDepth 100000 in
/-- deciders -/
theorem c_X6_deciders (l : Launch) (G : zG) (ad : Nat → Nat) (X : Nat → Nat → Int) (a : Nat) (hV : zV X) (hW : zIsW a) : zR l G yX6_deciders wsX6_deciders { frames := 1, cells := 0, slots := 0, locals := 20 } (zpic G ad X) [.ref (ad a)] (zq G ad X (fun w => w = (zDec X a : Int))) 0 0 := by
  refine zR_of (cc := cX6_deciders) (maxL := 3) (rt := (some .int)) (by decide) rfl (Nat.le_of_ble_eq_true rfl) ?_
  intro p e s m below meth c A ls hx hb hml hr hts hown hlocks hin0 hA hE hP hD hS hl
  have hl : lv_has ls 3 [(0, .ref (ad a))] := hl
  have hown : s.vm.findClass RX6 = some m.cls := hown
  have hn := hV.n hW
  have hw6 : ∀ w ∈ u_ws RX6 TX6 3, w ∈ wsX6_deciders := by decide +kernel
  have hf18 := hts (.fieldLink RX6 18 "Nettle$Wall" "count" "I") (by decide +kernel)
  have hf11 := hts (.fieldLink RX6 11 "Nettle$Wall" "rows" "[LNettle$Rule;") (by decide +kernel)
  refine lv_iconst (v := zi 0) hx hb dX6_deciders_0 rfl ?_
  refine lv_istore_n (lv' := [(1, .int (zi 0)), (0, .ref (ad a))]) hx hb dX6_deciders_1 rfl hl (by decide) rfl (fun ls hl => ?_)
  refine lv_iconst (v := zi 0) hx hb dX6_deciders_2 rfl ?_
  refine lv_istore_n (lv' := [(2, .int (zi 0)), (1, .int (zi 0)), (0, .ref (ad a))]) hx hb dX6_deciders_3 rfl hl (by decide) rfl (fun ls hl => ?_)
  refine zloop1 (fun (k : Nat) => 8 - k) (fun (k : Nat) (H : Heap) (locs : List Loc) (ls : Array Slot) => va_P G.1 vwCl (zpic G ad X) H ∧ va_D A (zpic G ad X) ∧ va_S A s.heap H locs ∧ lv_has ls 3 [(2, .int (zi (k : Int))), (1, .int (zi (zSet k (zPd X a) : Int))), (0, .ref (ad a))] ∧ (k ≤ zN X a)) ?_ 0 ⟨hP, hD, hS, lv_sub hl [0, 1, 2] rfl, (by omega)⟩
  intro k ih H locs ls ⟨hP, hD, hS, hl, hk⟩
  refine lv_iload_n hx hb dX6_deciders_4 rfl (lv_at hl 0 rfl) ?_
  refine lv_aload_n hx hb dX6_deciders_5 rfl (lv_at hl 2 rfl) ?_
  refine va_get (D := G.1) (ci := 6) (v := .int (zi (X a 1))) (C := RX6) (T := TX6) (N := 3) hx hb hts hw6 hown hE.1 hP a (p_w hW) rfl 1 (by decide) hf18 (fun _ h9 => h9) rfl dX6_deciders_6 ?_
  refine zc_ge (tgt := 36) hx hb dX6_deciders_9 (by decide) (by omega) (by omega) (fun h9 => ?_) (fun h9 => ?_)
  · refine lv_iload_n hx hb dX6_deciders_36 rfl (lv_at hl 1 rfl) ?_
    exact zend_i hx hb hr hlocks hP hD hS (Nat.le_of_ble_eq_true rfl) (Nat.le_of_ble_eq_true rfl) dX6_deciders_37 ⟨_, rfl, (by have hkn : k = zN X a := (by omega); rw [hkn]; rfl), rfl⟩
  · refine lv_aload_n hx hb dX6_deciders_12 rfl (lv_at hl 2 rfl) ?_
    refine va_get (D := G.1) (ci := 6) (v := .ref (ad (a + 1))) (C := RX6) (T := TX6) (N := 3) hx hb hts hw6 hown hE.1 hP a (p_w hW) rfl 0 (by decide) hf11 (fun _ h9 => h9) rfl dX6_deciders_13 ?_
    refine lv_iload_n hx hb dX6_deciders_16 rfl (lv_at hl 0 rfl) ?_
    refine zqld hx hb hE hP hW k rfl (by omega) dX6_deciders_17 ?_
    have hR1 : zIsR (zr X a k) := hV.isR hW (by omega)
    refine zcall (wr := []) (va_runV (As := []) (rest := []) ⟨hx, hb, hml, hown, hts⟩ (c_X3_isNote l G ad X (zr X a k) hV hR1 H.size) (cwV 0 hts gX6_deciders_X3_isNote rfl rfl rfl (by decide +kernel) ⟨Nat.le_of_ble_eq_true rfl, Nat.le_of_ble_eq_true rfl⟩) (zPreV (wr := []) (wc := zpic G ad X) (q0 := (zr X a k)) (ci := 3) (q := (RX3, TX3, 4)) hP hD hE hS hA rfl (p_r hR1)) rfl rfl hl.1 rfl (lv_room (Nat.le_of_ble_eq_true rfl)) dX6_deciders_18 ⟨Nat.le_of_ble_eq_true rfl, Nat.le_of_ble_eq_true rfl⟩) hP hD hS hA (fun _ _ H locs hf hP hD hS => ?_)
    obtain ⟨v1, rfl, hv1, rfl⟩ := hf
    have hP : va_P G.1 vwCl (zpic G ad X) H := hP
    have hD : va_D A (zpic G ad X) := hD
    refine W.eq (g2 := F0 m 21 ls [.int (zi v1)]) rfl ?_
    refine z0_ne (tgt := 30) hx hb dX6_deciders_21 (by decide) (by omega) (fun h21 => ?_) (fun h21 => ?_)
    · refine lv_iinc (v := zi ((k : Int) + 1)) (lv' := [(2, .int (zi ((k : Int) + 1))), (1, .int (zi (zSet k (zPd X a) : Int))), (0, .ref (ad a))]) hx hb dX6_deciders_30 hl (k := 0) rfl (zi_add _ _) (by decide) rfl (fun ls hl => ?_)
      refine lv_goto (tgt := 4) hx hb dX6_deciders_33 (by decide) ?_
      have e9 : zSet (k + 1) (zPd X a) = zSet k (zPd X a) := zSet_no (by unfold zPd; rw [decide_eq_true_iff]; omega)
      rw [← e9] at hl
      exact ih (k + 1) (by omega) H locs ls ⟨hP, hD, hS, lv_sub hl [0, 1, 2] rfl, (by omega)⟩
    · refine lv_iload_n hx hb dX6_deciders_24 rfl (lv_at hl 1 rfl) ?_
      refine lv_iconst (v := zi 1) hx hb dX6_deciders_25 rfl ?_
      refine lv_iload_n hx hb dX6_deciders_26 rfl (lv_at hl 0 rfl) ?_
      refine lv_ishl hx hb dX6_deciders_27 (zti (v := zi ((2 ^ k : Nat) : Int)) (zi_shl1 (by omega)) ?_)
      refine lv_ior hx hb dX6_deciders_28 (zti (v := zi ((zSet k (zPd X a) ||| 2 ^ k : Nat) : Int)) (zi_or _ _) ?_)
      refine lv_istore_n (lv' := [(1, .int (zi ((zSet k (zPd X a) ||| 2 ^ k : Nat) : Int))), (2, .int (zi (k : Int))), (0, .ref (ad a))]) hx hb dX6_deciders_29 rfl hl (by decide) rfl (fun ls hl => ?_)
      refine lv_iinc (v := zi ((k : Int) + 1)) (lv' := [(2, .int (zi ((k : Int) + 1))), (1, .int (zi ((zSet k (zPd X a) ||| 2 ^ k : Nat) : Int))), (0, .ref (ad a))]) hx hb dX6_deciders_30 hl (k := 1) rfl (zi_add _ _) (by decide) rfl (fun ls hl => ?_)
      refine lv_goto (tgt := 4) hx hb dX6_deciders_33 (by decide) ?_
      have e9 : zSet (k + 1) (zPd X a) = zSet k (zPd X a) ||| 2 ^ k := zSet_yes (by unfold zPd; rw [decide_eq_true_iff]; omega)
      rw [← e9] at hl
      exact ih (k + 1) (by omega) H locs ls ⟨hP, hD, hS, lv_sub hl [0, 1, 2] rfl, (by omega)⟩

set_option maxHeartbeats 4000000 in
set_option maxRecDepth 100000 in
/-- having -/
theorem c_X6_having (l : Launch) (G : zG) (ad : Nat → Nat) (X : Nat → Nat → Int) (a : Nat) (f : Nat) (v : Int) (hV : zV X) (hW : zIsW a) (hf : f < 4) (hv : -2147483648 ≤ v ∧ v ≤ 2147483647) : zR l G yX6_having wsX6_having { frames := 1, cells := 0, slots := 0, locals := 22 } (zpic G ad X) [.ref (ad a), .int (zi (f : Int)), .int (zi v)] (zq G ad X (fun w => w = (zHav X a f v : Int))) 0 0 := by
  refine zR_of (cc := cX6_having) (maxL := 5) (rt := (some .int)) (by decide) rfl (Nat.le_of_ble_eq_true rfl) ?_
  intro p e s m below meth c A ls hx hb hml hr hts hown hlocks hin0 hA hE hP hD hS hl
  have hl : lv_has ls 5 [(0, .ref (ad a)), (1, .int (zi (f : Int))), (2, .int (zi v))] := hl
  have hown : s.vm.findClass RX6 = some m.cls := hown
  have hn := hV.n hW
  have hw6 : ∀ w ∈ u_ws RX6 TX6 3, w ∈ wsX6_having := by decide +kernel
  have hf18 := hts (.fieldLink RX6 18 "Nettle$Wall" "count" "I") (by decide +kernel)
  have hf11 := hts (.fieldLink RX6 11 "Nettle$Wall" "rows" "[LNettle$Rule;") (by decide +kernel)
  refine lv_iconst (v := zi 0) hx hb dX6_having_0 rfl ?_
  refine lv_istore_n (lv' := [(3, .int (zi 0)), (0, .ref (ad a)), (1, .int (zi (f : Int))), (2, .int (zi v))]) hx hb dX6_having_1 rfl hl (by decide) rfl (fun ls hl => ?_)
  refine lv_iconst (v := zi 0) hx hb dX6_having_2 rfl ?_
  refine lv_istore (lv' := [(4, .int (zi 0)), (3, .int (zi 0)), (0, .ref (ad a)), (1, .int (zi (f : Int))), (2, .int (zi v))]) hx hb dX6_having_3 hl (by decide) rfl (fun ls hl => ?_)
  refine zloop1 (fun (k : Nat) => 8 - k) (fun (k : Nat) (H : Heap) (locs : List Loc) (ls : Array Slot) => va_P G.1 vwCl (zpic G ad X) H ∧ va_D A (zpic G ad X) ∧ va_S A s.heap H locs ∧ lv_has ls 5 [(4, .int (zi (k : Int))), (3, .int (zi (zSet k (zPh X a f v) : Int))), (2, .int (zi v)), (1, .int (zi (f : Int))), (0, .ref (ad a))] ∧ (k ≤ zN X a)) ?_ 0 ⟨hP, hD, hS, lv_sub hl [0, 1, 4, 3, 2] rfl, (by omega)⟩
  intro k ih H locs ls ⟨hP, hD, hS, hl, hk⟩
  refine lv_iload hx hb dX6_having_5 (lv_at hl 0 rfl) ?_
  refine lv_aload_n hx hb dX6_having_7 rfl (lv_at hl 4 rfl) ?_
  refine va_get (D := G.1) (ci := 6) (v := .int (zi (X a 1))) (C := RX6) (T := TX6) (N := 3) hx hb hts hw6 hown hE.1 hP a (p_w hW) rfl 1 (by decide) hf18 (fun _ h9 => h9) rfl dX6_having_8 ?_
  refine zc_ge (tgt := 42) hx hb dX6_having_11 (by decide) (by omega) (by omega) (fun h11 => ?_) (fun h11 => ?_)
  · refine lv_iload_n hx hb dX6_having_42 rfl (lv_at hl 1 rfl) ?_
    exact zend_i hx hb hr hlocks hP hD hS (Nat.le_of_ble_eq_true rfl) (Nat.le_of_ble_eq_true rfl) dX6_having_43 ⟨_, rfl, (by have hkn : k = zN X a := (by omega); rw [hkn]; rfl), rfl⟩
  · refine lv_aload_n hx hb dX6_having_14 rfl (lv_at hl 4 rfl) ?_
    refine va_get (D := G.1) (ci := 6) (v := .ref (ad (a + 1))) (C := RX6) (T := TX6) (N := 3) hx hb hts hw6 hown hE.1 hP a (p_w hW) rfl 0 (by decide) hf11 (fun _ h9 => h9) rfl dX6_having_15 ?_
    refine lv_iload hx hb dX6_having_18 (lv_at hl 0 rfl) ?_
    refine zqld hx hb hE hP hW k rfl (by omega) dX6_having_20 ?_
    have hR1 : zIsR (zr X a k) := hV.isR hW (by omega)
    refine lv_iload_n hx hb dX6_having_21 rfl (lv_at hl 3 rfl) ?_
    refine lv_iload_n hx hb dX6_having_22 rfl (lv_at hl 2 rfl) ?_
    refine zcall (wr := []) (va_runV (As := [.int (zi (f : Int)), .int (zi v)]) (rest := []) ⟨hx, hb, hml, hown, hts⟩ (c_X3_has l G ad X (zr X a k) f v hV hR1 (by omega) (by omega) H.size) (cwV 2 hts gX6_having_X3_has rfl rfl rfl (by decide +kernel) ⟨Nat.le_of_ble_eq_true rfl, Nat.le_of_ble_eq_true rfl⟩) (zPreV (wr := []) (wc := zpic G ad X) (q0 := (zr X a k)) (ci := 3) (q := (RX3, TX3, 4)) hP hD hE hS hA rfl (p_r hR1)) rfl rfl hl.1 rfl (lv_room (Nat.le_of_ble_eq_true rfl)) dX6_having_23 ⟨Nat.le_of_ble_eq_true rfl, Nat.le_of_ble_eq_true rfl⟩) hP hD hS hA (fun _ _ H locs hf hP hD hS => ?_)
    obtain ⟨v1, rfl, hv1, rfl⟩ := hf
    have hP : va_P G.1 vwCl (zpic G ad X) H := hP
    have hD : va_D A (zpic G ad X) := hD
    refine W.eq (g2 := F0 m 26 ls [.int (zi v1)]) rfl ?_
    refine z0_eq (tgt := 36) hx hb dX6_having_26 (by decide) (by omega) (fun h26 => ?_) (fun h26 => ?_)
    · refine lv_iinc (v := zi ((k : Int) + 1)) (lv' := [(4, .int (zi ((k : Int) + 1))), (3, .int (zi (zSet k (zPh X a f v) : Int))), (2, .int (zi v)), (1, .int (zi (f : Int))), (0, .ref (ad a))]) hx hb dX6_having_36 hl (k := 0) rfl (zi_add _ _) (by decide) rfl (fun ls hl => ?_)
      refine lv_goto (tgt := 5) hx hb dX6_having_39 (by decide) ?_
      have e9 : zSet (k + 1) (zPh X a f v) = zSet k (zPh X a f v) := zSet_no (by unfold zPh; rw [zHasB_iff]; omega)
      rw [← e9] at hl
      exact ih (k + 1) (by omega) H locs ls ⟨hP, hD, hS, lv_sub hl [0, 1, 2, 3, 4] rfl, (by omega)⟩
    · refine lv_iload_n hx hb dX6_having_29 rfl (lv_at hl 1 rfl) ?_
      refine lv_iconst (v := zi 1) hx hb dX6_having_30 rfl ?_
      refine lv_iload hx hb dX6_having_31 (lv_at hl 0 rfl) ?_
      refine lv_ishl hx hb dX6_having_33 (zti (v := zi ((2 ^ k : Nat) : Int)) (zi_shl1 (by omega)) ?_)
      refine lv_ior hx hb dX6_having_34 (zti (v := zi ((zSet k (zPh X a f v) ||| 2 ^ k : Nat) : Int)) (zi_or _ _) ?_)
      refine lv_istore_n (lv' := [(3, .int (zi ((zSet k (zPh X a f v) ||| 2 ^ k : Nat) : Int))), (4, .int (zi (k : Int))), (2, .int (zi v)), (1, .int (zi (f : Int))), (0, .ref (ad a))]) hx hb dX6_having_35 rfl hl (by decide) rfl (fun ls hl => ?_)
      refine lv_iinc (v := zi ((k : Int) + 1)) (lv' := [(4, .int (zi ((k : Int) + 1))), (3, .int (zi ((zSet k (zPh X a f v) ||| 2 ^ k : Nat) : Int))), (2, .int (zi v)), (1, .int (zi (f : Int))), (0, .ref (ad a))]) hx hb dX6_having_36 hl (k := 1) rfl (zi_add _ _) (by decide) rfl (fun ls hl => ?_)
      refine lv_goto (tgt := 5) hx hb dX6_having_39 (by decide) ?_
      have e9 : zSet (k + 1) (zPh X a f v) = zSet k (zPh X a f v) ||| 2 ^ k := zSet_yes (by unfold zPh; rw [zHasB_iff]; omega)
      rw [← e9] at hl
      exact ih (k + 1) (by omega) H locs ls ⟨hP, hD, hS, lv_sub hl [0, 1, 2, 3, 4] rfl, (by omega)⟩

set_option maxHeartbeats 4000000 in
set_option maxRecDepth 100000 in
/-- nextCut -/
theorem c_X6_nextCut (l : Launch) (G : zG) (ad : Nat → Nat) (X : Nat → Nat → Int) (a : Nat) (f : Nat) (v : Int) (hV : zV X) (hW : zIsW a) (hf : f < 4) (hv : 0 ≤ v ∧ v < zS f) : zR l G yX6_nextCut wsX6_nextCut { frames := 1, cells := 0, slots := 0, locals := 13 } (zpic G ad X) [.ref (ad a), .int (zi (f : Int)), .int (zi v)] (zq G ad X (fun w => v < w ∧ w ≤ zS f ∧ (∀ j : Nat, j < zN X a → (v < X (zr X a j + 1) f → w ≤ X (zr X a j + 1) f) ∧ (v ≤ X (zr X a j + 2) f → w ≤ X (zr X a j + 2) f + 1)) ∧ zCutAt X a f (zN X a) w)) 0 0 := by
  refine zR_of (cc := cX6_nextCut) (maxL := 5) (rt := (some .int)) (by decide) rfl (Nat.le_of_ble_eq_true rfl) ?_
  intro p e s m below meth c A ls hx hb hml hr hts hown hlocks hin0 hA hE hP hD hS hl
  have hl : lv_has ls 5 [(0, .ref (ad a)), (1, .int (zi (f : Int))), (2, .int (zi v))] := hl
  have hown : s.vm.findClass RX6 = some m.cls := hown
  have hn := hV.n hW
  have hsf := zS_le f
  have hw6 : ∀ w ∈ u_ws RX6 TX6 3, w ∈ wsX6_nextCut := by decide +kernel
  have hf18 := hts (.fieldLink RX6 18 "Nettle$Wall" "count" "I") (by decide +kernel)
  have hf11 := hts (.fieldLink RX6 11 "Nettle$Wall" "rows" "[LNettle$Rule;") (by decide +kernel)
  have hw3 : ∀ w ∈ u_ws RX3 TX3 4, w ∈ wsX6_nextCut := by decide +kernel
  have hf50 := hts (.fieldLink RX6 50 "Nettle$Rule" "lows" "[I") (by decide +kernel)
  have hf59 := hts (.fieldLink RX6 59 "Nettle$Rule" "highs" "[I") (by decide +kernel)
  have hmamin := hts (.code Lib.Math.min.name Lib.Math.min.code 2 (some .int)) (by decide +kernel)
  have hml53 := hts (.methodLink RX6 53 Lib.Math.min.name) (by decide +kernel)
  have hstmin := hts (.static Lib.Math.min.name) (by decide +kernel)
  have hiniMath := hts (.initialized "java/lang/Math") (by decide +kernel)
  refine va_getsN hx hb hE.2.1.1 hS hown (va_Nw.use rfl hE.2.2.2.1.2.2.2.2.2.1) (fun _ h9 => h9) dX6_nextCut_0 ?_
  refine lv_iload_n hx hb dX6_nextCut_3 rfl (lv_at hl 1 rfl) ?_
  refine zsz_ld hx hb hE hS f rfl (by omega) dX6_nextCut_4 ?_
  refine lv_istore_n (lv' := [(3, .int (zi (zS f))), (0, .ref (ad a)), (1, .int (zi (f : Int))), (2, .int (zi v))]) hx hb dX6_nextCut_5 rfl hl (by decide) rfl (fun ls hl => ?_)
  refine lv_iconst (v := zi 0) hx hb dX6_nextCut_6 rfl ?_
  refine lv_istore (lv' := [(4, .int (zi 0)), (3, .int (zi (zS f))), (0, .ref (ad a)), (1, .int (zi (f : Int))), (2, .int (zi v))]) hx hb dX6_nextCut_7 hl (by decide) rfl (fun ls hl => ?_)
  refine zloop2 (fun (k : Nat) (t : Int) => 8 - k) (fun (k : Nat) (t : Int) (H : Heap) (locs : List Loc) (ls : Array Slot) => va_P G.1 vwCl (zpic G ad X) H ∧ va_D A (zpic G ad X) ∧ va_S A s.heap H locs ∧ lv_has ls 5 [(4, .int (zi (k : Int))), (3, .int (zi t)), (2, .int (zi v)), (1, .int (zi (f : Int))), (0, .ref (ad a))] ∧ (k ≤ zN X a) ∧ (v < t ∧ t ≤ zS f) ∧ (∀ j : Nat, j < k → (v < X (zr X a j + 1) f → t ≤ X (zr X a j + 1) f) ∧ (v ≤ X (zr X a j + 2) f → t ≤ X (zr X a j + 2) f + 1)) ∧ (zCutAt X a f k t)) ?_ 0 (zS f) ⟨hP, hD, hS, lv_sub hl [0, 1, 4, 3, 2] rfl, (by omega), (by omega), (fun j h1 => by omega), (Or.inl rfl)⟩
  intro k t ih H locs ls ⟨hP, hD, hS, hl, hk, ht, hw, he⟩
  refine lv_iload hx hb dX6_nextCut_9 (lv_at hl 0 rfl) ?_
  refine lv_aload_n hx hb dX6_nextCut_11 rfl (lv_at hl 4 rfl) ?_
  refine va_get (D := G.1) (ci := 6) (v := .int (zi (X a 1))) (C := RX6) (T := TX6) (N := 3) hx hb hts hw6 hown hE.1 hP a (p_w hW) rfl 1 (by decide) hf18 (fun _ h9 => h9) rfl dX6_nextCut_12 ?_
  refine zc_ge (tgt := 92) hx hb dX6_nextCut_15 (by decide) (by omega) (by omega) (fun h15 => ?_) (fun h15 => ?_)
  · refine lv_iload_n hx hb dX6_nextCut_92 rfl (lv_at hl 1 rfl) ?_
    exact zend_i hx hb hr hlocks hP hD hS (Nat.le_of_ble_eq_true rfl) (Nat.le_of_ble_eq_true rfl) dX6_nextCut_93 ⟨_, rfl, (by have hkn : k = zN X a := (by omega); rw [hkn] at hw he; exact ⟨ht.1, ht.2, hw, he⟩), rfl⟩
  · have hrf := hV.rf (hV.isR hW (show k < 8 by omega)) hf
    refine lv_aload_n hx hb dX6_nextCut_18 rfl (lv_at hl 4 rfl) ?_
    refine va_get (D := G.1) (ci := 6) (v := .ref (ad (a + 1))) (C := RX6) (T := TX6) (N := 3) hx hb hts hw6 hown hE.1 hP a (p_w hW) rfl 0 (by decide) hf11 (fun _ h9 => h9) rfl dX6_nextCut_19 ?_
    refine lv_iload hx hb dX6_nextCut_22 (lv_at hl 0 rfl) ?_
    refine zqld hx hb hE hP hW k rfl (by omega) dX6_nextCut_24 ?_
    have hR1 : zIsR (zr X a k) := hV.isR hW (by omega)
    refine va_get (D := G.1) (ci := 3) (v := .ref (ad ((zr X a k) + 1))) (C := RX3) (T := TX3) (N := 4) hx hb hts hw3 hown hE.1 hP (zr X a k) (p_r hR1) rfl 2 (by decide) hf50 (fun _ h9 => h9) rfl dX6_nextCut_25 ?_
    refine lv_iload_n hx hb dX6_nextCut_28 rfl (lv_at hl 3 rfl) ?_
    refine zild hx hb hE hP ((zr X a k) + 1) 4 (a_l hR1) (by have := hR1.lt; omega) f rfl (by omega) (by decide) dX6_nextCut_29 ?_
    refine lv_iload_n hx hb dX6_nextCut_30 rfl (lv_at hl 2 rfl) ?_
    refine zc_le (tgt := 51) hx hb dX6_nextCut_31 (by decide) (by omega) (by omega) (fun h31 => ?_) (fun h31 => ?_)
    · refine lv_aload_n hx hb dX6_nextCut_51 rfl (lv_at hl 4 rfl) ?_
      refine va_get (D := G.1) (ci := 6) (v := .ref (ad (a + 1))) (C := RX6) (T := TX6) (N := 3) hx hb hts hw6 hown hE.1 hP a (p_w hW) rfl 0 (by decide) hf11 (fun _ h9 => h9) rfl dX6_nextCut_52 ?_
      refine lv_iload hx hb dX6_nextCut_55 (lv_at hl 0 rfl) ?_
      refine zqld hx hb hE hP hW k rfl (by omega) dX6_nextCut_57 ?_
      refine va_get (D := G.1) (ci := 3) (v := .ref (ad ((zr X a k) + 2))) (C := RX3) (T := TX3) (N := 4) hx hb hts hw3 hown hE.1 hP (zr X a k) (p_r hR1) rfl 3 (by decide) hf59 (fun _ h9 => h9) rfl dX6_nextCut_58 ?_
      refine lv_iload_n hx hb dX6_nextCut_61 rfl (lv_at hl 3 rfl) ?_
      refine zild hx hb hE hP ((zr X a k) + 2) 4 (a_h hR1) (by have := hR1.lt; omega) f rfl (by omega) (by decide) dX6_nextCut_62 ?_
      refine lv_iload_n hx hb dX6_nextCut_63 rfl (lv_at hl 2 rfl) ?_
      refine zc_lt (tgt := 86) hx hb dX6_nextCut_64 (by decide) (by omega) (by omega) (fun h64 => ?_) (fun h64 => ?_)
      · refine lv_iinc (v := zi ((k : Int) + 1)) (lv' := [(4, .int (zi ((k : Int) + 1))), (3, .int (zi t)), (2, .int (zi v)), (1, .int (zi (f : Int))), (0, .ref (ad a))]) hx hb dX6_nextCut_86 hl (k := 0) rfl (zi_add _ _) (by decide) rfl (fun ls hl => ?_)
        refine lv_goto (tgt := 9) hx hb dX6_nextCut_89 (by decide) ?_
        exact ih (k + 1) t (by omega) H locs ls ⟨hP, hD, hS, lv_sub hl [0, 1, 2, 3, 4] rfl, (by omega), (by omega), (fun j h1 => by by_cases hk2 : j < k; (have := hw j hk2; omega); have hjk : j = k := (by omega); rw [hjk]; omega), (zCutAt.succ he)⟩
      · refine lv_iload_n hx hb dX6_nextCut_67 rfl (lv_at hl 1 rfl) ?_
        refine lv_aload_n hx hb dX6_nextCut_68 rfl (lv_at hl 4 rfl) ?_
        refine va_get (D := G.1) (ci := 6) (v := .ref (ad (a + 1))) (C := RX6) (T := TX6) (N := 3) hx hb hts hw6 hown hE.1 hP a (p_w hW) rfl 0 (by decide) hf11 (fun _ h9 => h9) rfl dX6_nextCut_69 ?_
        refine lv_iload hx hb dX6_nextCut_72 (lv_at hl 0 rfl) ?_
        refine zqld hx hb hE hP hW k rfl (by omega) dX6_nextCut_74 ?_
        refine va_get (D := G.1) (ci := 3) (v := .ref (ad ((zr X a k) + 2))) (C := RX3) (T := TX3) (N := 4) hx hb hts hw3 hown hE.1 hP (zr X a k) (p_r hR1) rfl 3 (by decide) hf59 (fun _ h9 => h9) rfl dX6_nextCut_75 ?_
        refine lv_iload_n hx hb dX6_nextCut_78 rfl (lv_at hl 3 rfl) ?_
        refine zild hx hb hE hP ((zr X a k) + 2) 4 (a_h hR1) (by have := hR1.lt; omega) f rfl (by omega) (by decide) dX6_nextCut_79 ?_
        refine lv_iconst (v := zi 1) hx hb dX6_nextCut_80 rfl ?_
        refine lv_iadd hx hb dX6_nextCut_81 (zti (v := zi ((X ((zr X a k) + 2) f) + 1)) (zi_add _ _) ?_)
        refine va_mmin hx hb (hml.trans hl.1.symm) hown hml53 hstmin hiniMath hmamin (Nat.le_of_ble_eq_true rfl) (Nat.le_of_ble_eq_true rfl) (Nat.le_of_ble_eq_true rfl) (Nat.le_of_ble_eq_true rfl) dX6_nextCut_82 ?_
        refine zti (v := zi (min t ((X ((zr X a k) + 2) f) + 1))) (zi_min (by omega) (by omega)) ?_
        refine lv_istore_n (lv' := [(3, .int (zi (min t ((X ((zr X a k) + 2) f) + 1)))), (4, .int (zi (k : Int))), (2, .int (zi v)), (1, .int (zi (f : Int))), (0, .ref (ad a))]) hx hb dX6_nextCut_85 rfl hl (by decide) rfl (fun ls hl => ?_)
        refine lv_iinc (v := zi ((k : Int) + 1)) (lv' := [(4, .int (zi ((k : Int) + 1))), (3, .int (zi (min t ((X ((zr X a k) + 2) f) + 1)))), (2, .int (zi v)), (1, .int (zi (f : Int))), (0, .ref (ad a))]) hx hb dX6_nextCut_86 hl (k := 1) rfl (zi_add _ _) (by decide) rfl (fun ls hl => ?_)
        refine lv_goto (tgt := 9) hx hb dX6_nextCut_89 (by decide) ?_
        exact ih (k + 1) (min t ((X ((zr X a k) + 2) f) + 1)) (by omega) H locs ls ⟨hP, hD, hS, lv_sub hl [0, 1, 2, 3, 4] rfl, (by omega), (by omega), (fun j h1 => by by_cases hk2 : j < k; (have := hw j hk2; omega); have hjk : j = k := (by omega); rw [hjk]; omega), (zCutAt.min (zCutAt.succ he) (zCutAt.hi X a f k))⟩
    · refine lv_iload_n hx hb dX6_nextCut_34 rfl (lv_at hl 1 rfl) ?_
      refine lv_aload_n hx hb dX6_nextCut_35 rfl (lv_at hl 4 rfl) ?_
      refine va_get (D := G.1) (ci := 6) (v := .ref (ad (a + 1))) (C := RX6) (T := TX6) (N := 3) hx hb hts hw6 hown hE.1 hP a (p_w hW) rfl 0 (by decide) hf11 (fun _ h9 => h9) rfl dX6_nextCut_36 ?_
      refine lv_iload hx hb dX6_nextCut_39 (lv_at hl 0 rfl) ?_
      refine zqld hx hb hE hP hW k rfl (by omega) dX6_nextCut_41 ?_
      refine va_get (D := G.1) (ci := 3) (v := .ref (ad ((zr X a k) + 1))) (C := RX3) (T := TX3) (N := 4) hx hb hts hw3 hown hE.1 hP (zr X a k) (p_r hR1) rfl 2 (by decide) hf50 (fun _ h9 => h9) rfl dX6_nextCut_42 ?_
      refine lv_iload_n hx hb dX6_nextCut_45 rfl (lv_at hl 3 rfl) ?_
      refine zild hx hb hE hP ((zr X a k) + 1) 4 (a_l hR1) (by have := hR1.lt; omega) f rfl (by omega) (by decide) dX6_nextCut_46 ?_
      refine va_mmin hx hb (hml.trans hl.1.symm) hown hml53 hstmin hiniMath hmamin (Nat.le_of_ble_eq_true rfl) (Nat.le_of_ble_eq_true rfl) (Nat.le_of_ble_eq_true rfl) (Nat.le_of_ble_eq_true rfl) dX6_nextCut_47 ?_
      refine zti (v := zi (min t (X ((zr X a k) + 1) f))) (zi_min (by omega) (by omega)) ?_
      refine lv_istore_n (lv' := [(3, .int (zi (min t (X ((zr X a k) + 1) f)))), (4, .int (zi (k : Int))), (2, .int (zi v)), (1, .int (zi (f : Int))), (0, .ref (ad a))]) hx hb dX6_nextCut_50 rfl hl (by decide) rfl (fun ls hl => ?_)
      refine lv_aload_n hx hb dX6_nextCut_51 rfl (lv_at hl 4 rfl) ?_
      refine va_get (D := G.1) (ci := 6) (v := .ref (ad (a + 1))) (C := RX6) (T := TX6) (N := 3) hx hb hts hw6 hown hE.1 hP a (p_w hW) rfl 0 (by decide) hf11 (fun _ h9 => h9) rfl dX6_nextCut_52 ?_
      refine lv_iload hx hb dX6_nextCut_55 (lv_at hl 1 rfl) ?_
      refine zqld hx hb hE hP hW k rfl (by omega) dX6_nextCut_57 ?_
      refine va_get (D := G.1) (ci := 3) (v := .ref (ad ((zr X a k) + 2))) (C := RX3) (T := TX3) (N := 4) hx hb hts hw3 hown hE.1 hP (zr X a k) (p_r hR1) rfl 3 (by decide) hf59 (fun _ h9 => h9) rfl dX6_nextCut_58 ?_
      refine lv_iload_n hx hb dX6_nextCut_61 rfl (lv_at hl 3 rfl) ?_
      refine zild hx hb hE hP ((zr X a k) + 2) 4 (a_h hR1) (by have := hR1.lt; omega) f rfl (by omega) (by decide) dX6_nextCut_62 ?_
      refine lv_iload_n hx hb dX6_nextCut_63 rfl (lv_at hl 2 rfl) ?_
      refine zc_lt (tgt := 86) hx hb dX6_nextCut_64 (by decide) (by omega) (by omega) (fun h64 => ?_) (fun h64 => ?_)
      · refine lv_iinc (v := zi ((k : Int) + 1)) (lv' := [(4, .int (zi ((k : Int) + 1))), (3, .int (zi (min t (X ((zr X a k) + 1) f)))), (2, .int (zi v)), (1, .int (zi (f : Int))), (0, .ref (ad a))]) hx hb dX6_nextCut_86 hl (k := 1) rfl (zi_add _ _) (by decide) rfl (fun ls hl => ?_)
        refine lv_goto (tgt := 9) hx hb dX6_nextCut_89 (by decide) ?_
        exact ih (k + 1) (min t (X ((zr X a k) + 1) f)) (by omega) H locs ls ⟨hP, hD, hS, lv_sub hl [0, 1, 2, 3, 4] rfl, (by omega), (by omega), (fun j h1 => by by_cases hk2 : j < k; (have := hw j hk2; omega); have hjk : j = k := (by omega); rw [hjk]; omega), (zCutAt.min (zCutAt.succ he) (zCutAt.lo X a f k))⟩
      · refine lv_iload_n hx hb dX6_nextCut_67 rfl (lv_at hl 0 rfl) ?_
        refine lv_aload_n hx hb dX6_nextCut_68 rfl (lv_at hl 4 rfl) ?_
        refine va_get (D := G.1) (ci := 6) (v := .ref (ad (a + 1))) (C := RX6) (T := TX6) (N := 3) hx hb hts hw6 hown hE.1 hP a (p_w hW) rfl 0 (by decide) hf11 (fun _ h9 => h9) rfl dX6_nextCut_69 ?_
        refine lv_iload hx hb dX6_nextCut_72 (lv_at hl 1 rfl) ?_
        refine zqld hx hb hE hP hW k rfl (by omega) dX6_nextCut_74 ?_
        refine va_get (D := G.1) (ci := 3) (v := .ref (ad ((zr X a k) + 2))) (C := RX3) (T := TX3) (N := 4) hx hb hts hw3 hown hE.1 hP (zr X a k) (p_r hR1) rfl 3 (by decide) hf59 (fun _ h9 => h9) rfl dX6_nextCut_75 ?_
        refine lv_iload_n hx hb dX6_nextCut_78 rfl (lv_at hl 3 rfl) ?_
        refine zild hx hb hE hP ((zr X a k) + 2) 4 (a_h hR1) (by have := hR1.lt; omega) f rfl (by omega) (by decide) dX6_nextCut_79 ?_
        refine lv_iconst (v := zi 1) hx hb dX6_nextCut_80 rfl ?_
        refine lv_iadd hx hb dX6_nextCut_81 (zti (v := zi ((X ((zr X a k) + 2) f) + 1)) (zi_add _ _) ?_)
        refine va_mmin hx hb (hml.trans hl.1.symm) hown hml53 hstmin hiniMath hmamin (Nat.le_of_ble_eq_true rfl) (Nat.le_of_ble_eq_true rfl) (Nat.le_of_ble_eq_true rfl) (Nat.le_of_ble_eq_true rfl) dX6_nextCut_82 ?_
        refine zti (v := zi (min (min t (X ((zr X a k) + 1) f)) ((X ((zr X a k) + 2) f) + 1))) (zi_min (by omega) (by omega)) ?_
        refine lv_istore_n (lv' := [(3, .int (zi (min (min t (X ((zr X a k) + 1) f)) ((X ((zr X a k) + 2) f) + 1)))), (4, .int (zi (k : Int))), (2, .int (zi v)), (1, .int (zi (f : Int))), (0, .ref (ad a))]) hx hb dX6_nextCut_85 rfl hl (by decide) rfl (fun ls hl => ?_)
        refine lv_iinc (v := zi ((k : Int) + 1)) (lv' := [(4, .int (zi ((k : Int) + 1))), (3, .int (zi (min (min t (X ((zr X a k) + 1) f)) ((X ((zr X a k) + 2) f) + 1)))), (2, .int (zi v)), (1, .int (zi (f : Int))), (0, .ref (ad a))]) hx hb dX6_nextCut_86 hl (k := 1) rfl (zi_add _ _) (by decide) rfl (fun ls hl => ?_)
        refine lv_goto (tgt := 9) hx hb dX6_nextCut_89 (by decide) ?_
        exact ih (k + 1) (min (min t (X ((zr X a k) + 1) f)) ((X ((zr X a k) + 2) f) + 1)) (by omega) H locs ls ⟨hP, hD, hS, lv_sub hl [0, 1, 2, 3, 4] rfl, (by omega), (by omega), (fun j h1 => by by_cases hk2 : j < k; (have := hw j hk2; omega); have hjk : j = k := (by omega); rw [hjk]; omega), (zCutAt.min (zCutAt.min (zCutAt.succ he) (zCutAt.lo X a f k)) (zCutAt.hi X a f k))⟩

set_option maxHeartbeats 4000000 in
set_option maxRecDepth 100000 in
/-- firstCover -/
theorem c_X6_firstCover (l : Launch) (G : zG) (ad : Nat → Nat) (X : Nat → Nat → Int) (a : Nat) (q : Nat) (hV : zV X) (hW : zIsW a) (hq : q < 8) : zR l G yX6_firstCover wsX6_firstCover { frames := 1, cells := 0, slots := 0, locals := 22 } (zpic G ad X) [.ref (ad a), .int (zi (q : Int))] (zq G ad X (fun w => -1 ≤ w ∧ w < (q : Int) ∧ zIsC X a q w)) 0 0 := by
  refine zR_of (cc := cX6_firstCover) (maxL := 3) (rt := (some .int)) (by decide) rfl (Nat.le_of_ble_eq_true rfl) ?_
  intro p e s m below meth c A ls hx hb hml hr hts hown hlocks hin0 hA hE hP hD hS hl
  have hl : lv_has ls 3 [(0, .ref (ad a)), (1, .int (zi (q : Int)))] := hl
  have hown : s.vm.findClass RX6 = some m.cls := hown
  have hw6 : ∀ w ∈ u_ws RX6 TX6 3, w ∈ wsX6_firstCover := by decide +kernel
  have hf11 := hts (.fieldLink RX6 11 "Nettle$Wall" "rows" "[LNettle$Rule;") (by decide +kernel)
  refine lv_iconst (v := zi 0) hx hb dX6_firstCover_0 rfl ?_
  refine lv_istore_n (lv' := [(2, .int (zi 0)), (0, .ref (ad a)), (1, .int (zi (q : Int)))]) hx hb dX6_firstCover_1 rfl hl (by decide) rfl (fun ls hl => ?_)
  refine zloop1 (fun (k : Nat) => 8 - k) (fun (k : Nat) (H : Heap) (locs : List Loc) (ls : Array Slot) => va_P G.1 vwCl (zpic G ad X) H ∧ va_D A (zpic G ad X) ∧ va_S A s.heap H locs ∧ lv_has ls 3 [(2, .int (zi (k : Int))), (1, .int (zi (q : Int))), (0, .ref (ad a))] ∧ (k ≤ q) ∧ (∀ j : Nat, j < k → ¬ zCvr X a q j)) ?_ 0 ⟨hP, hD, hS, lv_sub hl [0, 2, 1] rfl, (by omega), (fun j h1 => by omega)⟩
  intro k ih H locs ls ⟨hP, hD, hS, hl, hk, hw⟩
  refine lv_iload_n hx hb dX6_firstCover_2 rfl (lv_at hl 0 rfl) ?_
  refine lv_iload_n hx hb dX6_firstCover_3 rfl (lv_at hl 1 rfl) ?_
  refine zc_ge (tgt := 45) hx hb dX6_firstCover_4 (by decide) (by omega) (by omega) (fun h4 => ?_) (fun h4 => ?_)
  · refine lv_iconst (v := zi (-1)) hx hb dX6_firstCover_45 rfl ?_
    exact zend_i hx hb hr hlocks hP hD hS (Nat.le_of_ble_eq_true rfl) (Nat.le_of_ble_eq_true rfl) dX6_firstCover_46 ⟨_, rfl, ⟨by omega, by omega, Or.inr ⟨rfl, fun j h => hw j (by omega)⟩⟩, rfl⟩
  · refine lv_aload_n hx hb dX6_firstCover_7 rfl (lv_at hl 2 rfl) ?_
    refine va_get (D := G.1) (ci := 6) (v := .ref (ad (a + 1))) (C := RX6) (T := TX6) (N := 3) hx hb hts hw6 hown hE.1 hP a (p_w hW) rfl 0 (by decide) hf11 (fun _ h9 => h9) rfl dX6_firstCover_8 ?_
    refine lv_iload_n hx hb dX6_firstCover_11 rfl (lv_at hl 0 rfl) ?_
    refine zqld hx hb hE hP hW k rfl (by omega) dX6_firstCover_12 ?_
    have hR1 : zIsR (zr X a k) := hV.isR hW (by omega)
    refine zcall (wr := []) (va_runV (As := []) (rest := []) ⟨hx, hb, hml, hown, hts⟩ (c_X3_isNote l G ad X (zr X a k) hV hR1 H.size) (cwV 0 hts gX6_firstCover_X3_isNote rfl rfl rfl (by decide +kernel) ⟨Nat.le_of_ble_eq_true rfl, Nat.le_of_ble_eq_true rfl⟩) (zPreV (wr := []) (wc := zpic G ad X) (q0 := (zr X a k)) (ci := 3) (q := (RX3, TX3, 4)) hP hD hE hS hA rfl (p_r hR1)) rfl rfl hl.1 rfl (lv_room (Nat.le_of_ble_eq_true rfl)) dX6_firstCover_13 ⟨Nat.le_of_ble_eq_true rfl, Nat.le_of_ble_eq_true rfl⟩) hP hD hS hA (fun _ _ H locs hf hP hD hS => ?_)
    obtain ⟨v1, rfl, hv1, rfl⟩ := hf
    have hP : va_P G.1 vwCl (zpic G ad X) H := hP
    have hD : va_D A (zpic G ad X) := hD
    refine W.eq (g2 := F0 m 16 ls [.int (zi v1)]) rfl ?_
    refine z0_ne (tgt := 39) hx hb dX6_firstCover_16 (by decide) (by omega) (fun h16 => ?_) (fun h16 => ?_)
    · refine lv_iinc (v := zi ((k : Int) + 1)) (lv' := [(2, .int (zi ((k : Int) + 1))), (1, .int (zi (q : Int))), (0, .ref (ad a))]) hx hb dX6_firstCover_39 hl (k := 0) rfl (zi_add _ _) (by decide) rfl (fun ls hl => ?_)
      refine lv_goto (tgt := 2) hx hb dX6_firstCover_42 (by decide) ?_
      exact ih (k + 1) (by omega) H locs ls ⟨hP, hD, hS, lv_sub hl [0, 1, 2] rfl, (by omega), (fun j h1 => by by_cases hk : j < k; exact hw j hk; have hjk : j = k := (by omega); rw [hjk]; exact fun z => by have := z.1; omega)⟩
    · refine lv_aload_n hx hb dX6_firstCover_19 rfl (lv_at hl 2 rfl) ?_
      refine va_get (D := G.1) (ci := 6) (v := .ref (ad (a + 1))) (C := RX6) (T := TX6) (N := 3) hx hb hts hw6 hown hE.1 hP a (p_w hW) rfl 0 (by decide) hf11 (fun _ h9 => h9) rfl dX6_firstCover_20 ?_
      refine lv_iload_n hx hb dX6_firstCover_23 rfl (lv_at hl 0 rfl) ?_
      refine zqld hx hb hE hP hW k rfl (by omega) dX6_firstCover_24 ?_
      refine lv_aload_n hx hb dX6_firstCover_25 rfl (lv_at hl 2 rfl) ?_
      refine va_get (D := G.1) (ci := 6) (v := .ref (ad (a + 1))) (C := RX6) (T := TX6) (N := 3) hx hb hts hw6 hown hE.1 hP a (p_w hW) rfl 0 (by decide) hf11 (fun _ h9 => h9) rfl dX6_firstCover_26 ?_
      refine lv_iload_n hx hb dX6_firstCover_29 rfl (lv_at hl 1 rfl) ?_
      refine zqld hx hb hE hP hW q rfl (by omega) dX6_firstCover_30 ?_
      have hR2 : zIsR (zr X a q) := hV.isR hW (by omega)
      refine zcall (wr := []) (va_runV (As := [.ref (ad (zr X a q))]) (rest := []) ⟨hx, hb, hml, hown, hts⟩ (c_X3_covers l G ad X (zr X a k) (zr X a q) hV hR1 hR2 H.size) (cwV 1 hts gX6_firstCover_X3_covers rfl rfl rfl (by decide +kernel) ⟨Nat.le_of_ble_eq_true rfl, Nat.le_of_ble_eq_true rfl⟩) (zPreV (wr := []) (wc := zpic G ad X) (q0 := (zr X a k)) (ci := 3) (q := (RX3, TX3, 4)) hP hD hE hS hA rfl (p_r hR1)) rfl rfl hl.1 rfl (lv_room (Nat.le_of_ble_eq_true rfl)) dX6_firstCover_31 ⟨Nat.le_of_ble_eq_true rfl, Nat.le_of_ble_eq_true rfl⟩) hP hD hS hA (fun _ _ H locs hf hP hD hS => ?_)
      obtain ⟨v2, rfl, hv2, rfl⟩ := hf
      have hP : va_P G.1 vwCl (zpic G ad X) H := hP
      have hD : va_D A (zpic G ad X) := hD
      refine W.eq (g2 := F0 m 34 ls [.int (zi v2)]) rfl ?_
      refine z0_eq (tgt := 39) hx hb dX6_firstCover_34 (by decide) (by omega) (fun h34 => ?_) (fun h34 => ?_)
      · refine lv_iinc (v := zi ((k : Int) + 1)) (lv' := [(2, .int (zi ((k : Int) + 1))), (1, .int (zi (q : Int))), (0, .ref (ad a))]) hx hb dX6_firstCover_39 hl (k := 0) rfl (zi_add _ _) (by decide) rfl (fun ls hl => ?_)
        refine lv_goto (tgt := 2) hx hb dX6_firstCover_42 (by decide) ?_
        exact ih (k + 1) (by omega) H locs ls ⟨hP, hD, hS, lv_sub hl [0, 1, 2] rfl, (by omega), (fun j h1 => by by_cases hk : j < k; exact hw j hk; have hjk : j = k := (by omega); rw [hjk]; exact fun z => by rcases hv2 with h | h; omega; exact h.2 z.2)⟩
      · refine lv_iload_n hx hb dX6_firstCover_37 rfl (lv_at hl 0 rfl) ?_
        exact zend_i hx hb hr hlocks hP hD hS (Nat.le_of_ble_eq_true rfl) (Nat.le_of_ble_eq_true rfl) dX6_firstCover_38 ⟨_, rfl, ⟨by omega, by omega, Or.inl ⟨k, rfl, ⟨by omega, by rcases hv2 with h | h; exact h.2; omega⟩, hw⟩⟩, rfl⟩
end
section
/-! ===== what keeps the memory valid ===== -/
theorem zr_ge (X : Nat → Nat → Int) (a i : Nat) : a + 2 ≤ zr X a i := by unfold zr; omega
theorem zIsR.apart {r a : Nat} (h : zIsR r) (ha : zIsW a) : a ≠ r ∧ a ≠ r + 1 ∧ a ≠ r + 2 ∧ a + 1 ≠ r ∧ a + 1 ≠ r + 1 ∧ a + 1 ≠ r + 2 := by
  have h1 := h.mod
  have h2 := h.lt
  rcases ha with rfl | rfl <;> omega
theorem zIsR.sep {r q : Nat} (h : zIsR r) (hq : zIsR q) (hne : r ≠ q) : q ≠ r ∧ q ≠ r + 1 ∧ q ≠ r + 2 ∧ q + 1 ≠ r ∧ q + 1 ≠ r + 1 ∧ q + 1 ≠ r + 2 ∧ q + 2 ≠ r ∧ q + 2 ≠ r + 1 ∧ q + 2 ≠ r + 2 := by
  obtain ⟨a, s, h1, h2, rfl⟩ := h
  obtain ⟨b, t, h3, h4, rfl⟩ := hq
  rcases h1 with rfl | rfl <;> rcases h3 with rfl | rfl <;> omega
theorem zRok.same {X Y : Nat → Nat → Int} {r : Nat} (h : zRok X r) (h0 : Y r = X r) (h1 : Y (r + 1) = X (r + 1)) (h2 : Y (r + 2) = X (r + 2)) : zRok Y r := by
  unfold zRok
  rw [h0, h1, h2]
  exact h
theorem zWok.chg {X Y : Nat → Nat → Int} {a : Nat} (h : zWok X a) (ha : zIsW a) {r : Nat} (hr : zIsR r) (hk : ∀ k : Nat, k ≠ r → k ≠ r + 1 → k ≠ r + 2 → Y k = X k) (ho : zRok Y r) : zWok Y a := by
  obtain ⟨p1, p2, p3, p4, p5, p6⟩ := hr.apart ha
  have e0 : Y a = X a := hk a p1 p2 p3
  have e1 : Y (a + 1) = X (a + 1) := hk (a + 1) p4 p5 p6
  unfold zWok
  rw [e0, e1]
  refine ⟨h.1, h.2.1, h.2.2.1, h.2.2.2.1, fun s hs => ?_⟩
  by_cases he : r = a + 2 + 3 * s
  · rw [← he]; exact ho
  · obtain ⟨q1, q2, q3, q4, q5, q6, q7, q8, q9⟩ := hr.sep ⟨a, s, ha, hs, rfl⟩ he
    exact (h.2.2.2.2 s hs).same (hk _ q1 q2 q3) (hk _ q4 q5 q6) (hk _ q7 q8 q9)
theorem zV.chg {X Y : Nat → Nat → Int} (h : zV X) {r : Nat} (hr : zIsR r) (hk : ∀ k : Nat, k ≠ r → k ≠ r + 1 → k ≠ r + 2 → Y k = X k) (ho : zRok Y r) : zV Y :=
  ⟨h.1.chg (Or.inl rfl) hr hk ho, h.2.chg (Or.inr rfl) hr hk ho⟩
theorem zWok.eq {X Y : Nat → Nat → Int} {a : Nat} (h : zWok X a) (hk : ∀ k : Nat, a ≤ k → k < a + 26 → Y k = X k) : zWok Y a := by
  have e0 : Y a = X a := hk a (by omega) (by omega)
  have e1 : Y (a + 1) = X (a + 1) := hk (a + 1) (by omega) (by omega)
  unfold zWok
  rw [e0, e1]
  exact ⟨h.1, h.2.1, h.2.2.1, h.2.2.2.1, fun s hs => (h.2.2.2.2 s hs).same (hk _ (by omega) (by omega)) (hk _ (by omega) (by omega)) (hk _ (by omega) (by omega))⟩
theorem zV.eq {X Y : Nat → Nat → Int} (h : zV X) (hk : ∀ k : Nat, k < 52 → Y k = X k) : zV Y :=
  ⟨h.1.eq (fun k _ h2 => hk k (by omega)), h.2.eq (fun k _ h2 => hk k (by omega))⟩
/-- a wall's own cell, its order: other values there -/
theorem zV.top {X Y : Nat → Nat → Int} (h : zV X) {a : Nat} (ha : zIsW a) (hk : ∀ k : Nat, k ≠ a → k ≠ a + 1 → Y k = X k) (h1 : 0 ≤ Y a 1 ∧ Y a 1 ≤ 8) (h2 : Y a 2 = 0 ∨ Y a 2 = 1) (h3 : ∀ i : Nat, i < 8 → 0 ≤ Y (a + 1) i ∧ Y (a + 1) i < 8) (h4 : ∀ i j : Nat, i < 8 → j < 8 → Y (a + 1) i = Y (a + 1) j → i = j) : zV Y := by
  have key : zWok Y a := ⟨h1, h2, h3, h4, fun s hs => ((h.wok ha).2.2.2.2 s hs).same (hk _ (by omega) (by omega)) (hk _ (by omega) (by omega)) (hk _ (by omega) (by omega))⟩
  rcases ha with rfl | rfl
  · exact ⟨key, h.2.eq (fun k h5 h6 => hk k (by omega) (by omega))⟩
  · exact ⟨h.1.eq (fun k h5 h6 => hk k (by omega) (by omega)), key⟩
/-- the order behind a move from x to y -/
def zShf (x y j : Nat) : Nat := if j = y then x else if x ≤ j ∧ j < y then j + 1 else if y < j ∧ j ≤ x then j - 1 else j
theorem zShf_lt {x y j : Nat} (hx : x < 8) (hy : y < 8) (hj : j < 8) : zShf x y j < 8 := by
  unfold zShf
  split
  · exact hx
  · split
    · omega
    · split <;> omega
theorem zShf_inj {x y i j : Nat} (h : zShf x y i = zShf x y j) : i = j := by
  unfold zShf at h
  split at h <;> split at h <;> (try split at h) <;> (try split at h) <;> (try split at h) <;> (try split at h) <;> omega
theorem zV.shf {X Y : Nat → Nat → Int} (h : zV X) {a x y : Nat} (ha : zIsW a) (hx : x < 8) (hy : y < 8) (hk : ∀ k : Nat, k ≠ a → k ≠ a + 1 → Y k = X k) (hq : ∀ j : Nat, Y (a + 1) j = X (a + 1) (zShf x y j)) (h1 : 0 ≤ Y a 1 ∧ Y a 1 ≤ 8) (h2 : Y a 2 = 0 ∨ Y a 2 = 1) : zV Y := by
  refine h.top ha hk h1 h2 (fun i hi => ?_) (fun i j hi hj e => ?_)
  · rw [hq]; exact (h.wok ha).2.2.1 _ (zShf_lt hx hy hi)
  · rw [hq, hq] at e
    exact zShf_inj ((h.wok ha).2.2.2.1 _ _ (zShf_lt hx hy hi) (zShf_lt hx hy hj) e)
theorem zboolf {z : Int} (h : z = 0 ∨ z = 1) : fits .boolean (.int (zi z)) = true := by
  rcases h with rfl | rfl <;> rfl
/-- nothing answered, nothing changed -/
def zn (G : zG) (ad : Nat → Nat) (X : Nat → Nat → Int) : Option Value → va_W → Prop := fun r w => r = none ∧ w = zpic G ad X
/-- all that follows from the RULES is out of date -/
def zOut (X : Nat → Nat → Int) : Nat → Nat → Int := zw (zw (zw (zw X 53 4 0) 57 5 0) 61 6 0) 65 6 0
theorem zi_div {a b : Nat} (ha : a ≤ 2147483647) (h0 : 0 < b) (hb : b ≤ 2147483647) : zi (a : Int) / zi (b : Int) = zi ((a / b : Nat) : Int) := by
  have h1 : a / b ≤ a := Nat.div_le_self a b
  have e : ((a : Int)).tdiv (b : Int) = ((a / b : Nat) : Int) := rfl
  generalize a / b = d at h1 e
  rw [← Int32.toInt_inj, Int32.toInt_div, zi_toInt ⟨by omega, by omega⟩, zi_toInt ⟨by omega, by omega⟩, zi_toInt ⟨by omega, by omega⟩, e]
  exact Int.bmod_eq_of_le (by omega) (by omega)
theorem zi_rem {a b : Nat} (ha : a ≤ 2147483647) (h0 : 0 < b) (hb : b ≤ 2147483647) : zi (a : Int) - zi (a : Int) / zi (b : Int) * zi (b : Int) = zi ((a % b : Nat) : Int) := by
  rw [zi_div ha h0 hb, zi_mul, zi_sub]
  have h1 : a % b + b * (a / b) = a := Nat.mod_add_div a b
  have h2 : ((a % b : Nat) : Int) + ((a / b : Nat) : Int) * (b : Int) = (a : Int) := by rw [Int.mul_comm]; exact_mod_cast h1
  apply congrArg
  rw [← h2, Int.add_sub_cancel]
end
section
/-! walls: what changes their order -/
theorem dX6_shift_0 : decode cX6_shift 0 = .ok (.aload_n 0, 1) := by decide +kernel
theorem dX6_shift_1 : decode cX6_shift 1 = .ok (.getfield 11, 3) := by decide +kernel
theorem dX6_shift_4 : decode cX6_shift 4 = .ok (.iload_n 1, 1) := by decide +kernel
theorem dX6_shift_5 : decode cX6_shift 5 = .ok (.aaload, 1) := by decide +kernel
theorem dX6_shift_6 : decode cX6_shift 6 = .ok (.astore_n 3, 1) := by decide +kernel
theorem dX6_shift_7 : decode cX6_shift 7 = .ok (.iload_n 1, 1) := by decide +kernel
theorem dX6_shift_8 : decode cX6_shift 8 = .ok (.istore 4, 2) := by decide +kernel
theorem dX6_shift_10 : decode cX6_shift 10 = .ok (.iload 4, 2) := by decide +kernel
theorem dX6_shift_12 : decode cX6_shift 12 = .ok (.iload_n 2, 1) := by decide +kernel
theorem dX6_shift_13 : decode cX6_shift 13 = .ok (.if_icmp .ge 25, 3) := by decide +kernel
theorem dX6_shift_38 : decode cX6_shift 38 = .ok (.iload_n 1, 1) := by decide +kernel
theorem dX6_shift_39 : decode cX6_shift 39 = .ok (.istore 4, 2) := by decide +kernel
theorem dX6_shift_41 : decode cX6_shift 41 = .ok (.iload 4, 2) := by decide +kernel
theorem dX6_shift_43 : decode cX6_shift 43 = .ok (.iload_n 2, 1) := by decide +kernel
theorem dX6_shift_44 : decode cX6_shift 44 = .ok (.if_icmp .le 25, 3) := by decide +kernel
theorem dX6_shift_69 : decode cX6_shift 69 = .ok (.aload_n 0, 1) := by decide +kernel
theorem dX6_shift_70 : decode cX6_shift 70 = .ok (.getfield 11, 3) := by decide +kernel
theorem dX6_shift_73 : decode cX6_shift 73 = .ok (.iload_n 2, 1) := by decide +kernel
theorem dX6_shift_74 : decode cX6_shift 74 = .ok (.aload_n 3, 1) := by decide +kernel
theorem dX6_shift_75 : decode cX6_shift 75 = .ok (.aastore, 1) := by decide +kernel
theorem dX6_shift_76 : decode cX6_shift 76 = .ok (.return_, 1) := by decide +kernel
theorem dX6_shift_47 : decode cX6_shift 47 = .ok (.aload_n 0, 1) := by decide +kernel
theorem dX6_shift_48 : decode cX6_shift 48 = .ok (.getfield 11, 3) := by decide +kernel
theorem dX6_shift_51 : decode cX6_shift 51 = .ok (.iload 4, 2) := by decide +kernel
theorem dX6_shift_53 : decode cX6_shift 53 = .ok (.aload_n 0, 1) := by decide +kernel
theorem dX6_shift_54 : decode cX6_shift 54 = .ok (.getfield 11, 3) := by decide +kernel
theorem dX6_shift_57 : decode cX6_shift 57 = .ok (.iload 4, 2) := by decide +kernel
theorem dX6_shift_59 : decode cX6_shift 59 = .ok (.iconst 1, 1) := by decide +kernel
theorem dX6_shift_60 : decode cX6_shift 60 = .ok (.isub, 1) := by decide +kernel
theorem dX6_shift_61 : decode cX6_shift 61 = .ok (.aaload, 1) := by decide +kernel
theorem dX6_shift_62 : decode cX6_shift 62 = .ok (.aastore, 1) := by decide +kernel
theorem dX6_shift_63 : decode cX6_shift 63 = .ok (.iinc 4 (-1), 3) := by decide +kernel
theorem dX6_shift_66 : decode cX6_shift 66 = .ok (.goto (-25), 3) := by decide +kernel
theorem dX6_shift_16 : decode cX6_shift 16 = .ok (.aload_n 0, 1) := by decide +kernel
theorem dX6_shift_17 : decode cX6_shift 17 = .ok (.getfield 11, 3) := by decide +kernel
theorem dX6_shift_20 : decode cX6_shift 20 = .ok (.iload 4, 2) := by decide +kernel
theorem dX6_shift_22 : decode cX6_shift 22 = .ok (.aload_n 0, 1) := by decide +kernel
theorem dX6_shift_23 : decode cX6_shift 23 = .ok (.getfield 11, 3) := by decide +kernel
theorem dX6_shift_26 : decode cX6_shift 26 = .ok (.iload 4, 2) := by decide +kernel
theorem dX6_shift_28 : decode cX6_shift 28 = .ok (.iconst 1, 1) := by decide +kernel
theorem dX6_shift_29 : decode cX6_shift 29 = .ok (.iadd, 1) := by decide +kernel
theorem dX6_shift_30 : decode cX6_shift 30 = .ok (.aaload, 1) := by decide +kernel
theorem dX6_shift_31 : decode cX6_shift 31 = .ok (.aastore, 1) := by decide +kernel
theorem dX6_shift_32 : decode cX6_shift 32 = .ok (.iinc 4 1, 3) := by decide +kernel
theorem dX6_shift_35 : decode cX6_shift 35 = .ok (.goto (-25), 3) := by decide +kernel
set_option maxHeartbeats 4000000 in
set_option maxRecDepth 100000 in
/-- shift -/
theorem c_X6_shift (l : Launch) (G : zG) (ad : Nat → Nat) (X : Nat → Nat → Int) (a : Nat) (x : Nat) (y : Nat) (hV : zV X) (hW : zIsW a) (hx8 : x < 8) (hy8 : y < 8) : zR l G yX6_shift wsX6_shift { frames := 0, cells := 0, slots := 0, locals := 0 } (zpic G ad X) [.ref (ad a), .int (zi (x : Int)), .int (zi (y : Int))] (zv G ad (fun Y => (∀ c : Nat, c ≠ a + 1 → Y c = X c) ∧ ∀ j : Nat, Y (a + 1) j = X (a + 1) (zShf x y j))) 0 0 := by
  refine zR_of (cc := cX6_shift) (maxL := 5) (rt := none) (by decide) rfl (Nat.le_of_ble_eq_true rfl) ?_
  intro p e s m below meth c A ls hx hb hml hr hts hown hlocks hin0 hA hE hP hD hS hl
  have hl : lv_has ls 5 [(0, .ref (ad a)), (1, .int (zi (x : Int))), (2, .int (zi (y : Int)))] := hl
  have hown : s.vm.findClass RX6 = some m.cls := hown
  have hw6 : ∀ w ∈ u_ws RX6 TX6 3, w ∈ wsX6_shift := by decide +kernel
  have hf11 := hts (.fieldLink RX6 11 "Nettle$Wall" "rows" "[LNettle$Rule;") (by decide +kernel)
  refine lv_aload_n hx hb dX6_shift_0 rfl (lv_at hl 0 rfl) ?_
  refine va_get (D := G.1) (ci := 6) (v := .ref (ad (a + 1))) (C := RX6) (T := TX6) (N := 3) hx hb hts hw6 hown hE.1 hP a (p_w hW) rfl 0 (by decide) hf11 (fun _ h9 => h9) rfl dX6_shift_1 ?_
  refine lv_iload_n hx hb dX6_shift_4 rfl (lv_at hl 1 rfl) ?_
  refine zqld hx hb hE hP hW x rfl (by omega) dX6_shift_5 ?_
  have hR1 : zIsR (zr X a x) := hV.isR hW (by omega)
  refine lv_astore_n (lv' := [(3, .ref (ad (zr X a x))), (0, .ref (ad a)), (1, .int (zi (x : Int))), (2, .int (zi (y : Int)))]) hx hb dX6_shift_6 rfl hl (by decide) rfl (fun ls hl => ?_)
  refine lv_iload_n hx hb dX6_shift_7 rfl (lv_at hl 2 rfl) ?_
  refine lv_istore (lv' := [(4, .int (zi (x : Int))), (3, .ref (ad (zr X a x))), (0, .ref (ad a)), (1, .int (zi (x : Int))), (2, .int (zi (y : Int)))]) hx hb dX6_shift_8 hl (by decide) rfl (fun ls hl => ?_)
  refine zloop2 (fun (k : Nat) (Y : Nat → Nat → Int) => 8 - k) (fun (k : Nat) (Y : Nat → Nat → Int) (H : Heap) (locs : List Loc) (ls : Array Slot) => va_P G.1 vwCl (zpic G ad Y) H ∧ va_D A (zpic G ad Y) ∧ va_S A s.heap H locs ∧ lv_has ls 5 [(4, .int (zi (k : Int))), (3, .ref (ad (zr X a x))), (2, .int (zi (y : Int))), (1, .int (zi (x : Int))), (0, .ref (ad a))] ∧ (x ≤ k ∧ (k ≤ y ∨ k = x)) ∧ (∀ c : Nat, c ≠ a + 1 → Y c = X c) ∧ (∀ j : Nat, Y (a + 1) j = X (a + 1) (if x ≤ j ∧ j < k then j + 1 else j))) ?_ x X ⟨hP, hD, hS, lv_sub hl [0, 1, 4, 3, 2] rfl, (by omega), (fun c h1 => rfl), (fun j => by rw [if_neg (by omega)])⟩
  intro k Y ih H locs ls ⟨hP, hD, hS, hl, hk, hy, hw⟩
  refine lv_iload hx hb dX6_shift_10 (lv_at hl 0 rfl) ?_
  refine lv_iload_n hx hb dX6_shift_12 rfl (lv_at hl 2 rfl) ?_
  refine zc_ge (tgt := 38) hx hb dX6_shift_13 (by decide) (by omega) (by omega) (fun h13 => ?_) (fun h13 => ?_)
  · refine lv_iload_n hx hb dX6_shift_38 rfl (lv_at hl 3 rfl) ?_
    refine lv_istore (lv' := [(4, .int (zi (x : Int))), (3, .ref (ad (zr X a x))), (2, .int (zi (y : Int))), (1, .int (zi (x : Int))), (0, .ref (ad a))]) hx hb dX6_shift_39 hl (by decide) rfl (fun ls hl => ?_)
    refine zloop2 (fun (k : Nat) (Y : Nat → Nat → Int) => k) (fun (k : Nat) (Y : Nat → Nat → Int) (H : Heap) (locs : List Loc) (ls : Array Slot) => va_P G.1 vwCl (zpic G ad Y) H ∧ va_D A (zpic G ad Y) ∧ va_S A s.heap H locs ∧ lv_has ls 5 [(4, .int (zi (k : Int))), (3, .ref (ad (zr X a x))), (2, .int (zi (y : Int))), (1, .int (zi (x : Int))), (0, .ref (ad a))] ∧ (k ≤ x ∧ (y ≤ k ∨ k = x)) ∧ (∀ c : Nat, c ≠ a + 1 → Y c = X c) ∧ (∀ j : Nat, Y (a + 1) j = X (a + 1) (if x ≤ j ∧ j < y then j + 1 else if k < j ∧ j ≤ x then j - 1 else j))) ?_ x Y ⟨hP, hD, hS, lv_sub hl [0, 1, 2, 3, 4] rfl, (by omega), hy, (fun j => by rw [hw j]; by_cases h2 : x ≤ j ∧ j < k; (rw [if_pos h2, if_pos (by omega)]); (rw [if_neg h2, if_neg (by omega), if_neg (by omega)]))⟩
    intro k Y ih41 H locs ls ⟨hP, hD, hS, hl, hk, hy, hw⟩
    refine lv_iload hx hb dX6_shift_41 (lv_at hl 0 rfl) ?_
    refine lv_iload_n hx hb dX6_shift_43 rfl (lv_at hl 2 rfl) ?_
    refine zc_le (tgt := 69) hx hb dX6_shift_44 (by decide) (by omega) (by omega) (fun h44 => ?_) (fun h44 => ?_)
    · refine lv_aload_n hx hb dX6_shift_69 rfl (lv_at hl 4 rfl) ?_
      refine va_get (D := G.1) (ci := 6) (v := .ref (ad (a + 1))) (C := RX6) (T := TX6) (N := 3) hx hb hts hw6 hown hE.1 hP a (p_w hW) rfl 0 (by decide) hf11 (fun _ h9 => h9) rfl dX6_shift_70 ?_
      refine lv_iload_n hx hb dX6_shift_73 rfl (lv_at hl 2 rfl) ?_
      refine lv_aload_n hx hb dX6_shift_74 rfl (lv_at hl 1 rfl) ?_
      refine zqst hx hb hE hP hD hS hW y rfl (by omega) ((X (a + 1) x).toNat) (hV.slot hW hx8) dX6_shift_75 (fun H locs hP hD hS => ?_)
      exact zend_v hx hb hr hlocks hP hD hS (Nat.le_of_ble_eq_true rfl) (Nat.le_of_ble_eq_true rfl) dX6_shift_76 ⟨_, rfl, ⟨fun c h1 => by rw [zw_cell h1]; exact hy c h1, fun j => by have h8 := (hV.wok hW).2.2.1 x hx8; unfold zShf; rw [zw_get]; by_cases hj : j = y; (rw [if_pos ⟨rfl, hj⟩, if_pos hj]; omega); (rw [if_neg (fun q => hj q.2), if_neg hj, hw j]; have hkk : (k = y ∧ y ≤ x) ∨ x ≤ y := (by omega); by_cases h2 : x ≤ j ∧ j < y; (rw [if_pos h2, if_pos h2]); (rw [if_neg h2, if_neg h2]; by_cases h3 : k < j ∧ j ≤ x; (rw [if_pos h3, if_pos (by omega)]); (rw [if_neg h3, if_neg (by omega)])))⟩, rfl⟩
    · refine lv_aload_n hx hb dX6_shift_47 rfl (lv_at hl 4 rfl) ?_
      refine va_get (D := G.1) (ci := 6) (v := .ref (ad (a + 1))) (C := RX6) (T := TX6) (N := 3) hx hb hts hw6 hown hE.1 hP a (p_w hW) rfl 0 (by decide) hf11 (fun _ h9 => h9) rfl dX6_shift_48 ?_
      refine lv_iload hx hb dX6_shift_51 (lv_at hl 0 rfl) ?_
      refine lv_aload_n hx hb dX6_shift_53 rfl (lv_at hl 4 rfl) ?_
      refine va_get (D := G.1) (ci := 6) (v := .ref (ad (a + 1))) (C := RX6) (T := TX6) (N := 3) hx hb hts hw6 hown hE.1 hP a (p_w hW) rfl 0 (by decide) hf11 (fun _ h9 => h9) rfl dX6_shift_54 ?_
      refine lv_iload hx hb dX6_shift_57 (lv_at hl 0 rfl) ?_
      refine lv_iconst (v := zi 1) hx hb dX6_shift_59 rfl ?_
      refine lv_isub hx hb dX6_shift_60 (zti (v := zi ((k : Int) - 1)) (zi_sub _ _) ?_)
      refine zqld hx hb hE hP hW (k - 1) (by omega) (by omega) dX6_shift_61 ?_
      have hst : (((Y (a + 1) (k - 1)).toNat : Nat) : Int) = X (a + 1) (k - 1) := by have h7 := hw (k - 1); rw [if_neg (by omega), if_neg (by omega)] at h7; have h8 := (hV.wok hW).2.2.1 (k - 1) (by omega); omega
      have hs8 : (Y (a + 1) (k - 1)).toNat < 8 := by have h8 := (hV.wok hW).2.2.1 (k - 1) (by omega); omega
      refine zqst hx hb hE hP hD hS hW k rfl (by omega) ((Y (a + 1) (k - 1)).toNat) hs8 dX6_shift_62 (fun H locs hP hD hS => ?_)
      refine lv_iinc (v := zi ((k : Int) + (-1))) (lv' := [(4, .int (zi ((k : Int) + (-1)))), (3, .ref (ad (zr X a x))), (2, .int (zi (y : Int))), (1, .int (zi (x : Int))), (0, .ref (ad a))]) hx hb dX6_shift_63 hl (k := 0) rfl (zi_add _ _) (by decide) rfl (fun ls hl => ?_)
      refine lv_goto (tgt := 41) hx hb dX6_shift_66 (by decide) ?_
      have e9 : (k : Int) + (-1) = ((k - 1 : Nat) : Int) := by omega
      rw [e9] at hl
      exact ih41 (k - 1) (zw Y (a + 1) k (((Y (a + 1) (k - 1)).toNat : Nat) : Int)) (by omega) H locs ls ⟨hP, hD, hS, lv_sub hl [0, 1, 2, 3, 4] rfl, (by omega), (fun c h1 => by rw [zw_cell h1]; exact hy c h1), (fun j => by rw [zw_get]; by_cases hj : j = k; (rw [if_pos ⟨rfl, hj⟩, if_neg (by omega), if_pos (by omega), hj]; exact hst); (rw [if_neg (fun q => hj q.2), hw j]; by_cases h2 : x ≤ j ∧ j < y; (rw [if_pos h2, if_pos h2]); (rw [if_neg h2, if_neg h2]; by_cases h3 : k < j ∧ j ≤ x; (rw [if_pos h3, if_pos (by omega)]); (rw [if_neg h3, if_neg (by omega)]))))⟩
  · refine lv_aload_n hx hb dX6_shift_16 rfl (lv_at hl 4 rfl) ?_
    refine va_get (D := G.1) (ci := 6) (v := .ref (ad (a + 1))) (C := RX6) (T := TX6) (N := 3) hx hb hts hw6 hown hE.1 hP a (p_w hW) rfl 0 (by decide) hf11 (fun _ h9 => h9) rfl dX6_shift_17 ?_
    refine lv_iload hx hb dX6_shift_20 (lv_at hl 0 rfl) ?_
    refine lv_aload_n hx hb dX6_shift_22 rfl (lv_at hl 4 rfl) ?_
    refine va_get (D := G.1) (ci := 6) (v := .ref (ad (a + 1))) (C := RX6) (T := TX6) (N := 3) hx hb hts hw6 hown hE.1 hP a (p_w hW) rfl 0 (by decide) hf11 (fun _ h9 => h9) rfl dX6_shift_23 ?_
    refine lv_iload hx hb dX6_shift_26 (lv_at hl 0 rfl) ?_
    refine lv_iconst (v := zi 1) hx hb dX6_shift_28 rfl ?_
    refine lv_iadd hx hb dX6_shift_29 (zti (v := zi ((k : Int) + 1)) (zi_add _ _) ?_)
    refine zqld hx hb hE hP hW (k + 1) rfl (by omega) dX6_shift_30 ?_
    have hst : (((Y (a + 1) (k + 1)).toNat : Nat) : Int) = X (a + 1) (k + 1) := by have h7 := hw (k + 1); rw [if_neg (by omega)] at h7; have h8 := (hV.wok hW).2.2.1 (k + 1) (by omega); omega
    have hs8 : (Y (a + 1) (k + 1)).toNat < 8 := by have h8 := (hV.wok hW).2.2.1 (k + 1) (by omega); omega
    refine zqst hx hb hE hP hD hS hW k rfl (by omega) ((Y (a + 1) (k + 1)).toNat) hs8 dX6_shift_31 (fun H locs hP hD hS => ?_)
    refine lv_iinc (v := zi ((k : Int) + 1)) (lv' := [(4, .int (zi ((k : Int) + 1))), (3, .ref (ad (zr X a x))), (2, .int (zi (y : Int))), (1, .int (zi (x : Int))), (0, .ref (ad a))]) hx hb dX6_shift_32 hl (k := 0) rfl (zi_add _ _) (by decide) rfl (fun ls hl => ?_)
    refine lv_goto (tgt := 10) hx hb dX6_shift_35 (by decide) ?_
    exact ih (k + 1) (zw Y (a + 1) k (((Y (a + 1) (k + 1)).toNat : Nat) : Int)) (by omega) H locs ls ⟨hP, hD, hS, lv_sub hl [0, 1, 2, 3, 4] rfl, (by omega), (fun c h1 => by rw [zw_cell h1]; exact hy c h1), (fun j => by rw [zw_get]; by_cases hj : j = k; (rw [if_pos ⟨rfl, hj⟩, if_pos (by omega), hj]; exact hst); (rw [if_neg (fun q => hj q.2), hw j]; by_cases h2 : x ≤ j ∧ j < k; (rw [if_pos h2, if_pos (by omega)]); (rw [if_neg h2, if_neg (by omega)])))⟩
end
section
/-! walls: what changes them -/
theorem dX6_remove_0 : decode cX6_remove 0 = .ok (.aload_n 0, 1) := by decide +kernel
theorem dX6_remove_1 : decode cX6_remove 1 = .ok (.iload_n 1, 1) := by decide +kernel
theorem dX6_remove_2 : decode cX6_remove 2 = .ok (.aload_n 0, 1) := by decide +kernel
theorem dX6_remove_3 : decode cX6_remove 3 = .ok (.getfield 18, 3) := by decide +kernel
theorem dX6_remove_6 : decode cX6_remove 6 = .ok (.iconst 1, 1) := by decide +kernel
theorem dX6_remove_7 : decode cX6_remove 7 = .ok (.isub, 1) := by decide +kernel
set_option maxRecDepth 20000 in
theorem ggX6_remove_X6_shift : GoodIn wsX6_remove wsX6_shift := goodIn_r _ [6, 7, 8, 9, 10] (by decide +kernel) (by decide +kernel)
set_option maxRecDepth 20000 in
theorem gX6_remove_X6_shift : GoodIn wsX6_remove (wsV RX6 26 RX6 yX6_shift wsX6_shift) := goodIn_app (goodIn_of _ (by decide +kernel)) ggX6_remove_X6_shift
theorem dX6_remove_8 : decode cX6_remove 8 = .ok (.invokevirtual 26, 3) := by decide +kernel
theorem dX6_remove_11 : decode cX6_remove 11 = .ok (.aload_n 0, 1) := by decide +kernel
theorem dX6_remove_12 : decode cX6_remove 12 = .ok (.dup, 1) := by decide +kernel
theorem dX6_remove_13 : decode cX6_remove 13 = .ok (.getfield 18, 3) := by decide +kernel
theorem dX6_remove_16 : decode cX6_remove 16 = .ok (.iconst 1, 1) := by decide +kernel
theorem dX6_remove_17 : decode cX6_remove 17 = .ok (.isub, 1) := by decide +kernel
theorem dX6_remove_18 : decode cX6_remove 18 = .ok (.putfield 18, 3) := by decide +kernel
theorem dX6_remove_21 : decode cX6_remove 21 = .ok (.return_, 1) := by decide +kernel
theorem dX6_add_0 : decode cX6_add 0 = .ok (.aload_n 0, 1) := by decide +kernel
theorem dX6_add_1 : decode cX6_add 1 = .ok (.getfield 11, 3) := by decide +kernel
theorem dX6_add_4 : decode cX6_add 4 = .ok (.aload_n 0, 1) := by decide +kernel
theorem dX6_add_5 : decode cX6_add 5 = .ok (.getfield 18, 3) := by decide +kernel
theorem dX6_add_8 : decode cX6_add 8 = .ok (.aaload, 1) := by decide +kernel
theorem dX6_add_9 : decode cX6_add 9 = .ok (.iload_n 1, 1) := by decide +kernel
set_option maxRecDepth 20000 in
theorem ggX6_add_X3_reset : GoodIn wsX6_add wsX3_reset := goodIn_r _ [7, 8, 9, 10, 11, 15, 16, 17, 18] (by decide +kernel) (by decide +kernel)
set_option maxRecDepth 20000 in
theorem gX6_add_X3_reset : GoodIn wsX6_add (wsV RX6 22 RX3 yX3_reset wsX3_reset) := goodIn_app (goodIn_of _ (by decide +kernel)) ggX6_add_X3_reset
theorem dX6_add_10 : decode cX6_add 10 = .ok (.invokevirtual 22, 3) := by decide +kernel
theorem dX6_add_13 : decode cX6_add 13 = .ok (.aload_n 0, 1) := by decide +kernel
theorem dX6_add_14 : decode cX6_add 14 = .ok (.dup, 1) := by decide +kernel
theorem dX6_add_15 : decode cX6_add 15 = .ok (.getfield 18, 3) := by decide +kernel
theorem dX6_add_18 : decode cX6_add 18 = .ok (.iconst 1, 1) := by decide +kernel
theorem dX6_add_19 : decode cX6_add 19 = .ok (.iadd, 1) := by decide +kernel
theorem dX6_add_20 : decode cX6_add 20 = .ok (.putfield 18, 3) := by decide +kernel
theorem dX6_add_23 : decode cX6_add 23 = .ok (.return_, 1) := by decide +kernel
theorem dX6_takeFrom_0 : decode cX6_takeFrom 0 = .ok (.iconst 0, 1) := by decide +kernel
theorem dX6_takeFrom_1 : decode cX6_takeFrom 1 = .ok (.istore_n 2, 1) := by decide +kernel
theorem dX6_takeFrom_2 : decode cX6_takeFrom 2 = .ok (.iload_n 2, 1) := by decide +kernel
theorem dX6_takeFrom_3 : decode cX6_takeFrom 3 = .ok (.aload_n 1, 1) := by decide +kernel
theorem dX6_takeFrom_4 : decode cX6_takeFrom 4 = .ok (.getfield 18, 3) := by decide +kernel
theorem dX6_takeFrom_7 : decode cX6_takeFrom 7 = .ok (.if_icmp .ge 24, 3) := by decide +kernel
theorem dX6_takeFrom_31 : decode cX6_takeFrom 31 = .ok (.aload_n 0, 1) := by decide +kernel
theorem dX6_takeFrom_32 : decode cX6_takeFrom 32 = .ok (.aload_n 1, 1) := by decide +kernel
theorem dX6_takeFrom_33 : decode cX6_takeFrom 33 = .ok (.getfield 18, 3) := by decide +kernel
theorem dX6_takeFrom_36 : decode cX6_takeFrom 36 = .ok (.putfield 18, 3) := by decide +kernel
theorem dX6_takeFrom_39 : decode cX6_takeFrom 39 = .ok (.aload_n 0, 1) := by decide +kernel
theorem dX6_takeFrom_40 : decode cX6_takeFrom 40 = .ok (.aload_n 1, 1) := by decide +kernel
theorem dX6_takeFrom_41 : decode cX6_takeFrom 41 = .ok (.getfield 34, 3) := by decide +kernel
theorem dX6_takeFrom_44 : decode cX6_takeFrom 44 = .ok (.putfield 34, 3) := by decide +kernel
theorem dX6_takeFrom_47 : decode cX6_takeFrom 47 = .ok (.return_, 1) := by decide +kernel
theorem dX6_takeFrom_10 : decode cX6_takeFrom 10 = .ok (.aload_n 0, 1) := by decide +kernel
theorem dX6_takeFrom_11 : decode cX6_takeFrom 11 = .ok (.getfield 11, 3) := by decide +kernel
theorem dX6_takeFrom_14 : decode cX6_takeFrom 14 = .ok (.iload_n 2, 1) := by decide +kernel
theorem dX6_takeFrom_15 : decode cX6_takeFrom 15 = .ok (.aaload, 1) := by decide +kernel
theorem dX6_takeFrom_16 : decode cX6_takeFrom 16 = .ok (.aload_n 1, 1) := by decide +kernel
theorem dX6_takeFrom_17 : decode cX6_takeFrom 17 = .ok (.getfield 11, 3) := by decide +kernel
theorem dX6_takeFrom_20 : decode cX6_takeFrom 20 = .ok (.iload_n 2, 1) := by decide +kernel
theorem dX6_takeFrom_21 : decode cX6_takeFrom 21 = .ok (.aaload, 1) := by decide +kernel
set_option maxRecDepth 20000 in
theorem ggX6_takeFrom_X3_takeFrom : GoodIn wsX6_takeFrom wsX3_takeFrom := goodIn_r _ [8, 9, 10, 11, 15, 16, 17, 18] (by decide +kernel) (by decide +kernel)
set_option maxRecDepth 20000 in
theorem gX6_takeFrom_X3_takeFrom : GoodIn wsX6_takeFrom (wsV RX6 30 RX3 yX3_takeFrom wsX3_takeFrom) := goodIn_app (goodIn_of _ (by decide +kernel)) ggX6_takeFrom_X3_takeFrom
theorem dX6_takeFrom_22 : decode cX6_takeFrom 22 = .ok (.invokevirtual 30, 3) := by decide +kernel
theorem dX6_takeFrom_25 : decode cX6_takeFrom 25 = .ok (.iinc 2 1, 3) := by decide +kernel
theorem dX6_takeFrom_28 : decode cX6_takeFrom 28 = .ok (.goto (-26), 3) := by decide +kernel
set_option maxHeartbeats 4000000 in
set_option maxRecDepth 100000 in
/-- remove -/
theorem c_X6_remove (l : Launch) (G : zG) (ad : Nat → Nat) (X : Nat → Nat → Int) (a : Nat) (x : Nat) (hV : zV X) (hW : zIsW a) (hx : x < zN X a) : zR l G yX6_remove wsX6_remove { frames := 1, cells := 0, slots := 0, locals := 24 } (zpic G ad X) [.ref (ad a), .int (zi (x : Int))] (zv G ad (fun Y => (∀ c : Nat, c ≠ a → c ≠ a + 1 → Y c = X c) ∧ (∀ j : Nat, Y (a + 1) j = X (a + 1) (zShf x (zN X a - 1) j)) ∧ Y a 1 = X a 1 - 1 ∧ Y a 2 = X a 2)) 0 0 := by
  refine zR_of (cc := cX6_remove) (maxL := 2) (rt := none) (by decide) rfl (Nat.le_of_ble_eq_true rfl) ?_
  intro p e s m below meth c A ls hx hb hml hr hts hown hlocks hin0 hA hE hP hD hS hl
  have hl : lv_has ls 2 [(0, .ref (ad a)), (1, .int (zi (x : Int)))] := hl
  have hown : s.vm.findClass RX6 = some m.cls := hown
  have hn := hV.n hW
  have hw6 : ∀ w ∈ u_ws RX6 TX6 3, w ∈ wsX6_remove := by decide +kernel
  have hf18 := hts (.fieldLink RX6 18 "Nettle$Wall" "count" "I") (by decide +kernel)
  refine lv_aload_n hx hb dX6_remove_0 rfl (lv_at hl 0 rfl) ?_
  refine lv_iload_n hx hb dX6_remove_1 rfl (lv_at hl 1 rfl) ?_
  refine lv_aload_n hx hb dX6_remove_2 rfl (lv_at hl 0 rfl) ?_
  refine va_get (D := G.1) (ci := 6) (v := .int (zi (X a 1))) (C := RX6) (T := TX6) (N := 3) hx hb hts hw6 hown hE.1 hP a (p_w hW) rfl 1 (by decide) hf18 (fun _ h9 => h9) rfl dX6_remove_3 ?_
  refine lv_iconst (v := zi 1) hx hb dX6_remove_6 rfl ?_
  refine lv_isub hx hb dX6_remove_7 (zti (v := zi ((X a 1) - 1)) (zi_sub _ _) ?_)
  refine zti (v := zi ((zN X a - 1 : Nat) : Int)) (congrArg zi (by omega)) ?_
  refine zcall (wr := []) (va_runV (As := [.int (zi (x : Int)), .int (zi ((zN X a - 1 : Nat) : Int))]) (rest := []) ⟨hx, hb, hml, hown, hts⟩ (c_X6_shift l G ad X a x (zN X a - 1) hV hW (by omega) (by omega) s.heap.size) (cwV 2 hts gX6_remove_X6_shift rfl rfl rfl (by decide +kernel) ⟨Nat.le_of_ble_eq_true rfl, Nat.le_of_ble_eq_true rfl⟩) (zPreV (wr := []) (wc := zpic G ad X) (q0 := a) (ci := 6) (q := (RX6, TX6, 3)) hP hD hE hS hA rfl (p_w hW)) rfl rfl hl.1 rfl (lv_room (Nat.le_of_ble_eq_true rfl)) dX6_remove_8 ⟨Nat.le_of_ble_eq_true rfl, Nat.le_of_ble_eq_true rfl⟩) hP hD hS hA (fun _ _ H locs hf hP hD hS => ?_)
  obtain ⟨X1, rfl, hX1, rfl⟩ := hf
  have hP : va_P G.1 vwCl (zpic G ad X1) H := hP
  have hD : va_D A (zpic G ad X1) := hD
  refine W.eq (g2 := F0 m 11 ls []) rfl ?_
  have ea : X1 a = X a := hX1.1 a (by omega)
  refine lv_aload_n hx hb dX6_remove_11 rfl (lv_at hl 0 rfl) ?_
  refine lv_dup hx hb dX6_remove_12 rfl ?_
  refine va_get (D := G.1) (ci := 6) (v := .int (zi (X1 a 1))) (C := RX6) (T := TX6) (N := 3) hx hb hts hw6 hown hE.1 hP a (p_w hW) rfl 1 (by decide) hf18 (fun _ h9 => h9) rfl dX6_remove_13 ?_
  refine lv_iconst (v := zi 1) hx hb dX6_remove_16 rfl ?_
  refine lv_isub hx hb dX6_remove_17 (zti (v := zi ((X1 a 1) - 1)) (zi_sub _ _) ?_)
  refine zput (C := RX6) (T := TX6) (N := 3) (ci := 6) (v := .int (zi ((X1 a 1) - 1))) (ty := tyX6 1) hx hb hts hw6 tyX6 tyX6_ok nmX6 hown hE hP hD hS a (p_w hW) rfl 1 (by decide) hf18 (fun _ h9 => h9) rfl (by decide +kernel) rfl rfl (Nat.le_of_ble_eq_true rfl) (s_w1 hW ((X1 a 1) - 1)) dX6_remove_18 (fun H locs hP hD hS => ?_)
  exact zend_v hx hb hr hlocks hP hD hS (Nat.le_of_ble_eq_true rfl) (Nat.le_of_ble_eq_true rfl) dX6_remove_21 ⟨_, rfl, ⟨fun c h1 h2 => by rw [zw_cell h1]; exact hX1.1 c h2, fun j => by rw [zw_cell (by omega)]; exact hX1.2 j, by rw [zw_at, ea], by rw [zw_ne (by omega), ea]⟩, rfl⟩

set_option maxHeartbeats 4000000 in
set_option maxRecDepth 100000 in
/-- add -/
theorem c_X6_add (l : Launch) (G : zG) (ad : Nat → Nat) (X : Nat → Nat → Int) (a : Nat) (v : Int) (hV : zV X) (hW : zIsW a) (hn8 : zN X a < 8) : zR l G yX6_add wsX6_add { frames := 1, cells := 0, slots := 0, locals := 22 } (zpic G ad X) [.ref (ad a), .int (zi v)] (zv G ad (fun Y => Y (zr X a (zN X a)) 0 = v ∧ Y (zr X a (zN X a)) 1 = 0 ∧ (∀ k : Nat, k < 4 → Y (zr X a (zN X a) + 1) k = 0 ∧ Y (zr X a (zN X a) + 2) k = zS k - 1) ∧ (∀ k : Nat, k ≠ a → k ≠ zr X a (zN X a) → k ≠ zr X a (zN X a) + 1 → k ≠ zr X a (zN X a) + 2 → Y k = X k) ∧ Y a 1 = X a 1 + 1 ∧ Y a 2 = X a 2)) 0 0 := by
  refine zR_of (cc := cX6_add) (maxL := 2) (rt := none) (by decide) rfl (Nat.le_of_ble_eq_true rfl) ?_
  intro p e s m below meth c A ls hx hb hml hr hts hown hlocks hin0 hA hE hP hD hS hl
  have hl : lv_has ls 2 [(0, .ref (ad a)), (1, .int (zi v))] := hl
  have hown : s.vm.findClass RX6 = some m.cls := hown
  have hn := hV.n hW
  have hrr := hV.isR hW hn8
  have hap : a ≠ zr X a (zN X a) ∧ a ≠ zr X a (zN X a) + 1 ∧ a ≠ zr X a (zN X a) + 2 ∧ zr X a (zN X a) ≠ a ∧ zr X a (zN X a) + 1 ≠ a ∧ zr X a (zN X a) + 2 ≠ a := by have := zr_ge X a (zN X a); omega
  have hw6 : ∀ w ∈ u_ws RX6 TX6 3, w ∈ wsX6_add := by decide +kernel
  have hf11 := hts (.fieldLink RX6 11 "Nettle$Wall" "rows" "[LNettle$Rule;") (by decide +kernel)
  have hf18 := hts (.fieldLink RX6 18 "Nettle$Wall" "count" "I") (by decide +kernel)
  refine lv_aload_n hx hb dX6_add_0 rfl (lv_at hl 0 rfl) ?_
  refine va_get (D := G.1) (ci := 6) (v := .ref (ad (a + 1))) (C := RX6) (T := TX6) (N := 3) hx hb hts hw6 hown hE.1 hP a (p_w hW) rfl 0 (by decide) hf11 (fun _ h9 => h9) rfl dX6_add_1 ?_
  refine lv_aload_n hx hb dX6_add_4 rfl (lv_at hl 0 rfl) ?_
  refine va_get (D := G.1) (ci := 6) (v := .int (zi (X a 1))) (C := RX6) (T := TX6) (N := 3) hx hb hts hw6 hown hE.1 hP a (p_w hW) rfl 1 (by decide) hf18 (fun _ h9 => h9) rfl dX6_add_5 ?_
  refine zqld hx hb hE hP hW (zN X a) hn.1 (by omega) dX6_add_8 ?_
  have hR1 : zIsR (zr X a (zN X a)) := hV.isR hW (by omega)
  refine lv_iload_n hx hb dX6_add_9 rfl (lv_at hl 1 rfl) ?_
  refine zcall (wr := []) (va_runV (As := [.int (zi v)]) (rest := []) ⟨hx, hb, hml, hown, hts⟩ (c_X3_reset l G ad X (zr X a (zN X a)) v hV hR1 s.heap.size) (cwV 1 hts gX6_add_X3_reset rfl rfl rfl (by decide +kernel) ⟨Nat.le_of_ble_eq_true rfl, Nat.le_of_ble_eq_true rfl⟩) (zPreV (wr := []) (wc := zpic G ad X) (q0 := (zr X a (zN X a))) (ci := 3) (q := (RX3, TX3, 4)) hP hD hE hS hA rfl (p_r hR1)) rfl rfl hl.1 rfl (lv_room (Nat.le_of_ble_eq_true rfl)) dX6_add_10 ⟨Nat.le_of_ble_eq_true rfl, Nat.le_of_ble_eq_true rfl⟩) hP hD hS hA (fun _ _ H locs hf hP hD hS => ?_)
  obtain ⟨X1, rfl, hX1, rfl⟩ := hf
  have hP : va_P G.1 vwCl (zpic G ad X1) H := hP
  have hD : va_D A (zpic G ad X1) := hD
  refine W.eq (g2 := F0 m 13 ls []) rfl ?_
  have ea : X1 a = X a := hX1.2.2.2 a hap.1 hap.2.1 hap.2.2.1
  refine lv_aload_n hx hb dX6_add_13 rfl (lv_at hl 0 rfl) ?_
  refine lv_dup hx hb dX6_add_14 rfl ?_
  refine va_get (D := G.1) (ci := 6) (v := .int (zi (X1 a 1))) (C := RX6) (T := TX6) (N := 3) hx hb hts hw6 hown hE.1 hP a (p_w hW) rfl 1 (by decide) hf18 (fun _ h9 => h9) rfl dX6_add_15 ?_
  refine lv_iconst (v := zi 1) hx hb dX6_add_18 rfl ?_
  refine lv_iadd hx hb dX6_add_19 (zti (v := zi ((X1 a 1) + 1)) (zi_add _ _) ?_)
  refine zput (C := RX6) (T := TX6) (N := 3) (ci := 6) (v := .int (zi ((X1 a 1) + 1))) (ty := tyX6 1) hx hb hts hw6 tyX6 tyX6_ok nmX6 hown hE hP hD hS a (p_w hW) rfl 1 (by decide) hf18 (fun _ h9 => h9) rfl (by decide +kernel) rfl rfl (Nat.le_of_ble_eq_true rfl) (s_w1 hW ((X1 a 1) + 1)) dX6_add_20 (fun H locs hP hD hS => ?_)
  exact zend_v hx hb hr hlocks hP hD hS (Nat.le_of_ble_eq_true rfl) (Nat.le_of_ble_eq_true rfl) dX6_add_23 ⟨_, rfl, (by obtain ⟨x0, x1, x2, x3⟩ := hX1; refine ⟨?_, ?_, fun k hk => ?_, fun k k0 k1 k2 k3 => ?_, ?_, ?_⟩; (rw [zw_cell hap.2.2.2.1]; exact x0); (rw [zw_cell hap.2.2.2.1]; exact x1); (rw [zw_cell hap.2.2.2.2.1, zw_cell hap.2.2.2.2.2]; exact x2 k hk); (rw [zw_cell k0]; exact x3 k k1 k2 k3); (rw [zw_at, ea]); (rw [zw_ne (by omega), ea])), rfl⟩

set_option maxHeartbeats 4000000 in
set_option maxRecDepth 100000 in
/-- takeFrom -/
theorem c_X6_takeFrom (l : Launch) (G : zG) (ad : Nat → Nat) (X : Nat → Nat → Int) (a : Nat) (b : Nat) (hV : zV X) (hW : zIsW a) (hB : zIsW b) (hab : a ≠ b) : zR l G yX6_takeFrom wsX6_takeFrom { frames := 1, cells := 0, slots := 0, locals := 22 } (zpic G ad X) [.ref (ad a), .ref (ad b)] (zv G ad (fun Y => zV Y ∧ (∀ j : Nat, j < zN X b → Y (zr X a j) 0 = X (zr X b j) 0 ∧ ∀ g : Nat, g < 4 → Y (zr X a j + 1) g = X (zr X b j + 1) g ∧ Y (zr X a j + 2) g = X (zr X b j + 2) g) ∧ (∀ c : Nat, c < a ∨ c = a + 1 ∨ a + 26 ≤ c → Y c = X c) ∧ Y a 1 = X b 1 ∧ Y a 2 = X b 2)) 0 0 := by
  refine zR_of (cc := cX6_takeFrom) (maxL := 3) (rt := none) (by decide) rfl (Nat.le_of_ble_eq_true rfl) ?_
  intro p e s m below meth c A ls hx hb hml hr hts hown hlocks hin0 hA hE hP hD hS hl
  have hl : lv_has ls 3 [(0, .ref (ad a)), (1, .ref (ad b))] := hl
  have hown : s.vm.findClass RX6 = some m.cls := hown
  have hn := hV.n hB
  have hw6 : ∀ w ∈ u_ws RX6 TX6 3, w ∈ wsX6_takeFrom := by decide +kernel
  have hf18 := hts (.fieldLink RX6 18 "Nettle$Wall" "count" "I") (by decide +kernel)
  have hf34 := hts (.fieldLink RX6 34 "Nettle$Wall" "isLastAllow" "Z") (by decide +kernel)
  have hf11 := hts (.fieldLink RX6 11 "Nettle$Wall" "rows" "[LNettle$Rule;") (by decide +kernel)
  refine lv_iconst (v := zi 0) hx hb dX6_takeFrom_0 rfl ?_
  refine lv_istore_n (lv' := [(2, .int (zi 0)), (0, .ref (ad a)), (1, .ref (ad b))]) hx hb dX6_takeFrom_1 rfl hl (by decide) rfl (fun ls hl => ?_)
  refine zloop2 (fun (k : Nat) (Y : Nat → Nat → Int) => 8 - k) (fun (k : Nat) (Y : Nat → Nat → Int) (H : Heap) (locs : List Loc) (ls : Array Slot) => va_P G.1 vwCl (zpic G ad Y) H ∧ va_D A (zpic G ad Y) ∧ va_S A s.heap H locs ∧ lv_has ls 3 [(2, .int (zi (k : Int))), (1, .ref (ad b)), (0, .ref (ad a))] ∧ (k ≤ zN X b) ∧ (zV Y) ∧ (∀ j : Nat, j < k → Y (zr X a j) 0 = X (zr X b j) 0 ∧ ∀ g : Nat, g < 4 → Y (zr X a j + 1) g = X (zr X b j + 1) g ∧ Y (zr X a j + 2) g = X (zr X b j + 2) g) ∧ (∀ c : Nat, c < a + 2 ∨ a + 26 ≤ c → Y c = X c)) ?_ 0 X ⟨hP, hD, hS, lv_sub hl [0, 2, 1] rfl, (by omega), hV, (fun j h1 => by omega), (fun c h1 => rfl)⟩
  intro k Y ih H locs ls ⟨hP, hD, hS, hl, hk, hYV, hy1, hy2⟩
  have hyq : Y (a + 1) = X (a + 1) := hy2 (a + 1) (by omega)
  have hyb : ∀ c : Nat, b ≤ c → c < b + 26 → Y c = X c := fun c h1 h2 => hy2 c (by rcases hW with rfl | rfl <;> rcases hB with rfl | rfl <;> omega)
  have hz : ∀ j : Nat, zr Y a j = zr X a j := fun j => by unfold zr; rw [hyq]
  have hzb : ∀ j : Nat, zr Y b j = zr X b j := fun j => by unfold zr; rw [hyb (b + 1) (by omega) (by omega)]
  have hYn : Y b 1 = (zN X b : Int) := by rw [hyb b (by omega) (by omega)]; exact hn.1
  refine lv_iload_n hx hb dX6_takeFrom_2 rfl (lv_at hl 0 rfl) ?_
  refine lv_aload_n hx hb dX6_takeFrom_3 rfl (lv_at hl 1 rfl) ?_
  refine va_get (D := G.1) (ci := 6) (v := .int (zi (Y b 1))) (C := RX6) (T := TX6) (N := 3) hx hb hts hw6 hown hE.1 hP b (p_w hB) rfl 1 (by decide) hf18 (fun _ h9 => h9) rfl dX6_takeFrom_4 ?_
  refine zc_ge (tgt := 31) hx hb dX6_takeFrom_7 (by decide) (by omega) (by omega) (fun h7 => ?_) (fun h7 => ?_)
  · refine lv_aload_n hx hb dX6_takeFrom_31 rfl (lv_at hl 2 rfl) ?_
    refine lv_aload_n hx hb dX6_takeFrom_32 rfl (lv_at hl 1 rfl) ?_
    refine va_get (D := G.1) (ci := 6) (v := .int (zi (Y b 1))) (C := RX6) (T := TX6) (N := 3) hx hb hts hw6 hown hE.1 hP b (p_w hB) rfl 1 (by decide) hf18 (fun _ h9 => h9) rfl dX6_takeFrom_33 ?_
    refine zput (C := RX6) (T := TX6) (N := 3) (ci := 6) (v := .int (zi (Y b 1))) (ty := tyX6 1) hx hb hts hw6 tyX6 tyX6_ok nmX6 hown hE hP hD hS a (p_w hW) rfl 1 (by decide) hf18 (fun _ h9 => h9) rfl (by decide +kernel) rfl rfl (Nat.le_of_ble_eq_true rfl) (s_w1 hW (Y b 1)) dX6_takeFrom_36 (fun H locs hP hD hS => ?_)
    refine lv_aload_n hx hb dX6_takeFrom_39 rfl (lv_at hl 2 rfl) ?_
    refine lv_aload_n hx hb dX6_takeFrom_40 rfl (lv_at hl 1 rfl) ?_
    refine va_get (D := G.1) (ci := 6) (v := .int (zi ((zw Y a 1 (Y b 1)) b 2))) (C := RX6) (T := TX6) (N := 3) hx hb hts hw6 hown hE.1 hP b (p_w hB) rfl 2 (by decide) hf34 (fun _ h9 => h9) rfl dX6_takeFrom_41 ?_
    refine zput (C := RX6) (T := TX6) (N := 3) (ci := 6) (v := .int (zi ((zw Y a 1 (Y b 1)) b 2))) (ty := tyX6 2) hx hb hts hw6 tyX6 tyX6_ok nmX6 hown hE hP hD hS a (p_w hW) rfl 2 (by decide) hf34 (fun _ h9 => h9) rfl (by decide +kernel) (zbool (by rw [zw_cell (fun q => hab q.symm), hyb b (by omega) (by omega)]; exact (hV.wok hB).2.1)) (zboolf (by rw [zw_cell (fun q => hab q.symm), hyb b (by omega) (by omega)]; exact (hV.wok hB).2.1)) (Nat.le_of_ble_eq_true rfl) (s_w2 hW ((zw Y a 1 (Y b 1)) b 2)) dX6_takeFrom_44 (fun H locs hP hD hS => ?_)
    exact zend_v hx hb hr hlocks hP hD hS (Nat.le_of_ble_eq_true rfl) (Nat.le_of_ble_eq_true rfl) dX6_takeFrom_47 ⟨_, rfl, (by have hkn : k = zN X b := (by omega); rw [hkn] at hy1; have eb : Y b = X b := hyb b (by omega) (by omega); have ew : zw Y a 1 (Y b 1) b = X b := (by rw [zw_cell (fun q => hab q.symm)]; exact eb); have hY2 : ∀ c : Nat, c ≠ a → zw (zw Y a 1 (Y b 1)) a 2 (zw Y a 1 (Y b 1) b 2) c = Y c := (fun c hc => by rw [zw_cell hc, zw_cell hc]); have g1 : zw (zw Y a 1 (Y b 1)) a 2 (zw Y a 1 (Y b 1) b 2) a 1 = X b 1 := (by rw [zw_ne (by omega), zw_at, eb]); have g2 : zw (zw Y a 1 (Y b 1)) a 2 (zw Y a 1 (Y b 1) b 2) a 2 = X b 2 := (by rw [zw_at, ew]); have wb := hV.wok hB; refine ⟨hYV.top hW (fun c h1 h2 => hY2 c h1) (by rw [g1]; exact wb.1) (by rw [g2]; exact wb.2.1) (fun q hq => by rw [hY2 _ (by omega)]; exact (hYV.wok hW).2.2.1 q hq) (fun q q2 hq hq2 e => by rw [hY2 _ (by omega)] at e; exact (hYV.wok hW).2.2.2.1 q q2 hq hq2 e), fun j hj => ?_, fun c hc => ?_, g1, g2⟩; (have hg := zr_ge X a j; rw [hY2 _ (by omega), hY2 _ (by omega), hY2 _ (by omega)]; exact hy1 j hj); (rw [hY2 c (by omega)]; exact hy2 c (by omega))), rfl⟩
  · refine lv_aload_n hx hb dX6_takeFrom_10 rfl (lv_at hl 2 rfl) ?_
    refine va_get (D := G.1) (ci := 6) (v := .ref (ad (a + 1))) (C := RX6) (T := TX6) (N := 3) hx hb hts hw6 hown hE.1 hP a (p_w hW) rfl 0 (by decide) hf11 (fun _ h9 => h9) rfl dX6_takeFrom_11 ?_
    refine lv_iload_n hx hb dX6_takeFrom_14 rfl (lv_at hl 0 rfl) ?_
    refine zqld hx hb hE hP hW k rfl (by omega) dX6_takeFrom_15 ?_
    have hR1 : zIsR (zr Y a k) := hYV.isR hW (by omega)
    refine lv_aload_n hx hb dX6_takeFrom_16 rfl (lv_at hl 1 rfl) ?_
    refine va_get (D := G.1) (ci := 6) (v := .ref (ad (b + 1))) (C := RX6) (T := TX6) (N := 3) hx hb hts hw6 hown hE.1 hP b (p_w hB) rfl 0 (by decide) hf11 (fun _ h9 => h9) rfl dX6_takeFrom_17 ?_
    refine lv_iload_n hx hb dX6_takeFrom_20 rfl (lv_at hl 0 rfl) ?_
    refine zqld hx hb hE hP hB k rfl (by omega) dX6_takeFrom_21 ?_
    have hR2 : zIsR (zr Y b k) := hYV.isR hB (by omega)
    refine zcall (wr := []) (va_runV (As := [.ref (ad (zr Y b k))]) (rest := []) ⟨hx, hb, hml, hown, hts⟩ (c_X3_takeFrom l G ad Y (zr Y a k) (zr Y b k) hYV hR1 hR2 (by rw [hz, hzb]; have h1 := zr_ge X a k; have h2 := zr_ge X b k; have h3 := hV.slot hW (show k < 8 by omega); have h4 := hV.slot hB (show k < 8 by omega); unfold zr; rcases hW with rfl | rfl <;> rcases hB with rfl | rfl <;> omega) H.size) (cwV 1 hts gX6_takeFrom_X3_takeFrom rfl rfl rfl (by decide +kernel) ⟨Nat.le_of_ble_eq_true rfl, Nat.le_of_ble_eq_true rfl⟩) (zPreV (wr := []) (wc := zpic G ad Y) (q0 := (zr Y a k)) (ci := 3) (q := (RX3, TX3, 4)) hP hD hE hS hA rfl (p_r hR1)) rfl rfl hl.1 rfl (lv_room (Nat.le_of_ble_eq_true rfl)) dX6_takeFrom_22 ⟨Nat.le_of_ble_eq_true rfl, Nat.le_of_ble_eq_true rfl⟩) hP hD hS hA (fun _ _ H locs hf hP hD hS => ?_)
    obtain ⟨X1, rfl, hX1, rfl⟩ := hf
    have hP : va_P G.1 vwCl (zpic G ad X1) H := hP
    have hD : va_D A (zpic G ad X1) := hD
    refine W.eq (g2 := F0 m 25 ls []) rfl ?_
    have hza := hV.isR hW (show k < 8 by omega)
    have hzc := hV.isR hB (show k < 8 by omega)
    have hrb := hV.rok hzc
    rw [hz, hzb] at hX1
    have hlt : ∀ j : Nat, j < 8 → zr X b j + 2 < b + 26 := fun j hj => by have h0 := hV.slot hB hj; unfold zr; omega
    have hla : ∀ j : Nat, j < 8 → zr X a j + 2 < a + 26 := fun j hj => by have h0 := hV.slot hW hj; unfold zr; omega
    have hgb : b + 2 ≤ zr X b k := zr_ge X b k
    have hga : a + 2 ≤ zr X a k := zr_ge X a k
    have f0 : Y (zr X b k) = X (zr X b k) := hyb _ (by omega) (by have := hlt k (by omega); omega)
    have f1 : Y (zr X b k + 1) = X (zr X b k + 1) := hyb _ (by omega) (by have := hlt k (by omega); omega)
    have f2 : Y (zr X b k + 2) = X (zr X b k + 2) := hyb _ (by omega) (by have := hlt k (by omega); omega)
    have f3 := (hYV.rok hza).2.1
    rw [f0, f1, f2] at hX1
    have hok : zRok X1 (zr X a k) := by refine ⟨?_, ?_, fun f hf => ?_⟩; (rw [hX1.1]; exact hrb.1); (rw [hX1.2.1]; exact f3); (rw [(hX1.2.2.1 f hf).1, (hX1.2.2.1 f hf).2]; exact hrb.2.2 f hf)
    refine lv_iinc (v := zi ((k : Int) + 1)) (lv' := [(2, .int (zi ((k : Int) + 1))), (1, .ref (ad b)), (0, .ref (ad a))]) hx hb dX6_takeFrom_25 hl (k := 0) rfl (zi_add _ _) (by decide) rfl (fun ls hl => ?_)
    refine lv_goto (tgt := 2) hx hb dX6_takeFrom_28 (by decide) ?_
    exact ih (k + 1) X1 (by omega) H locs ls ⟨hP, hD, hS, lv_sub hl [0, 1, 2] rfl, (by omega), (hYV.chg hza hX1.2.2.2 hok), (fun j h1 => by by_cases hj : j = k; (rw [hj]; exact ⟨hX1.1, hX1.2.2.1⟩); (have hne : zr X a k ≠ zr X a j := (fun q => hj (by have q2 : (X (a + 1) k).toNat = (X (a + 1) j).toNat := (by unfold zr at q; omega); have b1 := (hV.wok hW).2.2.1 k (by omega); have b2 := (hV.wok hW).2.2.1 j (by omega); exact ((hV.wok hW).2.2.2.1 k j (by omega) (by omega) (by omega)).symm)); obtain ⟨q1, q2, q3, q4, q5, q6, q7, q8, q9⟩ := hza.sep (hV.isR hW (show j < 8 by omega)) hne; rw [hX1.2.2.2 _ q1 q2 q3, hX1.2.2.2 _ q4 q5 q6, hX1.2.2.2 _ q7 q8 q9]; exact hy1 j (by omega))), (fun c h1 => by have h9 := hla k (by omega); rw [hX1.2.2.2 c (by omega) (by omega) (by omega)]; exact hy2 c h1)⟩
end
section
/-! Nettle: small ones -/
theorem dX7_outdate_0 : decode cX7_outdate 0 = .ok (.aload_n 0, 1) := by decide +kernel
theorem dX7_outdate_1 : decode cX7_outdate 1 = .ok (.getfield 24, 3) := by decide +kernel
theorem dX7_outdate_4 : decode cX7_outdate 4 = .ok (.iconst 0, 1) := by decide +kernel
theorem dX7_outdate_5 : decode cX7_outdate 5 = .ok (.putfield 371, 3) := by decide +kernel
theorem dX7_outdate_8 : decode cX7_outdate 8 = .ok (.aload_n 0, 1) := by decide +kernel
theorem dX7_outdate_9 : decode cX7_outdate 9 = .ok (.getfield 33, 3) := by decide +kernel
theorem dX7_outdate_12 : decode cX7_outdate 12 = .ok (.iconst 0, 1) := by decide +kernel
theorem dX7_outdate_13 : decode cX7_outdate 13 = .ok (.putfield 374, 3) := by decide +kernel
theorem dX7_outdate_16 : decode cX7_outdate 16 = .ok (.aload_n 0, 1) := by decide +kernel
theorem dX7_outdate_17 : decode cX7_outdate 17 = .ok (.getfield 42, 3) := by decide +kernel
theorem dX7_outdate_20 : decode cX7_outdate 20 = .ok (.iconst 0, 1) := by decide +kernel
theorem dX7_outdate_21 : decode cX7_outdate 21 = .ok (.putfield 375, 3) := by decide +kernel
theorem dX7_outdate_24 : decode cX7_outdate 24 = .ok (.aload_n 0, 1) := by decide +kernel
theorem dX7_outdate_25 : decode cX7_outdate 25 = .ok (.getfield 51, 3) := by decide +kernel
theorem dX7_outdate_28 : decode cX7_outdate 28 = .ok (.iconst 0, 1) := by decide +kernel
theorem dX7_outdate_29 : decode cX7_outdate 29 = .ok (.putfield 376, 3) := by decide +kernel
theorem dX7_outdate_32 : decode cX7_outdate 32 = .ok (.return_, 1) := by decide +kernel
theorem dX7_needRule_0 : decode cX7_needRule 0 = .ok (.iload_n 1, 1) := by decide +kernel
theorem dX7_needRule_1 : decode cX7_needRule 1 = .ok (.ifCond .lt 14, 3) := by decide +kernel
theorem dX7_needRule_4 : decode cX7_needRule 4 = .ok (.iload_n 1, 1) := by decide +kernel
theorem dX7_needRule_5 : decode cX7_needRule 5 = .ok (.aload_n 0, 1) := by decide +kernel
theorem dX7_needRule_6 : decode cX7_needRule 6 = .ok (.getfield 10, 3) := by decide +kernel
theorem dX7_needRule_9 : decode cX7_needRule 9 = .ok (.getfield 70, 3) := by decide +kernel
theorem dX7_needRule_12 : decode cX7_needRule 12 = .ok (.if_icmp .lt 14, 3) := by decide +kernel
theorem dX7_needRule_26 : decode cX7_needRule 26 = .ok (.return_, 1) := by decide +kernel
theorem dX7_needVerdict_0 : decode cX7_needVerdict 0 = .ok (.iload_n 0, 1) := by decide +kernel
theorem dX7_needVerdict_1 : decode cX7_needVerdict 1 = .ok (.ifCond .lt 8, 3) := by decide +kernel
theorem dX7_needVerdict_4 : decode cX7_needVerdict 4 = .ok (.iload_n 0, 1) := by decide +kernel
theorem dX7_needVerdict_5 : decode cX7_needVerdict 5 = .ok (.iconst 2, 1) := by decide +kernel
theorem dX7_needVerdict_6 : decode cX7_needVerdict 6 = .ok (.if_icmp .le 14, 3) := by decide +kernel
theorem dX7_needVerdict_20 : decode cX7_needVerdict 20 = .ok (.return_, 1) := by decide +kernel
theorem dX7_needWhat_0 : decode cX7_needWhat 0 = .ok (.iload_n 0, 1) := by decide +kernel
theorem dX7_needWhat_1 : decode cX7_needWhat 1 = .ok (.ifCond .lt 8, 3) := by decide +kernel
theorem dX7_needWhat_4 : decode cX7_needWhat 4 = .ok (.iload_n 0, 1) := by decide +kernel
theorem dX7_needWhat_5 : decode cX7_needWhat 5 = .ok (.iload_n 1, 1) := by decide +kernel
theorem dX7_needWhat_6 : decode cX7_needWhat 6 = .ok (.if_icmp .le 14, 3) := by decide +kernel
theorem dX7_needWhat_20 : decode cX7_needWhat 20 = .ok (.return_, 1) := by decide +kernel
theorem dX7_isValue_0 : decode cX7_isValue 0 = .ok (.iload_n 1, 1) := by decide +kernel
theorem dX7_isValue_1 : decode cX7_isValue 1 = .ok (.ifCond .lt 16, 3) := by decide +kernel
theorem dX7_isValue_17 : decode cX7_isValue 17 = .ok (.iconst 0, 1) := by decide +kernel
theorem dX7_isValue_18 : decode cX7_isValue 18 = .ok (.ireturn, 1) := by decide +kernel
theorem dX7_isValue_4 : decode cX7_isValue 4 = .ok (.iload_n 1, 1) := by decide +kernel
theorem dX7_isValue_5 : decode cX7_isValue 5 = .ok (.getstatic 366, 3) := by decide +kernel
theorem dX7_isValue_8 : decode cX7_isValue 8 = .ok (.iload_n 0, 1) := by decide +kernel
theorem dX7_isValue_9 : decode cX7_isValue 9 = .ok (.iaload, 1) := by decide +kernel
theorem dX7_isValue_10 : decode cX7_isValue 10 = .ok (.if_icmp .ge 7, 3) := by decide +kernel
theorem dX7_isValue_13 : decode cX7_isValue 13 = .ok (.iconst 1, 1) := by decide +kernel
theorem dX7_isValue_14 : decode cX7_isValue 14 = .ok (.goto 4, 3) := by decide +kernel
theorem dX7_rules_0 : decode cX7_rules 0 = .ok (.aload_n 0, 1) := by decide +kernel
theorem dX7_rules_1 : decode cX7_rules 1 = .ok (.getfield 10, 3) := by decide +kernel
theorem dX7_rules_4 : decode cX7_rules 4 = .ok (.getfield 70, 3) := by decide +kernel
theorem dX7_rules_7 : decode cX7_rules 7 = .ok (.ireturn, 1) := by decide +kernel
set_option maxHeartbeats 4000000 in
set_option maxRecDepth 100000 in
/-- outdate -/
theorem c_X7_outdate (l : Launch) (G : zG) (ad : Nat → Nat) (X : Nat → Nat → Int) : zR l G yX7_outdate wsX7_outdate { frames := 0, cells := 0, slots := 0, locals := 0 } (zpic G ad X) [.ref (ad 52)] (zv G ad (fun Y => Y = zOut X)) 0 0 := by
  refine zR_of (cc := cX7_outdate) (maxL := 1) (rt := none) (by decide) rfl (Nat.le_of_ble_eq_true rfl) ?_
  intro p e s m below meth c A ls hx hb hml hr hts hown hlocks hin0 hA hE hP hD hS hl
  have hl : lv_has ls 1 [(0, .ref (ad 52))] := hl
  have hown : s.vm.findClass RX7 = some m.cls := hown
  have hw7 : ∀ w ∈ u_ws RX7 TX7 8, w ∈ wsX7_outdate := by decide +kernel
  have hf24 := hts (.fieldLink RX7 24 "Nettle" "survey" "LNettle$Survey;") (by decide +kernel)
  have hw4 : ∀ w ∈ u_ws RX4 TX4 5, w ∈ wsX7_outdate := by decide +kernel
  have hf371 := hts (.fieldLink RX7 371 "Nettle$Survey" "isFresh" "Z") (by decide +kernel)
  have hf33 := hts (.fieldLink RX7 33 "Nettle" "cuts" "LNettle$Cuts;") (by decide +kernel)
  have hw1 : ∀ w ∈ u_ws RX1 TX1 6, w ∈ wsX7_outdate := by decide +kernel
  have hf374 := hts (.fieldLink RX7 374 "Nettle$Cuts" "isFresh" "Z") (by decide +kernel)
  have hf42 := hts (.fieldLink RX7 42 "Nettle" "tree" "LNettle$Tree;") (by decide +kernel)
  have hw5 : ∀ w ∈ u_ws RX5 TX5 7, w ∈ wsX7_outdate := by decide +kernel
  have hf375 := hts (.fieldLink RX7 375 "Nettle$Tree" "isFresh" "Z") (by decide +kernel)
  have hf51 := hts (.fieldLink RX7 51 "Nettle" "comparison" "LNettle$Comparison;") (by decide +kernel)
  have hw0 : ∀ w ∈ u_ws RX0 TX0 7, w ∈ wsX7_outdate := by decide +kernel
  have hf376 := hts (.fieldLink RX7 376 "Nettle$Comparison" "isFresh" "Z") (by decide +kernel)
  refine lv_aload_n hx hb dX7_outdate_0 rfl (lv_at hl 0 rfl) ?_
  refine va_get (D := G.1) (ci := 7) (v := .ref (ad 53)) (C := RX7) (T := TX7) (N := 8) hx hb hts hw7 hown hE.1 hP 52 p_52 rfl 2 (by decide) hf24 (fun _ h9 => h9) rfl dX7_outdate_1 ?_
  refine lv_iconst (v := zi 0) hx hb dX7_outdate_4 rfl ?_
  refine zput (C := RX4) (T := TX4) (N := 5) (ci := 4) (v := .int (zi 0)) (ty := tyX4 4) hx hb hts hw4 tyX4 tyX4_ok nmX4 hown hE hP hD hS 53 p_53 rfl 4 (by decide) hf371 (fun _ h9 => h9) rfl (by decide +kernel) rfl rfl (Nat.le_of_ble_eq_true rfl) (s_53 0) dX7_outdate_5 (fun H locs hP hD hS => ?_)
  refine lv_aload_n hx hb dX7_outdate_8 rfl (lv_at hl 0 rfl) ?_
  refine va_get (D := G.1) (ci := 7) (v := .ref (ad 57)) (C := RX7) (T := TX7) (N := 8) hx hb hts hw7 hown hE.1 hP 52 p_52 rfl 3 (by decide) hf33 (fun _ h9 => h9) rfl dX7_outdate_9 ?_
  refine lv_iconst (v := zi 0) hx hb dX7_outdate_12 rfl ?_
  refine zput (C := RX1) (T := TX1) (N := 6) (ci := 1) (v := .int (zi 0)) (ty := tyX1 5) hx hb hts hw1 tyX1 tyX1_ok nmX1 hown hE hP hD hS 57 p_57 rfl 5 (by decide) hf374 (fun _ h9 => h9) rfl (by decide +kernel) rfl rfl (Nat.le_of_ble_eq_true rfl) (s_57 0) dX7_outdate_13 (fun H locs hP hD hS => ?_)
  refine lv_aload_n hx hb dX7_outdate_16 rfl (lv_at hl 0 rfl) ?_
  refine va_get (D := G.1) (ci := 7) (v := .ref (ad 61)) (C := RX7) (T := TX7) (N := 8) hx hb hts hw7 hown hE.1 hP 52 p_52 rfl 4 (by decide) hf42 (fun _ h9 => h9) rfl dX7_outdate_17 ?_
  refine lv_iconst (v := zi 0) hx hb dX7_outdate_20 rfl ?_
  refine zput (C := RX5) (T := TX5) (N := 7) (ci := 5) (v := .int (zi 0)) (ty := tyX5 6) hx hb hts hw5 tyX5 tyX5_ok nmX5 hown hE hP hD hS 61 p_61 rfl 6 (by decide) hf375 (fun _ h9 => h9) rfl (by decide +kernel) rfl rfl (Nat.le_of_ble_eq_true rfl) (s_616 0) dX7_outdate_21 (fun H locs hP hD hS => ?_)
  refine lv_aload_n hx hb dX7_outdate_24 rfl (lv_at hl 0 rfl) ?_
  refine va_get (D := G.1) (ci := 7) (v := .ref (ad 65)) (C := RX7) (T := TX7) (N := 8) hx hb hts hw7 hown hE.1 hP 52 p_52 rfl 5 (by decide) hf51 (fun _ h9 => h9) rfl dX7_outdate_25 ?_
  refine lv_iconst (v := zi 0) hx hb dX7_outdate_28 rfl ?_
  refine zput (C := RX0) (T := TX0) (N := 7) (ci := 0) (v := .int (zi 0)) (ty := tyX0 6) hx hb hts hw0 tyX0 tyX0_ok nmX0 hown hE hP hD hS 65 p_65 rfl 6 (by decide) hf376 (fun _ h9 => h9) rfl (by decide +kernel) rfl rfl (Nat.le_of_ble_eq_true rfl) (s_656 0) dX7_outdate_29 (fun H locs hP hD hS => ?_)
  exact zend_v hx hb hr hlocks hP hD hS (Nat.le_of_ble_eq_true rfl) (Nat.le_of_ble_eq_true rfl) dX7_outdate_32 ⟨_, rfl, rfl, rfl⟩

set_option maxHeartbeats 4000000 in
set_option maxRecDepth 100000 in
/-- needRule -/
theorem c_X7_needRule (l : Launch) (G : zG) (ad : Nat → Nat) (X : Nat → Nat → Int) (q : Nat) (hV : zV X) (hq : q < zN X 0) : zR l G yX7_needRule wsX7_needRule { frames := 0, cells := 0, slots := 0, locals := 0 } (zpic G ad X) [.ref (ad 52), .int (zi (q : Int))] (zn G ad X) 0 0 := by
  refine zR_of (cc := cX7_needRule) (maxL := 2) (rt := none) (by decide) rfl (Nat.le_of_ble_eq_true rfl) ?_
  intro p e s m below meth c A ls hx hb hml hr hts hown hlocks hin0 hA hE hP hD hS hl
  have hl : lv_has ls 2 [(0, .ref (ad 52)), (1, .int (zi (q : Int)))] := hl
  have hown : s.vm.findClass RX7 = some m.cls := hown
  have hn := hV.n (Or.inl rfl : zIsW 0)
  have hw7 : ∀ w ∈ u_ws RX7 TX7 8, w ∈ wsX7_needRule := by decide +kernel
  have hf10 := hts (.fieldLink RX7 10 "Nettle" "wall" "LNettle$Wall;") (by decide +kernel)
  have hw6 : ∀ w ∈ u_ws RX6 TX6 3, w ∈ wsX7_needRule := by decide +kernel
  have hf70 := hts (.fieldLink RX7 70 "Nettle$Wall" "count" "I") (by decide +kernel)
  refine lv_iload_n hx hb dX7_needRule_0 rfl (lv_at hl 1 rfl) ?_
  refine z0_lt (tgt := 15) hx hb dX7_needRule_1 (by decide) (by omega) (fun h9 => by exfalso; omega) (fun h1 => ?_)
  refine lv_iload_n hx hb dX7_needRule_4 rfl (lv_at hl 1 rfl) ?_
  refine lv_aload_n hx hb dX7_needRule_5 rfl (lv_at hl 0 rfl) ?_
  refine va_get (D := G.1) (ci := 7) (v := .ref (ad 0)) (C := RX7) (T := TX7) (N := 8) hx hb hts hw7 hown hE.1 hP 52 p_52 rfl 0 (by decide) hf10 (fun _ h9 => h9) rfl dX7_needRule_6 ?_
  refine va_get (D := G.1) (ci := 6) (v := .int (zi (X 0 1))) (C := RX6) (T := TX6) (N := 3) hx hb hts hw6 hown hE.1 hP 0 (p_w (Or.inl rfl)) rfl 1 (by decide) hf70 (fun _ h9 => h9) rfl dX7_needRule_9 ?_
  refine zc_lt (tgt := 26) hx hb dX7_needRule_12 (by decide) (by omega) (by omega) (fun h12 => ?_) (fun h9 => by exfalso; omega)
  exact zend_v hx hb hr hlocks hP hD hS (Nat.le_of_ble_eq_true rfl) (Nat.le_of_ble_eq_true rfl) dX7_needRule_26 ⟨rfl, rfl⟩

set_option maxHeartbeats 4000000 in
set_option maxRecDepth 100000 in
/-- needVerdict -/
theorem c_X7_needVerdict (l : Launch) (G : zG) (ad : Nat → Nat) (X : Nat → Nat → Int) (v : Int) (hv : 0 ≤ v ∧ v ≤ 2) : zR l G yX7_needVerdict wsX7_needVerdict { frames := 0, cells := 0, slots := 0, locals := 0 } (zpic G ad X) [.int (zi v)] (zn G ad X) 0 0 := by
  refine zR_of (cc := cX7_needVerdict) (maxL := 1) (rt := none) (by decide) rfl (Nat.le_of_ble_eq_true rfl) ?_
  intro p e s m below meth c A ls hx hb hml hr hts hown hlocks hin0 hA hE hP hD hS hl
  have hl : lv_has ls 1 [(0, .int (zi v))] := hl
  have hown : s.vm.findClass RX7 = some m.cls := hown
  refine lv_iload_n hx hb dX7_needVerdict_0 rfl (lv_at hl 0 rfl) ?_
  refine z0_lt (tgt := 9) hx hb dX7_needVerdict_1 (by decide) (by omega) (fun h9 => by exfalso; omega) (fun h1 => ?_)
  refine lv_iload_n hx hb dX7_needVerdict_4 rfl (lv_at hl 0 rfl) ?_
  refine lv_iconst (v := zi 2) hx hb dX7_needVerdict_5 rfl ?_
  refine zc_le (tgt := 20) hx hb dX7_needVerdict_6 (by decide) (by omega) (by decide) (fun h6 => ?_) (fun h9 => by exfalso; omega)
  exact zend_v hx hb hr hlocks hP hD hS (Nat.le_of_ble_eq_true rfl) (Nat.le_of_ble_eq_true rfl) dX7_needVerdict_20 ⟨rfl, rfl⟩

set_option maxHeartbeats 4000000 in
set_option maxRecDepth 100000 in
/-- needWhat -/
theorem c_X7_needWhat (l : Launch) (G : zG) (ad : Nat → Nat) (X : Nat → Nat → Int) (v : Int) (t : Int) (hv : 0 ≤ v ∧ v ≤ t ∧ t ≤ 9) : zR l G yX7_needWhat wsX7_needWhat { frames := 0, cells := 0, slots := 0, locals := 0 } (zpic G ad X) [.int (zi v), .int (zi t)] (zn G ad X) 0 0 := by
  refine zR_of (cc := cX7_needWhat) (maxL := 2) (rt := none) (by decide) rfl (Nat.le_of_ble_eq_true rfl) ?_
  intro p e s m below meth c A ls hx hb hml hr hts hown hlocks hin0 hA hE hP hD hS hl
  have hl : lv_has ls 2 [(0, .int (zi v)), (1, .int (zi t))] := hl
  have hown : s.vm.findClass RX7 = some m.cls := hown
  refine lv_iload_n hx hb dX7_needWhat_0 rfl (lv_at hl 0 rfl) ?_
  refine z0_lt (tgt := 9) hx hb dX7_needWhat_1 (by decide) (by omega) (fun h9 => by exfalso; omega) (fun h1 => ?_)
  refine lv_iload_n hx hb dX7_needWhat_4 rfl (lv_at hl 0 rfl) ?_
  refine lv_iload_n hx hb dX7_needWhat_5 rfl (lv_at hl 1 rfl) ?_
  refine zc_le (tgt := 20) hx hb dX7_needWhat_6 (by decide) (by omega) (by omega) (fun h6 => ?_) (fun h9 => by exfalso; omega)
  exact zend_v hx hb hr hlocks hP hD hS (Nat.le_of_ble_eq_true rfl) (Nat.le_of_ble_eq_true rfl) dX7_needWhat_20 ⟨rfl, rfl⟩

set_option maxHeartbeats 4000000 in
set_option maxRecDepth 100000 in
/-- isValue -/
theorem c_X7_isValue (l : Launch) (G : zG) (ad : Nat → Nat) (X : Nat → Nat → Int) (f : Nat) (v : Int) (hf : f < 4) (hv : -2147483648 ≤ v ∧ v ≤ 2147483647) : zR l G yX7_isValue wsX7_isValue { frames := 0, cells := 0, slots := 0, locals := 0 } (zpic G ad X) [.int (zi (f : Int)), .int (zi v)] (zq G ad X (fun w => (w = 1 ∧ 0 ≤ v ∧ v < zS f) ∨ (w = 0 ∧ ¬ (0 ≤ v ∧ v < zS f)))) 0 0 := by
  refine zR_of (cc := cX7_isValue) (maxL := 2) (rt := (some .boolean)) (by decide) rfl (Nat.le_of_ble_eq_true rfl) ?_
  intro p e s m below meth c A ls hx hb hml hr hts hown hlocks hin0 hA hE hP hD hS hl
  have hl : lv_has ls 2 [(0, .int (zi (f : Int))), (1, .int (zi v))] := hl
  have hown : s.vm.findClass RX7 = some m.cls := hown
  have hsf := zS_le f
  have hf366 := hts (.fieldLink RX7 366 "Nettle" "SIZES" "[I") (by decide +kernel)
  refine lv_iload_n hx hb dX7_isValue_0 rfl (lv_at hl 1 rfl) ?_
  refine z0_lt (tgt := 17) hx hb dX7_isValue_1 (by decide) (by omega) (fun h1 => ?_) (fun h1 => ?_)
  · refine lv_iconst (v := zi 0) hx hb dX7_isValue_17 rfl ?_
    exact zend_z hx hb hr hlocks (by decide +kernel) hP hD hS (Nat.le_of_ble_eq_true rfl) (Nat.le_of_ble_eq_true rfl) dX7_isValue_18 ⟨_, rfl, (by omega), rfl⟩
  · refine lv_iload_n hx hb dX7_isValue_4 rfl (lv_at hl 1 rfl) ?_
    refine va_gets hx hb hE.2.1.1 hS hown hf366 (fun _ h9 => h9) dX7_isValue_5 ?_
    refine lv_iload_n hx hb dX7_isValue_8 rfl (lv_at hl 0 rfl) ?_
    refine zsz_ld hx hb hE hS f rfl (by omega) dX7_isValue_9 ?_
    refine zc_ge (tgt := 17) hx hb dX7_isValue_10 (by decide) (by omega) (by omega) (fun h10 => ?_) (fun h10 => ?_)
    · refine lv_iconst (v := zi 0) hx hb dX7_isValue_17 rfl ?_
      exact zend_z hx hb hr hlocks (by decide +kernel) hP hD hS (Nat.le_of_ble_eq_true rfl) (Nat.le_of_ble_eq_true rfl) dX7_isValue_18 ⟨_, rfl, (by omega), rfl⟩
    · refine lv_iconst (v := zi 1) hx hb dX7_isValue_13 rfl ?_
      refine lv_goto (tgt := 18) hx hb dX7_isValue_14 (by decide) ?_
      exact zend_z hx hb hr hlocks (by decide +kernel) hP hD hS (Nat.le_of_ble_eq_true rfl) (Nat.le_of_ble_eq_true rfl) dX7_isValue_18 ⟨_, rfl, (by omega), rfl⟩

set_option maxHeartbeats 4000000 in
set_option maxRecDepth 100000 in
/-- rules -/
theorem c_X7_rules (l : Launch) (G : zG) (ad : Nat → Nat) (X : Nat → Nat → Int) (hV : zV X) : zR l G yX7_rules wsX7_rules { frames := 0, cells := 0, slots := 0, locals := 0 } (zpic G ad X) [.ref (ad 52)] (zq G ad X (fun w => w = (zN X 0 : Int))) 0 0 := by
  refine zR_of (cc := cX7_rules) (maxL := 1) (rt := (some .int)) (by decide) rfl (Nat.le_of_ble_eq_true rfl) ?_
  intro p e s m below meth c A ls hx hb hml hr hts hown hlocks hin0 hA hE hP hD hS hl
  have hl : lv_has ls 1 [(0, .ref (ad 52))] := hl
  have hown : s.vm.findClass RX7 = some m.cls := hown
  have hn := hV.n (Or.inl rfl : zIsW 0)
  have hw7 : ∀ w ∈ u_ws RX7 TX7 8, w ∈ wsX7_rules := by decide +kernel
  have hf10 := hts (.fieldLink RX7 10 "Nettle" "wall" "LNettle$Wall;") (by decide +kernel)
  have hw6 : ∀ w ∈ u_ws RX6 TX6 3, w ∈ wsX7_rules := by decide +kernel
  have hf70 := hts (.fieldLink RX7 70 "Nettle$Wall" "count" "I") (by decide +kernel)
  refine lv_aload_n hx hb dX7_rules_0 rfl (lv_at hl 0 rfl) ?_
  refine va_get (D := G.1) (ci := 7) (v := .ref (ad 0)) (C := RX7) (T := TX7) (N := 8) hx hb hts hw7 hown hE.1 hP 52 p_52 rfl 0 (by decide) hf10 (fun _ h9 => h9) rfl dX7_rules_1 ?_
  refine va_get (D := G.1) (ci := 6) (v := .int (zi (X 0 1))) (C := RX6) (T := TX6) (N := 3) hx hb hts hw6 hown hE.1 hP 0 (p_w (Or.inl rfl)) rfl 1 (by decide) hf70 (fun _ h9 => h9) rfl dX7_rules_4 ?_
  exact zend_i hx hb hr hlocks hP hD hS (Nat.le_of_ble_eq_true rfl) (Nat.le_of_ble_eq_true rfl) dX7_rules_7 ⟨_, rfl, hn.1, rfl⟩
end
section
/-! Nettle: what needs no cache -/
theorem dX7_shared_0 : decode cX7_shared 0 = .ok (.aload_n 0, 1) := by decide +kernel
theorem dX7_shared_1 : decode cX7_shared 1 = .ok (.iload_n 1, 1) := by decide +kernel
set_option maxRecDepth 20000 in
theorem ggX7_shared_X7_needRule : GoodIn wsX7_shared wsX7_needRule := goodIn_ca (goodIn_r _ [7, 8, 9, 1, 10, 25, 26, 27, 28, 29, 30, 31, 32, 33, 34, 35] (by decide +kernel) (by decide +kernel)) (goodIn_sub (fun _ h => List.mem_cons_of_mem _ (List.mem_append_right _ h)) (by decide +kernel))
set_option maxRecDepth 20000 in
theorem gX7_shared_X7_needRule : GoodIn wsX7_shared (wsV RX7 87 RX7 yX7_needRule wsX7_needRule) := goodIn_app (goodIn_of _ (by decide +kernel)) ggX7_shared_X7_needRule
theorem dX7_shared_2 : decode cX7_shared 2 = .ok (.invokevirtual 87, 3) := by decide +kernel
theorem dX7_shared_5 : decode cX7_shared 5 = .ok (.aload_n 0, 1) := by decide +kernel
theorem dX7_shared_6 : decode cX7_shared 6 = .ok (.iload_n 2, 1) := by decide +kernel
theorem dX7_shared_7 : decode cX7_shared 7 = .ok (.invokevirtual 87, 3) := by decide +kernel
theorem dX7_shared_10 : decode cX7_shared 10 = .ok (.aload_n 0, 1) := by decide +kernel
theorem dX7_shared_11 : decode cX7_shared 11 = .ok (.getfield 10, 3) := by decide +kernel
theorem dX7_shared_14 : decode cX7_shared 14 = .ok (.getfield 104, 3) := by decide +kernel
theorem dX7_shared_17 : decode cX7_shared 17 = .ok (.iload_n 1, 1) := by decide +kernel
theorem dX7_shared_18 : decode cX7_shared 18 = .ok (.aaload, 1) := by decide +kernel
theorem dX7_shared_19 : decode cX7_shared 19 = .ok (.aload_n 0, 1) := by decide +kernel
theorem dX7_shared_20 : decode cX7_shared 20 = .ok (.getfield 10, 3) := by decide +kernel
theorem dX7_shared_23 : decode cX7_shared 23 = .ok (.getfield 104, 3) := by decide +kernel
theorem dX7_shared_26 : decode cX7_shared 26 = .ok (.iload_n 2, 1) := by decide +kernel
theorem dX7_shared_27 : decode cX7_shared 27 = .ok (.aaload, 1) := by decide +kernel
set_option maxRecDepth 20000 in
theorem ggX7_shared_X3_amountWith : GoodIn wsX7_shared wsX3_amountWith := goodIn_r _ [15, 16, 17, 18, 19, 20, 21, 22, 23, 24, 36, 37, 38, 39] (by decide +kernel) (by decide +kernel)
set_option maxRecDepth 20000 in
theorem gX7_shared_X3_amountWith : GoodIn wsX7_shared (wsV RX7 169 RX3 yX3_amountWith wsX3_amountWith) := goodIn_app (goodIn_of _ (by decide +kernel)) ggX7_shared_X3_amountWith
theorem dX7_shared_28 : decode cX7_shared 28 = .ok (.invokevirtual 169, 3) := by decide +kernel
theorem dX7_shared_31 : decode cX7_shared 31 = .ok (.ireturn, 1) := by decide +kernel
theorem dX7_coveredBy_0 : decode cX7_coveredBy 0 = .ok (.aload_n 0, 1) := by decide +kernel
theorem dX7_coveredBy_1 : decode cX7_coveredBy 1 = .ok (.iload_n 1, 1) := by decide +kernel
set_option maxRecDepth 20000 in
theorem ggX7_coveredBy_X7_needRule : GoodIn wsX7_coveredBy wsX7_needRule := goodIn_ca (goodIn_r _ [6, 7, 8, 1, 9, 28, 29, 30, 31, 32, 33, 34, 35, 36, 37, 38] (by decide +kernel) (by decide +kernel)) (goodIn_sub (fun _ h => List.mem_cons_of_mem _ (List.mem_append_right _ h)) (by decide +kernel))
set_option maxRecDepth 20000 in
theorem gX7_coveredBy_X7_needRule : GoodIn wsX7_coveredBy (wsV RX7 87 RX7 yX7_needRule wsX7_needRule) := goodIn_app (goodIn_of _ (by decide +kernel)) ggX7_coveredBy_X7_needRule
theorem dX7_coveredBy_2 : decode cX7_coveredBy 2 = .ok (.invokevirtual 87, 3) := by decide +kernel
theorem dX7_coveredBy_5 : decode cX7_coveredBy 5 = .ok (.aload_n 0, 1) := by decide +kernel
theorem dX7_coveredBy_6 : decode cX7_coveredBy 6 = .ok (.getfield 10, 3) := by decide +kernel
theorem dX7_coveredBy_9 : decode cX7_coveredBy 9 = .ok (.iload_n 1, 1) := by decide +kernel
set_option maxRecDepth 20000 in
theorem ggX7_coveredBy_X6_firstCover : GoodIn wsX7_coveredBy wsX6_firstCover := goodIn_r _ [14, 15, 16, 17, 18, 19, 20, 21, 22, 23, 24, 25, 26, 27, 36, 37, 38, 39, 40, 41, 42] (by decide +kernel) (by decide +kernel)
set_option maxRecDepth 20000 in
theorem gX7_coveredBy_X6_firstCover : GoodIn wsX7_coveredBy (wsV RX7 166 RX6 yX6_firstCover wsX6_firstCover) := goodIn_app (goodIn_of _ (by decide +kernel)) ggX7_coveredBy_X6_firstCover
theorem dX7_coveredBy_10 : decode cX7_coveredBy 10 = .ok (.invokevirtual 166, 3) := by decide +kernel
theorem dX7_coveredBy_13 : decode cX7_coveredBy 13 = .ok (.ireturn, 1) := by decide +kernel
theorem dX7_takePacket_0 : decode cX7_takePacket 0 = .ok (.iconst 0, 1) := by decide +kernel
theorem dX7_takePacket_1 : decode cX7_takePacket 1 = .ok (.iload_n 1, 1) := by decide +kernel
set_option maxRecDepth 20000 in
theorem ggX7_takePacket_X7_isValue : GoodIn wsX7_takePacket wsX7_isValue := goodIn_r _ [7, 8] (by decide +kernel) (by decide +kernel)
set_option maxRecDepth 20000 in
theorem gX7_takePacket_X7_isValue : GoodIn wsX7_takePacket (va_wsS RX7 95 yX7_isValue wsX7_isValue) := goodIn_app (goodIn_of _ (by decide +kernel)) ggX7_takePacket_X7_isValue
theorem dX7_takePacket_2 : decode cX7_takePacket 2 = .ok (.invokestatic 95, 3) := by decide +kernel
theorem dX7_takePacket_5 : decode cX7_takePacket 5 = .ok (.ifCond .eq 28, 3) := by decide +kernel
theorem dX7_takePacket_8 : decode cX7_takePacket 8 = .ok (.iconst 1, 1) := by decide +kernel
theorem dX7_takePacket_9 : decode cX7_takePacket 9 = .ok (.iload_n 2, 1) := by decide +kernel
theorem dX7_takePacket_10 : decode cX7_takePacket 10 = .ok (.invokestatic 95, 3) := by decide +kernel
theorem dX7_takePacket_13 : decode cX7_takePacket 13 = .ok (.ifCond .eq 20, 3) := by decide +kernel
theorem dX7_takePacket_16 : decode cX7_takePacket 16 = .ok (.iconst 2, 1) := by decide +kernel
theorem dX7_takePacket_17 : decode cX7_takePacket 17 = .ok (.iload_n 3, 1) := by decide +kernel
theorem dX7_takePacket_18 : decode cX7_takePacket 18 = .ok (.invokestatic 95, 3) := by decide +kernel
theorem dX7_takePacket_21 : decode cX7_takePacket 21 = .ok (.ifCond .eq 12, 3) := by decide +kernel
theorem dX7_takePacket_24 : decode cX7_takePacket 24 = .ok (.iconst 3, 1) := by decide +kernel
theorem dX7_takePacket_25 : decode cX7_takePacket 25 = .ok (.iload 4, 2) := by decide +kernel
theorem dX7_takePacket_27 : decode cX7_takePacket 27 = .ok (.invokestatic 95, 3) := by decide +kernel
theorem dX7_takePacket_30 : decode cX7_takePacket 30 = .ok (.ifCond .ne 14, 3) := by decide +kernel
theorem dX7_takePacket_44 : decode cX7_takePacket 44 = .ok (.aload_n 0, 1) := by decide +kernel
theorem dX7_takePacket_45 : decode cX7_takePacket 45 = .ok (.getfield 62, 3) := by decide +kernel
theorem dX7_takePacket_48 : decode cX7_takePacket 48 = .ok (.iconst 0, 1) := by decide +kernel
theorem dX7_takePacket_49 : decode cX7_takePacket 49 = .ok (.iload_n 1, 1) := by decide +kernel
theorem dX7_takePacket_50 : decode cX7_takePacket 50 = .ok (.iastore, 1) := by decide +kernel
theorem dX7_takePacket_51 : decode cX7_takePacket 51 = .ok (.aload_n 0, 1) := by decide +kernel
theorem dX7_takePacket_52 : decode cX7_takePacket 52 = .ok (.getfield 62, 3) := by decide +kernel
theorem dX7_takePacket_55 : decode cX7_takePacket 55 = .ok (.iconst 1, 1) := by decide +kernel
theorem dX7_takePacket_56 : decode cX7_takePacket 56 = .ok (.iload_n 2, 1) := by decide +kernel
theorem dX7_takePacket_57 : decode cX7_takePacket 57 = .ok (.iastore, 1) := by decide +kernel
theorem dX7_takePacket_58 : decode cX7_takePacket 58 = .ok (.aload_n 0, 1) := by decide +kernel
theorem dX7_takePacket_59 : decode cX7_takePacket 59 = .ok (.getfield 62, 3) := by decide +kernel
theorem dX7_takePacket_62 : decode cX7_takePacket 62 = .ok (.iconst 2, 1) := by decide +kernel
theorem dX7_takePacket_63 : decode cX7_takePacket 63 = .ok (.iload_n 3, 1) := by decide +kernel
theorem dX7_takePacket_64 : decode cX7_takePacket 64 = .ok (.iastore, 1) := by decide +kernel
theorem dX7_takePacket_65 : decode cX7_takePacket 65 = .ok (.aload_n 0, 1) := by decide +kernel
theorem dX7_takePacket_66 : decode cX7_takePacket 66 = .ok (.getfield 62, 3) := by decide +kernel
theorem dX7_takePacket_69 : decode cX7_takePacket 69 = .ok (.iconst 3, 1) := by decide +kernel
theorem dX7_takePacket_70 : decode cX7_takePacket 70 = .ok (.iload 4, 2) := by decide +kernel
theorem dX7_takePacket_72 : decode cX7_takePacket 72 = .ok (.iastore, 1) := by decide +kernel
theorem dX7_takePacket_73 : decode cX7_takePacket 73 = .ok (.return_, 1) := by decide +kernel
set_option maxHeartbeats 4000000 in
set_option maxRecDepth 100000 in
/-- shared -/
theorem c_X7_shared (l : Launch) (G : zG) (ad : Nat → Nat) (X : Nat → Nat → Int) (q : Nat) (t : Nat) (hV : zV X) (hq : q < zN X 0) (ht : t < zN X 0) : zR l G yX7_shared wsX7_shared { frames := 2, cells := 0, slots := 0, locals := 40 } (zpic G ad X) [.ref (ad 52), .int (zi (q : Int)), .int (zi (t : Int))] (zq G ad X (fun w => w = zAW X (zr X 0 q) (zr X 0 t) ∧ 0 ≤ w ∧ w ≤ 268435456)) 0 0 := by
  refine zR_of (cc := cX7_shared) (maxL := 3) (rt := (some .int)) (by decide) rfl (Nat.le_of_ble_eq_true rfl) ?_
  intro p e s m below meth c A ls hx hb hml hr hts hown hlocks hin0 hA hE hP hD hS hl
  have hl : lv_has ls 3 [(0, .ref (ad 52)), (1, .int (zi (q : Int))), (2, .int (zi (t : Int)))] := hl
  have hown : s.vm.findClass RX7 = some m.cls := hown
  have hn := hV.n (Or.inl rfl : zIsW 0)
  have hw7 : ∀ w ∈ u_ws RX7 TX7 8, w ∈ wsX7_shared := by decide +kernel
  have hf10 := hts (.fieldLink RX7 10 "Nettle" "wall" "LNettle$Wall;") (by decide +kernel)
  have hw6 : ∀ w ∈ u_ws RX6 TX6 3, w ∈ wsX7_shared := by decide +kernel
  have hf104 := hts (.fieldLink RX7 104 "Nettle$Wall" "rows" "[LNettle$Rule;") (by decide +kernel)
  refine lv_aload_n hx hb dX7_shared_0 rfl (lv_at hl 0 rfl) ?_
  refine lv_iload_n hx hb dX7_shared_1 rfl (lv_at hl 1 rfl) ?_
  refine zcall (wr := []) (va_runV (As := [.int (zi (q : Int))]) (rest := []) ⟨hx, hb, hml, hown, hts⟩ (c_X7_needRule l G ad X q hV (by omega) s.heap.size) (cwV 1 hts gX7_shared_X7_needRule rfl rfl rfl (by decide +kernel) ⟨Nat.le_of_ble_eq_true rfl, Nat.le_of_ble_eq_true rfl⟩) (zPreV (wr := []) (wc := zpic G ad X) (q0 := 52) (ci := 7) (q := (RX7, TX7, 8)) hP hD hE hS hA rfl p_52) rfl rfl hl.1 rfl (lv_room (Nat.le_of_ble_eq_true rfl)) dX7_shared_2 ⟨Nat.le_of_ble_eq_true rfl, Nat.le_of_ble_eq_true rfl⟩) hP hD hS hA (fun _ _ H locs hf hP hD hS => ?_)
  obtain ⟨rfl, rfl⟩ := hf
  have hP : va_P G.1 vwCl (zpic G ad X) H := hP
  have hD : va_D A (zpic G ad X) := hD
  refine W.eq (g2 := F0 m 5 ls []) rfl ?_
  refine lv_aload_n hx hb dX7_shared_5 rfl (lv_at hl 0 rfl) ?_
  refine lv_iload_n hx hb dX7_shared_6 rfl (lv_at hl 2 rfl) ?_
  refine zcall (wr := []) (va_runV (As := [.int (zi (t : Int))]) (rest := []) ⟨hx, hb, hml, hown, hts⟩ (c_X7_needRule l G ad X t hV (by omega) H.size) (cwV 1 hts gX7_shared_X7_needRule rfl rfl rfl (by decide +kernel) ⟨Nat.le_of_ble_eq_true rfl, Nat.le_of_ble_eq_true rfl⟩) (zPreV (wr := []) (wc := zpic G ad X) (q0 := 52) (ci := 7) (q := (RX7, TX7, 8)) hP hD hE hS hA rfl p_52) rfl rfl hl.1 rfl (lv_room (Nat.le_of_ble_eq_true rfl)) dX7_shared_7 ⟨Nat.le_of_ble_eq_true rfl, Nat.le_of_ble_eq_true rfl⟩) hP hD hS hA (fun _ _ H locs hf hP hD hS => ?_)
  obtain ⟨rfl, rfl⟩ := hf
  have hP : va_P G.1 vwCl (zpic G ad X) H := hP
  have hD : va_D A (zpic G ad X) := hD
  refine W.eq (g2 := F0 m 10 ls []) rfl ?_
  refine lv_aload_n hx hb dX7_shared_10 rfl (lv_at hl 0 rfl) ?_
  refine va_get (D := G.1) (ci := 7) (v := .ref (ad 0)) (C := RX7) (T := TX7) (N := 8) hx hb hts hw7 hown hE.1 hP 52 p_52 rfl 0 (by decide) hf10 (fun _ h9 => h9) rfl dX7_shared_11 ?_
  refine va_get (D := G.1) (ci := 6) (v := .ref (ad 1)) (C := RX6) (T := TX6) (N := 3) hx hb hts hw6 hown hE.1 hP 0 (p_w (Or.inl rfl)) rfl 0 (by decide) hf104 (fun _ h9 => h9) rfl dX7_shared_14 ?_
  refine lv_iload_n hx hb dX7_shared_17 rfl (lv_at hl 1 rfl) ?_
  refine zqld hx hb hE hP (Or.inl rfl) q rfl (by omega) dX7_shared_18 ?_
  have hR1 : zIsR (zr X 0 q) := hV.isR (Or.inl rfl) (by omega)
  refine lv_aload_n hx hb dX7_shared_19 rfl (lv_at hl 0 rfl) ?_
  refine va_get (D := G.1) (ci := 7) (v := .ref (ad 0)) (C := RX7) (T := TX7) (N := 8) hx hb hts hw7 hown hE.1 hP 52 p_52 rfl 0 (by decide) hf10 (fun _ h9 => h9) rfl dX7_shared_20 ?_
  refine va_get (D := G.1) (ci := 6) (v := .ref (ad 1)) (C := RX6) (T := TX6) (N := 3) hx hb hts hw6 hown hE.1 hP 0 (p_w (Or.inl rfl)) rfl 0 (by decide) hf104 (fun _ h9 => h9) rfl dX7_shared_23 ?_
  refine lv_iload_n hx hb dX7_shared_26 rfl (lv_at hl 2 rfl) ?_
  refine zqld hx hb hE hP (Or.inl rfl) t rfl (by omega) dX7_shared_27 ?_
  have hR2 : zIsR (zr X 0 t) := hV.isR (Or.inl rfl) (by omega)
  refine zcall (wr := []) (va_runV (As := [.ref (ad (zr X 0 t))]) (rest := []) ⟨hx, hb, hml, hown, hts⟩ (c_X3_amountWith l G ad X (zr X 0 q) (zr X 0 t) hV hR1 hR2 H.size) (cwV 1 hts gX7_shared_X3_amountWith rfl rfl rfl (by decide +kernel) ⟨Nat.le_of_ble_eq_true rfl, Nat.le_of_ble_eq_true rfl⟩) (zPreV (wr := []) (wc := zpic G ad X) (q0 := (zr X 0 q)) (ci := 3) (q := (RX3, TX3, 4)) hP hD hE hS hA rfl (p_r hR1)) rfl rfl hl.1 rfl (lv_room (Nat.le_of_ble_eq_true rfl)) dX7_shared_28 ⟨Nat.le_of_ble_eq_true rfl, Nat.le_of_ble_eq_true rfl⟩) hP hD hS hA (fun _ _ H locs hf hP hD hS => ?_)
  obtain ⟨v1, rfl, hv1, rfl⟩ := hf
  have hP : va_P G.1 vwCl (zpic G ad X) H := hP
  have hD : va_D A (zpic G ad X) := hD
  refine W.eq (g2 := F0 m 31 ls [.int (zi v1)]) rfl ?_
  exact zend_i hx hb hr hlocks hP hD hS (Nat.le_of_ble_eq_true rfl) (Nat.le_of_ble_eq_true rfl) dX7_shared_31 ⟨_, rfl, hv1, rfl⟩

set_option maxHeartbeats 4000000 in
set_option maxRecDepth 100000 in
/-- coveredBy -/
theorem c_X7_coveredBy (l : Launch) (G : zG) (ad : Nat → Nat) (X : Nat → Nat → Int) (q : Nat) (hV : zV X) (hq : q < zN X 0) : zR l G yX7_coveredBy wsX7_coveredBy { frames := 2, cells := 0, slots := 0, locals := 44 } (zpic G ad X) [.ref (ad 52), .int (zi (q : Int))] (zq G ad X (fun w => -1 ≤ w ∧ w < (q : Int) ∧ zIsC X 0 q w)) 0 0 := by
  refine zR_of (cc := cX7_coveredBy) (maxL := 2) (rt := (some .int)) (by decide) rfl (Nat.le_of_ble_eq_true rfl) ?_
  intro p e s m below meth c A ls hx hb hml hr hts hown hlocks hin0 hA hE hP hD hS hl
  have hl : lv_has ls 2 [(0, .ref (ad 52)), (1, .int (zi (q : Int)))] := hl
  have hown : s.vm.findClass RX7 = some m.cls := hown
  have hn := hV.n (Or.inl rfl : zIsW 0)
  have hw7 : ∀ w ∈ u_ws RX7 TX7 8, w ∈ wsX7_coveredBy := by decide +kernel
  have hf10 := hts (.fieldLink RX7 10 "Nettle" "wall" "LNettle$Wall;") (by decide +kernel)
  refine lv_aload_n hx hb dX7_coveredBy_0 rfl (lv_at hl 0 rfl) ?_
  refine lv_iload_n hx hb dX7_coveredBy_1 rfl (lv_at hl 1 rfl) ?_
  refine zcall (wr := []) (va_runV (As := [.int (zi (q : Int))]) (rest := []) ⟨hx, hb, hml, hown, hts⟩ (c_X7_needRule l G ad X q hV (by omega) s.heap.size) (cwV 1 hts gX7_coveredBy_X7_needRule rfl rfl rfl (by decide +kernel) ⟨Nat.le_of_ble_eq_true rfl, Nat.le_of_ble_eq_true rfl⟩) (zPreV (wr := []) (wc := zpic G ad X) (q0 := 52) (ci := 7) (q := (RX7, TX7, 8)) hP hD hE hS hA rfl p_52) rfl rfl hl.1 rfl (lv_room (Nat.le_of_ble_eq_true rfl)) dX7_coveredBy_2 ⟨Nat.le_of_ble_eq_true rfl, Nat.le_of_ble_eq_true rfl⟩) hP hD hS hA (fun _ _ H locs hf hP hD hS => ?_)
  obtain ⟨rfl, rfl⟩ := hf
  have hP : va_P G.1 vwCl (zpic G ad X) H := hP
  have hD : va_D A (zpic G ad X) := hD
  refine W.eq (g2 := F0 m 5 ls []) rfl ?_
  refine lv_aload_n hx hb dX7_coveredBy_5 rfl (lv_at hl 0 rfl) ?_
  refine va_get (D := G.1) (ci := 7) (v := .ref (ad 0)) (C := RX7) (T := TX7) (N := 8) hx hb hts hw7 hown hE.1 hP 52 p_52 rfl 0 (by decide) hf10 (fun _ h9 => h9) rfl dX7_coveredBy_6 ?_
  refine lv_iload_n hx hb dX7_coveredBy_9 rfl (lv_at hl 1 rfl) ?_
  refine zcall (wr := []) (va_runV (As := [.int (zi (q : Int))]) (rest := []) ⟨hx, hb, hml, hown, hts⟩ (c_X6_firstCover l G ad X 0 q hV (Or.inl rfl) (by omega) H.size) (cwV 1 hts gX7_coveredBy_X6_firstCover rfl rfl rfl (by decide +kernel) ⟨Nat.le_of_ble_eq_true rfl, Nat.le_of_ble_eq_true rfl⟩) (zPreV (wr := []) (wc := zpic G ad X) (q0 := 0) (ci := 6) (q := (RX6, TX6, 3)) hP hD hE hS hA rfl (p_w (Or.inl rfl))) rfl rfl hl.1 rfl (lv_room (Nat.le_of_ble_eq_true rfl)) dX7_coveredBy_10 ⟨Nat.le_of_ble_eq_true rfl, Nat.le_of_ble_eq_true rfl⟩) hP hD hS hA (fun _ _ H locs hf hP hD hS => ?_)
  obtain ⟨v1, rfl, hv1, rfl⟩ := hf
  have hP : va_P G.1 vwCl (zpic G ad X) H := hP
  have hD : va_D A (zpic G ad X) := hD
  refine W.eq (g2 := F0 m 13 ls [.int (zi v1)]) rfl ?_
  exact zend_i hx hb hr hlocks hP hD hS (Nat.le_of_ble_eq_true rfl) (Nat.le_of_ble_eq_true rfl) dX7_coveredBy_13 ⟨_, rfl, hv1, rfl⟩

set_option maxHeartbeats 4000000 in
set_option maxRecDepth 100000 in
/-- takePacket -/
theorem c_X7_takePacket (l : Launch) (G : zG) (ad : Nat → Nat) (X : Nat → Nat → Int) (p0 : Int) (p1 : Int) (p2 : Int) (p3 : Int) (hp0 : 0 ≤ p0 ∧ p0 < 256) (hp1 : 0 ≤ p1 ∧ p1 < 256) (hp2 : 0 ≤ p2 ∧ p2 < 1024) (hp3 : 0 ≤ p3 ∧ p3 < 4) : zR l G yX7_takePacket wsX7_takePacket { frames := 1, cells := 0, slots := 0, locals := 21 } (zpic G ad X) [.ref (ad 52), .int (zi p0), .int (zi p1), .int (zi p2), .int (zi p3)] (zv G ad (fun Y => Y = zw (zw (zw (zw X 70 0 p0) 70 1 p1) 70 2 p2) 70 3 p3)) 0 0 := by
  refine zR_of (cc := cX7_takePacket) (maxL := 5) (rt := none) (by decide) rfl (Nat.le_of_ble_eq_true rfl) ?_
  intro p e s m below meth c A ls hx hb hml hr hts hown hlocks hin0 hA hE hP hD hS hl
  have hl : lv_has ls 5 [(0, .ref (ad 52)), (1, .int (zi p0)), (2, .int (zi p1)), (3, .int (zi p2)), (4, .int (zi p3))] := hl
  have hown : s.vm.findClass RX7 = some m.cls := hown
  have hz : zS 0 = 256 ∧ zS 1 = 256 ∧ zS 2 = 1024 ∧ zS 3 = 4 := ⟨rfl, rfl, rfl, rfl⟩
  have hw7 : ∀ w ∈ u_ws RX7 TX7 8, w ∈ wsX7_takePacket := by decide +kernel
  have hf62 := hts (.fieldLink RX7 62 "Nettle" "packet" "[I") (by decide +kernel)
  refine lv_iconst (v := zi 0) hx hb dX7_takePacket_0 rfl ?_
  refine lv_iload_n hx hb dX7_takePacket_1 rfl (lv_at hl 1 rfl) ?_
  refine zcall (wr := []) (va_runS (As := [.int (zi 0), .int (zi p0)]) (rest := []) ⟨hx, hb, hml, hown, hts⟩ (c_X7_isValue l G ad X 0 p0 (by omega) (by omega) s.heap.size) (va_cwS 2 hts gX7_takePacket_X7_isValue rfl rfl rfl (by decide +kernel) ⟨Nat.le_of_ble_eq_true rfl, Nat.le_of_ble_eq_true rfl⟩) (zPre (wr := []) (wc := zpic G ad X) (As := [.int (zi 0), .int (zi p0)]) hP hD hE hS hA).1 rfl rfl hl.1 rfl (lv_room (Nat.le_of_ble_eq_true rfl)) dX7_takePacket_2 ⟨Nat.le_of_ble_eq_true rfl, Nat.le_of_ble_eq_true rfl⟩) hP hD hS hA (fun _ _ H locs hf hP hD hS => ?_)
  obtain ⟨v1, rfl, hv1, rfl⟩ := hf
  have hP : va_P G.1 vwCl (zpic G ad X) H := hP
  have hD : va_D A (zpic G ad X) := hD
  refine W.eq (g2 := F0 m 5 ls [.int (zi v1)]) rfl ?_
  refine z0_eq (tgt := 33) hx hb dX7_takePacket_5 (by decide) (by omega) (fun h9 => by exfalso; omega) (fun h5 => ?_)
  refine lv_iconst (v := zi 1) hx hb dX7_takePacket_8 rfl ?_
  refine lv_iload_n hx hb dX7_takePacket_9 rfl (lv_at hl 2 rfl) ?_
  refine zcall (wr := []) (va_runS (As := [.int (zi 1), .int (zi p1)]) (rest := []) ⟨hx, hb, hml, hown, hts⟩ (c_X7_isValue l G ad X 1 p1 (by omega) (by omega) H.size) (va_cwS 2 hts gX7_takePacket_X7_isValue rfl rfl rfl (by decide +kernel) ⟨Nat.le_of_ble_eq_true rfl, Nat.le_of_ble_eq_true rfl⟩) (zPre (wr := []) (wc := zpic G ad X) (As := [.int (zi 1), .int (zi p1)]) hP hD hE hS hA).1 rfl rfl hl.1 rfl (lv_room (Nat.le_of_ble_eq_true rfl)) dX7_takePacket_10 ⟨Nat.le_of_ble_eq_true rfl, Nat.le_of_ble_eq_true rfl⟩) hP hD hS hA (fun _ _ H locs hf hP hD hS => ?_)
  obtain ⟨v2, rfl, hv2, rfl⟩ := hf
  have hP : va_P G.1 vwCl (zpic G ad X) H := hP
  have hD : va_D A (zpic G ad X) := hD
  refine W.eq (g2 := F0 m 13 ls [.int (zi v2)]) rfl ?_
  refine z0_eq (tgt := 33) hx hb dX7_takePacket_13 (by decide) (by omega) (fun h9 => by exfalso; omega) (fun h13 => ?_)
  refine lv_iconst (v := zi 2) hx hb dX7_takePacket_16 rfl ?_
  refine lv_iload_n hx hb dX7_takePacket_17 rfl (lv_at hl 3 rfl) ?_
  refine zcall (wr := []) (va_runS (As := [.int (zi 2), .int (zi p2)]) (rest := []) ⟨hx, hb, hml, hown, hts⟩ (c_X7_isValue l G ad X 2 p2 (by omega) (by omega) H.size) (va_cwS 2 hts gX7_takePacket_X7_isValue rfl rfl rfl (by decide +kernel) ⟨Nat.le_of_ble_eq_true rfl, Nat.le_of_ble_eq_true rfl⟩) (zPre (wr := []) (wc := zpic G ad X) (As := [.int (zi 2), .int (zi p2)]) hP hD hE hS hA).1 rfl rfl hl.1 rfl (lv_room (Nat.le_of_ble_eq_true rfl)) dX7_takePacket_18 ⟨Nat.le_of_ble_eq_true rfl, Nat.le_of_ble_eq_true rfl⟩) hP hD hS hA (fun _ _ H locs hf hP hD hS => ?_)
  obtain ⟨v3, rfl, hv3, rfl⟩ := hf
  have hP : va_P G.1 vwCl (zpic G ad X) H := hP
  have hD : va_D A (zpic G ad X) := hD
  refine W.eq (g2 := F0 m 21 ls [.int (zi v3)]) rfl ?_
  refine z0_eq (tgt := 33) hx hb dX7_takePacket_21 (by decide) (by omega) (fun h9 => by exfalso; omega) (fun h21 => ?_)
  refine lv_iconst (v := zi 3) hx hb dX7_takePacket_24 rfl ?_
  refine lv_iload hx hb dX7_takePacket_25 (lv_at hl 4 rfl) ?_
  refine zcall (wr := []) (va_runS (As := [.int (zi 3), .int (zi p3)]) (rest := []) ⟨hx, hb, hml, hown, hts⟩ (c_X7_isValue l G ad X 3 p3 (by omega) (by omega) H.size) (va_cwS 2 hts gX7_takePacket_X7_isValue rfl rfl rfl (by decide +kernel) ⟨Nat.le_of_ble_eq_true rfl, Nat.le_of_ble_eq_true rfl⟩) (zPre (wr := []) (wc := zpic G ad X) (As := [.int (zi 3), .int (zi p3)]) hP hD hE hS hA).1 rfl rfl hl.1 rfl (lv_room (Nat.le_of_ble_eq_true rfl)) dX7_takePacket_27 ⟨Nat.le_of_ble_eq_true rfl, Nat.le_of_ble_eq_true rfl⟩) hP hD hS hA (fun _ _ H locs hf hP hD hS => ?_)
  obtain ⟨v4, rfl, hv4, rfl⟩ := hf
  have hP : va_P G.1 vwCl (zpic G ad X) H := hP
  have hD : va_D A (zpic G ad X) := hD
  refine W.eq (g2 := F0 m 30 ls [.int (zi v4)]) rfl ?_
  refine z0_ne (tgt := 44) hx hb dX7_takePacket_30 (by decide) (by omega) (fun h30 => ?_) (fun h9 => by exfalso; omega)
  refine lv_aload_n hx hb dX7_takePacket_44 rfl (lv_at hl 0 rfl) ?_
  refine va_get (D := G.1) (ci := 7) (v := .ref (ad 70)) (C := RX7) (T := TX7) (N := 8) hx hb hts hw7 hown hE.1 hP 52 p_52 rfl 7 (by decide) hf62 (fun _ h9 => h9) rfl dX7_takePacket_45 ?_
  refine lv_iconst (v := zi 0) hx hb dX7_takePacket_48 rfl ?_
  refine lv_iload_n hx hb dX7_takePacket_49 rfl (lv_at hl 1 rfl) ?_
  refine zist hx hb hE hP hD hS 70 4 (fun _ => rfl) (by decide) 0 rfl (by decide) (by decide) dX7_takePacket_50 (fun H locs hP hD hS => ?_)
  refine lv_aload_n hx hb dX7_takePacket_51 rfl (lv_at hl 0 rfl) ?_
  refine va_get (D := G.1) (ci := 7) (v := .ref (ad 70)) (C := RX7) (T := TX7) (N := 8) hx hb hts hw7 hown hE.1 hP 52 p_52 rfl 7 (by decide) hf62 (fun _ h9 => h9) rfl dX7_takePacket_52 ?_
  refine lv_iconst (v := zi 1) hx hb dX7_takePacket_55 rfl ?_
  refine lv_iload_n hx hb dX7_takePacket_56 rfl (lv_at hl 2 rfl) ?_
  refine zist hx hb hE hP hD hS 70 4 (fun _ => rfl) (by decide) 1 rfl (by decide) (by decide) dX7_takePacket_57 (fun H locs hP hD hS => ?_)
  refine lv_aload_n hx hb dX7_takePacket_58 rfl (lv_at hl 0 rfl) ?_
  refine va_get (D := G.1) (ci := 7) (v := .ref (ad 70)) (C := RX7) (T := TX7) (N := 8) hx hb hts hw7 hown hE.1 hP 52 p_52 rfl 7 (by decide) hf62 (fun _ h9 => h9) rfl dX7_takePacket_59 ?_
  refine lv_iconst (v := zi 2) hx hb dX7_takePacket_62 rfl ?_
  refine lv_iload_n hx hb dX7_takePacket_63 rfl (lv_at hl 3 rfl) ?_
  refine zist hx hb hE hP hD hS 70 4 (fun _ => rfl) (by decide) 2 rfl (by decide) (by decide) dX7_takePacket_64 (fun H locs hP hD hS => ?_)
  refine lv_aload_n hx hb dX7_takePacket_65 rfl (lv_at hl 0 rfl) ?_
  refine va_get (D := G.1) (ci := 7) (v := .ref (ad 70)) (C := RX7) (T := TX7) (N := 8) hx hb hts hw7 hown hE.1 hP 52 p_52 rfl 7 (by decide) hf62 (fun _ h9 => h9) rfl dX7_takePacket_66 ?_
  refine lv_iconst (v := zi 3) hx hb dX7_takePacket_69 rfl ?_
  refine lv_iload hx hb dX7_takePacket_70 (lv_at hl 4 rfl) ?_
  refine zist hx hb hE hP hD hS 70 4 (fun _ => rfl) (by decide) 3 rfl (by decide) (by decide) dX7_takePacket_72 (fun H locs hP hD hS => ?_)
  exact zend_v hx hb hr hlocks hP hD hS (Nat.le_of_ble_eq_true rfl) (Nat.le_of_ble_eq_true rfl) dX7_takePacket_73 ⟨_, rfl, rfl, rfl⟩
end
section
/-! Nettle: what is told -/
theorem dX7_setLast_0 : decode cX7_setLast 0 = .ok (.aload_n 0, 1) := by decide +kernel
theorem dX7_setLast_1 : decode cX7_setLast 1 = .ok (.getfield 10, 3) := by decide +kernel
theorem dX7_setLast_4 : decode cX7_setLast 4 = .ok (.getfield 135, 3) := by decide +kernel
theorem dX7_setLast_7 : decode cX7_setLast 7 = .ok (.istore_n 2, 1) := by decide +kernel
theorem dX7_setLast_8 : decode cX7_setLast 8 = .ok (.aload_n 0, 1) := by decide +kernel
theorem dX7_setLast_9 : decode cX7_setLast 9 = .ok (.getfield 10, 3) := by decide +kernel
theorem dX7_setLast_12 : decode cX7_setLast 12 = .ok (.iload_n 1, 1) := by decide +kernel
theorem dX7_setLast_13 : decode cX7_setLast 13 = .ok (.putfield 135, 3) := by decide +kernel
theorem dX7_setLast_16 : decode cX7_setLast 16 = .ok (.aload_n 0, 1) := by decide +kernel
set_option maxRecDepth 20000 in
theorem ggX7_setLast_X7_outdate : GoodIn wsX7_setLast wsX7_outdate := goodIn_r _ [7, 8, 9, 10, 11, 12, 13, 14, 15, 16, 17, 18, 19, 20, 21, 22, 23, 27, 28, 29, 30, 31, 32, 33, 34, 35, 36, 37, 38, 39, 40, 41, 42, 43, 44, 45, 46, 47, 48, 49, 50, 51] (by decide +kernel) (by decide +kernel)
set_option maxRecDepth 20000 in
theorem gX7_setLast_X7_outdate : GoodIn wsX7_setLast (wsV RX7 84 RX7 yX7_outdate wsX7_outdate) := goodIn_app (goodIn_of _ (by decide +kernel)) ggX7_setLast_X7_outdate
theorem dX7_setLast_17 : decode cX7_setLast 17 = .ok (.invokevirtual 84, 3) := by decide +kernel
theorem dX7_setLast_20 : decode cX7_setLast 20 = .ok (.iload_n 2, 1) := by decide +kernel
theorem dX7_setLast_21 : decode cX7_setLast 21 = .ok (.ireturn, 1) := by decide +kernel
theorem dX7_turn_0 : decode cX7_turn 0 = .ok (.aload_n 0, 1) := by decide +kernel
theorem dX7_turn_1 : decode cX7_turn 1 = .ok (.iload_n 1, 1) := by decide +kernel
set_option maxRecDepth 20000 in
theorem ggX7_turn_X7_needRule : GoodIn wsX7_turn wsX7_needRule := goodIn_ca (goodIn_r _ [8, 9, 10, 1, 11, 29, 30, 31, 32, 33, 34, 35, 36, 37, 38, 39] (by decide +kernel) (by decide +kernel)) (goodIn_sub (fun _ h => List.mem_cons_of_mem _ (List.mem_append_left _ (List.mem_append_right _ h))) (by decide +kernel))
set_option maxRecDepth 20000 in
theorem gX7_turn_X7_needRule : GoodIn wsX7_turn (wsV RX7 87 RX7 yX7_needRule wsX7_needRule) := goodIn_app (goodIn_of _ (by decide +kernel)) ggX7_turn_X7_needRule
theorem dX7_turn_2 : decode cX7_turn 2 = .ok (.invokevirtual 87, 3) := by decide +kernel
theorem dX7_turn_5 : decode cX7_turn 5 = .ok (.iload_n 2, 1) := by decide +kernel
set_option maxRecDepth 20000 in
theorem ggX7_turn_X7_needVerdict : GoodIn wsX7_turn wsX7_needVerdict := goodIn_ca (goodIn_r _ [14, 15, 16] (by decide +kernel) (by decide +kernel)) (goodIn_sub (fun _ h => List.mem_cons_of_mem _ (List.mem_append_right _ h)) (by decide +kernel))
set_option maxRecDepth 20000 in
theorem gX7_turn_X7_needVerdict : GoodIn wsX7_turn (va_wsS RX7 66 yX7_needVerdict wsX7_needVerdict) := goodIn_app (goodIn_of _ (by decide +kernel)) ggX7_turn_X7_needVerdict
theorem dX7_turn_6 : decode cX7_turn 6 = .ok (.invokestatic 66, 3) := by decide +kernel
theorem dX7_turn_9 : decode cX7_turn 9 = .ok (.aload_n 0, 1) := by decide +kernel
theorem dX7_turn_10 : decode cX7_turn 10 = .ok (.getfield 10, 3) := by decide +kernel
theorem dX7_turn_13 : decode cX7_turn 13 = .ok (.getfield 104, 3) := by decide +kernel
theorem dX7_turn_16 : decode cX7_turn 16 = .ok (.iload_n 1, 1) := by decide +kernel
theorem dX7_turn_17 : decode cX7_turn 17 = .ok (.aaload, 1) := by decide +kernel
theorem dX7_turn_18 : decode cX7_turn 18 = .ok (.getfield 120, 3) := by decide +kernel
theorem dX7_turn_21 : decode cX7_turn 21 = .ok (.istore_n 3, 1) := by decide +kernel
theorem dX7_turn_22 : decode cX7_turn 22 = .ok (.aload_n 0, 1) := by decide +kernel
theorem dX7_turn_23 : decode cX7_turn 23 = .ok (.getfield 10, 3) := by decide +kernel
theorem dX7_turn_26 : decode cX7_turn 26 = .ok (.getfield 104, 3) := by decide +kernel
theorem dX7_turn_29 : decode cX7_turn 29 = .ok (.iload_n 1, 1) := by decide +kernel
theorem dX7_turn_30 : decode cX7_turn 30 = .ok (.aaload, 1) := by decide +kernel
theorem dX7_turn_31 : decode cX7_turn 31 = .ok (.iload_n 2, 1) := by decide +kernel
theorem dX7_turn_32 : decode cX7_turn 32 = .ok (.putfield 120, 3) := by decide +kernel
theorem dX7_turn_35 : decode cX7_turn 35 = .ok (.aload_n 0, 1) := by decide +kernel
set_option maxRecDepth 20000 in
theorem ggX7_turn_X7_outdate : GoodIn wsX7_turn wsX7_outdate := goodIn_r _ [20, 21, 22, 23, 24, 25, 26, 27, 28, 29, 30, 31, 32, 33, 34, 35, 36, 44, 45, 46, 47, 48, 49, 50, 51, 52, 53, 54, 55, 56, 57, 58, 59, 60, 61, 62, 63, 64, 65, 66, 67, 68] (by decide +kernel) (by decide +kernel)
set_option maxRecDepth 20000 in
theorem gX7_turn_X7_outdate : GoodIn wsX7_turn (wsV RX7 84 RX7 yX7_outdate wsX7_outdate) := goodIn_app (goodIn_of _ (by decide +kernel)) ggX7_turn_X7_outdate
theorem dX7_turn_36 : decode cX7_turn 36 = .ok (.invokevirtual 84, 3) := by decide +kernel
theorem dX7_turn_39 : decode cX7_turn 39 = .ok (.iload_n 3, 1) := by decide +kernel
theorem dX7_turn_40 : decode cX7_turn 40 = .ok (.ireturn, 1) := by decide +kernel
theorem dX7_narrow_0 : decode cX7_narrow 0 = .ok (.aload_n 0, 1) := by decide +kernel
theorem dX7_narrow_1 : decode cX7_narrow 1 = .ok (.iload_n 1, 1) := by decide +kernel
set_option maxRecDepth 20000 in
theorem ggX7_narrow_X7_needRule : GoodIn wsX7_narrow wsX7_needRule := goodIn_ca (goodIn_r _ [13, 1, 2, 5, 14, 38, 39, 40, 41, 42, 43, 44, 45, 46, 47, 48] (by decide +kernel) (by decide +kernel)) (goodIn_sub (fun _ h => List.mem_cons_of_mem _ (List.mem_append_left _ (List.mem_append_right _ h))) (by decide +kernel))
set_option maxRecDepth 20000 in
theorem gX7_narrow_X7_needRule : GoodIn wsX7_narrow (wsV RX7 87 RX7 yX7_needRule wsX7_needRule) := goodIn_app (goodIn_of _ (by decide +kernel)) ggX7_narrow_X7_needRule
theorem dX7_narrow_2 : decode cX7_narrow 2 = .ok (.invokevirtual 87, 3) := by decide +kernel
theorem dX7_narrow_5 : decode cX7_narrow 5 = .ok (.iload_n 2, 1) := by decide +kernel
theorem dX7_narrow_6 : decode cX7_narrow 6 = .ok (.ifCond .lt 8, 3) := by decide +kernel
theorem dX7_narrow_9 : decode cX7_narrow 9 = .ok (.iload_n 2, 1) := by decide +kernel
theorem dX7_narrow_10 : decode cX7_narrow 10 = .ok (.iconst 4, 1) := by decide +kernel
theorem dX7_narrow_11 : decode cX7_narrow 11 = .ok (.if_icmp .lt 13, 3) := by decide +kernel
theorem dX7_narrow_24 : decode cX7_narrow 24 = .ok (.iload_n 2, 1) := by decide +kernel
theorem dX7_narrow_25 : decode cX7_narrow 25 = .ok (.iload_n 3, 1) := by decide +kernel
set_option maxRecDepth 20000 in
theorem ggX7_narrow_X7_isValue : GoodIn wsX7_narrow wsX7_isValue := goodIn_r _ [17, 18] (by decide +kernel) (by decide +kernel)
set_option maxRecDepth 20000 in
theorem gX7_narrow_X7_isValue : GoodIn wsX7_narrow (va_wsS RX7 95 yX7_isValue wsX7_isValue) := goodIn_app (goodIn_of _ (by decide +kernel)) ggX7_narrow_X7_isValue
theorem dX7_narrow_26 : decode cX7_narrow 26 = .ok (.invokestatic 95, 3) := by decide +kernel
theorem dX7_narrow_29 : decode cX7_narrow 29 = .ok (.ifCond .eq 18, 3) := by decide +kernel
theorem dX7_narrow_32 : decode cX7_narrow 32 = .ok (.iload_n 2, 1) := by decide +kernel
theorem dX7_narrow_33 : decode cX7_narrow 33 = .ok (.iload 4, 2) := by decide +kernel
theorem dX7_narrow_35 : decode cX7_narrow 35 = .ok (.invokestatic 95, 3) := by decide +kernel
theorem dX7_narrow_38 : decode cX7_narrow 38 = .ok (.ifCond .eq 9, 3) := by decide +kernel
theorem dX7_narrow_41 : decode cX7_narrow 41 = .ok (.iload 4, 2) := by decide +kernel
theorem dX7_narrow_43 : decode cX7_narrow 43 = .ok (.iload_n 3, 1) := by decide +kernel
theorem dX7_narrow_44 : decode cX7_narrow 44 = .ok (.if_icmp .ge 13, 3) := by decide +kernel
theorem dX7_narrow_57 : decode cX7_narrow 57 = .ok (.aload_n 0, 1) := by decide +kernel
theorem dX7_narrow_58 : decode cX7_narrow 58 = .ok (.getfield 10, 3) := by decide +kernel
theorem dX7_narrow_61 : decode cX7_narrow 61 = .ok (.getfield 104, 3) := by decide +kernel
theorem dX7_narrow_64 : decode cX7_narrow 64 = .ok (.iload_n 1, 1) := by decide +kernel
theorem dX7_narrow_65 : decode cX7_narrow 65 = .ok (.aaload, 1) := by decide +kernel
theorem dX7_narrow_66 : decode cX7_narrow 66 = .ok (.iload_n 2, 1) := by decide +kernel
set_option maxRecDepth 20000 in
theorem ggX7_narrow_X3_width : GoodIn wsX7_narrow wsX3_width := goodIn_r _ [23, 24, 25, 49, 50, 51, 52] (by decide +kernel) (by decide +kernel)
set_option maxRecDepth 20000 in
theorem gX7_narrow_X3_width : GoodIn wsX7_narrow (wsV RX7 108 RX3 yX3_width wsX3_width) := goodIn_app (goodIn_of _ (by decide +kernel)) ggX7_narrow_X3_width
theorem dX7_narrow_67 : decode cX7_narrow 67 = .ok (.invokevirtual 108, 3) := by decide +kernel
theorem dX7_narrow_70 : decode cX7_narrow 70 = .ok (.istore 5, 2) := by decide +kernel
theorem dX7_narrow_72 : decode cX7_narrow 72 = .ok (.aload_n 0, 1) := by decide +kernel
theorem dX7_narrow_73 : decode cX7_narrow 73 = .ok (.getfield 10, 3) := by decide +kernel
theorem dX7_narrow_76 : decode cX7_narrow 76 = .ok (.getfield 104, 3) := by decide +kernel
theorem dX7_narrow_79 : decode cX7_narrow 79 = .ok (.iload_n 1, 1) := by decide +kernel
theorem dX7_narrow_80 : decode cX7_narrow 80 = .ok (.aaload, 1) := by decide +kernel
theorem dX7_narrow_81 : decode cX7_narrow 81 = .ok (.getfield 114, 3) := by decide +kernel
theorem dX7_narrow_84 : decode cX7_narrow 84 = .ok (.iload_n 2, 1) := by decide +kernel
theorem dX7_narrow_85 : decode cX7_narrow 85 = .ok (.iload_n 3, 1) := by decide +kernel
theorem dX7_narrow_86 : decode cX7_narrow 86 = .ok (.iastore, 1) := by decide +kernel
theorem dX7_narrow_87 : decode cX7_narrow 87 = .ok (.aload_n 0, 1) := by decide +kernel
theorem dX7_narrow_88 : decode cX7_narrow 88 = .ok (.getfield 10, 3) := by decide +kernel
theorem dX7_narrow_91 : decode cX7_narrow 91 = .ok (.getfield 104, 3) := by decide +kernel
theorem dX7_narrow_94 : decode cX7_narrow 94 = .ok (.iload_n 1, 1) := by decide +kernel
theorem dX7_narrow_95 : decode cX7_narrow 95 = .ok (.aaload, 1) := by decide +kernel
theorem dX7_narrow_96 : decode cX7_narrow 96 = .ok (.getfield 117, 3) := by decide +kernel
theorem dX7_narrow_99 : decode cX7_narrow 99 = .ok (.iload_n 2, 1) := by decide +kernel
theorem dX7_narrow_100 : decode cX7_narrow 100 = .ok (.iload 4, 2) := by decide +kernel
theorem dX7_narrow_102 : decode cX7_narrow 102 = .ok (.iastore, 1) := by decide +kernel
theorem dX7_narrow_103 : decode cX7_narrow 103 = .ok (.aload_n 0, 1) := by decide +kernel
set_option maxRecDepth 20000 in
theorem ggX7_narrow_X7_outdate : GoodIn wsX7_narrow wsX7_outdate := goodIn_r _ [29, 30, 31, 32, 33, 34, 35, 36, 37, 38, 39, 40, 41, 42, 43, 44, 45, 53, 54, 55, 56, 57, 58, 59, 60, 61, 62, 63, 64, 65, 66, 67, 68, 69, 70, 71, 72, 73, 74, 75, 76, 77] (by decide +kernel) (by decide +kernel)
set_option maxRecDepth 20000 in
theorem gX7_narrow_X7_outdate : GoodIn wsX7_narrow (wsV RX7 84 RX7 yX7_outdate wsX7_outdate) := goodIn_app (goodIn_of _ (by decide +kernel)) ggX7_narrow_X7_outdate
theorem dX7_narrow_104 : decode cX7_narrow 104 = .ok (.invokevirtual 84, 3) := by decide +kernel
theorem dX7_narrow_107 : decode cX7_narrow 107 = .ok (.iload 5, 2) := by decide +kernel
theorem dX7_narrow_109 : decode cX7_narrow 109 = .ok (.ireturn, 1) := by decide +kernel
set_option maxHeartbeats 4000000 in
set_option maxRecDepth 100000 in
/-- setLast -/
theorem c_X7_setLast (l : Launch) (G : zG) (ad : Nat → Nat) (X : Nat → Nat → Int) (v : Int) (hV : zV X) (hv : v = 0 ∨ v = 1) : zR l G yX7_setLast wsX7_setLast { frames := 1, cells := 0, slots := 0, locals := 20 } (zpic G ad X) [.ref (ad 52), .int (zi v)] (zu G ad (fun w Y => w = X 0 2 ∧ Y = zOut (zw X 0 2 v))) 0 0 := by
  refine zR_of (cc := cX7_setLast) (maxL := 3) (rt := (some .boolean)) (by decide) rfl (Nat.le_of_ble_eq_true rfl) ?_
  intro p e s m below meth c A ls hx hb hml hr hts hown hlocks hin0 hA hE hP hD hS hl
  have hl : lv_has ls 3 [(0, .ref (ad 52)), (1, .int (zi v))] := hl
  have hown : s.vm.findClass RX7 = some m.cls := hown
  have hlw := (hV.wok (Or.inl rfl : zIsW 0)).2.1
  have hw7 : ∀ w ∈ u_ws RX7 TX7 8, w ∈ wsX7_setLast := by decide +kernel
  have hf10 := hts (.fieldLink RX7 10 "Nettle" "wall" "LNettle$Wall;") (by decide +kernel)
  have hw6 : ∀ w ∈ u_ws RX6 TX6 3, w ∈ wsX7_setLast := by decide +kernel
  have hf135 := hts (.fieldLink RX7 135 "Nettle$Wall" "isLastAllow" "Z") (by decide +kernel)
  refine lv_aload_n hx hb dX7_setLast_0 rfl (lv_at hl 0 rfl) ?_
  refine va_get (D := G.1) (ci := 7) (v := .ref (ad 0)) (C := RX7) (T := TX7) (N := 8) hx hb hts hw7 hown hE.1 hP 52 p_52 rfl 0 (by decide) hf10 (fun _ h9 => h9) rfl dX7_setLast_1 ?_
  refine va_get (D := G.1) (ci := 6) (v := .int (zi (X 0 2))) (C := RX6) (T := TX6) (N := 3) hx hb hts hw6 hown hE.1 hP 0 (p_w (Or.inl rfl)) rfl 2 (by decide) hf135 (fun _ h9 => h9) rfl dX7_setLast_4 ?_
  refine lv_istore_n (lv' := [(2, .int (zi (X 0 2))), (0, .ref (ad 52)), (1, .int (zi v))]) hx hb dX7_setLast_7 rfl hl (by decide) rfl (fun ls hl => ?_)
  refine lv_aload_n hx hb dX7_setLast_8 rfl (lv_at hl 1 rfl) ?_
  refine va_get (D := G.1) (ci := 7) (v := .ref (ad 0)) (C := RX7) (T := TX7) (N := 8) hx hb hts hw7 hown hE.1 hP 52 p_52 rfl 0 (by decide) hf10 (fun _ h9 => h9) rfl dX7_setLast_9 ?_
  refine lv_iload_n hx hb dX7_setLast_12 rfl (lv_at hl 2 rfl) ?_
  refine zput (C := RX6) (T := TX6) (N := 3) (ci := 6) (v := .int (zi v)) (ty := tyX6 2) hx hb hts hw6 tyX6 tyX6_ok nmX6 hown hE hP hD hS 0 (p_w (Or.inl rfl)) rfl 2 (by decide) hf135 (fun _ h9 => h9) rfl (by decide +kernel) (zbool hv) (zboolf hv) (Nat.le_of_ble_eq_true rfl) (s_w2 (Or.inl rfl) v) dX7_setLast_13 (fun H locs hP hD hS => ?_)
  refine lv_aload_n hx hb dX7_setLast_16 rfl (lv_at hl 1 rfl) ?_
  refine zcall (wr := []) (va_runV (As := []) (rest := []) ⟨hx, hb, hml, hown, hts⟩ (c_X7_outdate l G ad (zw X 0 2 v) H.size) (cwV 0 hts gX7_setLast_X7_outdate rfl rfl rfl (by decide +kernel) ⟨Nat.le_of_ble_eq_true rfl, Nat.le_of_ble_eq_true rfl⟩) (zPreV (wr := []) (wc := zpic G ad (zw X 0 2 v)) (q0 := 52) (ci := 7) (q := (RX7, TX7, 8)) hP hD hE hS hA rfl p_52) rfl rfl hl.1 rfl (lv_room (Nat.le_of_ble_eq_true rfl)) dX7_setLast_17 ⟨Nat.le_of_ble_eq_true rfl, Nat.le_of_ble_eq_true rfl⟩) hP hD hS hA (fun _ _ H locs hf hP hD hS => ?_)
  obtain ⟨X1, rfl, hX1, rfl⟩ := hf
  have hP : va_P G.1 vwCl (zpic G ad X1) H := hP
  have hD : va_D A (zpic G ad X1) := hD
  refine W.eq (g2 := F0 m 20 ls []) rfl ?_
  refine lv_iload_n hx hb dX7_setLast_20 rfl (lv_at hl 0 rfl) ?_
  exact zend_z hx hb hr hlocks (zbool hlw) hP hD hS (Nat.le_of_ble_eq_true rfl) (Nat.le_of_ble_eq_true rfl) dX7_setLast_21 ⟨_, _, rfl, ⟨rfl, hX1⟩, rfl⟩

set_option maxHeartbeats 4000000 in
set_option maxRecDepth 100000 in
/-- turn -/
theorem c_X7_turn (l : Launch) (G : zG) (ad : Nat → Nat) (X : Nat → Nat → Int) (q : Nat) (v : Int) (hV : zV X) (hq : q < zN X 0) (hv : 0 ≤ v ∧ v ≤ 2) : zR l G yX7_turn wsX7_turn { frames := 1, cells := 0, slots := 0, locals := 21 } (zpic G ad X) [.ref (ad 52), .int (zi (q : Int)), .int (zi v)] (zu G ad (fun w Y => w = X (zr X 0 q) 0 ∧ Y = zOut (zw X (zr X 0 q) 0 v))) 0 0 := by
  refine zR_of (cc := cX7_turn) (maxL := 4) (rt := (some .int)) (by decide) rfl (Nat.le_of_ble_eq_true rfl) ?_
  intro p e s m below meth c A ls hx hb hml hr hts hown hlocks hin0 hA hE hP hD hS hl
  have hl : lv_has ls 4 [(0, .ref (ad 52)), (1, .int (zi (q : Int))), (2, .int (zi v))] := hl
  have hown : s.vm.findClass RX7 = some m.cls := hown
  have hn := hV.n (Or.inl rfl : zIsW 0)
  have hw7 : ∀ w ∈ u_ws RX7 TX7 8, w ∈ wsX7_turn := by decide +kernel
  have hf10 := hts (.fieldLink RX7 10 "Nettle" "wall" "LNettle$Wall;") (by decide +kernel)
  have hw6 : ∀ w ∈ u_ws RX6 TX6 3, w ∈ wsX7_turn := by decide +kernel
  have hf104 := hts (.fieldLink RX7 104 "Nettle$Wall" "rows" "[LNettle$Rule;") (by decide +kernel)
  have hw3 : ∀ w ∈ u_ws RX3 TX3 4, w ∈ wsX7_turn := by decide +kernel
  have hf120 := hts (.fieldLink RX7 120 "Nettle$Rule" "verdict" "I") (by decide +kernel)
  refine lv_aload_n hx hb dX7_turn_0 rfl (lv_at hl 0 rfl) ?_
  refine lv_iload_n hx hb dX7_turn_1 rfl (lv_at hl 1 rfl) ?_
  refine zcall (wr := []) (va_runV (As := [.int (zi (q : Int))]) (rest := []) ⟨hx, hb, hml, hown, hts⟩ (c_X7_needRule l G ad X q hV (by omega) s.heap.size) (cwV 1 hts gX7_turn_X7_needRule rfl rfl rfl (by decide +kernel) ⟨Nat.le_of_ble_eq_true rfl, Nat.le_of_ble_eq_true rfl⟩) (zPreV (wr := []) (wc := zpic G ad X) (q0 := 52) (ci := 7) (q := (RX7, TX7, 8)) hP hD hE hS hA rfl p_52) rfl rfl hl.1 rfl (lv_room (Nat.le_of_ble_eq_true rfl)) dX7_turn_2 ⟨Nat.le_of_ble_eq_true rfl, Nat.le_of_ble_eq_true rfl⟩) hP hD hS hA (fun _ _ H locs hf hP hD hS => ?_)
  obtain ⟨rfl, rfl⟩ := hf
  have hP : va_P G.1 vwCl (zpic G ad X) H := hP
  have hD : va_D A (zpic G ad X) := hD
  refine W.eq (g2 := F0 m 5 ls []) rfl ?_
  refine lv_iload_n hx hb dX7_turn_5 rfl (lv_at hl 2 rfl) ?_
  refine zcall (wr := []) (va_runS (As := [.int (zi v)]) (rest := []) ⟨hx, hb, hml, hown, hts⟩ (c_X7_needVerdict l G ad X v (by omega) H.size) (va_cwS 1 hts gX7_turn_X7_needVerdict rfl rfl rfl (by decide +kernel) ⟨Nat.le_of_ble_eq_true rfl, Nat.le_of_ble_eq_true rfl⟩) (zPre (wr := []) (wc := zpic G ad X) (As := [.int (zi v)]) hP hD hE hS hA).1 rfl rfl hl.1 rfl (lv_room (Nat.le_of_ble_eq_true rfl)) dX7_turn_6 ⟨Nat.le_of_ble_eq_true rfl, Nat.le_of_ble_eq_true rfl⟩) hP hD hS hA (fun _ _ H locs hf hP hD hS => ?_)
  obtain ⟨rfl, rfl⟩ := hf
  have hP : va_P G.1 vwCl (zpic G ad X) H := hP
  have hD : va_D A (zpic G ad X) := hD
  refine W.eq (g2 := F0 m 9 ls []) rfl ?_
  refine lv_aload_n hx hb dX7_turn_9 rfl (lv_at hl 0 rfl) ?_
  refine va_get (D := G.1) (ci := 7) (v := .ref (ad 0)) (C := RX7) (T := TX7) (N := 8) hx hb hts hw7 hown hE.1 hP 52 p_52 rfl 0 (by decide) hf10 (fun _ h9 => h9) rfl dX7_turn_10 ?_
  refine va_get (D := G.1) (ci := 6) (v := .ref (ad 1)) (C := RX6) (T := TX6) (N := 3) hx hb hts hw6 hown hE.1 hP 0 (p_w (Or.inl rfl)) rfl 0 (by decide) hf104 (fun _ h9 => h9) rfl dX7_turn_13 ?_
  refine lv_iload_n hx hb dX7_turn_16 rfl (lv_at hl 1 rfl) ?_
  refine zqld hx hb hE hP (Or.inl rfl) q rfl (by omega) dX7_turn_17 ?_
  have hR1 : zIsR (zr X 0 q) := hV.isR (Or.inl rfl) (by omega)
  refine va_get (D := G.1) (ci := 3) (v := .int (zi (X (zr X 0 q) 0))) (C := RX3) (T := TX3) (N := 4) hx hb hts hw3 hown hE.1 hP (zr X 0 q) (p_r hR1) rfl 0 (by decide) hf120 (fun _ h9 => h9) rfl dX7_turn_18 ?_
  refine lv_istore_n (lv' := [(3, .int (zi (X (zr X 0 q) 0))), (0, .ref (ad 52)), (1, .int (zi (q : Int))), (2, .int (zi v))]) hx hb dX7_turn_21 rfl hl (by decide) rfl (fun ls hl => ?_)
  refine lv_aload_n hx hb dX7_turn_22 rfl (lv_at hl 1 rfl) ?_
  refine va_get (D := G.1) (ci := 7) (v := .ref (ad 0)) (C := RX7) (T := TX7) (N := 8) hx hb hts hw7 hown hE.1 hP 52 p_52 rfl 0 (by decide) hf10 (fun _ h9 => h9) rfl dX7_turn_23 ?_
  refine va_get (D := G.1) (ci := 6) (v := .ref (ad 1)) (C := RX6) (T := TX6) (N := 3) hx hb hts hw6 hown hE.1 hP 0 (p_w (Or.inl rfl)) rfl 0 (by decide) hf104 (fun _ h9 => h9) rfl dX7_turn_26 ?_
  refine lv_iload_n hx hb dX7_turn_29 rfl (lv_at hl 2 rfl) ?_
  refine zqld hx hb hE hP (Or.inl rfl) q rfl (by omega) dX7_turn_30 ?_
  refine lv_iload_n hx hb dX7_turn_31 rfl (lv_at hl 3 rfl) ?_
  refine zput (C := RX3) (T := TX3) (N := 4) (ci := 3) (v := .int (zi v)) (ty := tyX3 0) hx hb hts hw3 tyX3 tyX3_ok nmX3 hown hE hP hD hS (zr X 0 q) (p_r hR1) rfl 0 (by decide) hf120 (fun _ h9 => h9) rfl (by decide +kernel) rfl rfl (Nat.le_of_ble_eq_true rfl) (s_r0 hR1 v) dX7_turn_32 (fun H locs hP hD hS => ?_)
  refine lv_aload_n hx hb dX7_turn_35 rfl (lv_at hl 1 rfl) ?_
  refine zcall (wr := []) (va_runV (As := []) (rest := []) ⟨hx, hb, hml, hown, hts⟩ (c_X7_outdate l G ad (zw X (zr X 0 q) 0 v) H.size) (cwV 0 hts gX7_turn_X7_outdate rfl rfl rfl (by decide +kernel) ⟨Nat.le_of_ble_eq_true rfl, Nat.le_of_ble_eq_true rfl⟩) (zPreV (wr := []) (wc := zpic G ad (zw X (zr X 0 q) 0 v)) (q0 := 52) (ci := 7) (q := (RX7, TX7, 8)) hP hD hE hS hA rfl p_52) rfl rfl hl.1 rfl (lv_room (Nat.le_of_ble_eq_true rfl)) dX7_turn_36 ⟨Nat.le_of_ble_eq_true rfl, Nat.le_of_ble_eq_true rfl⟩) hP hD hS hA (fun _ _ H locs hf hP hD hS => ?_)
  obtain ⟨X1, rfl, hX1, rfl⟩ := hf
  have hP : va_P G.1 vwCl (zpic G ad X1) H := hP
  have hD : va_D A (zpic G ad X1) := hD
  refine W.eq (g2 := F0 m 39 ls []) rfl ?_
  refine lv_iload_n hx hb dX7_turn_39 rfl (lv_at hl 0 rfl) ?_
  exact zend_i hx hb hr hlocks hP hD hS (Nat.le_of_ble_eq_true rfl) (Nat.le_of_ble_eq_true rfl) dX7_turn_40 ⟨_, _, rfl, ⟨rfl, hX1⟩, rfl⟩

set_option maxHeartbeats 4000000 in
set_option maxRecDepth 100000 in
/-- narrow -/
theorem c_X7_narrow (l : Launch) (G : zG) (ad : Nat → Nat) (X : Nat → Nat → Int) (q : Nat) (f : Nat) (lo : Int) (hi : Int) (hV : zV X) (hq : q < zN X 0) (hf : f < 4) (hlo : 0 ≤ lo ∧ lo ≤ hi ∧ hi < zS f) : zR l G yX7_narrow wsX7_narrow { frames := 1, cells := 0, slots := 0, locals := 21 } (zpic G ad X) [.ref (ad 52), .int (zi (q : Int)), .int (zi (f : Int)), .int (zi lo), .int (zi hi)] (zu G ad (fun w Y => w = X (zr X 0 q + 2) f - X (zr X 0 q + 1) f + 1 ∧ Y = zOut (zw (zw X (zr X 0 q + 1) f lo) (zr X 0 q + 2) f hi))) 0 0 := by
  refine zR_of (cc := cX7_narrow) (maxL := 6) (rt := (some .int)) (by decide) rfl (Nat.le_of_ble_eq_true rfl) ?_
  intro p e s m below meth c A ls hx hb hml hr hts hown hlocks hin0 hA hE hP hD hS hl
  have hl : lv_has ls 6 [(0, .ref (ad 52)), (1, .int (zi (q : Int))), (2, .int (zi (f : Int))), (3, .int (zi lo)), (4, .int (zi hi))] := hl
  have hown : s.vm.findClass RX7 = some m.cls := hown
  have hn := hV.n (Or.inl rfl : zIsW 0)
  have hsf := zS_le f
  have hw7 : ∀ w ∈ u_ws RX7 TX7 8, w ∈ wsX7_narrow := by decide +kernel
  have hf10 := hts (.fieldLink RX7 10 "Nettle" "wall" "LNettle$Wall;") (by decide +kernel)
  have hw6 : ∀ w ∈ u_ws RX6 TX6 3, w ∈ wsX7_narrow := by decide +kernel
  have hf104 := hts (.fieldLink RX7 104 "Nettle$Wall" "rows" "[LNettle$Rule;") (by decide +kernel)
  have hw3 : ∀ w ∈ u_ws RX3 TX3 4, w ∈ wsX7_narrow := by decide +kernel
  have hf114 := hts (.fieldLink RX7 114 "Nettle$Rule" "lows" "[I") (by decide +kernel)
  have hf117 := hts (.fieldLink RX7 117 "Nettle$Rule" "highs" "[I") (by decide +kernel)
  refine lv_aload_n hx hb dX7_narrow_0 rfl (lv_at hl 0 rfl) ?_
  refine lv_iload_n hx hb dX7_narrow_1 rfl (lv_at hl 1 rfl) ?_
  refine zcall (wr := []) (va_runV (As := [.int (zi (q : Int))]) (rest := []) ⟨hx, hb, hml, hown, hts⟩ (c_X7_needRule l G ad X q hV (by omega) s.heap.size) (cwV 1 hts gX7_narrow_X7_needRule rfl rfl rfl (by decide +kernel) ⟨Nat.le_of_ble_eq_true rfl, Nat.le_of_ble_eq_true rfl⟩) (zPreV (wr := []) (wc := zpic G ad X) (q0 := 52) (ci := 7) (q := (RX7, TX7, 8)) hP hD hE hS hA rfl p_52) rfl rfl hl.1 rfl (lv_room (Nat.le_of_ble_eq_true rfl)) dX7_narrow_2 ⟨Nat.le_of_ble_eq_true rfl, Nat.le_of_ble_eq_true rfl⟩) hP hD hS hA (fun _ _ H locs hf hP hD hS => ?_)
  obtain ⟨rfl, rfl⟩ := hf
  have hP : va_P G.1 vwCl (zpic G ad X) H := hP
  have hD : va_D A (zpic G ad X) := hD
  refine W.eq (g2 := F0 m 5 ls []) rfl ?_
  refine lv_iload_n hx hb dX7_narrow_5 rfl (lv_at hl 2 rfl) ?_
  refine z0_lt (tgt := 14) hx hb dX7_narrow_6 (by decide) (by omega) (fun h9 => by exfalso; omega) (fun h6 => ?_)
  refine lv_iload_n hx hb dX7_narrow_9 rfl (lv_at hl 2 rfl) ?_
  refine lv_iconst (v := zi 4) hx hb dX7_narrow_10 rfl ?_
  refine zc_lt (tgt := 24) hx hb dX7_narrow_11 (by decide) (by omega) (by decide) (fun h11 => ?_) (fun h9 => by exfalso; omega)
  refine lv_iload_n hx hb dX7_narrow_24 rfl (lv_at hl 2 rfl) ?_
  refine lv_iload_n hx hb dX7_narrow_25 rfl (lv_at hl 3 rfl) ?_
  refine zcall (wr := []) (va_runS (As := [.int (zi (f : Int)), .int (zi lo)]) (rest := []) ⟨hx, hb, hml, hown, hts⟩ (c_X7_isValue l G ad X f lo (by omega) (by omega) H.size) (va_cwS 2 hts gX7_narrow_X7_isValue rfl rfl rfl (by decide +kernel) ⟨Nat.le_of_ble_eq_true rfl, Nat.le_of_ble_eq_true rfl⟩) (zPre (wr := []) (wc := zpic G ad X) (As := [.int (zi (f : Int)), .int (zi lo)]) hP hD hE hS hA).1 rfl rfl hl.1 rfl (lv_room (Nat.le_of_ble_eq_true rfl)) dX7_narrow_26 ⟨Nat.le_of_ble_eq_true rfl, Nat.le_of_ble_eq_true rfl⟩) hP hD hS hA (fun _ _ H locs hf hP hD hS => ?_)
  obtain ⟨v1, rfl, hv1, rfl⟩ := hf
  have hP : va_P G.1 vwCl (zpic G ad X) H := hP
  have hD : va_D A (zpic G ad X) := hD
  refine W.eq (g2 := F0 m 29 ls [.int (zi v1)]) rfl ?_
  refine z0_eq (tgt := 47) hx hb dX7_narrow_29 (by decide) (by omega) (fun h9 => by exfalso; omega) (fun h29 => ?_)
  refine lv_iload_n hx hb dX7_narrow_32 rfl (lv_at hl 2 rfl) ?_
  refine lv_iload hx hb dX7_narrow_33 (lv_at hl 4 rfl) ?_
  refine zcall (wr := []) (va_runS (As := [.int (zi (f : Int)), .int (zi hi)]) (rest := []) ⟨hx, hb, hml, hown, hts⟩ (c_X7_isValue l G ad X f hi (by omega) (by omega) H.size) (va_cwS 2 hts gX7_narrow_X7_isValue rfl rfl rfl (by decide +kernel) ⟨Nat.le_of_ble_eq_true rfl, Nat.le_of_ble_eq_true rfl⟩) (zPre (wr := []) (wc := zpic G ad X) (As := [.int (zi (f : Int)), .int (zi hi)]) hP hD hE hS hA).1 rfl rfl hl.1 rfl (lv_room (Nat.le_of_ble_eq_true rfl)) dX7_narrow_35 ⟨Nat.le_of_ble_eq_true rfl, Nat.le_of_ble_eq_true rfl⟩) hP hD hS hA (fun _ _ H locs hf hP hD hS => ?_)
  obtain ⟨v2, rfl, hv2, rfl⟩ := hf
  have hP : va_P G.1 vwCl (zpic G ad X) H := hP
  have hD : va_D A (zpic G ad X) := hD
  refine W.eq (g2 := F0 m 38 ls [.int (zi v2)]) rfl ?_
  refine z0_eq (tgt := 47) hx hb dX7_narrow_38 (by decide) (by omega) (fun h9 => by exfalso; omega) (fun h38 => ?_)
  refine lv_iload hx hb dX7_narrow_41 (lv_at hl 4 rfl) ?_
  refine lv_iload_n hx hb dX7_narrow_43 rfl (lv_at hl 3 rfl) ?_
  refine zc_ge (tgt := 57) hx hb dX7_narrow_44 (by decide) (by omega) (by omega) (fun h44 => ?_) (fun h9 => by exfalso; omega)
  refine lv_aload_n hx hb dX7_narrow_57 rfl (lv_at hl 0 rfl) ?_
  refine va_get (D := G.1) (ci := 7) (v := .ref (ad 0)) (C := RX7) (T := TX7) (N := 8) hx hb hts hw7 hown hE.1 hP 52 p_52 rfl 0 (by decide) hf10 (fun _ h9 => h9) rfl dX7_narrow_58 ?_
  refine va_get (D := G.1) (ci := 6) (v := .ref (ad 1)) (C := RX6) (T := TX6) (N := 3) hx hb hts hw6 hown hE.1 hP 0 (p_w (Or.inl rfl)) rfl 0 (by decide) hf104 (fun _ h9 => h9) rfl dX7_narrow_61 ?_
  refine lv_iload_n hx hb dX7_narrow_64 rfl (lv_at hl 1 rfl) ?_
  refine zqld hx hb hE hP (Or.inl rfl) q rfl (by omega) dX7_narrow_65 ?_
  have hR1 : zIsR (zr X 0 q) := hV.isR (Or.inl rfl) (by omega)
  refine lv_iload_n hx hb dX7_narrow_66 rfl (lv_at hl 2 rfl) ?_
  refine zcall (wr := []) (va_runV (As := [.int (zi (f : Int))]) (rest := []) ⟨hx, hb, hml, hown, hts⟩ (c_X3_width l G ad X (zr X 0 q) f hV hR1 (by omega) H.size) (cwV 1 hts gX7_narrow_X3_width rfl rfl rfl (by decide +kernel) ⟨Nat.le_of_ble_eq_true rfl, Nat.le_of_ble_eq_true rfl⟩) (zPreV (wr := []) (wc := zpic G ad X) (q0 := (zr X 0 q)) (ci := 3) (q := (RX3, TX3, 4)) hP hD hE hS hA rfl (p_r hR1)) rfl rfl hl.1 rfl (lv_room (Nat.le_of_ble_eq_true rfl)) dX7_narrow_67 ⟨Nat.le_of_ble_eq_true rfl, Nat.le_of_ble_eq_true rfl⟩) hP hD hS hA (fun _ _ H locs hf hP hD hS => ?_)
  obtain ⟨v3, rfl, hv3, rfl⟩ := hf
  have hP : va_P G.1 vwCl (zpic G ad X) H := hP
  have hD : va_D A (zpic G ad X) := hD
  refine W.eq (g2 := F0 m 70 ls [.int (zi v3)]) rfl ?_
  refine lv_istore (lv' := [(5, .int (zi v3)), (0, .ref (ad 52)), (1, .int (zi (q : Int))), (2, .int (zi (f : Int))), (3, .int (zi lo)), (4, .int (zi hi))]) hx hb dX7_narrow_70 hl (by decide) rfl (fun ls hl => ?_)
  refine lv_aload_n hx hb dX7_narrow_72 rfl (lv_at hl 1 rfl) ?_
  refine va_get (D := G.1) (ci := 7) (v := .ref (ad 0)) (C := RX7) (T := TX7) (N := 8) hx hb hts hw7 hown hE.1 hP 52 p_52 rfl 0 (by decide) hf10 (fun _ h9 => h9) rfl dX7_narrow_73 ?_
  refine va_get (D := G.1) (ci := 6) (v := .ref (ad 1)) (C := RX6) (T := TX6) (N := 3) hx hb hts hw6 hown hE.1 hP 0 (p_w (Or.inl rfl)) rfl 0 (by decide) hf104 (fun _ h9 => h9) rfl dX7_narrow_76 ?_
  refine lv_iload_n hx hb dX7_narrow_79 rfl (lv_at hl 2 rfl) ?_
  refine zqld hx hb hE hP (Or.inl rfl) q rfl (by omega) dX7_narrow_80 ?_
  refine va_get (D := G.1) (ci := 3) (v := .ref (ad ((zr X 0 q) + 1))) (C := RX3) (T := TX3) (N := 4) hx hb hts hw3 hown hE.1 hP (zr X 0 q) (p_r hR1) rfl 2 (by decide) hf114 (fun _ h9 => h9) rfl dX7_narrow_81 ?_
  refine lv_iload_n hx hb dX7_narrow_84 rfl (lv_at hl 3 rfl) ?_
  refine lv_iload_n hx hb dX7_narrow_85 rfl (lv_at hl 4 rfl) ?_
  refine zist hx hb hE hP hD hS ((zr X 0 q) + 1) 4 (a_l hR1) (by have := hR1.lt; omega) f rfl (by omega) (by decide) dX7_narrow_86 (fun H locs hP hD hS => ?_)
  refine lv_aload_n hx hb dX7_narrow_87 rfl (lv_at hl 1 rfl) ?_
  refine va_get (D := G.1) (ci := 7) (v := .ref (ad 0)) (C := RX7) (T := TX7) (N := 8) hx hb hts hw7 hown hE.1 hP 52 p_52 rfl 0 (by decide) hf10 (fun _ h9 => h9) rfl dX7_narrow_88 ?_
  refine va_get (D := G.1) (ci := 6) (v := .ref (ad 1)) (C := RX6) (T := TX6) (N := 3) hx hb hts hw6 hown hE.1 hP 0 (p_w (Or.inl rfl)) rfl 0 (by decide) hf104 (fun _ h9 => h9) rfl dX7_narrow_91 ?_
  refine lv_iload_n hx hb dX7_narrow_94 rfl (lv_at hl 2 rfl) ?_
  refine zqld hx hb hE hP (Or.inl rfl) q rfl (by omega) dX7_narrow_95 ?_
  have ez : zr (zw X (zr X 0 q + 1) f lo) 0 q = zr X 0 q := by unfold zr; rw [zw_cell (by omega)]
  rw [ez]
  refine va_get (D := G.1) (ci := 3) (v := .ref (ad ((zr X 0 q) + 2))) (C := RX3) (T := TX3) (N := 4) hx hb hts hw3 hown hE.1 hP (zr X 0 q) (p_r hR1) rfl 3 (by decide) hf117 (fun _ h9 => h9) rfl dX7_narrow_96 ?_
  refine lv_iload_n hx hb dX7_narrow_99 rfl (lv_at hl 3 rfl) ?_
  refine lv_iload hx hb dX7_narrow_100 (lv_at hl 5 rfl) ?_
  refine zist hx hb hE hP hD hS ((zr X 0 q) + 2) 4 (a_h hR1) (by have := hR1.lt; omega) f rfl (by omega) (by decide) dX7_narrow_102 (fun H locs hP hD hS => ?_)
  refine lv_aload_n hx hb dX7_narrow_103 rfl (lv_at hl 1 rfl) ?_
  refine zcall (wr := []) (va_runV (As := []) (rest := []) ⟨hx, hb, hml, hown, hts⟩ (c_X7_outdate l G ad (zw (zw X ((zr X 0 q) + 1) f lo) ((zr X 0 q) + 2) f hi) H.size) (cwV 0 hts gX7_narrow_X7_outdate rfl rfl rfl (by decide +kernel) ⟨Nat.le_of_ble_eq_true rfl, Nat.le_of_ble_eq_true rfl⟩) (zPreV (wr := []) (wc := zpic G ad (zw (zw X ((zr X 0 q) + 1) f lo) ((zr X 0 q) + 2) f hi)) (q0 := 52) (ci := 7) (q := (RX7, TX7, 8)) hP hD hE hS hA rfl p_52) rfl rfl hl.1 rfl (lv_room (Nat.le_of_ble_eq_true rfl)) dX7_narrow_104 ⟨Nat.le_of_ble_eq_true rfl, Nat.le_of_ble_eq_true rfl⟩) hP hD hS hA (fun _ _ H locs hf hP hD hS => ?_)
  obtain ⟨X1, rfl, hX1, rfl⟩ := hf
  have hP : va_P G.1 vwCl (zpic G ad X1) H := hP
  have hD : va_D A (zpic G ad X1) := hD
  refine W.eq (g2 := F0 m 107 ls []) rfl ?_
  refine lv_iload hx hb dX7_narrow_107 (lv_at hl 0 rfl) ?_
  exact zend_i hx hb hr hlocks hP hD hS (Nat.le_of_ble_eq_true rfl) (Nat.le_of_ble_eq_true rfl) dX7_narrow_109 ⟨_, _, rfl, ⟨hv3, hX1⟩, rfl⟩
end
section
/-! Nettle: what is told of the order -/
theorem dX7_rule_0 : decode cX7_rule 0 = .ok (.iload_n 1, 1) := by decide +kernel
set_option maxRecDepth 20000 in
theorem ggX7_rule_X7_needVerdict : GoodIn wsX7_rule wsX7_needVerdict := goodIn_ca (goodIn_r _ [8, 9, 10] (by decide +kernel) (by decide +kernel)) (goodIn_sub (fun _ h => List.mem_cons_of_mem _ (List.mem_append_right _ h)) (by decide +kernel))
set_option maxRecDepth 20000 in
theorem gX7_rule_X7_needVerdict : GoodIn wsX7_rule (va_wsS RX7 66 yX7_needVerdict wsX7_needVerdict) := goodIn_app (goodIn_of _ (by decide +kernel)) ggX7_rule_X7_needVerdict
theorem dX7_rule_1 : decode cX7_rule 1 = .ok (.invokestatic 66, 3) := by decide +kernel
theorem dX7_rule_4 : decode cX7_rule 4 = .ok (.aload_n 0, 1) := by decide +kernel
theorem dX7_rule_5 : decode cX7_rule 5 = .ok (.getfield 10, 3) := by decide +kernel
theorem dX7_rule_8 : decode cX7_rule 8 = .ok (.getfield 70, 3) := by decide +kernel
theorem dX7_rule_11 : decode cX7_rule 11 = .ok (.bipush 8, 2) := by decide +kernel
theorem dX7_rule_13 : decode cX7_rule 13 = .ok (.if_icmp .lt 13, 3) := by decide +kernel
theorem dX7_rule_26 : decode cX7_rule 26 = .ok (.aload_n 0, 1) := by decide +kernel
theorem dX7_rule_27 : decode cX7_rule 27 = .ok (.getfield 10, 3) := by decide +kernel
theorem dX7_rule_30 : decode cX7_rule 30 = .ok (.iload_n 1, 1) := by decide +kernel
set_option maxRecDepth 20000 in
theorem ggX7_rule_X6_add : GoodIn wsX7_rule wsX6_add := goodIn_r _ [15, 16, 17, 18, 19, 20, 21, 22, 23, 24, 25, 26, 47, 48, 49, 50, 51, 52, 53] (by decide +kernel) (by decide +kernel)
set_option maxRecDepth 20000 in
theorem gX7_rule_X6_add : GoodIn wsX7_rule (wsV RX7 81 RX6 yX6_add wsX6_add) := goodIn_app (goodIn_of _ (by decide +kernel)) ggX7_rule_X6_add
theorem dX7_rule_31 : decode cX7_rule 31 = .ok (.invokevirtual 81, 3) := by decide +kernel
theorem dX7_rule_34 : decode cX7_rule 34 = .ok (.aload_n 0, 1) := by decide +kernel
set_option maxRecDepth 20000 in
theorem ggX7_rule_X7_outdate : GoodIn wsX7_rule wsX7_outdate := goodIn_r _ [30, 31, 32, 33, 34, 35, 36, 37, 38, 39, 40, 41, 42, 43, 44, 45, 46, 54, 55, 56, 57, 58, 59, 60, 61, 62, 63, 64, 65, 66, 67, 68, 69, 70, 71, 72, 73, 74, 75, 76, 77, 78] (by decide +kernel) (by decide +kernel)
set_option maxRecDepth 20000 in
theorem gX7_rule_X7_outdate : GoodIn wsX7_rule (wsV RX7 84 RX7 yX7_outdate wsX7_outdate) := goodIn_app (goodIn_of _ (by decide +kernel)) ggX7_rule_X7_outdate
theorem dX7_rule_35 : decode cX7_rule 35 = .ok (.invokevirtual 84, 3) := by decide +kernel
theorem dX7_rule_38 : decode cX7_rule 38 = .ok (.aload_n 0, 1) := by decide +kernel
theorem dX7_rule_39 : decode cX7_rule 39 = .ok (.getfield 10, 3) := by decide +kernel
theorem dX7_rule_42 : decode cX7_rule 42 = .ok (.getfield 70, 3) := by decide +kernel
theorem dX7_rule_45 : decode cX7_rule 45 = .ok (.iconst 1, 1) := by decide +kernel
theorem dX7_rule_46 : decode cX7_rule 46 = .ok (.isub, 1) := by decide +kernel
theorem dX7_rule_47 : decode cX7_rule 47 = .ok (.ireturn, 1) := by decide +kernel
theorem dX7_drop_0 : decode cX7_drop 0 = .ok (.aload_n 0, 1) := by decide +kernel
theorem dX7_drop_1 : decode cX7_drop 1 = .ok (.iload_n 1, 1) := by decide +kernel
set_option maxRecDepth 20000 in
theorem ggX7_drop_X7_needRule : GoodIn wsX7_drop wsX7_needRule := goodIn_ca (goodIn_r _ [7, 8, 9, 1, 2, 33, 34, 35, 36, 37, 38, 39, 40, 41, 42, 43] (by decide +kernel) (by decide +kernel)) (goodIn_sub (fun _ h => List.mem_cons_of_mem _ (List.mem_append_right _ h)) (by decide +kernel))
set_option maxRecDepth 20000 in
theorem gX7_drop_X7_needRule : GoodIn wsX7_drop (wsV RX7 87 RX7 yX7_needRule wsX7_needRule) := goodIn_app (goodIn_of _ (by decide +kernel)) ggX7_drop_X7_needRule
theorem dX7_drop_2 : decode cX7_drop 2 = .ok (.invokevirtual 87, 3) := by decide +kernel
theorem dX7_drop_5 : decode cX7_drop 5 = .ok (.aload_n 0, 1) := by decide +kernel
theorem dX7_drop_6 : decode cX7_drop 6 = .ok (.getfield 10, 3) := by decide +kernel
theorem dX7_drop_9 : decode cX7_drop 9 = .ok (.iload_n 1, 1) := by decide +kernel
set_option maxRecDepth 20000 in
theorem ggX7_drop_X6_remove : GoodIn wsX7_drop wsX6_remove := goodIn_r _ [14, 15, 16, 17, 18, 13, 19, 20, 41, 42, 43] (by decide +kernel) (by decide +kernel)
set_option maxRecDepth 20000 in
theorem gX7_drop_X6_remove : GoodIn wsX7_drop (wsV RX7 132 RX6 yX6_remove wsX6_remove) := goodIn_app (goodIn_of _ (by decide +kernel)) ggX7_drop_X6_remove
theorem dX7_drop_10 : decode cX7_drop 10 = .ok (.invokevirtual 132, 3) := by decide +kernel
theorem dX7_drop_13 : decode cX7_drop 13 = .ok (.aload_n 0, 1) := by decide +kernel
set_option maxRecDepth 20000 in
theorem ggX7_drop_X7_outdate : GoodIn wsX7_drop wsX7_outdate := goodIn_r _ [24, 25, 26, 27, 28, 29, 30, 31, 32, 33, 34, 35, 36, 37, 38, 39, 40, 44, 45, 46, 47, 48, 49, 50, 51, 52, 53, 54, 55, 56, 57, 58, 59, 60, 61, 62, 63, 64, 65, 66, 67, 68] (by decide +kernel) (by decide +kernel)
set_option maxRecDepth 20000 in
theorem gX7_drop_X7_outdate : GoodIn wsX7_drop (wsV RX7 84 RX7 yX7_outdate wsX7_outdate) := goodIn_app (goodIn_of _ (by decide +kernel)) ggX7_drop_X7_outdate
theorem dX7_drop_14 : decode cX7_drop 14 = .ok (.invokevirtual 84, 3) := by decide +kernel
theorem dX7_drop_17 : decode cX7_drop 17 = .ok (.aload_n 0, 1) := by decide +kernel
theorem dX7_drop_18 : decode cX7_drop 18 = .ok (.getfield 10, 3) := by decide +kernel
theorem dX7_drop_21 : decode cX7_drop 21 = .ok (.getfield 70, 3) := by decide +kernel
theorem dX7_drop_24 : decode cX7_drop 24 = .ok (.ireturn, 1) := by decide +kernel
theorem dX7_move_0 : decode cX7_move 0 = .ok (.aload_n 0, 1) := by decide +kernel
theorem dX7_move_1 : decode cX7_move 1 = .ok (.iload_n 1, 1) := by decide +kernel
set_option maxRecDepth 20000 in
theorem ggX7_move_X7_needRule : GoodIn wsX7_move wsX7_needRule := goodIn_ca (goodIn_r _ [10, 11, 12, 1, 13, 32, 33, 34, 35, 36, 37, 38, 39, 40, 41, 42] (by decide +kernel) (by decide +kernel)) (goodIn_sub (fun _ h => List.mem_cons_of_mem _ (List.mem_append_right _ h)) (by decide +kernel))
set_option maxRecDepth 20000 in
theorem gX7_move_X7_needRule : GoodIn wsX7_move (wsV RX7 87 RX7 yX7_needRule wsX7_needRule) := goodIn_app (goodIn_of _ (by decide +kernel)) ggX7_move_X7_needRule
theorem dX7_move_2 : decode cX7_move 2 = .ok (.invokevirtual 87, 3) := by decide +kernel
theorem dX7_move_5 : decode cX7_move 5 = .ok (.aload_n 0, 1) := by decide +kernel
theorem dX7_move_6 : decode cX7_move 6 = .ok (.iload_n 2, 1) := by decide +kernel
theorem dX7_move_7 : decode cX7_move 7 = .ok (.invokevirtual 87, 3) := by decide +kernel
theorem dX7_move_10 : decode cX7_move 10 = .ok (.iload_n 1, 1) := by decide +kernel
theorem dX7_move_11 : decode cX7_move 11 = .ok (.iload_n 2, 1) := by decide +kernel
theorem dX7_move_12 : decode cX7_move 12 = .ok (.if_icmp .ne 5, 3) := by decide +kernel
theorem dX7_move_17 : decode cX7_move 17 = .ok (.aload_n 0, 1) := by decide +kernel
theorem dX7_move_18 : decode cX7_move 18 = .ok (.getfield 10, 3) := by decide +kernel
theorem dX7_move_21 : decode cX7_move 21 = .ok (.iload_n 1, 1) := by decide +kernel
theorem dX7_move_22 : decode cX7_move 22 = .ok (.iload_n 2, 1) := by decide +kernel
set_option maxRecDepth 20000 in
theorem ggX7_move_X6_shift : GoodIn wsX7_move wsX6_shift := goodIn_r _ [18, 19, 40, 41, 42] (by decide +kernel) (by decide +kernel)
set_option maxRecDepth 20000 in
theorem gX7_move_X6_shift : GoodIn wsX7_move (wsV RX7 123 RX6 yX6_shift wsX6_shift) := goodIn_app (goodIn_of _ (by decide +kernel)) ggX7_move_X6_shift
theorem dX7_move_23 : decode cX7_move 23 = .ok (.invokevirtual 123, 3) := by decide +kernel
theorem dX7_move_26 : decode cX7_move 26 = .ok (.aload_n 0, 1) := by decide +kernel
set_option maxRecDepth 20000 in
theorem ggX7_move_X7_outdate : GoodIn wsX7_move wsX7_outdate := goodIn_r _ [23, 24, 25, 26, 27, 28, 29, 30, 31, 32, 33, 34, 35, 36, 37, 38, 39, 43, 44, 45, 46, 47, 48, 49, 50, 51, 52, 53, 54, 55, 56, 57, 58, 59, 60, 61, 62, 63, 64, 65, 66, 67] (by decide +kernel) (by decide +kernel)
set_option maxRecDepth 20000 in
theorem gX7_move_X7_outdate : GoodIn wsX7_move (wsV RX7 84 RX7 yX7_outdate wsX7_outdate) := goodIn_app (goodIn_of _ (by decide +kernel)) ggX7_move_X7_outdate
theorem dX7_move_27 : decode cX7_move 27 = .ok (.invokevirtual 84, 3) := by decide +kernel
theorem dX7_move_30 : decode cX7_move 30 = .ok (.iload_n 2, 1) := by decide +kernel
theorem dX7_move_31 : decode cX7_move 31 = .ok (.iload_n 1, 1) := by decide +kernel
theorem dX7_move_32 : decode cX7_move 32 = .ok (.isub, 1) := by decide +kernel
theorem dX7_move_33 : decode cX7_move 33 = .ok (.invokestatic 127, 3) := by decide +kernel
theorem dX7_move_36 : decode cX7_move 36 = .ok (.iconst 1, 1) := by decide +kernel
theorem dX7_move_37 : decode cX7_move 37 = .ok (.iadd, 1) := by decide +kernel
theorem dX7_move_38 : decode cX7_move 38 = .ok (.ireturn, 1) := by decide +kernel
theorem dX7_move_15 : decode cX7_move 15 = .ok (.iconst 0, 1) := by decide +kernel
theorem dX7_move_16 : decode cX7_move 16 = .ok (.ireturn, 1) := by decide +kernel
theorem zOut_cell {X : Nat → Nat → Int} {k : Nat} (h : k ≠ 53 ∧ k ≠ 57 ∧ k ≠ 61 ∧ k ≠ 65) : zOut X k = X k := by
  unfold zOut
  rw [zw_cell h.2.2.2, zw_cell h.2.2.1, zw_cell h.2.1, zw_cell h.1]
/-- a wall with a RULE more, with one less, with one moved -/
def zAdd (X : Nat → Nat → Int) (a : Nat) (v : Int) (Y : Nat → Nat → Int) : Prop := Y (zr X a (zN X a)) 0 = v ∧ Y (zr X a (zN X a)) 1 = 0 ∧ (∀ k : Nat, k < 4 → Y (zr X a (zN X a) + 1) k = 0 ∧ Y (zr X a (zN X a) + 2) k = zS k - 1) ∧ (∀ k : Nat, k ≠ a → k ≠ zr X a (zN X a) → k ≠ zr X a (zN X a) + 1 → k ≠ zr X a (zN X a) + 2 → Y k = X k) ∧ Y a 1 = X a 1 + 1 ∧ Y a 2 = X a 2
def zRem (X : Nat → Nat → Int) (a x : Nat) (Y : Nat → Nat → Int) : Prop := (∀ c : Nat, c ≠ a → c ≠ a + 1 → Y c = X c) ∧ (∀ j : Nat, Y (a + 1) j = X (a + 1) (zShf x (zN X a - 1) j)) ∧ Y a 1 = X a 1 - 1 ∧ Y a 2 = X a 2
def zMov (X : Nat → Nat → Int) (a x y : Nat) (Y : Nat → Nat → Int) : Prop := (∀ c : Nat, c ≠ a + 1 → Y c = X c) ∧ ∀ j : Nat, Y (a + 1) j = X (a + 1) (zShf x y j)

set_option maxHeartbeats 4000000 in
set_option maxRecDepth 100000 in
/-- rule -/
theorem c_X7_rule (l : Launch) (G : zG) (ad : Nat → Nat) (X : Nat → Nat → Int) (v : Int) (hV : zV X) (hn8 : zN X 0 < 8) (hv : 0 ≤ v ∧ v ≤ 2) : zR l G yX7_rule wsX7_rule { frames := 2, cells := 0, slots := 0, locals := 43 } (zpic G ad X) [.ref (ad 52), .int (zi v)] (zu G ad (fun w Y => w = (zN X 0 : Int) ∧ ∃ Y1 : Nat → Nat → Int, zAdd X 0 v Y1 ∧ Y = zOut Y1)) 0 0 := by
  refine zR_of (cc := cX7_rule) (maxL := 2) (rt := (some .int)) (by decide) rfl (Nat.le_of_ble_eq_true rfl) ?_
  intro p e s m below meth c A ls hx hb hml hr hts hown hlocks hin0 hA hE hP hD hS hl
  have hl : lv_has ls 2 [(0, .ref (ad 52)), (1, .int (zi v))] := hl
  have hown : s.vm.findClass RX7 = some m.cls := hown
  have hn := hV.n (Or.inl rfl : zIsW 0)
  have hw7 : ∀ w ∈ u_ws RX7 TX7 8, w ∈ wsX7_rule := by decide +kernel
  have hf10 := hts (.fieldLink RX7 10 "Nettle" "wall" "LNettle$Wall;") (by decide +kernel)
  have hw6 : ∀ w ∈ u_ws RX6 TX6 3, w ∈ wsX7_rule := by decide +kernel
  have hf70 := hts (.fieldLink RX7 70 "Nettle$Wall" "count" "I") (by decide +kernel)
  refine lv_iload_n hx hb dX7_rule_0 rfl (lv_at hl 1 rfl) ?_
  refine zcall (wr := []) (va_runS (As := [.int (zi v)]) (rest := []) ⟨hx, hb, hml, hown, hts⟩ (c_X7_needVerdict l G ad X v (by omega) s.heap.size) (va_cwS 1 hts gX7_rule_X7_needVerdict rfl rfl rfl (by decide +kernel) ⟨Nat.le_of_ble_eq_true rfl, Nat.le_of_ble_eq_true rfl⟩) (zPre (wr := []) (wc := zpic G ad X) (As := [.int (zi v)]) hP hD hE hS hA).1 rfl rfl hl.1 rfl (lv_room (Nat.le_of_ble_eq_true rfl)) dX7_rule_1 ⟨Nat.le_of_ble_eq_true rfl, Nat.le_of_ble_eq_true rfl⟩) hP hD hS hA (fun _ _ H locs hf hP hD hS => ?_)
  obtain ⟨rfl, rfl⟩ := hf
  have hP : va_P G.1 vwCl (zpic G ad X) H := hP
  have hD : va_D A (zpic G ad X) := hD
  refine W.eq (g2 := F0 m 4 ls []) rfl ?_
  refine lv_aload_n hx hb dX7_rule_4 rfl (lv_at hl 0 rfl) ?_
  refine va_get (D := G.1) (ci := 7) (v := .ref (ad 0)) (C := RX7) (T := TX7) (N := 8) hx hb hts hw7 hown hE.1 hP 52 p_52 rfl 0 (by decide) hf10 (fun _ h9 => h9) rfl dX7_rule_5 ?_
  refine va_get (D := G.1) (ci := 6) (v := .int (zi (X 0 1))) (C := RX6) (T := TX6) (N := 3) hx hb hts hw6 hown hE.1 hP 0 (p_w (Or.inl rfl)) rfl 1 (by decide) hf70 (fun _ h9 => h9) rfl dX7_rule_8 ?_
  refine lv_bipush (v := zi 8) hx hb dX7_rule_11 (by decide +kernel) ?_
  refine zc_lt (tgt := 26) hx hb dX7_rule_13 (by decide) (by omega) (by decide) (fun h13 => ?_) (fun h9 => by exfalso; omega)
  refine lv_aload_n hx hb dX7_rule_26 rfl (lv_at hl 0 rfl) ?_
  refine va_get (D := G.1) (ci := 7) (v := .ref (ad 0)) (C := RX7) (T := TX7) (N := 8) hx hb hts hw7 hown hE.1 hP 52 p_52 rfl 0 (by decide) hf10 (fun _ h9 => h9) rfl dX7_rule_27 ?_
  refine lv_iload_n hx hb dX7_rule_30 rfl (lv_at hl 1 rfl) ?_
  refine zcall (wr := []) (va_runV (As := [.int (zi v)]) (rest := []) ⟨hx, hb, hml, hown, hts⟩ (c_X6_add l G ad X 0 v hV (Or.inl rfl) (by omega) H.size) (cwV 1 hts gX7_rule_X6_add rfl rfl rfl (by decide +kernel) ⟨Nat.le_of_ble_eq_true rfl, Nat.le_of_ble_eq_true rfl⟩) (zPreV (wr := []) (wc := zpic G ad X) (q0 := 0) (ci := 6) (q := (RX6, TX6, 3)) hP hD hE hS hA rfl (p_w (Or.inl rfl))) rfl rfl hl.1 rfl (lv_room (Nat.le_of_ble_eq_true rfl)) dX7_rule_31 ⟨Nat.le_of_ble_eq_true rfl, Nat.le_of_ble_eq_true rfl⟩) hP hD hS hA (fun _ _ H locs hf hP hD hS => ?_)
  obtain ⟨X1, rfl, hX1, rfl⟩ := hf
  have hP : va_P G.1 vwCl (zpic G ad X1) H := hP
  have hD : va_D A (zpic G ad X1) := hD
  refine W.eq (g2 := F0 m 34 ls []) rfl ?_
  refine lv_aload_n hx hb dX7_rule_34 rfl (lv_at hl 0 rfl) ?_
  refine zcall (wr := []) (va_runV (As := []) (rest := []) ⟨hx, hb, hml, hown, hts⟩ (c_X7_outdate l G ad X1 H.size) (cwV 0 hts gX7_rule_X7_outdate rfl rfl rfl (by decide +kernel) ⟨Nat.le_of_ble_eq_true rfl, Nat.le_of_ble_eq_true rfl⟩) (zPreV (wr := []) (wc := zpic G ad X1) (q0 := 52) (ci := 7) (q := (RX7, TX7, 8)) hP hD hE hS hA rfl p_52) rfl rfl hl.1 rfl (lv_room (Nat.le_of_ble_eq_true rfl)) dX7_rule_35 ⟨Nat.le_of_ble_eq_true rfl, Nat.le_of_ble_eq_true rfl⟩) hP hD hS hA (fun _ _ H locs hf hP hD hS => ?_)
  obtain ⟨X2, rfl, hX2, rfl⟩ := hf
  have hP : va_P G.1 vwCl (zpic G ad X2) H := hP
  have hD : va_D A (zpic G ad X2) := hD
  refine W.eq (g2 := F0 m 38 ls []) rfl ?_
  refine lv_aload_n hx hb dX7_rule_38 rfl (lv_at hl 0 rfl) ?_
  refine va_get (D := G.1) (ci := 7) (v := .ref (ad 0)) (C := RX7) (T := TX7) (N := 8) hx hb hts hw7 hown hE.1 hP 52 p_52 rfl 0 (by decide) hf10 (fun _ h9 => h9) rfl dX7_rule_39 ?_
  refine va_get (D := G.1) (ci := 6) (v := .int (zi (X2 0 1))) (C := RX6) (T := TX6) (N := 3) hx hb hts hw6 hown hE.1 hP 0 (p_w (Or.inl rfl)) rfl 1 (by decide) hf70 (fun _ h9 => h9) rfl dX7_rule_42 ?_
  refine lv_iconst (v := zi 1) hx hb dX7_rule_45 rfl ?_
  refine lv_isub hx hb dX7_rule_46 (zti (v := zi ((X2 0 1) - 1)) (zi_sub _ _) ?_)
  exact zend_i hx hb hr hlocks hP hD hS (Nat.le_of_ble_eq_true rfl) (Nat.le_of_ble_eq_true rfl) dX7_rule_47 ⟨_, _, rfl, ⟨by rw [hX2, zOut_cell (by omega)]; have h9 := hX1.2.2.2.2.1; omega, X1, hX1, hX2⟩, rfl⟩

set_option maxHeartbeats 4000000 in
set_option maxRecDepth 100000 in
/-- drop -/
theorem c_X7_drop (l : Launch) (G : zG) (ad : Nat → Nat) (X : Nat → Nat → Int) (q : Nat) (hV : zV X) (hq : q < zN X 0) : zR l G yX7_drop wsX7_drop { frames := 2, cells := 0, slots := 0, locals := 45 } (zpic G ad X) [.ref (ad 52), .int (zi (q : Int))] (zu G ad (fun w Y => w = X 0 1 - 1 ∧ ∃ Y1 : Nat → Nat → Int, zRem X 0 q Y1 ∧ Y = zOut Y1)) 0 0 := by
  refine zR_of (cc := cX7_drop) (maxL := 2) (rt := (some .int)) (by decide) rfl (Nat.le_of_ble_eq_true rfl) ?_
  intro p e s m below meth c A ls hx hb hml hr hts hown hlocks hin0 hA hE hP hD hS hl
  have hl : lv_has ls 2 [(0, .ref (ad 52)), (1, .int (zi (q : Int)))] := hl
  have hown : s.vm.findClass RX7 = some m.cls := hown
  have hn := hV.n (Or.inl rfl : zIsW 0)
  have hw7 : ∀ w ∈ u_ws RX7 TX7 8, w ∈ wsX7_drop := by decide +kernel
  have hf10 := hts (.fieldLink RX7 10 "Nettle" "wall" "LNettle$Wall;") (by decide +kernel)
  have hw6 : ∀ w ∈ u_ws RX6 TX6 3, w ∈ wsX7_drop := by decide +kernel
  have hf70 := hts (.fieldLink RX7 70 "Nettle$Wall" "count" "I") (by decide +kernel)
  refine lv_aload_n hx hb dX7_drop_0 rfl (lv_at hl 0 rfl) ?_
  refine lv_iload_n hx hb dX7_drop_1 rfl (lv_at hl 1 rfl) ?_
  refine zcall (wr := []) (va_runV (As := [.int (zi (q : Int))]) (rest := []) ⟨hx, hb, hml, hown, hts⟩ (c_X7_needRule l G ad X q hV (by omega) s.heap.size) (cwV 1 hts gX7_drop_X7_needRule rfl rfl rfl (by decide +kernel) ⟨Nat.le_of_ble_eq_true rfl, Nat.le_of_ble_eq_true rfl⟩) (zPreV (wr := []) (wc := zpic G ad X) (q0 := 52) (ci := 7) (q := (RX7, TX7, 8)) hP hD hE hS hA rfl p_52) rfl rfl hl.1 rfl (lv_room (Nat.le_of_ble_eq_true rfl)) dX7_drop_2 ⟨Nat.le_of_ble_eq_true rfl, Nat.le_of_ble_eq_true rfl⟩) hP hD hS hA (fun _ _ H locs hf hP hD hS => ?_)
  obtain ⟨rfl, rfl⟩ := hf
  have hP : va_P G.1 vwCl (zpic G ad X) H := hP
  have hD : va_D A (zpic G ad X) := hD
  refine W.eq (g2 := F0 m 5 ls []) rfl ?_
  refine lv_aload_n hx hb dX7_drop_5 rfl (lv_at hl 0 rfl) ?_
  refine va_get (D := G.1) (ci := 7) (v := .ref (ad 0)) (C := RX7) (T := TX7) (N := 8) hx hb hts hw7 hown hE.1 hP 52 p_52 rfl 0 (by decide) hf10 (fun _ h9 => h9) rfl dX7_drop_6 ?_
  refine lv_iload_n hx hb dX7_drop_9 rfl (lv_at hl 1 rfl) ?_
  refine zcall (wr := []) (va_runV (As := [.int (zi (q : Int))]) (rest := []) ⟨hx, hb, hml, hown, hts⟩ (c_X6_remove l G ad X 0 q hV (Or.inl rfl) (by omega) H.size) (cwV 1 hts gX7_drop_X6_remove rfl rfl rfl (by decide +kernel) ⟨Nat.le_of_ble_eq_true rfl, Nat.le_of_ble_eq_true rfl⟩) (zPreV (wr := []) (wc := zpic G ad X) (q0 := 0) (ci := 6) (q := (RX6, TX6, 3)) hP hD hE hS hA rfl (p_w (Or.inl rfl))) rfl rfl hl.1 rfl (lv_room (Nat.le_of_ble_eq_true rfl)) dX7_drop_10 ⟨Nat.le_of_ble_eq_true rfl, Nat.le_of_ble_eq_true rfl⟩) hP hD hS hA (fun _ _ H locs hf hP hD hS => ?_)
  obtain ⟨X1, rfl, hX1, rfl⟩ := hf
  have hP : va_P G.1 vwCl (zpic G ad X1) H := hP
  have hD : va_D A (zpic G ad X1) := hD
  refine W.eq (g2 := F0 m 13 ls []) rfl ?_
  refine lv_aload_n hx hb dX7_drop_13 rfl (lv_at hl 0 rfl) ?_
  refine zcall (wr := []) (va_runV (As := []) (rest := []) ⟨hx, hb, hml, hown, hts⟩ (c_X7_outdate l G ad X1 H.size) (cwV 0 hts gX7_drop_X7_outdate rfl rfl rfl (by decide +kernel) ⟨Nat.le_of_ble_eq_true rfl, Nat.le_of_ble_eq_true rfl⟩) (zPreV (wr := []) (wc := zpic G ad X1) (q0 := 52) (ci := 7) (q := (RX7, TX7, 8)) hP hD hE hS hA rfl p_52) rfl rfl hl.1 rfl (lv_room (Nat.le_of_ble_eq_true rfl)) dX7_drop_14 ⟨Nat.le_of_ble_eq_true rfl, Nat.le_of_ble_eq_true rfl⟩) hP hD hS hA (fun _ _ H locs hf hP hD hS => ?_)
  obtain ⟨X2, rfl, hX2, rfl⟩ := hf
  have hP : va_P G.1 vwCl (zpic G ad X2) H := hP
  have hD : va_D A (zpic G ad X2) := hD
  refine W.eq (g2 := F0 m 17 ls []) rfl ?_
  refine lv_aload_n hx hb dX7_drop_17 rfl (lv_at hl 0 rfl) ?_
  refine va_get (D := G.1) (ci := 7) (v := .ref (ad 0)) (C := RX7) (T := TX7) (N := 8) hx hb hts hw7 hown hE.1 hP 52 p_52 rfl 0 (by decide) hf10 (fun _ h9 => h9) rfl dX7_drop_18 ?_
  refine va_get (D := G.1) (ci := 6) (v := .int (zi (X2 0 1))) (C := RX6) (T := TX6) (N := 3) hx hb hts hw6 hown hE.1 hP 0 (p_w (Or.inl rfl)) rfl 1 (by decide) hf70 (fun _ h9 => h9) rfl dX7_drop_21 ?_
  exact zend_i hx hb hr hlocks hP hD hS (Nat.le_of_ble_eq_true rfl) (Nat.le_of_ble_eq_true rfl) dX7_drop_24 ⟨_, _, rfl, ⟨by rw [hX2, zOut_cell (by omega)]; exact hX1.2.2.1, X1, hX1, hX2⟩, rfl⟩

set_option maxHeartbeats 4000000 in
set_option maxRecDepth 100000 in
/-- move -/
theorem c_X7_move (l : Launch) (G : zG) (ad : Nat → Nat) (X : Nat → Nat → Int) (q : Nat) (t : Nat) (hV : zV X) (hq : q < zN X 0) (ht : t < zN X 0) : zR l G yX7_move wsX7_move { frames := 1, cells := 0, slots := 0, locals := 24 } (zpic G ad X) [.ref (ad 52), .int (zi (q : Int)), .int (zi (t : Int))] (zu G ad (fun w Y => (q = t ∧ w = 0 ∧ Y = X) ∨ (q ≠ t ∧ w = zabs ((t : Int) - (q : Int)) + 1 ∧ ∃ Y1 : Nat → Nat → Int, zMov X 0 q t Y1 ∧ Y = zOut Y1))) 0 0 := by
  refine zR_of (cc := cX7_move) (maxL := 3) (rt := (some .int)) (by decide) rfl (Nat.le_of_ble_eq_true rfl) ?_
  intro p e s m below meth c A ls hx hb hml hr hts hown hlocks hin0 hA hE hP hD hS hl
  have hl : lv_has ls 3 [(0, .ref (ad 52)), (1, .int (zi (q : Int))), (2, .int (zi (t : Int)))] := hl
  have hown : s.vm.findClass RX7 = some m.cls := hown
  have hn := hV.n (Or.inl rfl : zIsW 0)
  have hw7 : ∀ w ∈ u_ws RX7 TX7 8, w ∈ wsX7_move := by decide +kernel
  have hf10 := hts (.fieldLink RX7 10 "Nettle" "wall" "LNettle$Wall;") (by decide +kernel)
  have hmaabs := hts (.code Lib.Math.abs.name Lib.Math.abs.code 1 (some .int)) (by decide +kernel)
  have hml127 := hts (.methodLink RX7 127 Lib.Math.abs.name) (by decide +kernel)
  have hstabs := hts (.static Lib.Math.abs.name) (by decide +kernel)
  have hiniMath := hts (.initialized "java/lang/Math") (by decide +kernel)
  refine lv_aload_n hx hb dX7_move_0 rfl (lv_at hl 0 rfl) ?_
  refine lv_iload_n hx hb dX7_move_1 rfl (lv_at hl 1 rfl) ?_
  refine zcall (wr := []) (va_runV (As := [.int (zi (q : Int))]) (rest := []) ⟨hx, hb, hml, hown, hts⟩ (c_X7_needRule l G ad X q hV (by omega) s.heap.size) (cwV 1 hts gX7_move_X7_needRule rfl rfl rfl (by decide +kernel) ⟨Nat.le_of_ble_eq_true rfl, Nat.le_of_ble_eq_true rfl⟩) (zPreV (wr := []) (wc := zpic G ad X) (q0 := 52) (ci := 7) (q := (RX7, TX7, 8)) hP hD hE hS hA rfl p_52) rfl rfl hl.1 rfl (lv_room (Nat.le_of_ble_eq_true rfl)) dX7_move_2 ⟨Nat.le_of_ble_eq_true rfl, Nat.le_of_ble_eq_true rfl⟩) hP hD hS hA (fun _ _ H locs hf hP hD hS => ?_)
  obtain ⟨rfl, rfl⟩ := hf
  have hP : va_P G.1 vwCl (zpic G ad X) H := hP
  have hD : va_D A (zpic G ad X) := hD
  refine W.eq (g2 := F0 m 5 ls []) rfl ?_
  refine lv_aload_n hx hb dX7_move_5 rfl (lv_at hl 0 rfl) ?_
  refine lv_iload_n hx hb dX7_move_6 rfl (lv_at hl 2 rfl) ?_
  refine zcall (wr := []) (va_runV (As := [.int (zi (t : Int))]) (rest := []) ⟨hx, hb, hml, hown, hts⟩ (c_X7_needRule l G ad X t hV (by omega) H.size) (cwV 1 hts gX7_move_X7_needRule rfl rfl rfl (by decide +kernel) ⟨Nat.le_of_ble_eq_true rfl, Nat.le_of_ble_eq_true rfl⟩) (zPreV (wr := []) (wc := zpic G ad X) (q0 := 52) (ci := 7) (q := (RX7, TX7, 8)) hP hD hE hS hA rfl p_52) rfl rfl hl.1 rfl (lv_room (Nat.le_of_ble_eq_true rfl)) dX7_move_7 ⟨Nat.le_of_ble_eq_true rfl, Nat.le_of_ble_eq_true rfl⟩) hP hD hS hA (fun _ _ H locs hf hP hD hS => ?_)
  obtain ⟨rfl, rfl⟩ := hf
  have hP : va_P G.1 vwCl (zpic G ad X) H := hP
  have hD : va_D A (zpic G ad X) := hD
  refine W.eq (g2 := F0 m 10 ls []) rfl ?_
  refine lv_iload_n hx hb dX7_move_10 rfl (lv_at hl 1 rfl) ?_
  refine lv_iload_n hx hb dX7_move_11 rfl (lv_at hl 2 rfl) ?_
  refine zc_ne (tgt := 17) hx hb dX7_move_12 (by decide) (by omega) (by omega) (fun h12 => ?_) (fun h12 => ?_)
  · refine lv_aload_n hx hb dX7_move_17 rfl (lv_at hl 0 rfl) ?_
    refine va_get (D := G.1) (ci := 7) (v := .ref (ad 0)) (C := RX7) (T := TX7) (N := 8) hx hb hts hw7 hown hE.1 hP 52 p_52 rfl 0 (by decide) hf10 (fun _ h9 => h9) rfl dX7_move_18 ?_
    refine lv_iload_n hx hb dX7_move_21 rfl (lv_at hl 1 rfl) ?_
    refine lv_iload_n hx hb dX7_move_22 rfl (lv_at hl 2 rfl) ?_
    refine zcall (wr := []) (va_runV (As := [.int (zi (q : Int)), .int (zi (t : Int))]) (rest := []) ⟨hx, hb, hml, hown, hts⟩ (c_X6_shift l G ad X 0 q t hV (Or.inl rfl) (by omega) (by omega) H.size) (cwV 2 hts gX7_move_X6_shift rfl rfl rfl (by decide +kernel) ⟨Nat.le_of_ble_eq_true rfl, Nat.le_of_ble_eq_true rfl⟩) (zPreV (wr := []) (wc := zpic G ad X) (q0 := 0) (ci := 6) (q := (RX6, TX6, 3)) hP hD hE hS hA rfl (p_w (Or.inl rfl))) rfl rfl hl.1 rfl (lv_room (Nat.le_of_ble_eq_true rfl)) dX7_move_23 ⟨Nat.le_of_ble_eq_true rfl, Nat.le_of_ble_eq_true rfl⟩) hP hD hS hA (fun _ _ H locs hf hP hD hS => ?_)
    obtain ⟨X1, rfl, hX1, rfl⟩ := hf
    have hP : va_P G.1 vwCl (zpic G ad X1) H := hP
    have hD : va_D A (zpic G ad X1) := hD
    refine W.eq (g2 := F0 m 26 ls []) rfl ?_
    refine lv_aload_n hx hb dX7_move_26 rfl (lv_at hl 0 rfl) ?_
    refine zcall (wr := []) (va_runV (As := []) (rest := []) ⟨hx, hb, hml, hown, hts⟩ (c_X7_outdate l G ad X1 H.size) (cwV 0 hts gX7_move_X7_outdate rfl rfl rfl (by decide +kernel) ⟨Nat.le_of_ble_eq_true rfl, Nat.le_of_ble_eq_true rfl⟩) (zPreV (wr := []) (wc := zpic G ad X1) (q0 := 52) (ci := 7) (q := (RX7, TX7, 8)) hP hD hE hS hA rfl p_52) rfl rfl hl.1 rfl (lv_room (Nat.le_of_ble_eq_true rfl)) dX7_move_27 ⟨Nat.le_of_ble_eq_true rfl, Nat.le_of_ble_eq_true rfl⟩) hP hD hS hA (fun _ _ H locs hf hP hD hS => ?_)
    obtain ⟨X2, rfl, hX2, rfl⟩ := hf
    have hP : va_P G.1 vwCl (zpic G ad X2) H := hP
    have hD : va_D A (zpic G ad X2) := hD
    refine W.eq (g2 := F0 m 30 ls []) rfl ?_
    refine lv_iload_n hx hb dX7_move_30 rfl (lv_at hl 2 rfl) ?_
    refine lv_iload_n hx hb dX7_move_31 rfl (lv_at hl 1 rfl) ?_
    refine lv_isub hx hb dX7_move_32 (zti (v := zi ((t : Int) - (q : Int))) (zi_sub _ _) ?_)
    refine va_mabs hx hb (hml.trans hl.1.symm) hown hml127 hstabs hiniMath hmaabs (Nat.le_of_ble_eq_true rfl) (Nat.le_of_ble_eq_true rfl) (Nat.le_of_ble_eq_true rfl) (Nat.le_of_ble_eq_true rfl) dX7_move_33 ?_
    refine zti (v := zi (zabs ((t : Int) - (q : Int)))) (zi_abs (by omega)) ?_
    refine lv_iconst (v := zi 1) hx hb dX7_move_36 rfl ?_
    refine lv_iadd hx hb dX7_move_37 (zti (v := zi ((zabs ((t : Int) - (q : Int))) + 1)) (zi_add _ _) ?_)
    exact zend_i hx hb hr hlocks hP hD hS (Nat.le_of_ble_eq_true rfl) (Nat.le_of_ble_eq_true rfl) dX7_move_38 ⟨_, _, rfl, (Or.inr ⟨by omega, rfl, X1, hX1, hX2⟩), rfl⟩
  · refine lv_iconst (v := zi 0) hx hb dX7_move_15 rfl ?_
    exact zend_i hx hb hr hlocks hP hD hS (Nat.le_of_ble_eq_true rfl) (Nat.le_of_ble_eq_true rfl) dX7_move_16 ⟨_, _, rfl, (Or.inl ⟨by omega, rfl, rfl⟩), rfl⟩
end
section
/-! Nettle: the copy -/
theorem dX7_copy_0 : decode cX7_copy 0 = .ok (.aload_n 0, 1) := by decide +kernel
theorem dX7_copy_1 : decode cX7_copy 1 = .ok (.getfield 16, 3) := by decide +kernel
theorem dX7_copy_4 : decode cX7_copy 4 = .ok (.aload_n 0, 1) := by decide +kernel
theorem dX7_copy_5 : decode cX7_copy 5 = .ok (.getfield 10, 3) := by decide +kernel
set_option maxRecDepth 20000 in
theorem ggX7_copy_X6_takeFrom : GoodIn wsX7_copy wsX6_takeFrom := goodIn_r _ [8, 9, 10, 11, 12, 13, 14, 15, 16, 17, 18, 19, 41, 42, 43, 44, 45, 46, 47] (by decide +kernel) (by decide +kernel)
set_option maxRecDepth 20000 in
theorem gX7_copy_X6_takeFrom : GoodIn wsX7_copy (wsV RX7 276 RX6 yX6_takeFrom wsX6_takeFrom) := goodIn_app (goodIn_of _ (by decide +kernel)) ggX7_copy_X6_takeFrom
theorem dX7_copy_8 : decode cX7_copy 8 = .ok (.invokevirtual 276, 3) := by decide +kernel
theorem dX7_copy_11 : decode cX7_copy 11 = .ok (.aload_n 0, 1) := by decide +kernel
set_option maxRecDepth 20000 in
theorem ggX7_copy_X7_outdate : GoodIn wsX7_copy wsX7_outdate := goodIn_r _ [24, 25, 26, 27, 28, 29, 30, 31, 32, 33, 34, 35, 36, 37, 38, 39, 40, 48, 49, 50, 51, 52, 53, 54, 55, 56, 57, 58, 59, 60, 61, 62, 63, 64, 65, 66, 67, 68, 69, 70, 71, 72] (by decide +kernel) (by decide +kernel)
set_option maxRecDepth 20000 in
theorem gX7_copy_X7_outdate : GoodIn wsX7_copy (wsV RX7 84 RX7 yX7_outdate wsX7_outdate) := goodIn_app (goodIn_of _ (by decide +kernel)) ggX7_copy_X7_outdate
theorem dX7_copy_12 : decode cX7_copy 12 = .ok (.invokevirtual 84, 3) := by decide +kernel
theorem dX7_copy_15 : decode cX7_copy 15 = .ok (.aload_n 0, 1) := by decide +kernel
theorem dX7_copy_16 : decode cX7_copy 16 = .ok (.getfield 16, 3) := by decide +kernel
theorem dX7_copy_19 : decode cX7_copy 19 = .ok (.getfield 70, 3) := by decide +kernel
theorem dX7_copy_22 : decode cX7_copy 22 = .ok (.ireturn, 1) := by decide +kernel
/-- the copy is made -/
def zCpy (X Y : Nat → Nat → Int) : Prop := zV Y ∧ (∀ j : Nat, j < zN X 0 → Y (zr X 26 j) 0 = X (zr X 0 j) 0 ∧ ∀ g : Nat, g < 4 → Y (zr X 26 j + 1) g = X (zr X 0 j + 1) g ∧ Y (zr X 26 j + 2) g = X (zr X 0 j + 2) g) ∧ (∀ c : Nat, c < 26 ∨ c = 26 + 1 ∨ 26 + 26 ≤ c → Y c = X c) ∧ Y 26 1 = X 0 1 ∧ Y 26 2 = X 0 2

set_option maxHeartbeats 4000000 in
set_option maxRecDepth 100000 in
/-- copy -/
theorem c_X7_copy (l : Launch) (G : zG) (ad : Nat → Nat) (X : Nat → Nat → Int) (hV : zV X) : zR l G yX7_copy wsX7_copy { frames := 2, cells := 0, slots := 0, locals := 44 } (zpic G ad X) [.ref (ad 52)] (zu G ad (fun w Y => w = X 0 1 ∧ ∃ Y1 : Nat → Nat → Int, zCpy X Y1 ∧ Y = zOut Y1)) 0 0 := by
  refine zR_of (cc := cX7_copy) (maxL := 1) (rt := (some .int)) (by decide) rfl (Nat.le_of_ble_eq_true rfl) ?_
  intro p e s m below meth c A ls hx hb hml hr hts hown hlocks hin0 hA hE hP hD hS hl
  have hl : lv_has ls 1 [(0, .ref (ad 52))] := hl
  have hown : s.vm.findClass RX7 = some m.cls := hown
  have hn := hV.n (Or.inl rfl : zIsW 0)
  have hw7 : ∀ w ∈ u_ws RX7 TX7 8, w ∈ wsX7_copy := by decide +kernel
  have hf16 := hts (.fieldLink RX7 16 "Nettle" "copied" "LNettle$Wall;") (by decide +kernel)
  have hf10 := hts (.fieldLink RX7 10 "Nettle" "wall" "LNettle$Wall;") (by decide +kernel)
  have hw6 : ∀ w ∈ u_ws RX6 TX6 3, w ∈ wsX7_copy := by decide +kernel
  have hf70 := hts (.fieldLink RX7 70 "Nettle$Wall" "count" "I") (by decide +kernel)
  refine lv_aload_n hx hb dX7_copy_0 rfl (lv_at hl 0 rfl) ?_
  refine va_get (D := G.1) (ci := 7) (v := .ref (ad 26)) (C := RX7) (T := TX7) (N := 8) hx hb hts hw7 hown hE.1 hP 52 p_52 rfl 1 (by decide) hf16 (fun _ h9 => h9) rfl dX7_copy_1 ?_
  refine lv_aload_n hx hb dX7_copy_4 rfl (lv_at hl 0 rfl) ?_
  refine va_get (D := G.1) (ci := 7) (v := .ref (ad 0)) (C := RX7) (T := TX7) (N := 8) hx hb hts hw7 hown hE.1 hP 52 p_52 rfl 0 (by decide) hf10 (fun _ h9 => h9) rfl dX7_copy_5 ?_
  refine zcall (wr := []) (va_runV (As := [.ref (ad 0)]) (rest := []) ⟨hx, hb, hml, hown, hts⟩ (c_X6_takeFrom l G ad X 26 0 hV (Or.inr rfl) (Or.inl rfl) (by omega) s.heap.size) (cwV 1 hts gX7_copy_X6_takeFrom rfl rfl rfl (by decide +kernel) ⟨Nat.le_of_ble_eq_true rfl, Nat.le_of_ble_eq_true rfl⟩) (zPreV (wr := []) (wc := zpic G ad X) (q0 := 26) (ci := 6) (q := (RX6, TX6, 3)) hP hD hE hS hA rfl (p_w (Or.inr rfl))) rfl rfl hl.1 rfl (lv_room (Nat.le_of_ble_eq_true rfl)) dX7_copy_8 ⟨Nat.le_of_ble_eq_true rfl, Nat.le_of_ble_eq_true rfl⟩) hP hD hS hA (fun _ _ H locs hf hP hD hS => ?_)
  obtain ⟨X1, rfl, hX1, rfl⟩ := hf
  have hP : va_P G.1 vwCl (zpic G ad X1) H := hP
  have hD : va_D A (zpic G ad X1) := hD
  refine W.eq (g2 := F0 m 11 ls []) rfl ?_
  refine lv_aload_n hx hb dX7_copy_11 rfl (lv_at hl 0 rfl) ?_
  refine zcall (wr := []) (va_runV (As := []) (rest := []) ⟨hx, hb, hml, hown, hts⟩ (c_X7_outdate l G ad X1 H.size) (cwV 0 hts gX7_copy_X7_outdate rfl rfl rfl (by decide +kernel) ⟨Nat.le_of_ble_eq_true rfl, Nat.le_of_ble_eq_true rfl⟩) (zPreV (wr := []) (wc := zpic G ad X1) (q0 := 52) (ci := 7) (q := (RX7, TX7, 8)) hP hD hE hS hA rfl p_52) rfl rfl hl.1 rfl (lv_room (Nat.le_of_ble_eq_true rfl)) dX7_copy_12 ⟨Nat.le_of_ble_eq_true rfl, Nat.le_of_ble_eq_true rfl⟩) hP hD hS hA (fun _ _ H locs hf hP hD hS => ?_)
  obtain ⟨X2, rfl, hX2, rfl⟩ := hf
  have hP : va_P G.1 vwCl (zpic G ad X2) H := hP
  have hD : va_D A (zpic G ad X2) := hD
  refine W.eq (g2 := F0 m 15 ls []) rfl ?_
  refine lv_aload_n hx hb dX7_copy_15 rfl (lv_at hl 0 rfl) ?_
  refine va_get (D := G.1) (ci := 7) (v := .ref (ad 26)) (C := RX7) (T := TX7) (N := 8) hx hb hts hw7 hown hE.1 hP 52 p_52 rfl 1 (by decide) hf16 (fun _ h9 => h9) rfl dX7_copy_16 ?_
  refine va_get (D := G.1) (ci := 6) (v := .int (zi (X2 26 1))) (C := RX6) (T := TX6) (N := 3) hx hb hts hw6 hown hE.1 hP 26 (p_w (Or.inr rfl)) rfl 1 (by decide) hf70 (fun _ h9 => h9) rfl dX7_copy_19 ?_
  exact zend_i hx hb hr hlocks hP hD hS (Nat.le_of_ble_eq_true rfl) (Nat.le_of_ble_eq_true rfl) dX7_copy_22 ⟨_, _, rfl, ⟨by rw [hX2, zOut_cell (by omega)]; exact hX1.2.2.2.1, X1, hX1, hX2⟩, rfl⟩
end
section
/-! Nettle: ofRule -/
theorem dX7_ofRule_0 : decode cX7_ofRule 0 = .ok (.aload_n 0, 1) := by decide +kernel
theorem dX7_ofRule_1 : decode cX7_ofRule 1 = .ok (.iload_n 1, 1) := by decide +kernel
set_option maxRecDepth 20000 in
theorem ggX7_ofRule_X7_needRule : GoodIn wsX7_ofRule wsX7_needRule := goodIn_ca (goodIn_r _ [11, 12, 13, 1, 14, 20, 21, 22, 23, 24, 25, 26, 27, 28, 29, 30] (by decide +kernel) (by decide +kernel)) (goodIn_sub (fun _ h => List.mem_cons_of_mem _ (List.mem_append_left _ (List.mem_append_right _ h))) (by decide +kernel))
set_option maxRecDepth 20000 in
theorem gX7_ofRule_X7_needRule : GoodIn wsX7_ofRule (wsV RX7 87 RX7 yX7_needRule wsX7_needRule) := goodIn_app (goodIn_of _ (by decide +kernel)) ggX7_ofRule_X7_needRule
theorem dX7_ofRule_2 : decode cX7_ofRule 2 = .ok (.invokevirtual 87, 3) := by decide +kernel
theorem dX7_ofRule_5 : decode cX7_ofRule 5 = .ok (.iload_n 2, 1) := by decide +kernel
theorem dX7_ofRule_6 : decode cX7_ofRule 6 = .ok (.bipush 9, 2) := by decide +kernel
set_option maxRecDepth 20000 in
theorem ggX7_ofRule_X7_needWhat : GoodIn wsX7_ofRule wsX7_needWhat := goodIn_ca (goodIn_r _ [17, 18, 19] (by decide +kernel) (by decide +kernel)) (goodIn_sub (fun _ h => List.mem_cons_of_mem _ (List.mem_append_right _ h)) (by decide +kernel))
set_option maxRecDepth 20000 in
theorem gX7_ofRule_X7_needWhat : GoodIn wsX7_ofRule (va_wsS RX7 143 yX7_needWhat wsX7_needWhat) := goodIn_app (goodIn_of _ (by decide +kernel)) ggX7_ofRule_X7_needWhat
theorem dX7_ofRule_8 : decode cX7_ofRule 8 = .ok (.invokestatic 143, 3) := by decide +kernel
theorem dX7_ofRule_11 : decode cX7_ofRule 11 = .ok (.aload_n 0, 1) := by decide +kernel
theorem dX7_ofRule_12 : decode cX7_ofRule 12 = .ok (.getfield 10, 3) := by decide +kernel
theorem dX7_ofRule_15 : decode cX7_ofRule 15 = .ok (.getfield 104, 3) := by decide +kernel
theorem dX7_ofRule_18 : decode cX7_ofRule 18 = .ok (.iload_n 1, 1) := by decide +kernel
theorem dX7_ofRule_19 : decode cX7_ofRule 19 = .ok (.aaload, 1) := by decide +kernel
theorem dX7_ofRule_20 : decode cX7_ofRule 20 = .ok (.astore_n 3, 1) := by decide +kernel
theorem dX7_ofRule_21 : decode cX7_ofRule 21 = .ok (.iload_n 2, 1) := by decide +kernel
theorem dX7_ofRule_22 : decode cX7_ofRule 22 = .ok (.ifCond .ne 8, 3) := by decide +kernel
theorem dX7_ofRule_30 : decode cX7_ofRule 30 = .ok (.iload_n 2, 1) := by decide +kernel
theorem dX7_ofRule_31 : decode cX7_ofRule 31 = .ok (.bipush 9, 2) := by decide +kernel
theorem dX7_ofRule_33 : decode cX7_ofRule 33 = .ok (.if_icmp .ne 8, 3) := by decide +kernel
theorem dX7_ofRule_41 : decode cX7_ofRule 41 = .ok (.iload_n 2, 1) := by decide +kernel
theorem dX7_ofRule_42 : decode cX7_ofRule 42 = .ok (.iconst 1, 1) := by decide +kernel
theorem dX7_ofRule_43 : decode cX7_ofRule 43 = .ok (.isub, 1) := by decide +kernel
theorem dX7_ofRule_44 : decode cX7_ofRule 44 = .ok (.iconst 2, 1) := by decide +kernel
theorem dX7_ofRule_45 : decode cX7_ofRule 45 = .ok (.idiv, 1) := by decide +kernel
theorem dX7_ofRule_46 : decode cX7_ofRule 46 = .ok (.istore 4, 2) := by decide +kernel
theorem dX7_ofRule_48 : decode cX7_ofRule 48 = .ok (.iload_n 2, 1) := by decide +kernel
theorem dX7_ofRule_49 : decode cX7_ofRule 49 = .ok (.iconst 2, 1) := by decide +kernel
theorem dX7_ofRule_50 : decode cX7_ofRule 50 = .ok (.irem, 1) := by decide +kernel
theorem dX7_ofRule_51 : decode cX7_ofRule 51 = .ok (.iconst 1, 1) := by decide +kernel
theorem dX7_ofRule_52 : decode cX7_ofRule 52 = .ok (.if_icmp .ne 13, 3) := by decide +kernel
theorem dX7_ofRule_65 : decode cX7_ofRule 65 = .ok (.aload_n 3, 1) := by decide +kernel
theorem dX7_ofRule_66 : decode cX7_ofRule 66 = .ok (.getfield 117, 3) := by decide +kernel
theorem dX7_ofRule_69 : decode cX7_ofRule 69 = .ok (.iload 4, 2) := by decide +kernel
theorem dX7_ofRule_71 : decode cX7_ofRule 71 = .ok (.iaload, 1) := by decide +kernel
theorem dX7_ofRule_72 : decode cX7_ofRule 72 = .ok (.ireturn, 1) := by decide +kernel
theorem dX7_ofRule_55 : decode cX7_ofRule 55 = .ok (.aload_n 3, 1) := by decide +kernel
theorem dX7_ofRule_56 : decode cX7_ofRule 56 = .ok (.getfield 114, 3) := by decide +kernel
theorem dX7_ofRule_59 : decode cX7_ofRule 59 = .ok (.iload 4, 2) := by decide +kernel
theorem dX7_ofRule_61 : decode cX7_ofRule 61 = .ok (.iaload, 1) := by decide +kernel
theorem dX7_ofRule_62 : decode cX7_ofRule 62 = .ok (.goto 10, 3) := by decide +kernel
theorem dX7_ofRule_36 : decode cX7_ofRule 36 = .ok (.aload_n 3, 1) := by decide +kernel
theorem dX7_ofRule_37 : decode cX7_ofRule 37 = .ok (.getfield 146, 3) := by decide +kernel
theorem dX7_ofRule_40 : decode cX7_ofRule 40 = .ok (.ireturn, 1) := by decide +kernel
theorem dX7_ofRule_25 : decode cX7_ofRule 25 = .ok (.aload_n 3, 1) := by decide +kernel
theorem dX7_ofRule_26 : decode cX7_ofRule 26 = .ok (.getfield 120, 3) := by decide +kernel
theorem dX7_ofRule_29 : decode cX7_ofRule 29 = .ok (.ireturn, 1) := by decide +kernel
/-- what is asked of a RULE -/
def zOf (X : Nat → Nat → Int) (q t : Nat) : Int := if t = 0 then X (zr X 0 q) 0 else if t = 9 then X (zr X 0 q) 1 else if t % 2 = 1 then X (zr X 0 q + 1) ((t - 1) / 2) else X (zr X 0 q + 2) ((t - 1) / 2)

set_option maxHeartbeats 4000000 in
set_option maxRecDepth 100000 in
/-- ofRule -/
theorem c_X7_ofRule (l : Launch) (G : zG) (ad : Nat → Nat) (X : Nat → Nat → Int) (q : Nat) (t : Nat) (hV : zV X) (hq : q < zN X 0) (ht : t ≤ 9) : zR l G yX7_ofRule wsX7_ofRule { frames := 1, cells := 0, slots := 0, locals := 21 } (zpic G ad X) [.ref (ad 52), .int (zi (q : Int)), .int (zi (t : Int))] (zq G ad X (fun w => w = zOf X q t)) 0 0 := by
  refine zR_of (cc := cX7_ofRule) (maxL := 5) (rt := (some .int)) (by decide) rfl (Nat.le_of_ble_eq_true rfl) ?_
  intro p e s m below meth c A ls hx hb hml hr hts hown hlocks hin0 hA hE hP hD hS hl
  have hl : lv_has ls 5 [(0, .ref (ad 52)), (1, .int (zi (q : Int))), (2, .int (zi (t : Int)))] := hl
  have hown : s.vm.findClass RX7 = some m.cls := hown
  have hn := hV.n (Or.inl rfl : zIsW 0)
  have hw7 : ∀ w ∈ u_ws RX7 TX7 8, w ∈ wsX7_ofRule := by decide +kernel
  have hf10 := hts (.fieldLink RX7 10 "Nettle" "wall" "LNettle$Wall;") (by decide +kernel)
  have hw6 : ∀ w ∈ u_ws RX6 TX6 3, w ∈ wsX7_ofRule := by decide +kernel
  have hf104 := hts (.fieldLink RX7 104 "Nettle$Wall" "rows" "[LNettle$Rule;") (by decide +kernel)
  have hw3 : ∀ w ∈ u_ws RX3 TX3 4, w ∈ wsX7_ofRule := by decide +kernel
  have hf117 := hts (.fieldLink RX7 117 "Nettle$Rule" "highs" "[I") (by decide +kernel)
  have hf114 := hts (.fieldLink RX7 114 "Nettle$Rule" "lows" "[I") (by decide +kernel)
  have hf146 := hts (.fieldLink RX7 146 "Nettle$Rule" "hits" "I") (by decide +kernel)
  have hf120 := hts (.fieldLink RX7 120 "Nettle$Rule" "verdict" "I") (by decide +kernel)
  refine lv_aload_n hx hb dX7_ofRule_0 rfl (lv_at hl 0 rfl) ?_
  refine lv_iload_n hx hb dX7_ofRule_1 rfl (lv_at hl 1 rfl) ?_
  refine zcall (wr := []) (va_runV (As := [.int (zi (q : Int))]) (rest := []) ⟨hx, hb, hml, hown, hts⟩ (c_X7_needRule l G ad X q hV (by omega) s.heap.size) (cwV 1 hts gX7_ofRule_X7_needRule rfl rfl rfl (by decide +kernel) ⟨Nat.le_of_ble_eq_true rfl, Nat.le_of_ble_eq_true rfl⟩) (zPreV (wr := []) (wc := zpic G ad X) (q0 := 52) (ci := 7) (q := (RX7, TX7, 8)) hP hD hE hS hA rfl p_52) rfl rfl hl.1 rfl (lv_room (Nat.le_of_ble_eq_true rfl)) dX7_ofRule_2 ⟨Nat.le_of_ble_eq_true rfl, Nat.le_of_ble_eq_true rfl⟩) hP hD hS hA (fun _ _ H locs hf hP hD hS => ?_)
  obtain ⟨rfl, rfl⟩ := hf
  have hP : va_P G.1 vwCl (zpic G ad X) H := hP
  have hD : va_D A (zpic G ad X) := hD
  refine W.eq (g2 := F0 m 5 ls []) rfl ?_
  refine lv_iload_n hx hb dX7_ofRule_5 rfl (lv_at hl 2 rfl) ?_
  refine lv_bipush (v := zi 9) hx hb dX7_ofRule_6 (by decide +kernel) ?_
  refine zcall (wr := []) (va_runS (As := [.int (zi (t : Int)), .int (zi 9)]) (rest := []) ⟨hx, hb, hml, hown, hts⟩ (c_X7_needWhat l G ad X (t : Int) 9 (by omega) H.size) (va_cwS 2 hts gX7_ofRule_X7_needWhat rfl rfl rfl (by decide +kernel) ⟨Nat.le_of_ble_eq_true rfl, Nat.le_of_ble_eq_true rfl⟩) (zPre (wr := []) (wc := zpic G ad X) (As := [.int (zi (t : Int)), .int (zi 9)]) hP hD hE hS hA).1 rfl rfl hl.1 rfl (lv_room (Nat.le_of_ble_eq_true rfl)) dX7_ofRule_8 ⟨Nat.le_of_ble_eq_true rfl, Nat.le_of_ble_eq_true rfl⟩) hP hD hS hA (fun _ _ H locs hf hP hD hS => ?_)
  obtain ⟨rfl, rfl⟩ := hf
  have hP : va_P G.1 vwCl (zpic G ad X) H := hP
  have hD : va_D A (zpic G ad X) := hD
  refine W.eq (g2 := F0 m 11 ls []) rfl ?_
  refine lv_aload_n hx hb dX7_ofRule_11 rfl (lv_at hl 0 rfl) ?_
  refine va_get (D := G.1) (ci := 7) (v := .ref (ad 0)) (C := RX7) (T := TX7) (N := 8) hx hb hts hw7 hown hE.1 hP 52 p_52 rfl 0 (by decide) hf10 (fun _ h9 => h9) rfl dX7_ofRule_12 ?_
  refine va_get (D := G.1) (ci := 6) (v := .ref (ad 1)) (C := RX6) (T := TX6) (N := 3) hx hb hts hw6 hown hE.1 hP 0 (p_w (Or.inl rfl)) rfl 0 (by decide) hf104 (fun _ h9 => h9) rfl dX7_ofRule_15 ?_
  refine lv_iload_n hx hb dX7_ofRule_18 rfl (lv_at hl 1 rfl) ?_
  refine zqld hx hb hE hP (Or.inl rfl) q rfl (by omega) dX7_ofRule_19 ?_
  have hR1 : zIsR (zr X 0 q) := hV.isR (Or.inl rfl) (by omega)
  refine lv_astore_n (lv' := [(3, .ref (ad (zr X 0 q))), (0, .ref (ad 52)), (1, .int (zi (q : Int))), (2, .int (zi (t : Int)))]) hx hb dX7_ofRule_20 rfl hl (by decide) rfl (fun ls hl => ?_)
  refine lv_iload_n hx hb dX7_ofRule_21 rfl (lv_at hl 3 rfl) ?_
  refine z0_ne (tgt := 30) hx hb dX7_ofRule_22 (by decide) (by omega) (fun h22 => ?_) (fun h22 => ?_)
  · refine lv_iload_n hx hb dX7_ofRule_30 rfl (lv_at hl 3 rfl) ?_
    refine lv_bipush (v := zi 9) hx hb dX7_ofRule_31 (by decide +kernel) ?_
    refine zc_ne (tgt := 41) hx hb dX7_ofRule_33 (by decide) (by omega) (by decide) (fun h33 => ?_) (fun h33 => ?_)
    · refine lv_iload_n hx hb dX7_ofRule_41 rfl (lv_at hl 3 rfl) ?_
      refine lv_iconst (v := zi 1) hx hb dX7_ofRule_42 rfl ?_
      refine lv_isub hx hb dX7_ofRule_43 (zti (v := zi ((t : Int) - 1)) (zi_sub _ _) ?_)
      refine lv_iconst (v := zi 2) hx hb dX7_ofRule_44 rfl ?_
      refine lv_idiv hx hb dX7_ofRule_45 (by decide +kernel) (zti (v := zi (((t - 1) / 2 : Nat) : Int)) (by rw [show (t : Int) - 1 = ((t - 1 : Nat) : Int) by omega]; exact zi_div (a := t - 1) (b := 2) (by omega) (by omega) (by omega)) ?_)
      refine lv_istore (lv' := [(4, .int (zi (((t - 1) / 2 : Nat) : Int))), (3, .ref (ad (zr X 0 q))), (0, .ref (ad 52)), (1, .int (zi (q : Int))), (2, .int (zi (t : Int)))]) hx hb dX7_ofRule_46 hl (by decide) rfl (fun ls hl => ?_)
      refine lv_iload_n hx hb dX7_ofRule_48 rfl (lv_at hl 4 rfl) ?_
      refine lv_iconst (v := zi 2) hx hb dX7_ofRule_49 rfl ?_
      refine lv_irem hx hb dX7_ofRule_50 (by decide +kernel) (zti (v := zi ((t % 2 : Nat) : Int)) (zi_rem (a := t) (b := 2) (by omega) (by omega) (by omega)) ?_)
      refine lv_iconst (v := zi 1) hx hb dX7_ofRule_51 rfl ?_
      refine zc_ne (tgt := 65) hx hb dX7_ofRule_52 (by decide) (by omega) (by decide) (fun h52 => ?_) (fun h52 => ?_)
      · refine lv_aload_n hx hb dX7_ofRule_65 rfl (lv_at hl 1 rfl) ?_
        refine va_get (D := G.1) (ci := 3) (v := .ref (ad ((zr X 0 q) + 2))) (C := RX3) (T := TX3) (N := 4) hx hb hts hw3 hown hE.1 hP (zr X 0 q) (p_r hR1) rfl 3 (by decide) hf117 (fun _ h9 => h9) rfl dX7_ofRule_66 ?_
        refine lv_iload hx hb dX7_ofRule_69 (lv_at hl 0 rfl) ?_
        refine zild hx hb hE hP ((zr X 0 q) + 2) 4 (a_h hR1) (by have := hR1.lt; omega) ((t - 1) / 2) rfl (by omega) (by decide) dX7_ofRule_71 ?_
        exact zend_i hx hb hr hlocks hP hD hS (Nat.le_of_ble_eq_true rfl) (Nat.le_of_ble_eq_true rfl) dX7_ofRule_72 ⟨_, rfl, (by unfold zOf; split; (first | rfl | (exfalso; omega)); (split; (first | rfl | (exfalso; omega)); (split; (first | rfl | (exfalso; omega)); (first | rfl | (exfalso; omega))))), rfl⟩
      · refine lv_aload_n hx hb dX7_ofRule_55 rfl (lv_at hl 1 rfl) ?_
        refine va_get (D := G.1) (ci := 3) (v := .ref (ad ((zr X 0 q) + 1))) (C := RX3) (T := TX3) (N := 4) hx hb hts hw3 hown hE.1 hP (zr X 0 q) (p_r hR1) rfl 2 (by decide) hf114 (fun _ h9 => h9) rfl dX7_ofRule_56 ?_
        refine lv_iload hx hb dX7_ofRule_59 (lv_at hl 0 rfl) ?_
        refine zild hx hb hE hP ((zr X 0 q) + 1) 4 (a_l hR1) (by have := hR1.lt; omega) ((t - 1) / 2) rfl (by omega) (by decide) dX7_ofRule_61 ?_
        refine lv_goto (tgt := 72) hx hb dX7_ofRule_62 (by decide) ?_
        exact zend_i hx hb hr hlocks hP hD hS (Nat.le_of_ble_eq_true rfl) (Nat.le_of_ble_eq_true rfl) dX7_ofRule_72 ⟨_, rfl, (by unfold zOf; split; (first | rfl | (exfalso; omega)); (split; (first | rfl | (exfalso; omega)); (split; (first | rfl | (exfalso; omega)); (first | rfl | (exfalso; omega))))), rfl⟩
    · refine lv_aload_n hx hb dX7_ofRule_36 rfl (lv_at hl 0 rfl) ?_
      refine va_get (D := G.1) (ci := 3) (v := .int (zi (X (zr X 0 q) 1))) (C := RX3) (T := TX3) (N := 4) hx hb hts hw3 hown hE.1 hP (zr X 0 q) (p_r hR1) rfl 1 (by decide) hf146 (fun _ h9 => h9) rfl dX7_ofRule_37 ?_
      exact zend_i hx hb hr hlocks hP hD hS (Nat.le_of_ble_eq_true rfl) (Nat.le_of_ble_eq_true rfl) dX7_ofRule_40 ⟨_, rfl, (by unfold zOf; split; (first | rfl | (exfalso; omega)); (split; (first | rfl | (exfalso; omega)); (split; (first | rfl | (exfalso; omega)); (first | rfl | (exfalso; omega))))), rfl⟩
  · refine lv_aload_n hx hb dX7_ofRule_25 rfl (lv_at hl 0 rfl) ?_
    refine va_get (D := G.1) (ci := 3) (v := .int (zi (X (zr X 0 q) 0))) (C := RX3) (T := TX3) (N := 4) hx hb hts hw3 hown hE.1 hP (zr X 0 q) (p_r hR1) rfl 0 (by decide) hf120 (fun _ h9 => h9) rfl dX7_ofRule_26 ?_
    exact zend_i hx hb hr hlocks hP hD hS (Nat.le_of_ble_eq_true rfl) (Nat.le_of_ble_eq_true rfl) dX7_ofRule_29 ⟨_, rfl, (by unfold zOf; split; (first | rfl | (exfalso; omega)); (split; (first | rfl | (exfalso; omega)); (split; (first | rfl | (exfalso; omega)); (first | rfl | (exfalso; omega))))), rfl⟩
end
section
/-! Nettle: decider -/
theorem dX7_decider_0 : decode cX7_decider 0 = .ok (.aload_n 0, 1) := by decide +kernel
theorem dX7_decider_1 : decode cX7_decider 1 = .ok (.iload_n 1, 1) := by decide +kernel
theorem dX7_decider_2 : decode cX7_decider 2 = .ok (.iload_n 2, 1) := by decide +kernel
theorem dX7_decider_3 : decode cX7_decider 3 = .ok (.iload_n 3, 1) := by decide +kernel
theorem dX7_decider_4 : decode cX7_decider 4 = .ok (.iload 4, 2) := by decide +kernel
set_option maxRecDepth 20000 in
theorem ggX7_decider_X7_takePacket : GoodIn wsX7_decider wsX7_takePacket := goodIn_ca (goodIn_r _ [9, 10, 11, 4, 12, 13, 8, 14, 15, 32, 33, 34, 35, 36, 37, 38, 39] (by decide +kernel) (by decide +kernel)) (goodIn_sub (fun _ h => List.mem_cons_of_mem _ (List.mem_append_right _ h)) (by decide +kernel))
set_option maxRecDepth 20000 in
theorem gX7_decider_X7_takePacket : GoodIn wsX7_decider (wsV RX7 177 RX7 yX7_takePacket wsX7_takePacket) := goodIn_app (goodIn_of _ (by decide +kernel)) ggX7_decider_X7_takePacket
theorem dX7_decider_6 : decode cX7_decider 6 = .ok (.invokevirtual 177, 3) := by decide +kernel
theorem dX7_decider_9 : decode cX7_decider 9 = .ok (.iconst 0, 1) := by decide +kernel
theorem dX7_decider_10 : decode cX7_decider 10 = .ok (.istore 5, 2) := by decide +kernel
theorem dX7_decider_12 : decode cX7_decider 12 = .ok (.iload 5, 2) := by decide +kernel
theorem dX7_decider_14 : decode cX7_decider 14 = .ok (.aload_n 0, 1) := by decide +kernel
theorem dX7_decider_15 : decode cX7_decider 15 = .ok (.getfield 10, 3) := by decide +kernel
theorem dX7_decider_18 : decode cX7_decider 18 = .ok (.getfield 70, 3) := by decide +kernel
theorem dX7_decider_21 : decode cX7_decider 21 = .ok (.if_icmp .ge 48, 3) := by decide +kernel
theorem dX7_decider_69 : decode cX7_decider 69 = .ok (.iconst (-1), 1) := by decide +kernel
theorem dX7_decider_70 : decode cX7_decider 70 = .ok (.ireturn, 1) := by decide +kernel
theorem dX7_decider_24 : decode cX7_decider 24 = .ok (.aload_n 0, 1) := by decide +kernel
theorem dX7_decider_25 : decode cX7_decider 25 = .ok (.getfield 10, 3) := by decide +kernel
theorem dX7_decider_28 : decode cX7_decider 28 = .ok (.getfield 104, 3) := by decide +kernel
theorem dX7_decider_31 : decode cX7_decider 31 = .ok (.iload 5, 2) := by decide +kernel
theorem dX7_decider_33 : decode cX7_decider 33 = .ok (.aaload, 1) := by decide +kernel
set_option maxRecDepth 20000 in
theorem ggX7_decider_X3_isNote : GoodIn wsX7_decider wsX3_isNote := goodIn_r _ [20, 21, 43, 44, 45, 46] (by decide +kernel) (by decide +kernel)
set_option maxRecDepth 20000 in
theorem gX7_decider_X3_isNote : GoodIn wsX7_decider (wsV RX7 181 RX3 yX3_isNote wsX3_isNote) := goodIn_app (goodIn_of _ (by decide +kernel)) ggX7_decider_X3_isNote
theorem dX7_decider_34 : decode cX7_decider 34 = .ok (.invokevirtual 181, 3) := by decide +kernel
theorem dX7_decider_37 : decode cX7_decider 37 = .ok (.ifCond .ne 26, 3) := by decide +kernel
theorem dX7_decider_63 : decode cX7_decider 63 = .ok (.iinc 5 1, 3) := by decide +kernel
theorem dX7_decider_66 : decode cX7_decider 66 = .ok (.goto (-54), 3) := by decide +kernel
theorem dX7_decider_40 : decode cX7_decider 40 = .ok (.aload_n 0, 1) := by decide +kernel
theorem dX7_decider_41 : decode cX7_decider 41 = .ok (.getfield 10, 3) := by decide +kernel
theorem dX7_decider_44 : decode cX7_decider 44 = .ok (.getfield 104, 3) := by decide +kernel
theorem dX7_decider_47 : decode cX7_decider 47 = .ok (.iload 5, 2) := by decide +kernel
theorem dX7_decider_49 : decode cX7_decider 49 = .ok (.aaload, 1) := by decide +kernel
theorem dX7_decider_50 : decode cX7_decider 50 = .ok (.aload_n 0, 1) := by decide +kernel
theorem dX7_decider_51 : decode cX7_decider 51 = .ok (.getfield 62, 3) := by decide +kernel
set_option maxRecDepth 20000 in
theorem ggX7_decider_X3_meets : GoodIn wsX7_decider wsX3_meets := goodIn_r _ [25, 26, 27, 28, 19, 29, 30, 31, 43, 44, 45, 46] (by decide +kernel) (by decide +kernel)
set_option maxRecDepth 20000 in
theorem gX7_decider_X3_meets : GoodIn wsX7_decider (wsV RX7 185 RX3 yX3_meets wsX3_meets) := goodIn_app (goodIn_of _ (by decide +kernel)) ggX7_decider_X3_meets
theorem dX7_decider_54 : decode cX7_decider 54 = .ok (.invokevirtual 185, 3) := by decide +kernel
theorem dX7_decider_57 : decode cX7_decider 57 = .ok (.ifCond .eq 6, 3) := by decide +kernel
theorem dX7_decider_60 : decode cX7_decider 60 = .ok (.iload 5, 2) := by decide +kernel
theorem dX7_decider_62 : decode cX7_decider 62 = .ok (.ireturn, 1) := by decide +kernel
/-- the RULE that decides the PACKET in the row 70 -/
def zDcd (X : Nat → Nat → Int) (w : Int) : Prop := (∃ k : Nat, k < zN X 0 ∧ w = (k : Int) ∧ (X (zr X 0 k) 0 ≠ 2 ∧ zMeets X (zr X 0 k)) ∧ ∀ j : Nat, j < k → ¬ (X (zr X 0 j) 0 ≠ 2 ∧ zMeets X (zr X 0 j))) ∨ (w = -1 ∧ ∀ j : Nat, j < zN X 0 → ¬ (X (zr X 0 j) 0 ≠ 2 ∧ zMeets X (zr X 0 j)))
theorem zPkt {X : Nat → Nat → Int} {p0 p1 p2 p3 : Int} (h0 : 0 ≤ p0 ∧ p0 < 256) (h1 : 0 ≤ p1 ∧ p1 < 256) (h2 : 0 ≤ p2 ∧ p2 < 1024) (h3 : 0 ≤ p3 ∧ p3 < 4) : zPk (zw (zw (zw (zw X 70 0 p0) 70 1 p1) 70 2 p2) 70 3 p3) := by
  intro g hg
  have h : g = 0 ∨ g = 1 ∨ g = 2 ∨ g = 3 := by omega
  rcases h with rfl | rfl | rfl | rfl <;> simp [zw_get, zS] <;> omega

set_option maxHeartbeats 4000000 in
set_option maxRecDepth 100000 in
/-- decider -/
theorem c_X7_decider (l : Launch) (G : zG) (ad : Nat → Nat) (X : Nat → Nat → Int) (p0 : Int) (p1 : Int) (p2 : Int) (p3 : Int) (hV : zV X) (hp0 : 0 ≤ p0 ∧ p0 < 256) (hp1 : 0 ≤ p1 ∧ p1 < 256) (hp2 : 0 ≤ p2 ∧ p2 < 1024) (hp3 : 0 ≤ p3 ∧ p3 < 4) : zR l G yX7_decider wsX7_decider { frames := 2, cells := 0, slots := 0, locals := 45 } (zpic G ad X) [.ref (ad 52), .int (zi p0), .int (zi p1), .int (zi p2), .int (zi p3)] (zu G ad (fun w Y => Y = zw (zw (zw (zw X 70 0 p0) 70 1 p1) 70 2 p2) 70 3 p3 ∧ zDcd Y w)) 0 0 := by
  refine zR_of (cc := cX7_decider) (maxL := 6) (rt := (some .int)) (by decide) rfl (Nat.le_of_ble_eq_true rfl) ?_
  intro p e s m below meth c A ls hx hb hml hr hts hown hlocks hin0 hA hE hP hD hS hl
  have hl : lv_has ls 6 [(0, .ref (ad 52)), (1, .int (zi p0)), (2, .int (zi p1)), (3, .int (zi p2)), (4, .int (zi p3))] := hl
  have hown : s.vm.findClass RX7 = some m.cls := hown
  have hw7 : ∀ w ∈ u_ws RX7 TX7 8, w ∈ wsX7_decider := by decide +kernel
  have hf10 := hts (.fieldLink RX7 10 "Nettle" "wall" "LNettle$Wall;") (by decide +kernel)
  have hw6 : ∀ w ∈ u_ws RX6 TX6 3, w ∈ wsX7_decider := by decide +kernel
  have hf70 := hts (.fieldLink RX7 70 "Nettle$Wall" "count" "I") (by decide +kernel)
  have hf104 := hts (.fieldLink RX7 104 "Nettle$Wall" "rows" "[LNettle$Rule;") (by decide +kernel)
  have hf62 := hts (.fieldLink RX7 62 "Nettle" "packet" "[I") (by decide +kernel)
  refine lv_aload_n hx hb dX7_decider_0 rfl (lv_at hl 0 rfl) ?_
  refine lv_iload_n hx hb dX7_decider_1 rfl (lv_at hl 1 rfl) ?_
  refine lv_iload_n hx hb dX7_decider_2 rfl (lv_at hl 2 rfl) ?_
  refine lv_iload_n hx hb dX7_decider_3 rfl (lv_at hl 3 rfl) ?_
  refine lv_iload hx hb dX7_decider_4 (lv_at hl 4 rfl) ?_
  refine zcall (wr := []) (va_runV (As := [.int (zi p0), .int (zi p1), .int (zi p2), .int (zi p3)]) (rest := []) ⟨hx, hb, hml, hown, hts⟩ (c_X7_takePacket l G ad X p0 p1 p2 p3 (by omega) (by omega) (by omega) (by omega) s.heap.size) (cwV 4 hts gX7_decider_X7_takePacket rfl rfl rfl (by decide +kernel) ⟨Nat.le_of_ble_eq_true rfl, Nat.le_of_ble_eq_true rfl⟩) (zPreV (wr := []) (wc := zpic G ad X) (q0 := 52) (ci := 7) (q := (RX7, TX7, 8)) hP hD hE hS hA rfl p_52) rfl rfl hl.1 rfl (lv_room (Nat.le_of_ble_eq_true rfl)) dX7_decider_6 ⟨Nat.le_of_ble_eq_true rfl, Nat.le_of_ble_eq_true rfl⟩) hP hD hS hA (fun _ _ H locs hf hP hD hS => ?_)
  obtain ⟨X1, rfl, hX1, rfl⟩ := hf
  have hP : va_P G.1 vwCl (zpic G ad X1) H := hP
  have hD : va_D A (zpic G ad X1) := hD
  refine W.eq (g2 := F0 m 9 ls []) rfl ?_
  have hV1 : zV X1 := hV.eq (fun k h9 => by rw [hX1, zw_cell (by omega), zw_cell (by omega), zw_cell (by omega), zw_cell (by omega)])
  have hp : zPk X1 := by rw [hX1]; exact zPkt hp0 hp1 hp2 hp3
  have hn := hV1.n (Or.inl rfl : zIsW 0)
  refine lv_iconst (v := zi 0) hx hb dX7_decider_9 rfl ?_
  refine lv_istore (lv' := [(5, .int (zi 0)), (0, .ref (ad 52)), (1, .int (zi p0)), (2, .int (zi p1)), (3, .int (zi p2)), (4, .int (zi p3))]) hx hb dX7_decider_10 hl (by decide) rfl (fun ls hl => ?_)
  refine zloop1 (fun (k : Nat) => 8 - k) (fun (k : Nat) (H : Heap) (locs : List Loc) (ls : Array Slot) => va_P G.1 vwCl (zpic G ad X1) H ∧ va_D A (zpic G ad X1) ∧ va_S A s.heap H locs ∧ lv_has ls 6 [(5, .int (zi (k : Int))), (0, .ref (ad 52))] ∧ (k ≤ zN X1 0) ∧ (∀ j : Nat, j < k → ¬ (X1 (zr X1 0 j) 0 ≠ 2 ∧ zMeets X1 (zr X1 0 j)))) ?_ 0 ⟨hP, hD, hS, lv_sub hl [0, 1] rfl, (by omega), (fun j h1 => by omega)⟩
  intro k ih H locs ls ⟨hP, hD, hS, hl, hk, hw⟩
  refine lv_iload hx hb dX7_decider_12 (lv_at hl 0 rfl) ?_
  refine lv_aload_n hx hb dX7_decider_14 rfl (lv_at hl 1 rfl) ?_
  refine va_get (D := G.1) (ci := 7) (v := .ref (ad 0)) (C := RX7) (T := TX7) (N := 8) hx hb hts hw7 hown hE.1 hP 52 p_52 rfl 0 (by decide) hf10 (fun _ h9 => h9) rfl dX7_decider_15 ?_
  refine va_get (D := G.1) (ci := 6) (v := .int (zi (X1 0 1))) (C := RX6) (T := TX6) (N := 3) hx hb hts hw6 hown hE.1 hP 0 (p_w (Or.inl rfl)) rfl 1 (by decide) hf70 (fun _ h9 => h9) rfl dX7_decider_18 ?_
  refine zc_ge (tgt := 69) hx hb dX7_decider_21 (by decide) (by omega) (by omega) (fun h21 => ?_) (fun h21 => ?_)
  · refine lv_iconst (v := zi (-1)) hx hb dX7_decider_69 rfl ?_
    exact zend_i hx hb hr hlocks hP hD hS (Nat.le_of_ble_eq_true rfl) (Nat.le_of_ble_eq_true rfl) dX7_decider_70 ⟨_, _, rfl, ⟨hX1, Or.inr ⟨rfl, fun j h => hw j (by omega)⟩⟩, rfl⟩
  · refine lv_aload_n hx hb dX7_decider_24 rfl (lv_at hl 1 rfl) ?_
    refine va_get (D := G.1) (ci := 7) (v := .ref (ad 0)) (C := RX7) (T := TX7) (N := 8) hx hb hts hw7 hown hE.1 hP 52 p_52 rfl 0 (by decide) hf10 (fun _ h9 => h9) rfl dX7_decider_25 ?_
    refine va_get (D := G.1) (ci := 6) (v := .ref (ad 1)) (C := RX6) (T := TX6) (N := 3) hx hb hts hw6 hown hE.1 hP 0 (p_w (Or.inl rfl)) rfl 0 (by decide) hf104 (fun _ h9 => h9) rfl dX7_decider_28 ?_
    refine lv_iload hx hb dX7_decider_31 (lv_at hl 0 rfl) ?_
    refine zqld hx hb hE hP (Or.inl rfl) k rfl (by omega) dX7_decider_33 ?_
    have hR1 : zIsR (zr X1 0 k) := hV1.isR (Or.inl rfl) (by omega)
    refine zcall (wr := []) (va_runV (As := []) (rest := []) ⟨hx, hb, hml, hown, hts⟩ (c_X3_isNote l G ad X1 (zr X1 0 k) hV1 hR1 H.size) (cwV 0 hts gX7_decider_X3_isNote rfl rfl rfl (by decide +kernel) ⟨Nat.le_of_ble_eq_true rfl, Nat.le_of_ble_eq_true rfl⟩) (zPreV (wr := []) (wc := zpic G ad X1) (q0 := (zr X1 0 k)) (ci := 3) (q := (RX3, TX3, 4)) hP hD hE hS hA rfl (p_r hR1)) rfl rfl hl.1 rfl (lv_room (Nat.le_of_ble_eq_true rfl)) dX7_decider_34 ⟨Nat.le_of_ble_eq_true rfl, Nat.le_of_ble_eq_true rfl⟩) hP hD hS hA (fun _ _ H locs hf hP hD hS => ?_)
    obtain ⟨v1, rfl, hv1, rfl⟩ := hf
    have hP : va_P G.1 vwCl (zpic G ad X1) H := hP
    have hD : va_D A (zpic G ad X1) := hD
    refine W.eq (g2 := F0 m 37 ls [.int (zi v1)]) rfl ?_
    refine z0_ne (tgt := 63) hx hb dX7_decider_37 (by decide) (by omega) (fun h37 => ?_) (fun h37 => ?_)
    · refine lv_iinc (v := zi ((k : Int) + 1)) (lv' := [(5, .int (zi ((k : Int) + 1))), (0, .ref (ad 52))]) hx hb dX7_decider_63 hl (k := 0) rfl (zi_add _ _) (by decide) rfl (fun ls hl => ?_)
      refine lv_goto (tgt := 12) hx hb dX7_decider_66 (by decide) ?_
      exact ih (k + 1) (by omega) H locs ls ⟨hP, hD, hS, lv_sub hl [0, 1] rfl, (by omega), (fun j h1 => by by_cases hk : j < k; exact hw j hk; have hjk : j = k := (by omega); rw [hjk]; exact fun z => by have := z.1; omega)⟩
    · refine lv_aload_n hx hb dX7_decider_40 rfl (lv_at hl 1 rfl) ?_
      refine va_get (D := G.1) (ci := 7) (v := .ref (ad 0)) (C := RX7) (T := TX7) (N := 8) hx hb hts hw7 hown hE.1 hP 52 p_52 rfl 0 (by decide) hf10 (fun _ h9 => h9) rfl dX7_decider_41 ?_
      refine va_get (D := G.1) (ci := 6) (v := .ref (ad 1)) (C := RX6) (T := TX6) (N := 3) hx hb hts hw6 hown hE.1 hP 0 (p_w (Or.inl rfl)) rfl 0 (by decide) hf104 (fun _ h9 => h9) rfl dX7_decider_44 ?_
      refine lv_iload hx hb dX7_decider_47 (lv_at hl 0 rfl) ?_
      refine zqld hx hb hE hP (Or.inl rfl) k rfl (by omega) dX7_decider_49 ?_
      refine lv_aload_n hx hb dX7_decider_50 rfl (lv_at hl 1 rfl) ?_
      refine va_get (D := G.1) (ci := 7) (v := .ref (ad 70)) (C := RX7) (T := TX7) (N := 8) hx hb hts hw7 hown hE.1 hP 52 p_52 rfl 7 (by decide) hf62 (fun _ h9 => h9) rfl dX7_decider_51 ?_
      refine zcall (wr := []) (va_runV (As := [.ref (ad 70)]) (rest := []) ⟨hx, hb, hml, hown, hts⟩ (c_X3_meets l G ad X1 (zr X1 0 k) hV1 hR1 hp H.size) (cwV 1 hts gX7_decider_X3_meets rfl rfl rfl (by decide +kernel) ⟨Nat.le_of_ble_eq_true rfl, Nat.le_of_ble_eq_true rfl⟩) (zPreV (wr := []) (wc := zpic G ad X1) (q0 := (zr X1 0 k)) (ci := 3) (q := (RX3, TX3, 4)) hP hD hE hS hA rfl (p_r hR1)) rfl rfl hl.1 rfl (lv_room (Nat.le_of_ble_eq_true rfl)) dX7_decider_54 ⟨Nat.le_of_ble_eq_true rfl, Nat.le_of_ble_eq_true rfl⟩) hP hD hS hA (fun _ _ H locs hf hP hD hS => ?_)
      obtain ⟨v2, rfl, hv2, rfl⟩ := hf
      have hP : va_P G.1 vwCl (zpic G ad X1) H := hP
      have hD : va_D A (zpic G ad X1) := hD
      refine W.eq (g2 := F0 m 57 ls [.int (zi v2)]) rfl ?_
      refine z0_eq (tgt := 63) hx hb dX7_decider_57 (by decide) (by omega) (fun h57 => ?_) (fun h57 => ?_)
      · refine lv_iinc (v := zi ((k : Int) + 1)) (lv' := [(5, .int (zi ((k : Int) + 1))), (0, .ref (ad 52))]) hx hb dX7_decider_63 hl (k := 0) rfl (zi_add _ _) (by decide) rfl (fun ls hl => ?_)
        refine lv_goto (tgt := 12) hx hb dX7_decider_66 (by decide) ?_
        exact ih (k + 1) (by omega) H locs ls ⟨hP, hD, hS, lv_sub hl [0, 1] rfl, (by omega), (fun j h1 => by by_cases hk : j < k; exact hw j hk; have hjk : j = k := (by omega); rw [hjk]; exact fun z => by rcases hv2 with h | h; omega; exact h.2 z.2)⟩
      · refine lv_iload hx hb dX7_decider_60 (lv_at hl 0 rfl) ?_
        exact zend_i hx hb hr hlocks hP hD hS (Nat.le_of_ble_eq_true rfl) (Nat.le_of_ble_eq_true rfl) dX7_decider_62 ⟨_, _, rfl, ⟨hX1, Or.inl ⟨k, by omega, rfl, ⟨by omega, by rcases hv2 with h | h; exact h.2; omega⟩, hw⟩⟩, rfl⟩
end
section
/-! ===== counting PACKETS ===== -/
def zsum : Nat → (Nat → Nat) → Nat
  | 0, _ => 0
  | n + 1, f => zsum n f + f n
theorem zsum_congr {n : Nat} {f g : Nat → Nat} (h : ∀ i : Nat, i < n → f i = g i) : zsum n f = zsum n g := by
  induction n with
  | zero => rfl
  | succ n ih =>
    show zsum n f + f n = zsum n g + g n
    rw [ih (fun i hi => h i (by omega)), h n (by omega)]
theorem zsum_add (n : Nat) (f g : Nat → Nat) : zsum n (fun i => f i + g i) = zsum n f + zsum n g := by
  induction n with
  | zero => rfl
  | succ n ih =>
    show zsum n (fun i => f i + g i) + (f n + g n) = (zsum n f + f n) + (zsum n g + g n)
    rw [ih]
    omega
theorem zsum_mul (n c : Nat) (f : Nat → Nat) : zsum n (fun i => f i * c) = zsum n f * c := by
  induction n with
  | zero => show 0 = 0 * c; rw [Nat.zero_mul]
  | succ n ih =>
    show zsum n (fun i => f i * c) + f n * c = (zsum n f + f n) * c
    rw [ih, Nat.add_mul]
theorem zsum_zero (n : Nat) : zsum n (fun _ => 0) = 0 := by
  induction n with
  | zero => rfl
  | succ n ih =>
    show zsum n (fun _ => 0) + 0 = 0
    rw [ih]
/-- an interval of a FIELD -/
def zIv (lo hi : Int) (v : Nat) : Bool := decide (lo ≤ (v : Int)) && decide ((v : Int) ≤ hi)
theorem zIv_iff {lo hi : Int} {v : Nat} : zIv lo hi v = true ↔ lo ≤ (v : Int) ∧ (v : Int) ≤ hi := by
  unfold zIv
  rw [Bool.and_eq_true, decide_eq_true_iff, decide_eq_true_iff]
/-- how many numbers below n lie from lo to hi -/
theorem zsum_iv (n : Nat) (lo hi : Int) (h0 : 0 ≤ lo) : ((zsum n (fun i => if zIv lo hi i then 1 else 0) : Nat) : Int) = max 0 (min hi ((n : Int) - 1) - lo + 1) := by
  induction n with
  | zero =>
    show ((0 : Nat) : Int) = _
    omega
  | succ n ih =>
    have e : zsum (n + 1) (fun i => if zIv lo hi i then 1 else 0) = zsum n (fun i => if zIv lo hi i then 1 else 0) + (if zIv lo hi n then 1 else 0) := rfl
    rw [e]
    generalize zsum n (fun i => if zIv lo hi i then 1 else 0) = t at ih
    by_cases h : zIv lo hi n = true
    · rw [if_pos h]
      have h2 := zIv_iff.mp h
      omega
    · rw [if_neg h]
      have h2 : ¬ (lo ≤ (n : Int) ∧ (n : Int) ≤ hi) := fun q => h (zIv_iff.mpr q)
      omega
/-- how many points of a box of sizes S p holds of -/
def zct (S : Nat → Nat) (p : Nat → Nat → Nat → Nat → Bool) : Nat := zsum (S 0) fun a => zsum (S 1) fun b => zsum (S 2) fun c => zsum (S 3) fun d => if p a b c d then 1 else 0
section ZCT
variable {S : Nat → Nat}
theorem zct_congr {p q : Nat → Nat → Nat → Nat → Bool} (h : ∀ a b c d : Nat, a < S 0 → b < S 1 → c < S 2 → d < S 3 → p a b c d = q a b c d) : zct S p = zct S q := by
  unfold zct
  exact zsum_congr fun a ha => zsum_congr fun b hb => zsum_congr fun c hc => zsum_congr fun d hd => by rw [h a b c d ha hb hc hd]
theorem zct_add (p q : Nat → Nat → Nat → Nat → Bool) : zct S p = zct S (fun a b c d => p a b c d && q a b c d) + zct S (fun a b c d => p a b c d && !q a b c d) := by
  unfold zct
  rw [← zsum_add]
  refine zsum_congr fun a _ => ?_
  rw [← zsum_add]
  refine zsum_congr fun b _ => ?_
  rw [← zsum_add]
  refine zsum_congr fun c _ => ?_
  rw [← zsum_add]
  refine zsum_congr fun d _ => ?_
  show (if p a b c d then 1 else 0) = (if p a b c d && q a b c d then 1 else 0) + (if p a b c d && !q a b c d then 1 else 0)
  cases p a b c d <;> cases q a b c d <;> rfl
theorem zct_box (i0 i1 i2 i3 : Nat → Bool) : zct S (fun a b c d => i0 a && i1 b && i2 c && i3 d) = zsum (S 0) (fun a => if i0 a then 1 else 0) * zsum (S 1) (fun a => if i1 a then 1 else 0) * zsum (S 2) (fun a => if i2 a then 1 else 0) * zsum (S 3) (fun a => if i3 a then 1 else 0) := by
  unfold zct
  generalize S 0 = n0
  generalize S 1 = n1
  generalize S 2 = n2
  generalize S 3 = n3
  have h3 : ∀ u : Bool, zsum n3 (fun d => if u && i3 d then 1 else 0) = (if u then 1 else 0) * zsum n3 (fun a => if i3 a then 1 else 0) := by
    intro u
    cases u
    · simp [zsum_zero]
    · simp
  have h2 : ∀ u : Bool, zsum n2 (fun c => zsum n3 (fun d => if u && i2 c && i3 d then 1 else 0)) = (if u then 1 else 0) * (zsum n2 (fun a => if i2 a then 1 else 0) * zsum n3 (fun a => if i3 a then 1 else 0)) := by
    intro u
    rw [zsum_congr (fun c _ => h3 (u && i2 c)), zsum_mul]
    cases u
    · simp [zsum_zero]
    · simp
  have h1 : ∀ u : Bool, zsum n1 (fun b => zsum n2 (fun c => zsum n3 (fun d => if u && i1 b && i2 c && i3 d then 1 else 0))) = (if u then 1 else 0) * (zsum n1 (fun a => if i1 a then 1 else 0) * (zsum n2 (fun a => if i2 a then 1 else 0) * zsum n3 (fun a => if i3 a then 1 else 0))) := by
    intro u
    rw [zsum_congr (fun b _ => h2 (u && i1 b)), zsum_mul]
    cases u
    · simp [zsum_zero]
    · simp
  rw [zsum_congr (fun a _ => h1 (i0 a)), zsum_mul, Nat.mul_assoc, Nat.mul_assoc]
theorem zct_false : zct S (fun _ _ _ _ => false) = 0 := by
  unfold zct
  simp [zsum_zero]
theorem zct_ivs {l0 h0 l1 h1 l2 h2 l3 h3 : Int} (b0 : 0 ≤ l0 ∧ h0 < S 0) (b1 : 0 ≤ l1 ∧ h1 < S 1) (b2 : 0 ≤ l2 ∧ h2 < S 2) (b3 : 0 ≤ l3 ∧ h3 < S 3) :
    ((zct S (fun a b c d => zIv l0 h0 a && zIv l1 h1 b && zIv l2 h2 c && zIv l3 h3 d) : Nat) : Int) = max 0 (h0 - l0 + 1) * max 0 (h1 - l1 + 1) * max 0 (h2 - l2 + 1) * max 0 (h3 - l3 + 1) := by
  have key : ∀ (f : Nat) (lo hi : Int), 0 ≤ lo → hi < (S f : Int) → ((zsum (S f) (fun i => if zIv lo hi i then 1 else 0) : Nat) : Int) = max 0 (hi - lo + 1) := by
    intro f lo hi q1 q2
    have h := zsum_iv (S f) lo hi q1
    have h6 : min hi ((S f : Int) - 1) = hi := by omega
    rw [h6] at h
    exact h
  rw [zct_box, Int.natCast_mul, Int.natCast_mul, Int.natCast_mul, key 0 l0 h0 b0.1 b0.2, key 1 l1 h1 b1.1 b1.2, key 2 l2 h2 b2.1 b2.2, key 3 l3 h3 b3.1 b3.2]
end ZCT
end
section
/-! ===== how many PACKETS meet just these RULES ===== -/
/-- the size of a FIELD -/
def zSn (f : Nat) : Nat := (zS f).toNat
theorem zSn_eq (f : Nat) : ((zSn f : Nat) : Int) = zS f := by
  have h := zS_le f
  unfold zSn
  omega
def zBx (X : Nat → Nat → Int) (r a b c d : Nat) : Bool := zIv (X (r + 1) 0) (X (r + 2) 0) a && zIv (X (r + 1) 1) (X (r + 2) 1) b && zIv (X (r + 1) 2) (X (r + 2) 2) c && zIv (X (r + 1) 3) (X (r + 2) 3) d
/-- the RULES that a PACKET meets -/
def zMs (X : Nat → Nat → Int) (a b c d : Nat) : Nat := zSet (zN X 0) (fun i => zBx X (zr X 0 i) a b c d)
theorem zMs_bit (X : Nat → Nat → Int) (a b c d i : Nat) : (zMs X a b c d).testBit i = (decide (i < zN X 0) && zBx X (zr X 0 i) a b c d) := zSet_bit _ _ _
theorem zMs_lt (X : Nat → Nat → Int) (a b c d : Nat) : zMs X a b c d < 2 ^ zN X 0 := zSet_lt _ _
def zmu (X : Nat → Nat → Int) (p : Nat → Bool) : Int := ((zct zSn (fun a b c d => p (zMs X a b c d)) : Nat) : Int)
section ZMU
variable {X : Nat → Nat → Int}
theorem zmu_nn (p : Nat → Bool) : 0 ≤ zmu X p := Int.natCast_nonneg _
theorem zmu_add (p q : Nat → Bool) : zmu X p = zmu X (fun m => p m && q m) + zmu X (fun m => p m && !q m) := by
  unfold zmu
  rw [zct_add (fun a b c d => p (zMs X a b c d)) (fun a b c d => q (zMs X a b c d)), Int.natCast_add]
theorem zmu_congr {p q : Nat → Bool} (h : ∀ m : Nat, m < 2 ^ zN X 0 → p m = q m) : zmu X p = zmu X q := by
  unfold zmu
  exact congrArg _ (zct_congr fun a b c d _ _ _ _ => h _ (zMs_lt X a b c d))
theorem zmu_none {p : Nat → Bool} (h : ∀ m : Nat, m < 2 ^ zN X 0 → p m = false) : zmu X p = 0 := by
  rw [zmu_congr (q := fun _ => false) h]
  unfold zmu
  rw [zct_false]
  rfl
theorem zmu_le {p q : Nat → Bool} (h : ∀ m : Nat, m < 2 ^ zN X 0 → p m = true → q m = true) : zmu X p ≤ zmu X q := by
  have h1 := zmu_add (X := X) q p
  have h2 : zmu X (fun m => q m && p m) = zmu X p := zmu_congr fun m hm => by
    cases hp : p m
    · rw [Bool.and_false]
    · rw [h m hm hp]; rfl
  have h3 := zmu_nn (X := X) (fun m => q m && !p m)
  omega
/-- where p is said by intervals of the FIELDS -/
theorem zmu_box {p : Nat → Bool} (L U : Nat → Int) (hb : ∀ g : Nat, g < 4 → 0 ≤ L g ∧ U g < zS g) (h : ∀ a b c d : Nat, a < zSn 0 → b < zSn 1 → c < zSn 2 → d < zSn 3 → p (zMs X a b c d) = (zIv (L 0) (U 0) a && zIv (L 1) (U 1) b && zIv (L 2) (U 2) c && zIv (L 3) (U 3) d)) :
    zmu X p = max 0 (U 0 - L 0 + 1) * max 0 (U 1 - L 1 + 1) * max 0 (U 2 - L 2 + 1) * max 0 (U 3 - L 3 + 1) := by
  unfold zmu
  rw [zct_congr h]
  have e : ∀ g : Nat, g < 4 → 0 ≤ L g ∧ U g < ((zSn g : Nat) : Int) := fun g hg => by rw [zSn_eq]; exact hb g hg
  exact zct_ivs (e 0 (by omega)) (e 1 (by omega)) (e 2 (by omega)) (e 3 (by omega))
theorem zmu_all : zmu X (fun _ => true) = 268435456 := by
  have h := zmu_box (X := X) (p := fun _ => true) (fun _ => 0) (fun g => zS g - 1) (fun g _ => ⟨Int.le_refl 0, by omega⟩) (fun a b c d ha hb hc hd => by
    have e0 := zSn_eq 0
    have e1 := zSn_eq 1
    have e2 := zSn_eq 2
    have e3 := zSn_eq 3
    rw [zIv_iff.mpr ⟨by omega, by omega⟩, zIv_iff.mpr ⟨by omega, by omega⟩, zIv_iff.mpr ⟨by omega, by omega⟩, zIv_iff.mpr ⟨by omega, by omega⟩]
    rfl)
  rw [h]
  decide
theorem zmu_le_all (p : Nat → Bool) : zmu X p ≤ 268435456 := by
  rw [← zmu_all (X := X)]
  exact zmu_le fun _ _ _ => rfl
theorem zmu_bit (hV : zV X) {i : Nat} (hi : i < zN X 0) : zmu X (fun m => m.testBit i) = zAW X (zr X 0 i) (zr X 0 i) := by
  have hn := hV.n (Or.inl rfl : zIsW 0)
  have hR := hV.isR (Or.inl rfl : zIsW 0) (show i < 8 by omega)
  rw [zmu_box (fun g => X (zr X 0 i + 1) g) (fun g => X (zr X 0 i + 2) g) (fun g hg => by have := hV.rf hR hg; omega) (fun a b c d _ _ _ _ => by
    rw [zMs_bit, decide_eq_true hi, Bool.true_and]
    rfl)]
  unfold zAW zW1
  rw [Int.min_self, Int.min_self, Int.min_self, Int.min_self, Int.max_self, Int.max_self, Int.max_self, Int.max_self, Int.one_mul]
end ZMU
end
section
/-! ===== sets of PACKETS by what a set of RULES says; sums over sets ===== -/
noncomputable def zB (P : Prop) : Bool := @decide P (Classical.propDecidable P)
theorem zB_iff {P : Prop} : zB P = true ↔ P := by unfold zB; exact @decide_eq_true_iff P (Classical.propDecidable P)
theorem zB_no {P : Prop} : zB P = false ↔ ¬ P := by unfold zB; exact @decide_eq_false_iff_not P (Classical.propDecidable P)
theorem zB_congr {P Q : Prop} (h : P ↔ Q) : zB P = zB Q := by rw [propext h]
theorem zB_and (P Q : Prop) : (zB P && zB Q) = zB (P ∧ Q) := by
  rw [Bool.eq_iff_iff, Bool.and_eq_true, zB_iff, zB_iff, zB_iff]
theorem zB_not (P : Prop) : (!zB P) = zB (¬ P) := by
  rw [Bool.eq_iff_iff, Bool.not_eq_true', zB_no, zB_iff]
theorem zadd2 {a b c d : Int} (h1 : a = c) (h2 : b = d) : a + b = c + d := by rw [h1, h2]
/-- how many PACKETS meet a set of RULES that P holds of -/
noncomputable def zm (X : Nat → Nat → Int) (P : Nat → Prop) : Int := zmu X (fun m => zB (P m))
section ZMM
variable {X : Nat → Nat → Int} {P Q : Nat → Prop}
theorem zm_nn : 0 ≤ zm X P := zmu_nn _
theorem zm_top : zm X P ≤ 268435456 := zmu_le_all _
theorem zm_congr (h : ∀ m : Nat, m < 2 ^ zN X 0 → (P m ↔ Q m)) : zm X P = zm X Q := zmu_congr fun m hm => zB_congr (h m hm)
theorem zm_add (P Q : Nat → Prop) : zm X P = zm X (fun m => P m ∧ Q m) + zm X (fun m => P m ∧ ¬ Q m) := by
  unfold zm
  rw [zmu_add (X := X) (fun m => zB (P m)) (fun m => zB (Q m))]
  refine zadd2 ?_ ?_
  · exact zmu_congr fun m _ => zB_and _ _
  · exact zmu_congr fun m _ => by rw [zB_not, zB_and]
theorem zm_none (h : ∀ m : Nat, m < 2 ^ zN X 0 → ¬ P m) : zm X P = 0 := zmu_none fun m hm => zB_no.mpr (h m hm)
theorem zm_le (h : ∀ m : Nat, m < 2 ^ zN X 0 → P m → Q m) : zm X P ≤ zm X Q := zmu_le fun m hm hp => zB_iff.mpr (h m hm (zB_iff.mp hp))
theorem zm_all : zm X (fun _ => True) = 268435456 := by
  rw [← zmu_all (X := X)]
  exact zmu_congr fun m _ => zB_iff.mpr trivial
theorem zm_not : zm X (fun m => ¬ P m) = 268435456 - zm X P := by
  have h := zm_add (X := X) (fun _ => True) P
  rw [zm_all, zm_congr (X := X) (P := fun m => True ∧ P m) (Q := P) (fun m _ => ⟨fun q => q.2, fun q => ⟨trivial, q⟩⟩), zm_congr (X := X) (P := fun m => True ∧ ¬ P m) (Q := fun m => ¬ P m) (fun m _ => ⟨fun q => q.2, fun q => ⟨trivial, q⟩⟩)] at h
  omega
theorem zm_or (h : ∀ m : Nat, m < 2 ^ zN X 0 → ¬ (P m ∧ Q m)) : zm X (fun m => P m ∨ Q m) = zm X P + zm X Q := by
  rw [zm_add (X := X) (fun m => P m ∨ Q m) P]
  refine zadd2 ?_ ?_
  · exact zm_congr fun m _ => ⟨fun q => q.2, fun q => ⟨Or.inl q, q⟩⟩
  · exact zm_congr fun m hm => ⟨fun q => q.1.elim (fun z => absurd z q.2) id, fun q => ⟨Or.inr q, fun z => h m hm ⟨z, q⟩⟩⟩
/-- the parts of nothing are nothing -/
theorem zm_zero (h : zm X Q = 0) (hi : ∀ m : Nat, m < 2 ^ zN X 0 → P m → Q m) : zm X P = 0 := by
  have h1 := zm_le (X := X) hi
  have h2 := zm_nn (X := X) (P := P)
  omega
/-- sums over sets, one by one -/
theorem zm_yes {k : Nat} (hk : P k) : zm X (fun m => m < k + 1 ∧ P m) = zm X (fun m => m < k ∧ P m) + zm X (fun m => m = k) := by
  rw [zm_add (X := X) (fun m => m < k + 1 ∧ P m) (fun m => m < k)]
  refine zadd2 ?_ ?_
  · exact zm_congr fun m _ => ⟨fun q => ⟨q.2, q.1.2⟩, fun q => ⟨⟨by omega, q.2⟩, q.1⟩⟩
  · exact zm_congr fun m _ => ⟨fun q => by omega, fun q => ⟨⟨by omega, by rw [q]; exact hk⟩, by omega⟩⟩
theorem zm_no {k : Nat} (hk : ¬ P k) : zm X (fun m => m < k + 1 ∧ P m) = zm X (fun m => m < k ∧ P m) := by
  refine zm_congr fun m _ => ⟨fun q => ⟨?_, q.2⟩, fun q => ⟨by omega, q.2⟩⟩
  by_cases h : m = k
  · exact absurd (h ▸ q.2) hk
  · omega
theorem zm_start : zm X (fun m => m < 0 ∧ P m) = 0 := zm_none fun m _ q => by omega
theorem zm_full : zm X (fun m => m < 2 ^ zN X 0 ∧ P m) = zm X P := zm_congr fun m hm => ⟨fun q => q.2, fun q => ⟨hm, q⟩⟩
end ZMM
/-! a memory with the same walls -/
theorem zN_eq {X Y : Nat → Nat → Int} {a : Nat} (h : Y a = X a) : zN Y a = zN X a := by unfold zN; rw [h]
theorem zr_eq {X Y : Nat → Nat → Int} {a i : Nat} (h : Y (a + 1) = X (a + 1)) : zr Y a i = zr X a i := by unfold zr; rw [h]
theorem zBx_eq {X Y : Nat → Nat → Int} {r a b c d : Nat} (h1 : Y (r + 1) = X (r + 1)) (h2 : Y (r + 2) = X (r + 2)) : zBx Y r a b c d = zBx X r a b c d := by unfold zBx; rw [h1, h2]
theorem zSet_congr {n : Nat} {p q : Nat → Bool} (h : ∀ i : Nat, i < n → p i = q i) : zSet n p = zSet n q := by
  apply Nat.eq_of_testBit_eq
  intro i
  rw [zSet_bit, zSet_bit]
  by_cases hi : i < n
  · rw [h i hi]
  · rw [decide_eq_false hi, Bool.false_and, Bool.false_and]
theorem zr_lt {X : Nat → Nat → Int} (hV : zV X) {a i : Nat} (ha : zIsW a) (hi : i < 8) : zr X a i + 2 < a + 26 := by
  have h := hV.slot ha hi
  unfold zr
  omega
/-- the walls' cells are the same -/
def zWe (X Y : Nat → Nat → Int) : Prop := ∀ k : Nat, k < 52 → Y k = X k
theorem zWe.rf (X : Nat → Nat → Int) : zWe X X := fun _ _ => rfl
theorem zWe.trans {X Y Z : Nat → Nat → Int} (h : zWe X Y) (h2 : zWe Y Z) : zWe X Z := fun k hk => (h2 k hk).trans (h k hk)
theorem zWe.symm {X Y : Nat → Nat → Int} (h : zWe X Y) : zWe Y X := fun k hk => (h k hk).symm
theorem zWe.v {X Y : Nat → Nat → Int} (h : zWe X Y) (hV : zV X) : zV Y := hV.eq h
section ZWE
variable {X Y : Nat → Nat → Int}
theorem zWe.n (h : zWe X Y) {a : Nat} (ha : zIsW a) : zN Y a = zN X a := zN_eq (h a (by rcases ha with rfl | rfl <;> omega))
theorem zWe.r (h : zWe X Y) {a : Nat} (ha : zIsW a) (i : Nat) : zr Y a i = zr X a i := zr_eq (h (a + 1) (by rcases ha with rfl | rfl <;> omega))
theorem zWe.cell (h : zWe X Y) (hV : zV X) {a i : Nat} (ha : zIsW a) (hi : i < 8) : Y (zr X a i) = X (zr X a i) ∧ Y (zr X a i + 1) = X (zr X a i + 1) ∧ Y (zr X a i + 2) = X (zr X a i + 2) := by
  have h1 := zr_lt hV ha hi
  have h2 : zr X a i + 2 < 52 := by rcases ha with rfl | rfl <;> omega
  exact ⟨h _ (by omega), h _ (by omega), h _ (by omega)⟩
theorem zWe.ms (h : zWe X Y) (hV : zV X) (a b c d : Nat) : zMs Y a b c d = zMs X a b c d := by
  have h0 : zIsW 0 := Or.inl rfl
  unfold zMs
  rw [h.n h0]
  refine zSet_congr fun i hi => ?_
  have hn := hV.n h0
  have hc := h.cell hV h0 (show i < 8 by omega)
  rw [h.r h0]
  exact zBx_eq hc.2.1 hc.2.2
theorem zWe.mu (h : zWe X Y) (hV : zV X) (p : Nat → Bool) : zmu Y p = zmu X p := by
  unfold zmu
  exact congrArg _ (zct_congr fun a b c d _ _ _ _ => by rw [h.ms hV])
theorem zWe.m (h : zWe X Y) (hV : zV X) (P : Nat → Prop) : zm Y P = zm X P := h.mu hV _
theorem zWe.dec (h : zWe X Y) (hV : zV X) {a : Nat} (ha : zIsW a) : zDec Y a = zDec X a := by
  unfold zDec
  rw [h.n ha]
  refine zSet_congr fun i hi => ?_
  have hn := hV.n ha
  unfold zPd
  rw [h.r ha, (h.cell hV ha (show i < 8 by omega)).1]
theorem zWe.hav (h : zWe X Y) (hV : zV X) {a : Nat} (ha : zIsW a) (f : Nat) (v : Int) : zHav Y a f v = zHav X a f v := by
  unfold zHav
  rw [h.n ha]
  refine zSet_congr fun i hi => ?_
  have hn := hV.n ha
  have hc := h.cell hV ha (show i < 8 by omega)
  unfold zPh zHasB
  rw [h.r ha, hc.2.1, hc.2.2]
theorem zWe.al (h : zWe X Y) (hV : zV X) {a : Nat} (ha : zIsW a) (u : Nat) : zAl Y a u ↔ zAl X a u := by
  have h0 : Y a = X a := h a (by rcases ha with rfl | rfl <;> omega)
  have hn := hV.n ha
  unfold zAl
  rw [h.n ha, h0]
  constructor
  · rintro (⟨k, hk, e⟩ | e)
    · have hk8 : k < 8 := by have := hk.1; omega
      rw [h.r ha, (h.cell hV ha hk8).1] at e
      exact Or.inl ⟨k, hk, e⟩
    · exact Or.inr e
  · rintro (⟨k, hk, e⟩ | e)
    · have hk8 : k < 8 := by have := hk.1; omega
      refine Or.inl ⟨k, hk, ?_⟩
      rw [h.r ha, (h.cell hV ha hk8).1]
      exact e
    · exact Or.inr e
theorem zWe.se (h : zWe X Y) (hV : zV X) {a : Nat} (ha : zIsW a) (f u : Nat) : zSe Y a f u ↔ zSe X a f u := by
  have hn := hV.n ha
  have key : ∀ k : Nat, k < 8 → (zWhole Y (zr Y a k) f ↔ zWhole X (zr X a k) f) := by
    intro k hk
    have hc := h.cell hV ha hk
    unfold zWhole
    rw [h.r ha, hc.2.1, hc.2.2]
  unfold zSe
  rw [h.n ha]
  constructor
  · rintro (e | ⟨k, hk, e⟩)
    · exact Or.inl e
    · exact Or.inr ⟨k, hk, (key k (by have := hk.1; omega)).mp e⟩
  · rintro (e | ⟨k, hk, e⟩)
    · exact Or.inl e
    · exact Or.inr ⟨k, hk, (key k (by have := hk.1; omega)).mpr e⟩
end ZWE
end
section
/-! Nettle: quarrels, steps -/
theorem dX7_needNode_0 : decode cX7_needNode 0 = .ok (.iload_n 1, 1) := by decide +kernel
theorem dX7_needNode_1 : decode cX7_needNode 1 = .ok (.ifCond .lt 11, 3) := by decide +kernel
theorem dX7_needNode_4 : decode cX7_needNode 4 = .ok (.iload_n 1, 1) := by decide +kernel
theorem dX7_needNode_5 : decode cX7_needNode 5 = .ok (.aload_n 0, 1) := by decide +kernel
theorem dX7_needNode_6 : decode cX7_needNode 6 = .ok (.getfield 193, 3) := by decide +kernel
theorem dX7_needNode_9 : decode cX7_needNode 9 = .ok (.if_icmp .lt 14, 3) := by decide +kernel
theorem dX7_needNode_23 : decode cX7_needNode 23 = .ok (.return_, 1) := by decide +kernel
theorem dX7_quarrels_0 : decode cX7_quarrels 0 = .ok (.iconst 0, 1) := by decide +kernel
theorem dX7_quarrels_1 : decode cX7_quarrels 1 = .ok (.istore_n 1, 1) := by decide +kernel
theorem dX7_quarrels_2 : decode cX7_quarrels 2 = .ok (.iconst 0, 1) := by decide +kernel
theorem dX7_quarrels_3 : decode cX7_quarrels 3 = .ok (.istore_n 2, 1) := by decide +kernel
theorem dX7_quarrels_4 : decode cX7_quarrels 4 = .ok (.iload_n 2, 1) := by decide +kernel
theorem dX7_quarrels_5 : decode cX7_quarrels 5 = .ok (.aload_n 0, 1) := by decide +kernel
theorem dX7_quarrels_6 : decode cX7_quarrels 6 = .ok (.getfield 10, 3) := by decide +kernel
theorem dX7_quarrels_9 : decode cX7_quarrels 9 = .ok (.getfield 70, 3) := by decide +kernel
theorem dX7_quarrels_12 : decode cX7_quarrels 12 = .ok (.if_icmp .ge 57, 3) := by decide +kernel
theorem dX7_quarrels_69 : decode cX7_quarrels 69 = .ok (.iload_n 1, 1) := by decide +kernel
theorem dX7_quarrels_70 : decode cX7_quarrels 70 = .ok (.ireturn, 1) := by decide +kernel
theorem dX7_quarrels_15 : decode cX7_quarrels 15 = .ok (.iload_n 2, 1) := by decide +kernel
theorem dX7_quarrels_16 : decode cX7_quarrels 16 = .ok (.iconst 1, 1) := by decide +kernel
theorem dX7_quarrels_17 : decode cX7_quarrels 17 = .ok (.iadd, 1) := by decide +kernel
theorem dX7_quarrels_18 : decode cX7_quarrels 18 = .ok (.istore_n 3, 1) := by decide +kernel
theorem dX7_quarrels_19 : decode cX7_quarrels 19 = .ok (.iload_n 3, 1) := by decide +kernel
theorem dX7_quarrels_20 : decode cX7_quarrels 20 = .ok (.aload_n 0, 1) := by decide +kernel
theorem dX7_quarrels_21 : decode cX7_quarrels 21 = .ok (.getfield 10, 3) := by decide +kernel
theorem dX7_quarrels_24 : decode cX7_quarrels 24 = .ok (.getfield 70, 3) := by decide +kernel
theorem dX7_quarrels_27 : decode cX7_quarrels 27 = .ok (.if_icmp .ge 36, 3) := by decide +kernel
theorem dX7_quarrels_63 : decode cX7_quarrels 63 = .ok (.iinc 2 1, 3) := by decide +kernel
theorem dX7_quarrels_66 : decode cX7_quarrels 66 = .ok (.goto (-62), 3) := by decide +kernel
theorem dX7_quarrels_30 : decode cX7_quarrels 30 = .ok (.aload_n 0, 1) := by decide +kernel
theorem dX7_quarrels_31 : decode cX7_quarrels 31 = .ok (.getfield 10, 3) := by decide +kernel
theorem dX7_quarrels_34 : decode cX7_quarrels 34 = .ok (.getfield 104, 3) := by decide +kernel
theorem dX7_quarrels_37 : decode cX7_quarrels 37 = .ok (.iload_n 2, 1) := by decide +kernel
theorem dX7_quarrels_38 : decode cX7_quarrels 38 = .ok (.aaload, 1) := by decide +kernel
theorem dX7_quarrels_39 : decode cX7_quarrels 39 = .ok (.aload_n 0, 1) := by decide +kernel
theorem dX7_quarrels_40 : decode cX7_quarrels 40 = .ok (.getfield 10, 3) := by decide +kernel
theorem dX7_quarrels_43 : decode cX7_quarrels 43 = .ok (.getfield 104, 3) := by decide +kernel
theorem dX7_quarrels_46 : decode cX7_quarrels 46 = .ok (.iload_n 3, 1) := by decide +kernel
theorem dX7_quarrels_47 : decode cX7_quarrels 47 = .ok (.aaload, 1) := by decide +kernel
set_option maxRecDepth 20000 in
theorem ggX7_quarrels_X3_isAgainst : GoodIn wsX7_quarrels wsX3_isAgainst := goodIn_r _ [8, 9, 10, 11, 12, 7, 13, 14, 15, 16, 17, 18, 19, 20, 21, 22, 23, 24, 25, 26, 38, 39, 40, 41] (by decide +kernel) (by decide +kernel)
set_option maxRecDepth 20000 in
theorem gX7_quarrels_X3_isAgainst : GoodIn wsX7_quarrels (wsV RX7 173 RX3 yX3_isAgainst wsX3_isAgainst) := goodIn_app (goodIn_of _ (by decide +kernel)) ggX7_quarrels_X3_isAgainst
theorem dX7_quarrels_48 : decode cX7_quarrels 48 = .ok (.invokevirtual 173, 3) := by decide +kernel
theorem dX7_quarrels_51 : decode cX7_quarrels 51 = .ok (.ifCond .eq 6, 3) := by decide +kernel
theorem dX7_quarrels_57 : decode cX7_quarrels 57 = .ok (.iinc 3 1, 3) := by decide +kernel
theorem dX7_quarrels_60 : decode cX7_quarrels 60 = .ok (.goto (-41), 3) := by decide +kernel
theorem dX7_quarrels_54 : decode cX7_quarrels 54 = .ok (.iinc 1 1, 3) := by decide +kernel
theorem dX7_steps_0 : decode cX7_steps 0 = .ok (.aload_n 0, 1) := by decide +kernel
theorem dX7_steps_1 : decode cX7_steps 1 = .ok (.iload_n 1, 1) := by decide +kernel
theorem dX7_steps_2 : decode cX7_steps 2 = .ok (.iload_n 2, 1) := by decide +kernel
theorem dX7_steps_3 : decode cX7_steps 3 = .ok (.iload_n 3, 1) := by decide +kernel
theorem dX7_steps_4 : decode cX7_steps 4 = .ok (.iload 4, 2) := by decide +kernel
set_option maxRecDepth 20000 in
theorem ggX7_steps_X7_takePacket : GoodIn wsX7_steps wsX7_takePacket := goodIn_ca (goodIn_r _ [7, 8, 9, 2, 10, 11, 6, 12, 13, 49, 50, 51, 52, 53, 54, 55, 56] (by decide +kernel) (by decide +kernel)) (goodIn_sub (fun _ h => List.mem_cons_of_mem _ (List.mem_append_right _ h)) (by decide +kernel))
set_option maxRecDepth 20000 in
theorem gX7_steps_X7_takePacket : GoodIn wsX7_steps (wsV RX7 177 RX7 yX7_takePacket wsX7_takePacket) := goodIn_app (goodIn_of _ (by decide +kernel)) ggX7_steps_X7_takePacket
theorem dX7_steps_6 : decode cX7_steps 6 = .ok (.invokevirtual 177, 3) := by decide +kernel
theorem dX7_steps_9 : decode cX7_steps 9 = .ok (.aload_n 0, 1) := by decide +kernel
theorem dX7_steps_10 : decode cX7_steps 10 = .ok (.getfield 10, 3) := by decide +kernel
set_option maxRecDepth 20000 in
theorem ggX7_steps_X6_deciders : GoodIn wsX7_steps wsX6_deciders := goodIn_r _ [18, 19, 20, 21, 22, 23, 24, 25, 26, 57, 58, 59, 60, 61, 62, 63] (by decide +kernel) (by decide +kernel)
set_option maxRecDepth 20000 in
theorem gX7_steps_X6_deciders : GoodIn wsX7_steps (wsV RX7 223 RX6 yX6_deciders wsX6_deciders) := goodIn_app (goodIn_of _ (by decide +kernel)) ggX7_steps_X6_deciders
theorem dX7_steps_13 : decode cX7_steps 13 = .ok (.invokevirtual 223, 3) := by decide +kernel
theorem dX7_steps_16 : decode cX7_steps 16 = .ok (.istore 5, 2) := by decide +kernel
theorem dX7_steps_18 : decode cX7_steps 18 = .ok (.iconst 0, 1) := by decide +kernel
theorem dX7_steps_19 : decode cX7_steps 19 = .ok (.istore 6, 2) := by decide +kernel
theorem dX7_steps_21 : decode cX7_steps 21 = .ok (.iconst 0, 1) := by decide +kernel
theorem dX7_steps_22 : decode cX7_steps 22 = .ok (.istore 7, 2) := by decide +kernel
theorem dX7_steps_24 : decode cX7_steps 24 = .ok (.iload 7, 2) := by decide +kernel
theorem dX7_steps_26 : decode cX7_steps 26 = .ok (.iconst 4, 1) := by decide +kernel
theorem dX7_steps_27 : decode cX7_steps 27 = .ok (.if_icmp .ge 50, 3) := by decide +kernel
theorem dX7_steps_77 : decode cX7_steps 77 = .ok (.iload 6, 2) := by decide +kernel
theorem dX7_steps_79 : decode cX7_steps 79 = .ok (.ireturn, 1) := by decide +kernel
theorem dX7_steps_30 : decode cX7_steps 30 = .ok (.aload_n 0, 1) := by decide +kernel
theorem dX7_steps_31 : decode cX7_steps 31 = .ok (.getfield 10, 3) := by decide +kernel
theorem dX7_steps_34 : decode cX7_steps 34 = .ok (.iload 7, 2) := by decide +kernel
theorem dX7_steps_36 : decode cX7_steps 36 = .ok (.iload 5, 2) := by decide +kernel
set_option maxRecDepth 20000 in
theorem ggX7_steps_X6_isSettled : GoodIn wsX7_steps wsX6_isSettled := goodIn_r _ [30, 20, 31, 32, 33, 17, 34, 19, 35, 36, 37, 24, 38, 39, 40, 57, 58, 59, 60, 61, 62, 63] (by decide +kernel) (by decide +kernel)
set_option maxRecDepth 20000 in
theorem gX7_steps_X6_isSettled : GoodIn wsX7_steps (wsV RX7 226 RX6 yX6_isSettled wsX6_isSettled) := goodIn_app (goodIn_of _ (by decide +kernel)) ggX7_steps_X6_isSettled
theorem dX7_steps_38 : decode cX7_steps 38 = .ok (.invokevirtual 226, 3) := by decide +kernel
theorem dX7_steps_41 : decode cX7_steps 41 = .ok (.ifCond .eq 6, 3) := by decide +kernel
theorem dX7_steps_47 : decode cX7_steps 47 = .ok (.iinc 6 1, 3) := by decide +kernel
theorem dX7_steps_50 : decode cX7_steps 50 = .ok (.iload 5, 2) := by decide +kernel
theorem dX7_steps_52 : decode cX7_steps 52 = .ok (.aload_n 0, 1) := by decide +kernel
theorem dX7_steps_53 : decode cX7_steps 53 = .ok (.getfield 10, 3) := by decide +kernel
theorem dX7_steps_56 : decode cX7_steps 56 = .ok (.iload 7, 2) := by decide +kernel
theorem dX7_steps_58 : decode cX7_steps 58 = .ok (.aload_n 0, 1) := by decide +kernel
theorem dX7_steps_59 : decode cX7_steps 59 = .ok (.getfield 62, 3) := by decide +kernel
theorem dX7_steps_62 : decode cX7_steps 62 = .ok (.iload 7, 2) := by decide +kernel
theorem dX7_steps_64 : decode cX7_steps 64 = .ok (.iaload, 1) := by decide +kernel
set_option maxRecDepth 20000 in
theorem ggX7_steps_X6_having : GoodIn wsX7_steps wsX6_having := goodIn_r _ [44, 19, 20, 45, 46, 47, 24, 48, 39, 40, 57, 58, 59, 60, 61, 62, 63] (by decide +kernel) (by decide +kernel)
set_option maxRecDepth 20000 in
theorem gX7_steps_X6_having : GoodIn wsX7_steps (wsV RX7 229 RX6 yX6_having wsX6_having) := goodIn_app (goodIn_of _ (by decide +kernel)) ggX7_steps_X6_having
theorem dX7_steps_65 : decode cX7_steps 65 = .ok (.invokevirtual 229, 3) := by decide +kernel
theorem dX7_steps_68 : decode cX7_steps 68 = .ok (.iand, 1) := by decide +kernel
theorem dX7_steps_69 : decode cX7_steps 69 = .ok (.istore 5, 2) := by decide +kernel
theorem dX7_steps_71 : decode cX7_steps 71 = .ok (.iinc 7 1, 3) := by decide +kernel
theorem dX7_steps_74 : decode cX7_steps 74 = .ok (.goto (-50), 3) := by decide +kernel
theorem dX7_steps_44 : decode cX7_steps 44 = .ok (.goto 33, 3) := by decide +kernel
/-- sums of whole numbers; 1 where P holds -/
def zsm : Nat → (Nat → Int) → Int
  | 0, _ => 0
  | n + 1, f => zsm n f + f n
theorem zsm_congr {n : Nat} {f g : Nat → Int} (h : ∀ i : Nat, i < n → f i = g i) : zsm n f = zsm n g := by
  induction n with
  | zero => rfl
  | succ n ih =>
    show zsm n f + f n = zsm n g + g n
    rw [ih (fun i hi => h i (by omega)), h n (by omega)]
theorem zsm_add (n : Nat) (f g : Nat → Int) : zsm n (fun i => f i + g i) = zsm n f + zsm n g := by
  induction n with
  | zero => rfl
  | succ n ih =>
    show zsm n (fun i => f i + g i) + (f n + g n) = (zsm n f + f n) + (zsm n g + g n)
    rw [ih]
    omega
theorem zsm_zero {n : Nat} {f : Nat → Int} (h : ∀ i : Nat, i < n → f i = 0) : zsm n f = 0 := by
  induction n with
  | zero => rfl
  | succ n ih =>
    show zsm n f + f n = 0
    rw [ih (fun i hi => h i (by omega)), h n (by omega)]
    rfl
theorem zsm_swap (n k : Nat) (f : Nat → Nat → Int) : zsm n (fun a => zsm k (fun b => f a b)) = zsm k (fun b => zsm n (fun a => f a b)) := by
  induction n with
  | zero => exact (zsm_zero (fun b _ => rfl)).symm
  | succ n ih =>
    show zsm n (fun a => zsm k (fun b => f a b)) + zsm k (fun b => f n b) = zsm k (fun b => zsm n (fun a => f a b) + f n b)
    rw [ih, zsm_add]
theorem zsm_bd {n : Nat} {f : Nat → Int} {c : Int} (h : ∀ i : Nat, i < n → 0 ≤ f i ∧ f i ≤ c) : 0 ≤ zsm n f ∧ zsm n f ≤ (n : Int) * c := by
  induction n with
  | zero => exact ⟨Int.le_refl 0, by rw [Int.natCast_zero, Int.zero_mul]; exact Int.le_refl 0⟩
  | succ n ih =>
    have h1 := ih (fun i hi => h i (by omega))
    have h2 := h n (by omega)
    have e : zsm (n + 1) f = zsm n f + f n := rfl
    rw [e, Int.natCast_succ, Int.add_mul, Int.one_mul]
    omega
noncomputable def z1 (P : Prop) : Int := if zB P = true then 1 else 0
theorem z1_yes {P : Prop} (h : P) : z1 P = 1 := by unfold z1; rw [if_pos (zB_iff.mpr h)]
theorem z1_no {P : Prop} (h : ¬ P) : z1 P = 0 := by unfold z1; rw [if_neg (fun q => h (zB_iff.mp q))]
theorem z1_bd (P : Prop) : 0 ≤ z1 P ∧ z1 P ≤ 1 := by unfold z1; split <;> omega
theorem z1_congr {P Q : Prop} (h : P ↔ Q) : z1 P = z1 Q := by rw [propext h]
/-- the pairs of RULES against each other -/
noncomputable def zQa (X : Nat → Nat → Int) (n a b : Nat) : Int := zsm b (fun j => z1 (a < j ∧ zAg X (zr X 0 a) (zr X 0 j)))
noncomputable def zQu (X : Nat → Nat → Int) (n : Nat) : Int := zsm n (fun a => zQa X n a (zN X 0))
theorem zQa_start (X : Nat → Nat → Int) (n a : Nat) : zQa X n a (a + 1) = 0 := zsm_zero fun i hi => z1_no (fun q => by omega)
theorem zQa_yes {X : Nat → Nat → Int} {n a b : Nat} (h : a < b) (h2 : zAg X (zr X 0 a) (zr X 0 b)) : zQa X n a (b + 1) = zQa X n a b + 1 := by
  show zQa X n a b + z1 (a < b ∧ zAg X (zr X 0 a) (zr X 0 b)) = _
  rw [z1_yes ⟨h, h2⟩]
theorem zQa_no {X : Nat → Nat → Int} {n a b : Nat} (h2 : ¬ zAg X (zr X 0 a) (zr X 0 b)) : zQa X n a (b + 1) = zQa X n a b := by
  show zQa X n a b + z1 (a < b ∧ zAg X (zr X 0 a) (zr X 0 b)) = _
  rw [z1_no (fun q => h2 q.2), Int.add_zero]
theorem zQu_step (X : Nat → Nat → Int) (a : Nat) : zQu X (a + 1) = zQu X a + zQa X 0 a (zN X 0) := rfl
/-- the RULES that are left of a PACKET (the row 70) ahead of a FIELD; where it stops -/
def zPth (X : Nat → Nat → Int) : Nat → Nat
  | 0 => zDec X 0
  | g + 1 => zPth X g &&& zHav X 0 g (X 70 g)
theorem zPth_lt (X : Nat → Nat → Int) (hV : zV X) (g : Nat) : zPth X g < 256 := by
  induction g with
  | zero => exact zSet_256 (hV.n (Or.inl rfl)).2 _
  | succ g ih => exact Nat.lt_of_le_of_lt Nat.and_le_left ih
def zStp (X : Nat → Nat → Int) (f : Nat) : Prop := f ≤ 4 ∧ (f = 4 ∨ zSe X 0 f (zPth X f)) ∧ ∀ g : Nat, g < f → ¬ zSe X 0 g (zPth X g)

set_option maxHeartbeats 4000000 in
set_option maxRecDepth 100000 in
/-- needNode -/
theorem c_X7_needNode (l : Launch) (G : zG) (ad : Nat → Nat) (X : Nat → Nat → Int) (k : Nat) (hk : (k : Int) < X 61 5 ∧ X 61 5 ≤ 1024) : zR l G yX7_needNode wsX7_needNode { frames := 0, cells := 0, slots := 0, locals := 0 } (zpic G ad X) [.ref (ad 61), .int (zi (k : Int))] (zn G ad X) 0 0 := by
  refine zR_of (cc := cX7_needNode) (maxL := 2) (rt := none) (by decide) rfl (Nat.le_of_ble_eq_true rfl) ?_
  intro p e s m below meth c A ls hx hb hml hr hts hown hlocks hin0 hA hE hP hD hS hl
  have hl : lv_has ls 2 [(0, .ref (ad 61)), (1, .int (zi (k : Int)))] := hl
  have hown : s.vm.findClass RX7 = some m.cls := hown
  have hw5 : ∀ w ∈ u_ws RX5 TX5 7, w ∈ wsX7_needNode := by decide +kernel
  have hf193 := hts (.fieldLink RX7 193 "Nettle$Tree" "count" "I") (by decide +kernel)
  refine lv_iload_n hx hb dX7_needNode_0 rfl (lv_at hl 1 rfl) ?_
  refine z0_lt (tgt := 12) hx hb dX7_needNode_1 (by decide) (by omega) (fun h9 => by exfalso; omega) (fun h1 => ?_)
  refine lv_iload_n hx hb dX7_needNode_4 rfl (lv_at hl 1 rfl) ?_
  refine lv_aload_n hx hb dX7_needNode_5 rfl (lv_at hl 0 rfl) ?_
  refine va_get (D := G.1) (ci := 5) (v := .int (zi (X 61 5))) (C := RX5) (T := TX5) (N := 7) hx hb hts hw5 hown hE.1 hP 61 p_61 rfl 5 (by decide) hf193 (fun _ h9 => h9) rfl dX7_needNode_6 ?_
  refine zc_lt (tgt := 23) hx hb dX7_needNode_9 (by decide) (by omega) (by omega) (fun h9 => ?_) (fun h9 => by exfalso; omega)
  exact zend_v hx hb hr hlocks hP hD hS (Nat.le_of_ble_eq_true rfl) (Nat.le_of_ble_eq_true rfl) dX7_needNode_23 ⟨rfl, rfl⟩

set_option maxHeartbeats 4000000 in
set_option maxRecDepth 100000 in
/-- quarrels -/
theorem c_X7_quarrels (l : Launch) (G : zG) (ad : Nat → Nat) (X : Nat → Nat → Int) (hV : zV X) : zR l G yX7_quarrels wsX7_quarrels { frames := 3, cells := 0, slots := 0, locals := 61 } (zpic G ad X) [.ref (ad 52)] (zq G ad X (fun w => w = zQu X (zN X 0))) 0 0 := by
  refine zR_of (cc := cX7_quarrels) (maxL := 4) (rt := (some .int)) (by decide) rfl (Nat.le_of_ble_eq_true rfl) ?_
  intro p e s m below meth c A ls hx hb hml hr hts hown hlocks hin0 hA hE hP hD hS hl
  have hl : lv_has ls 4 [(0, .ref (ad 52))] := hl
  have hown : s.vm.findClass RX7 = some m.cls := hown
  have hn := hV.n (Or.inl rfl : zIsW 0)
  have hw7 : ∀ w ∈ u_ws RX7 TX7 8, w ∈ wsX7_quarrels := by decide +kernel
  have hf10 := hts (.fieldLink RX7 10 "Nettle" "wall" "LNettle$Wall;") (by decide +kernel)
  have hw6 : ∀ w ∈ u_ws RX6 TX6 3, w ∈ wsX7_quarrels := by decide +kernel
  have hf70 := hts (.fieldLink RX7 70 "Nettle$Wall" "count" "I") (by decide +kernel)
  have hf104 := hts (.fieldLink RX7 104 "Nettle$Wall" "rows" "[LNettle$Rule;") (by decide +kernel)
  refine lv_iconst (v := zi 0) hx hb dX7_quarrels_0 rfl ?_
  refine lv_istore_n (lv' := [(1, .int (zi 0)), (0, .ref (ad 52))]) hx hb dX7_quarrels_1 rfl hl (by decide) rfl (fun ls hl => ?_)
  refine lv_iconst (v := zi 0) hx hb dX7_quarrels_2 rfl ?_
  refine lv_istore_n (lv' := [(2, .int (zi 0)), (1, .int (zi 0)), (0, .ref (ad 52))]) hx hb dX7_quarrels_3 rfl hl (by decide) rfl (fun ls hl => ?_)
  refine zloop2 (fun (k : Nat) (p : Int) => 8 - k) (fun (k : Nat) (p : Int) (H : Heap) (locs : List Loc) (ls : Array Slot) => va_P G.1 vwCl (zpic G ad X) H ∧ va_D A (zpic G ad X) ∧ va_S A s.heap H locs ∧ lv_has ls 4 [(2, .int (zi (k : Int))), (1, .int (zi p)), (0, .ref (ad 52))] ∧ (k ≤ zN X 0) ∧ (p = zQu X k)) ?_ 0 0 ⟨hP, hD, hS, lv_sub hl [0, 1, 2] rfl, (by omega), rfl⟩
  intro k p ih H locs ls ⟨hP, hD, hS, hl, hk, hp⟩
  refine lv_iload_n hx hb dX7_quarrels_4 rfl (lv_at hl 0 rfl) ?_
  refine lv_aload_n hx hb dX7_quarrels_5 rfl (lv_at hl 2 rfl) ?_
  refine va_get (D := G.1) (ci := 7) (v := .ref (ad 0)) (C := RX7) (T := TX7) (N := 8) hx hb hts hw7 hown hE.1 hP 52 p_52 rfl 0 (by decide) hf10 (fun _ h9 => h9) rfl dX7_quarrels_6 ?_
  refine va_get (D := G.1) (ci := 6) (v := .int (zi (X 0 1))) (C := RX6) (T := TX6) (N := 3) hx hb hts hw6 hown hE.1 hP 0 (p_w (Or.inl rfl)) rfl 1 (by decide) hf70 (fun _ h9 => h9) rfl dX7_quarrels_9 ?_
  refine zc_ge (tgt := 69) hx hb dX7_quarrels_12 (by decide) (by omega) (by omega) (fun h12 => ?_) (fun h12 => ?_)
  · refine lv_iload_n hx hb dX7_quarrels_69 rfl (lv_at hl 1 rfl) ?_
    exact zend_i hx hb hr hlocks hP hD hS (Nat.le_of_ble_eq_true rfl) (Nat.le_of_ble_eq_true rfl) dX7_quarrels_70 ⟨_, rfl, (by have hkn : k = zN X 0 := (by omega); rw [hp, hkn]), rfl⟩
  · refine lv_iload_n hx hb dX7_quarrels_15 rfl (lv_at hl 0 rfl) ?_
    refine lv_iconst (v := zi 1) hx hb dX7_quarrels_16 rfl ?_
    refine lv_iadd hx hb dX7_quarrels_17 (zti (v := zi ((k : Int) + 1)) (zi_add _ _) ?_)
    refine lv_istore_n (lv' := [(3, .int (zi ((k : Int) + 1))), (2, .int (zi (k : Int))), (1, .int (zi p)), (0, .ref (ad 52))]) hx hb dX7_quarrels_18 rfl hl (by decide) rfl (fun ls hl => ?_)
    refine zloop2 (fun (j : Nat) (q : Int) => 9 - j) (fun (j : Nat) (q : Int) (H : Heap) (locs : List Loc) (ls : Array Slot) => va_P G.1 vwCl (zpic G ad X) H ∧ va_D A (zpic G ad X) ∧ va_S A s.heap H locs ∧ lv_has ls 4 [(3, .int (zi (j : Int))), (2, .int (zi (k : Int))), (1, .int (zi q)), (0, .ref (ad 52))] ∧ (k < j ∧ j ≤ zN X 0) ∧ (q = zQu X k + zQa X 0 k j)) ?_ (k + 1) p ⟨hP, hD, hS, lv_sub hl [0, 1, 2, 3] rfl, (by omega), (by rw [zQa_start, hp, Int.add_zero])⟩
    intro j q ih19 H locs ls ⟨hP, hD, hS, hl, hj, hq⟩
    refine lv_iload_n hx hb dX7_quarrels_19 rfl (lv_at hl 0 rfl) ?_
    refine lv_aload_n hx hb dX7_quarrels_20 rfl (lv_at hl 3 rfl) ?_
    refine va_get (D := G.1) (ci := 7) (v := .ref (ad 0)) (C := RX7) (T := TX7) (N := 8) hx hb hts hw7 hown hE.1 hP 52 p_52 rfl 0 (by decide) hf10 (fun _ h9 => h9) rfl dX7_quarrels_21 ?_
    refine va_get (D := G.1) (ci := 6) (v := .int (zi (X 0 1))) (C := RX6) (T := TX6) (N := 3) hx hb hts hw6 hown hE.1 hP 0 (p_w (Or.inl rfl)) rfl 1 (by decide) hf70 (fun _ h9 => h9) rfl dX7_quarrels_24 ?_
    refine zc_ge (tgt := 63) hx hb dX7_quarrels_27 (by decide) (by omega) (by omega) (fun h27 => ?_) (fun h27 => ?_)
    · refine lv_iinc (v := zi ((k : Int) + 1)) (lv' := [(2, .int (zi ((k : Int) + 1))), (3, .int (zi (j : Int))), (1, .int (zi q)), (0, .ref (ad 52))]) hx hb dX7_quarrels_63 hl (k := 1) rfl (zi_add _ _) (by decide) rfl (fun ls hl => ?_)
      refine lv_goto (tgt := 4) hx hb dX7_quarrels_66 (by decide) ?_
      exact ih (k + 1) q (by omega) H locs ls ⟨hP, hD, hS, lv_sub hl [0, 2, 3] rfl, (by omega), (by have hjn : j = zN X 0 := (by omega); rw [hq, hjn, zQu_step])⟩
    · refine lv_aload_n hx hb dX7_quarrels_30 rfl (lv_at hl 3 rfl) ?_
      refine va_get (D := G.1) (ci := 7) (v := .ref (ad 0)) (C := RX7) (T := TX7) (N := 8) hx hb hts hw7 hown hE.1 hP 52 p_52 rfl 0 (by decide) hf10 (fun _ h9 => h9) rfl dX7_quarrels_31 ?_
      refine va_get (D := G.1) (ci := 6) (v := .ref (ad 1)) (C := RX6) (T := TX6) (N := 3) hx hb hts hw6 hown hE.1 hP 0 (p_w (Or.inl rfl)) rfl 0 (by decide) hf104 (fun _ h9 => h9) rfl dX7_quarrels_34 ?_
      refine lv_iload_n hx hb dX7_quarrels_37 rfl (lv_at hl 1 rfl) ?_
      refine zqld hx hb hE hP (Or.inl rfl) k rfl (by omega) dX7_quarrels_38 ?_
      have hR1 : zIsR (zr X 0 k) := hV.isR (Or.inl rfl) (by omega)
      refine lv_aload_n hx hb dX7_quarrels_39 rfl (lv_at hl 3 rfl) ?_
      refine va_get (D := G.1) (ci := 7) (v := .ref (ad 0)) (C := RX7) (T := TX7) (N := 8) hx hb hts hw7 hown hE.1 hP 52 p_52 rfl 0 (by decide) hf10 (fun _ h9 => h9) rfl dX7_quarrels_40 ?_
      refine va_get (D := G.1) (ci := 6) (v := .ref (ad 1)) (C := RX6) (T := TX6) (N := 3) hx hb hts hw6 hown hE.1 hP 0 (p_w (Or.inl rfl)) rfl 0 (by decide) hf104 (fun _ h9 => h9) rfl dX7_quarrels_43 ?_
      refine lv_iload_n hx hb dX7_quarrels_46 rfl (lv_at hl 0 rfl) ?_
      refine zqld hx hb hE hP (Or.inl rfl) j rfl (by omega) dX7_quarrels_47 ?_
      have hR2 : zIsR (zr X 0 j) := hV.isR (Or.inl rfl) (by omega)
      refine zcall (wr := []) (va_runV (As := [.ref (ad (zr X 0 j))]) (rest := []) ⟨hx, hb, hml, hown, hts⟩ (c_X3_isAgainst l G ad X (zr X 0 k) (zr X 0 j) hV hR1 hR2 H.size) (cwV 1 hts gX7_quarrels_X3_isAgainst rfl rfl rfl (by decide +kernel) ⟨Nat.le_of_ble_eq_true rfl, Nat.le_of_ble_eq_true rfl⟩) (zPreV (wr := []) (wc := zpic G ad X) (q0 := (zr X 0 k)) (ci := 3) (q := (RX3, TX3, 4)) hP hD hE hS hA rfl (p_r hR1)) rfl rfl hl.1 rfl (lv_room (Nat.le_of_ble_eq_true rfl)) dX7_quarrels_48 ⟨Nat.le_of_ble_eq_true rfl, Nat.le_of_ble_eq_true rfl⟩) hP hD hS hA (fun _ _ H locs hf hP hD hS => ?_)
      obtain ⟨v1, rfl, hv1, rfl⟩ := hf
      have hP : va_P G.1 vwCl (zpic G ad X) H := hP
      have hD : va_D A (zpic G ad X) := hD
      refine W.eq (g2 := F0 m 51 ls [.int (zi v1)]) rfl ?_
      refine z0_eq (tgt := 57) hx hb dX7_quarrels_51 (by decide) (by omega) (fun h51 => ?_) (fun h51 => ?_)
      · refine lv_iinc (v := zi ((j : Int) + 1)) (lv' := [(3, .int (zi ((j : Int) + 1))), (2, .int (zi (k : Int))), (1, .int (zi q)), (0, .ref (ad 52))]) hx hb dX7_quarrels_57 hl (k := 0) rfl (zi_add _ _) (by decide) rfl (fun ls hl => ?_)
        refine lv_goto (tgt := 19) hx hb dX7_quarrels_60 (by decide) ?_
        exact ih19 (j + 1) q (by omega) H locs ls ⟨hP, hD, hS, lv_sub hl [0, 1, 2, 3] rfl, (by omega), (by rw [zQa_no (by rcases hv1 with h | h; omega; exact h.2)]; exact hq)⟩
      · refine lv_iinc (v := zi (q + 1)) (lv' := [(1, .int (zi (q + 1))), (3, .int (zi (j : Int))), (2, .int (zi (k : Int))), (0, .ref (ad 52))]) hx hb dX7_quarrels_54 hl (k := 2) rfl (zi_add _ _) (by decide) rfl (fun ls hl => ?_)
        refine lv_iinc (v := zi ((j : Int) + 1)) (lv' := [(3, .int (zi ((j : Int) + 1))), (1, .int (zi (q + 1))), (2, .int (zi (k : Int))), (0, .ref (ad 52))]) hx hb dX7_quarrels_57 hl (k := 1) rfl (zi_add _ _) (by decide) rfl (fun ls hl => ?_)
        refine lv_goto (tgt := 19) hx hb dX7_quarrels_60 (by decide) ?_
        exact ih19 (j + 1) (q + 1) (by omega) H locs ls ⟨hP, hD, hS, lv_sub hl [0, 2, 1, 3] rfl, (by omega), (by rw [zQa_yes hj.1 (by rcases hv1 with h | h; exact h.2; omega), hq]; omega)⟩

set_option maxHeartbeats 4000000 in
set_option maxRecDepth 100000 in
/-- steps -/
theorem c_X7_steps (l : Launch) (G : zG) (ad : Nat → Nat) (X : Nat → Nat → Int) (p0 : Int) (p1 : Int) (p2 : Int) (p3 : Int) (hV : zV X) (hp0 : 0 ≤ p0 ∧ p0 < 256) (hp1 : 0 ≤ p1 ∧ p1 < 256) (hp2 : 0 ≤ p2 ∧ p2 < 1024) (hp3 : 0 ≤ p3 ∧ p3 < 4) : zR l G yX7_steps wsX7_steps { frames := 2, cells := 0, slots := 0, locals := 46 } (zpic G ad X) [.ref (ad 52), .int (zi p0), .int (zi p1), .int (zi p2), .int (zi p3)] (zu G ad (fun w Y => Y = zw (zw (zw (zw X 70 0 p0) 70 1 p1) 70 2 p2) 70 3 p3 ∧ ∃ f : Nat, w = (f : Int) ∧ zStp Y f)) 0 0 := by
  refine zR_of (cc := cX7_steps) (maxL := 8) (rt := (some .int)) (by decide) rfl (Nat.le_of_ble_eq_true rfl) ?_
  intro p e s m below meth c A ls hx hb hml hr hts hown hlocks hin0 hA hE hP hD hS hl
  have hl : lv_has ls 8 [(0, .ref (ad 52)), (1, .int (zi p0)), (2, .int (zi p1)), (3, .int (zi p2)), (4, .int (zi p3))] := hl
  have hown : s.vm.findClass RX7 = some m.cls := hown
  have hw7 : ∀ w ∈ u_ws RX7 TX7 8, w ∈ wsX7_steps := by decide +kernel
  have hf10 := hts (.fieldLink RX7 10 "Nettle" "wall" "LNettle$Wall;") (by decide +kernel)
  have hf62 := hts (.fieldLink RX7 62 "Nettle" "packet" "[I") (by decide +kernel)
  refine lv_aload_n hx hb dX7_steps_0 rfl (lv_at hl 0 rfl) ?_
  refine lv_iload_n hx hb dX7_steps_1 rfl (lv_at hl 1 rfl) ?_
  refine lv_iload_n hx hb dX7_steps_2 rfl (lv_at hl 2 rfl) ?_
  refine lv_iload_n hx hb dX7_steps_3 rfl (lv_at hl 3 rfl) ?_
  refine lv_iload hx hb dX7_steps_4 (lv_at hl 4 rfl) ?_
  refine zcall (wr := []) (va_runV (As := [.int (zi p0), .int (zi p1), .int (zi p2), .int (zi p3)]) (rest := []) ⟨hx, hb, hml, hown, hts⟩ (c_X7_takePacket l G ad X p0 p1 p2 p3 (by omega) (by omega) (by omega) (by omega) s.heap.size) (cwV 4 hts gX7_steps_X7_takePacket rfl rfl rfl (by decide +kernel) ⟨Nat.le_of_ble_eq_true rfl, Nat.le_of_ble_eq_true rfl⟩) (zPreV (wr := []) (wc := zpic G ad X) (q0 := 52) (ci := 7) (q := (RX7, TX7, 8)) hP hD hE hS hA rfl p_52) rfl rfl hl.1 rfl (lv_room (Nat.le_of_ble_eq_true rfl)) dX7_steps_6 ⟨Nat.le_of_ble_eq_true rfl, Nat.le_of_ble_eq_true rfl⟩) hP hD hS hA (fun _ _ H locs hf hP hD hS => ?_)
  obtain ⟨X1, rfl, hX1, rfl⟩ := hf
  have hP : va_P G.1 vwCl (zpic G ad X1) H := hP
  have hD : va_D A (zpic G ad X1) := hD
  refine W.eq (g2 := F0 m 9 ls []) rfl ?_
  have hV1 : zV X1 := hV.eq (fun k h9 => by rw [hX1, zw_cell (by omega), zw_cell (by omega), zw_cell (by omega), zw_cell (by omega)])
  have hp : zPk X1 := by rw [hX1]; exact zPkt hp0 hp1 hp2 hp3
  have hn := hV1.n (Or.inl rfl : zIsW 0)
  refine lv_aload_n hx hb dX7_steps_9 rfl (lv_at hl 0 rfl) ?_
  refine va_get (D := G.1) (ci := 7) (v := .ref (ad 0)) (C := RX7) (T := TX7) (N := 8) hx hb hts hw7 hown hE.1 hP 52 p_52 rfl 0 (by decide) hf10 (fun _ h9 => h9) rfl dX7_steps_10 ?_
  refine zcall (wr := []) (va_runV (As := []) (rest := []) ⟨hx, hb, hml, hown, hts⟩ (c_X6_deciders l G ad X1 0 hV1 (Or.inl rfl) H.size) (cwV 0 hts gX7_steps_X6_deciders rfl rfl rfl (by decide +kernel) ⟨Nat.le_of_ble_eq_true rfl, Nat.le_of_ble_eq_true rfl⟩) (zPreV (wr := []) (wc := zpic G ad X1) (q0 := 0) (ci := 6) (q := (RX6, TX6, 3)) hP hD hE hS hA rfl (p_w (Or.inl rfl))) rfl rfl hl.1 rfl (lv_room (Nat.le_of_ble_eq_true rfl)) dX7_steps_13 ⟨Nat.le_of_ble_eq_true rfl, Nat.le_of_ble_eq_true rfl⟩) hP hD hS hA (fun _ _ H locs hf hP hD hS => ?_)
  obtain ⟨v1, rfl, hv1, rfl⟩ := hf
  have hP : va_P G.1 vwCl (zpic G ad X1) H := hP
  have hD : va_D A (zpic G ad X1) := hD
  refine W.eq (g2 := F0 m 16 ls [.int (zi v1)]) rfl ?_
  rw [hv1]
  refine lv_istore (lv' := [(5, .int (zi (zDec X1 0 : Int))), (0, .ref (ad 52)), (1, .int (zi p0)), (2, .int (zi p1)), (3, .int (zi p2)), (4, .int (zi p3))]) hx hb dX7_steps_16 hl (by decide) rfl (fun ls hl => ?_)
  refine lv_iconst (v := zi 0) hx hb dX7_steps_18 rfl ?_
  refine lv_istore (lv' := [(6, .int (zi 0)), (5, .int (zi (zDec X1 0 : Int))), (0, .ref (ad 52)), (1, .int (zi p0)), (2, .int (zi p1)), (3, .int (zi p2)), (4, .int (zi p3))]) hx hb dX7_steps_19 hl (by decide) rfl (fun ls hl => ?_)
  refine lv_iconst (v := zi 0) hx hb dX7_steps_21 rfl ?_
  refine lv_istore (lv' := [(7, .int (zi 0)), (6, .int (zi 0)), (5, .int (zi (zDec X1 0 : Int))), (0, .ref (ad 52)), (1, .int (zi p0)), (2, .int (zi p1)), (3, .int (zi p2)), (4, .int (zi p3))]) hx hb dX7_steps_22 hl (by decide) rfl (fun ls hl => ?_)
  refine zloop1 (fun (f : Nat) => 4 - f) (fun (f : Nat) (H : Heap) (locs : List Loc) (ls : Array Slot) => va_P G.1 vwCl (zpic G ad X1) H ∧ va_D A (zpic G ad X1) ∧ va_S A s.heap H locs ∧ lv_has ls 8 [(7, .int (zi (f : Int))), (6, .int (zi (f : Int))), (5, .int (zi (zPth X1 f : Int))), (0, .ref (ad 52))] ∧ (f ≤ 4) ∧ (∀ g : Nat, g < f → ¬ zSe X1 0 g (zPth X1 g))) ?_ 0 ⟨hP, hD, hS, lv_sub hl [0, 1, 2, 3] rfl, (by omega), (fun j h1 => by omega)⟩
  intro f ih H locs ls ⟨hP, hD, hS, hl, hf, hw⟩
  refine lv_iload hx hb dX7_steps_24 (lv_at hl 0 rfl) ?_
  refine lv_iconst (v := zi 4) hx hb dX7_steps_26 rfl ?_
  refine zc_ge (tgt := 77) hx hb dX7_steps_27 (by decide) (by omega) (by decide) (fun h27 => ?_) (fun h27 => ?_)
  · refine lv_iload hx hb dX7_steps_77 (lv_at hl 1 rfl) ?_
    exact zend_i hx hb hr hlocks hP hD hS (Nat.le_of_ble_eq_true rfl) (Nat.le_of_ble_eq_true rfl) dX7_steps_79 ⟨_, _, rfl, ⟨hX1, f, rfl, by omega, Or.inl (by omega), hw⟩, rfl⟩
  · refine lv_aload_n hx hb dX7_steps_30 rfl (lv_at hl 3 rfl) ?_
    refine va_get (D := G.1) (ci := 7) (v := .ref (ad 0)) (C := RX7) (T := TX7) (N := 8) hx hb hts hw7 hown hE.1 hP 52 p_52 rfl 0 (by decide) hf10 (fun _ h9 => h9) rfl dX7_steps_31 ?_
    refine lv_iload hx hb dX7_steps_34 (lv_at hl 0 rfl) ?_
    refine lv_iload hx hb dX7_steps_36 (lv_at hl 2 rfl) ?_
    refine zcall (wr := []) (va_runV (As := [.int (zi (f : Int)), .int (zi (zPth X1 f : Int))]) (rest := []) ⟨hx, hb, hml, hown, hts⟩ (c_X6_isSettled l G ad X1 0 f (zPth X1 f) hV1 (Or.inl rfl) (by omega) (zPth_lt X1 hV1 f) H.size) (cwV 2 hts gX7_steps_X6_isSettled rfl rfl rfl (by decide +kernel) ⟨Nat.le_of_ble_eq_true rfl, Nat.le_of_ble_eq_true rfl⟩) (zPreV (wr := []) (wc := zpic G ad X1) (q0 := 0) (ci := 6) (q := (RX6, TX6, 3)) hP hD hE hS hA rfl (p_w (Or.inl rfl))) rfl rfl hl.1 rfl (lv_room (Nat.le_of_ble_eq_true rfl)) dX7_steps_38 ⟨Nat.le_of_ble_eq_true rfl, Nat.le_of_ble_eq_true rfl⟩) hP hD hS hA (fun _ _ H locs hf hP hD hS => ?_)
    obtain ⟨v2, rfl, hv2, rfl⟩ := hf
    have hP : va_P G.1 vwCl (zpic G ad X1) H := hP
    have hD : va_D A (zpic G ad X1) := hD
    refine W.eq (g2 := F0 m 41 ls [.int (zi v2)]) rfl ?_
    refine z0_eq (tgt := 47) hx hb dX7_steps_41 (by decide) (by omega) (fun h41 => ?_) (fun h41 => ?_)
    · have hpf := hp f (by omega)
      have hsf := zS_le f
      refine lv_iinc (v := zi ((f : Int) + 1)) (lv' := [(6, .int (zi ((f : Int) + 1))), (7, .int (zi (f : Int))), (5, .int (zi (zPth X1 f : Int))), (0, .ref (ad 52))]) hx hb dX7_steps_47 hl (k := 1) rfl (zi_add _ _) (by decide) rfl (fun ls hl => ?_)
      refine lv_iload hx hb dX7_steps_50 (lv_at hl 2 rfl) ?_
      refine lv_aload_n hx hb dX7_steps_52 rfl (lv_at hl 3 rfl) ?_
      refine va_get (D := G.1) (ci := 7) (v := .ref (ad 0)) (C := RX7) (T := TX7) (N := 8) hx hb hts hw7 hown hE.1 hP 52 p_52 rfl 0 (by decide) hf10 (fun _ h9 => h9) rfl dX7_steps_53 ?_
      refine lv_iload hx hb dX7_steps_56 (lv_at hl 1 rfl) ?_
      refine lv_aload_n hx hb dX7_steps_58 rfl (lv_at hl 3 rfl) ?_
      refine va_get (D := G.1) (ci := 7) (v := .ref (ad 70)) (C := RX7) (T := TX7) (N := 8) hx hb hts hw7 hown hE.1 hP 52 p_52 rfl 7 (by decide) hf62 (fun _ h9 => h9) rfl dX7_steps_59 ?_
      refine lv_iload hx hb dX7_steps_62 (lv_at hl 1 rfl) ?_
      refine zild hx hb hE hP 70 4 (fun _ => rfl) (by decide) f rfl (by omega) (by decide) dX7_steps_64 ?_
      refine zcall (wr := []) (va_runV (As := [.int (zi (f : Int)), .int (zi (X1 70 f))]) (rest := [.int (zi (zPth X1 f : Int))]) ⟨hx, hb, hml, hown, hts⟩ (c_X6_having l G ad X1 0 f (X1 70 f) hV1 (Or.inl rfl) (by omega) (by omega) H.size) (cwV 2 hts gX7_steps_X6_having rfl rfl rfl (by decide +kernel) ⟨Nat.le_of_ble_eq_true rfl, Nat.le_of_ble_eq_true rfl⟩) (zPreV (wr := []) (wc := zpic G ad X1) (q0 := 0) (ci := 6) (q := (RX6, TX6, 3)) hP hD hE hS hA rfl (p_w (Or.inl rfl))) rfl rfl hl.1 rfl (lv_room (Nat.le_of_ble_eq_true rfl)) dX7_steps_65 ⟨Nat.le_of_ble_eq_true rfl, Nat.le_of_ble_eq_true rfl⟩) hP hD hS hA (fun _ _ H locs hf hP hD hS => ?_)
      obtain ⟨v3, rfl, hv3, rfl⟩ := hf
      have hP : va_P G.1 vwCl (zpic G ad X1) H := hP
      have hD : va_D A (zpic G ad X1) := hD
      refine W.eq (g2 := F0 m 68 ls [.int (zi v3), .int (zi (zPth X1 f : Int))]) rfl ?_
      refine lv_iand hx hb dX7_steps_68 (zti (v := zi ((zPth X1 f &&& zHav X1 0 f (X1 70 f) : Nat) : Int)) (by rw [hv3]; exact zi_and _ _) ?_)
      refine lv_istore (lv' := [(5, .int (zi ((zPth X1 f &&& zHav X1 0 f (X1 70 f) : Nat) : Int))), (6, .int (zi ((f : Int) + 1))), (7, .int (zi (f : Int))), (0, .ref (ad 52))]) hx hb dX7_steps_69 hl (by decide) rfl (fun ls hl => ?_)
      refine lv_iinc (v := zi ((f : Int) + 1)) (lv' := [(7, .int (zi ((f : Int) + 1))), (5, .int (zi ((zPth X1 f &&& zHav X1 0 f (X1 70 f) : Nat) : Int))), (6, .int (zi ((f : Int) + 1))), (0, .ref (ad 52))]) hx hb dX7_steps_71 hl (k := 2) rfl (zi_add _ _) (by decide) rfl (fun ls hl => ?_)
      refine lv_goto (tgt := 24) hx hb dX7_steps_74 (by decide) ?_
      exact ih (f + 1) (by omega) H locs ls ⟨hP, hD, hS, lv_sub hl [0, 2, 1, 3] rfl, (by omega), (fun j h1 => by by_cases hk : j < f; exact hw j hk; have hjk : j = f := (by omega); rw [hjk]; rcases hv2 with h | h; omega; exact h.2)⟩
    · refine lv_goto (tgt := 77) hx hb dX7_steps_44 (by decide) ?_
      refine lv_iload hx hb dX7_steps_77 (lv_at hl 1 rfl) ?_
      exact zend_i hx hb hr hlocks hP hD hS (Nat.le_of_ble_eq_true rfl) (Nat.le_of_ble_eq_true rfl) dX7_steps_79 ⟨_, _, rfl, ⟨hX1, f, rfl, by omega, Or.inr (by rcases hv2 with h | h; exact h.2; omega), hw⟩, rfl⟩
end
section
/-! ===== the survey: boxes of sets, what is taken out ===== -/
/-- u without q -/
def zDel (u q : Nat) : Nat := u &&& (255 - 2 ^ q)
theorem zDel_bit {u q i : Nat} (hq : q < 8) (hi : i < 8) : (zDel u q).testBit i = (u.testBit i && decide (i ≠ q)) := by
  have key : ∀ (q i : Fin 8), (255 - 2 ^ q.val).testBit i.val = decide (i.val ≠ q.val) := by decide +kernel
  unfold zDel
  rw [Nat.testBit_and, key ⟨q, hq⟩ ⟨i, hi⟩]
theorem zDel_sub {u q : Nat} (hu : u < 256) (hq : q < 8) (h : u.testBit q = true) : zDel u q + 2 ^ q = u := by
  have key : ∀ (u : Fin 256) (q : Fin 8), u.val.testBit q.val = true → (u.val &&& (255 - 2 ^ q.val)) + 2 ^ q.val = u.val := by decide +kernel
  exact key ⟨u, hu⟩ ⟨q, hq⟩ h
theorem zDel_le (u q : Nat) : zDel u q ≤ u := Nat.and_le_left
theorem z2_lt {n k : Nat} (h : k < n) : 2 ^ k < 2 ^ n := Nat.pow_lt_pow_right (by omega) h
theorem z2_256 {n : Nat} (h : n ≤ 8) : 2 ^ n ≤ 256 := Nat.pow_le_pow_right (n := 2) (by omega) h
theorem zNo_zero {n u : Nat} (hu : u < 2 ^ n) (h : zNo n u) : u = 0 := by
  apply Nat.eq_of_testBit_eq
  intro i
  rw [Nat.zero_testBit]
  by_cases hi : i < n
  · exact h i hi
  · exact Nat.testBit_lt_two_pow (Nat.lt_of_lt_of_le hu (Nat.pow_le_pow_right (by omega) (by omega)))
theorem zbit_hi {n u i : Nat} (hu : u < 2 ^ n) (h : u.testBit i = true) : i < n := by
  by_cases hi : i < n
  · exact hi
  · rw [Nat.testBit_lt_two_pow (Nat.lt_of_lt_of_le hu (Nat.pow_le_pow_right (by omega) (by omega)))] at h
    cases h
/-- what the RULES of u leave of a FIELD -/
def zBd (X : Nat → Nat → Int) (u g : Nat) (lo hi : Int) : Prop := (0 ≤ lo ∧ lo < zS g ∧ 0 ≤ hi ∧ hi < zS g) ∧ ∀ v : Int, 0 ≤ v → v < zS g → ((lo ≤ v ∧ v ≤ hi) ↔ ∀ i : Nat, i < zN X 0 → u.testBit i = true → X (zr X 0 i + 1) g ≤ v ∧ v ≤ X (zr X 0 i + 2) g)
theorem zBd_0 (X : Nat → Nat → Int) (g : Nat) : zBd X 0 g 0 (zS g - 1) := by
  have h := zS_le g
  refine ⟨by omega, fun v h0 h1 => ⟨fun _ i _ hb => ?_, fun _ => by omega⟩⟩
  rw [Nat.zero_testBit] at hb
  cases hb
theorem zBd_step {X : Nat → Nat → Int} (hV : zV X) {u k g : Nat} {lo hi : Int} (hu : u < 256) (hk : zFi (zN X 0) u k) (hg : g < 4) (h : zBd X (zDel u k) g lo hi) : zBd X u g (max (X (zr X 0 k + 1) g) lo) (min (X (zr X 0 k + 2) g) hi) := by
  have hn := hV.n (Or.inl rfl : zIsW 0)
  have hk1 := hk.1
  have hr := hV.rf (hV.isR (Or.inl rfl : zIsW 0) (show k < 8 by omega)) hg
  obtain ⟨h1, h2⟩ := h
  refine ⟨by omega, fun v v0 v1 => ?_⟩
  have h3 := h2 v v0 v1
  constructor
  · intro hv i hi hb
    by_cases e : i = k
    · subst e; omega
    · exact h3.mp (by omega) i hi (by rw [zDel_bit (by omega) (by omega), hb, decide_eq_true e]; rfl)
  · intro hv
    have a1 := hv k hk1 hk.2.1
    have a2 := h3.mpr (fun i hi hb => hv i hi (by rw [zDel_bit (by omega) (by omega), Bool.and_eq_true] at hb; exact hb.1))
    omega
/-- the sets m that are u below r, and hold u -/
def zPq (r u m : Nat) : Prop := ∀ i : Nat, (i < r → m.testBit i = u.testBit i) ∧ (u.testBit i = true → m.testBit i = true)
theorem zPq_yes {r u m : Nat} (h : u.testBit r = true) : zPq (r + 1) u m ↔ zPq r u m := by
  constructor
  · intro q i
    exact ⟨fun hi => (q i).1 (by omega), (q i).2⟩
  · intro q i
    refine ⟨fun hi => ?_, (q i).2⟩
    by_cases e : i = r
    · subst e; rw [(q i).2 h, h]
    · exact (q i).1 (by omega)
theorem zor_bit (u r i : Nat) : (u ||| 2 ^ r).testBit i = (u.testBit i || decide (r = i)) := by rw [Nat.testBit_or, Nat.testBit_two_pow]
theorem zPq_no {X : Nat → Nat → Int} {r u : Nat} (h : u.testBit r = false) : zm X (zPq (r + 1) u) = zm X (zPq r u) - zm X (zPq r (u ||| 2 ^ r)) := by
  have h1 := zm_add (X := X) (zPq r u) (fun m => m.testBit r = true)
  have h2 : zm X (fun m => zPq r u m ∧ m.testBit r = true) = zm X (zPq r (u ||| 2 ^ r)) := zm_congr fun m _ => by
    constructor
    · rintro ⟨q, hb⟩ i
      rw [zor_bit]
      refine ⟨fun hi => ?_, fun hz => ?_⟩
      · rw [(q i).1 hi, decide_eq_false (by omega), Bool.or_false]
      · by_cases e : r = i
        · subst e; exact hb
        · rw [decide_eq_false e, Bool.or_false] at hz
          exact (q i).2 hz
    · intro q
      refine ⟨fun i => ⟨fun hi => ?_, fun hz => ?_⟩, ?_⟩
      · have q1 := (q i).1 hi
        rw [zor_bit, decide_eq_false (by omega), Bool.or_false] at q1
        exact q1
      · exact (q i).2 (by rw [zor_bit, hz, Bool.true_or])
      · exact (q r).2 (by rw [zor_bit, decide_eq_true rfl, Bool.or_true])
  have h3 : zm X (fun m => zPq r u m ∧ ¬ m.testBit r = true) = zm X (zPq (r + 1) u) := zm_congr fun m _ => by
    constructor
    · rintro ⟨q, hb⟩ i
      refine ⟨fun hi => ?_, (q i).2⟩
      by_cases e : i = r
      · subst e; rw [h]; exact Bool.eq_false_iff.mpr hb
      · exact (q i).1 (by omega)
    · intro q
      refine ⟨fun i => ⟨fun hi => (q i).1 (by omega), (q i).2⟩, ?_⟩
      rw [(q r).1 (by omega), h]
      exact Bool.false_ne_true
  rw [h2, h3] at h1
  omega
theorem zPq_n {X : Nat → Nat → Int} {u : Nat} (hu : u < 2 ^ zN X 0) : zm X (zPq (zN X 0) u) = zm X (fun m => m = u) := zm_congr fun m hm => by
  constructor
  · intro q
    apply Nat.eq_of_testBit_eq
    intro i
    by_cases hi : i < zN X 0
    · exact (q i).1 hi
    · have hp : 2 ^ zN X 0 ≤ 2 ^ i := Nat.pow_le_pow_right (by omega) (by omega)
      rw [Nat.testBit_lt_two_pow (Nat.lt_of_lt_of_le hm hp), Nat.testBit_lt_two_pow (Nat.lt_of_lt_of_le hu hp)]
  · intro e i
    rw [e]
    exact ⟨fun _ => rfl, id⟩
/-- the amount of a box -/
def zBoxA (w : Nat → Int) : Nat → Int
  | 0 => 1
  | g + 1 => zBoxA w g * max 0 (w g)
theorem zPq_box {X : Nat → Nat → Int} (hV : zV X) {u : Nat} (hu : u < 2 ^ zN X 0) (L U : Nat → Int) (h : ∀ g : Nat, g < 4 → zBd X u g (L g) (U g)) : zm X (zPq 0 u) = zBoxA (fun g => U g - L g + 1) 4 := by
  have h0 : zm X (zPq 0 u) = max 0 (U 0 - L 0 + 1) * max 0 (U 1 - L 1 + 1) * max 0 (U 2 - L 2 + 1) * max 0 (U 3 - L 3 + 1) := by
    refine zmu_box L U (fun g hg => by have := (h g hg).1; omega) (fun a b c d ha hb hc hd => ?_)
    have e0 := zSn_eq 0
    have e1 := zSn_eq 1
    have e2 := zSn_eq 2
    have e3 := zSn_eq 3
    have q0 := (h 0 (by omega)).2 (a : Int) (by omega) (by omega)
    have q1 := (h 1 (by omega)).2 (b : Int) (by omega) (by omega)
    have q2 := (h 2 (by omega)).2 (c : Int) (by omega) (by omega)
    have q3 := (h 3 (by omega)).2 (d : Int) (by omega) (by omega)
    rw [Bool.eq_iff_iff, zB_iff, Bool.and_eq_true, Bool.and_eq_true, Bool.and_eq_true, zIv_iff, zIv_iff, zIv_iff, zIv_iff, q0, q1, q2, q3]
    constructor
    · intro q
      have key : ∀ i : Nat, i < zN X 0 → u.testBit i = true → zBx X (zr X 0 i) a b c d = true := by
        intro i hi hb
        have q4 := (q i).2 hb
        rw [zMs_bit, Bool.and_eq_true] at q4
        exact q4.2
      have key2 : ∀ i : Nat, i < zN X 0 → u.testBit i = true → ((((X (zr X 0 i + 1) 0 ≤ (a : Int) ∧ (a : Int) ≤ X (zr X 0 i + 2) 0) ∧ (X (zr X 0 i + 1) 1 ≤ (b : Int) ∧ (b : Int) ≤ X (zr X 0 i + 2) 1)) ∧ (X (zr X 0 i + 1) 2 ≤ (c : Int) ∧ (c : Int) ≤ X (zr X 0 i + 2) 2)) ∧ (X (zr X 0 i + 1) 3 ≤ (d : Int) ∧ (d : Int) ≤ X (zr X 0 i + 2) 3)) := by
        intro i hi hb
        have q5 := key i hi hb
        unfold zBx at q5
        rw [Bool.and_eq_true, Bool.and_eq_true, Bool.and_eq_true, zIv_iff, zIv_iff, zIv_iff, zIv_iff] at q5
        exact q5
      exact ⟨⟨⟨fun i hi hb => (key2 i hi hb).1.1.1, fun i hi hb => (key2 i hi hb).1.1.2⟩, fun i hi hb => (key2 i hi hb).1.2⟩, fun i hi hb => (key2 i hi hb).2⟩
    · rintro ⟨⟨⟨p0, p1⟩, p2⟩, p3⟩ i
      refine ⟨fun hi => by omega, fun hb => ?_⟩
      have hi := zbit_hi hu hb
      rw [zMs_bit, decide_eq_true hi, Bool.true_and]
      unfold zBx
      rw [Bool.and_eq_true, Bool.and_eq_true, Bool.and_eq_true, zIv_iff, zIv_iff, zIv_iff, zIv_iff]
      exact ⟨⟨⟨p0 i hi hb, p1 i hi hb⟩, p2 i hi hb⟩, p3 i hi hb⟩
  rw [h0]
  show _ = 1 * max 0 (U 0 - L 0 + 1) * max 0 (U 1 - L 1 + 1) * max 0 (U 2 - L 2 + 1) * max 0 (U 3 - L 3 + 1)
  rw [Int.one_mul]
/-- the survey knows the amounts -/
def zSv (X Y : Nat → Nat → Int) : Prop := ∀ u : Nat, u < 2 ^ zN X 0 → Y 56 u = zm X (fun m => m = u)
theorem zSv.bd {X Y : Nat → Nat → Int} (h : zSv X Y) {u : Nat} (hu : u < 2 ^ zN X 0) : 0 ≤ Y 56 u ∧ Y 56 u ≤ 268435456 := by
  rw [h u hu]
  exact ⟨zm_nn, zm_top⟩
theorem zPq_nil (X : Nat → Nat → Int) : zm X (zPq 0 0) = 268435456 := by
  rw [← zm_all (X := X)]
  refine zm_congr fun m _ => ⟨fun _ => trivial, fun _ i => ⟨fun h => by omega, fun h => ?_⟩⟩
  rw [Nat.zero_testBit] at h
  cases h
/-! ints of sets -/
theorem zi_and0 {u b : Nat} (hu : u < 256) : zi ((u &&& b : Nat) : Int) = zi 0 ↔ u &&& b = 0 := by
  have h : u &&& b ≤ u := Nat.and_le_left
  rw [zi_eq ⟨by omega, by omega⟩ ⟨by omega, by omega⟩]
  omega
theorem zand_two {u q : Nat} : u &&& 2 ^ q = 0 ↔ u.testBit q = false := by
  constructor
  · intro h
    have h1 : (u &&& 2 ^ q).testBit q = false := by rw [h, Nat.zero_testBit]
    rw [Nat.testBit_and, Nat.testBit_two_pow, decide_eq_true rfl, Bool.and_true] at h1
    exact h1
  · intro h
    apply Nat.eq_of_testBit_eq
    intro i
    rw [Nat.testBit_and, Nat.testBit_two_pow, Nat.zero_testBit]
    by_cases e : q = i
    · subst e; rw [h, Bool.false_and]
    · rw [decide_eq_false e, Bool.and_false]
theorem zand_nil {u b : Nat} : u &&& b = 0 ↔ ∀ i : Nat, ¬ (u.testBit i = true ∧ b.testBit i = true) := by
  constructor
  · intro h i ⟨h1, h2⟩
    have h3 : (u &&& b).testBit i = true := by rw [Nat.testBit_and, h1, h2]; rfl
    rw [h, Nat.zero_testBit] at h3
    cases h3
  · intro h
    apply Nat.eq_of_testBit_eq
    intro i
    rw [Nat.testBit_and, Nat.zero_testBit]
    have h1 := h i
    cases a : u.testBit i
    · rfl
    · cases c : b.testBit i
      · rfl
      · exact absurd ⟨a, c⟩ h1
theorem zmask_bit (q i : Nat) : (2 ^ q - 1).testBit i = decide (i < q) := Nat.testBit_two_pow_sub_one q i
theorem zi_pred {q : Nat} (hq : q < 9) : zi ((2 ^ q : Nat) : Int) - zi 1 = zi ((2 ^ q - 1 : Nat) : Int) := by
  have h : 1 ≤ 2 ^ q := Nat.one_le_two_pow
  rw [zi_sub]
  exact congrArg zi (by omega)
theorem zi_not {u q : Nat} (hu : u < 256) (hq : q < 8) : zi (u : Int) &&& (zi ((2 ^ q : Nat) : Int) ^^^ zi (-1)) = zi ((zDel u q : Nat) : Int) := by
  have key : ∀ (u : Fin 256) (q : Fin 8), zi ((u.val : Nat) : Int) &&& (zi ((2 ^ q.val : Nat) : Int) ^^^ zi (-1)) = zi ((u.val &&& (255 - 2 ^ q.val) : Nat) : Int) := by decide +kernel
  exact key ⟨u, hu⟩ ⟨q, hq⟩
theorem zi_shl2 {q : Nat} (hq : q < 8) : zi 2 <<< (zi (q : Int) &&& 31) = zi ((2 ^ (q + 1) : Nat) : Int) := by
  have key : ∀ q : Fin 8, zi 2 <<< (zi ((q.val : Nat) : Int) &&& 31) = zi ((2 ^ (q.val + 1) : Nat) : Int) := by decide +kernel
  exact key ⟨q, hq⟩
/-- with the RULE q moved to where it is, a set allows what it did -/
theorem zAl_same {X : Nat → Nat → Int} {a u k : Nat} (hk : zFi (zN X a) u k) : zAl X a (2 ^ k) ↔ zAl X a u := by
  have h : zFi (zN X a) (2 ^ k) k := by
    refine ⟨hk.1, by rw [Nat.testBit_two_pow, decide_eq_true rfl], fun j hj => ?_⟩
    rw [Nat.testBit_two_pow, decide_eq_false (by omega)]
  rw [zAl_fi h, zAl_fi hk]
theorem zFi.del {n u k q : Nat} (hk : zFi n u k) (hn : n ≤ 8) (hq : q < 8) (hne : k ≠ q) : zFi n (zDel u q) k := by
  have hk1 := hk.1
  refine ⟨hk.1, by rw [zDel_bit hq (by omega), hk.2.1, decide_eq_true hne]; rfl, fun j hj => ?_⟩
  rw [zDel_bit hq (by omega), hk.2.2 j hj, Bool.false_and]
theorem zNo.del {n u q : Nat} (h : zNo n u) (hn : n ≤ 8) (hq : q < 8) : zNo n (zDel u q) := fun j hj => by rw [zDel_bit hq (by omega), h j hj, Bool.false_and]
theorem zFi_or (n u : Nat) : (∃ k : Nat, zFi n u k) ∨ zNo n u := by
  induction n with
  | zero => exact Or.inr fun j hj => by omega
  | succ n ih =>
    rcases ih with ⟨k, hk⟩ | h
    · exact Or.inl ⟨k, by have := hk.1; omega, hk.2⟩
    · cases hb : u.testBit n
      · refine Or.inr fun j hj => ?_
        by_cases e : j = n
        · rw [e]; exact hb
        · exact h j (by omega)
      · exact Or.inl ⟨n, by omega, hb, h⟩
theorem zAl_del {X : Nat → Nat → Int} {a u k q : Nat} (hn : zN X a ≤ 8) (hq : q < 8) (hk : zFi (zN X a) u k) (hne : k ≠ q) : zAl X a (zDel u q) ↔ zAl X a u := by
  rw [zAl_fi (hk.del hn hq hne), zAl_fi hk]
theorem zDel_id {u q : Nat} (hu : u < 256) (hq : q < 8) (h : u.testBit q = false) : zDel u q = u := by
  have key : ∀ (u : Fin 256) (q : Fin 8), u.val.testBit q.val = false → (u.val &&& (255 - 2 ^ q.val)) = u.val := by decide +kernel
  exact key ⟨u, hu⟩ ⟨q, hq⟩ h
end
section
/-! the survey is made -/
theorem dX4_setCount_0 : decode cX4_setCount 0 = .ok (.iconst 1, 1) := by decide +kernel
theorem dX4_setCount_1 : decode cX4_setCount 1 = .ok (.aload_n 0, 1) := by decide +kernel
theorem dX4_setCount_2 : decode cX4_setCount 2 = .ok (.getfield 21, 3) := by decide +kernel
theorem dX4_setCount_5 : decode cX4_setCount 5 = .ok (.getfield 46, 3) := by decide +kernel
theorem dX4_setCount_8 : decode cX4_setCount 8 = .ok (.ishl, 1) := by decide +kernel
theorem dX4_setCount_9 : decode cX4_setCount 9 = .ok (.ireturn, 1) := by decide +kernel
theorem dX4_measure_0 : decode cX4_measure 0 = .ok (.aload_n 0, 1) := by decide +kernel
theorem dX4_measure_1 : decode cX4_measure 1 = .ok (.getfield 21, 3) := by decide +kernel
theorem dX4_measure_4 : decode cX4_measure 4 = .ok (.iload_n 1, 1) := by decide +kernel
set_option maxRecDepth 20000 in
theorem ggX4_measure_X6_firstOf : GoodIn wsX4_measure wsX6_firstOf := goodIn_r _ [19, 20, 26, 27, 28] (by decide +kernel) (by decide +kernel)
set_option maxRecDepth 20000 in
theorem gX4_measure_X6_firstOf : GoodIn wsX4_measure (wsV RX4 52 RX6 yX6_firstOf wsX6_firstOf) := goodIn_app (goodIn_of _ (by decide +kernel)) ggX4_measure_X6_firstOf
theorem dX4_measure_5 : decode cX4_measure 5 = .ok (.invokevirtual 52, 3) := by decide +kernel
theorem dX4_measure_8 : decode cX4_measure 8 = .ok (.istore_n 2, 1) := by decide +kernel
theorem dX4_measure_9 : decode cX4_measure 9 = .ok (.iload_n 2, 1) := by decide +kernel
theorem dX4_measure_10 : decode cX4_measure 10 = .ok (.ifCond .ge 4, 3) := by decide +kernel
theorem dX4_measure_14 : decode cX4_measure 14 = .ok (.aload_n 0, 1) := by decide +kernel
theorem dX4_measure_15 : decode cX4_measure 15 = .ok (.getfield 21, 3) := by decide +kernel
theorem dX4_measure_18 : decode cX4_measure 18 = .ok (.getfield 56, 3) := by decide +kernel
theorem dX4_measure_21 : decode cX4_measure 21 = .ok (.iload_n 2, 1) := by decide +kernel
theorem dX4_measure_22 : decode cX4_measure 22 = .ok (.aaload, 1) := by decide +kernel
theorem dX4_measure_23 : decode cX4_measure 23 = .ok (.astore_n 3, 1) := by decide +kernel
theorem dX4_measure_24 : decode cX4_measure 24 = .ok (.iload_n 1, 1) := by decide +kernel
theorem dX4_measure_25 : decode cX4_measure 25 = .ok (.iconst 1, 1) := by decide +kernel
theorem dX4_measure_26 : decode cX4_measure 26 = .ok (.iload_n 2, 1) := by decide +kernel
theorem dX4_measure_27 : decode cX4_measure 27 = .ok (.ishl, 1) := by decide +kernel
theorem dX4_measure_28 : decode cX4_measure 28 = .ok (.isub, 1) := by decide +kernel
theorem dX4_measure_29 : decode cX4_measure 29 = .ok (.istore 4, 2) := by decide +kernel
theorem dX4_measure_31 : decode cX4_measure 31 = .ok (.iconst 1, 1) := by decide +kernel
theorem dX4_measure_32 : decode cX4_measure 32 = .ok (.istore 5, 2) := by decide +kernel
theorem dX4_measure_34 : decode cX4_measure 34 = .ok (.iconst 0, 1) := by decide +kernel
theorem dX4_measure_35 : decode cX4_measure 35 = .ok (.istore 6, 2) := by decide +kernel
theorem dX4_measure_37 : decode cX4_measure 37 = .ok (.iload 6, 2) := by decide +kernel
theorem dX4_measure_39 : decode cX4_measure 39 = .ok (.iconst 4, 1) := by decide +kernel
theorem dX4_measure_40 : decode cX4_measure 40 = .ok (.if_icmp .ge 99, 3) := by decide +kernel
theorem dX4_measure_139 : decode cX4_measure 139 = .ok (.aload_n 0, 1) := by decide +kernel
theorem dX4_measure_140 : decode cX4_measure 140 = .ok (.getfield 18, 3) := by decide +kernel
theorem dX4_measure_143 : decode cX4_measure 143 = .ok (.iload_n 1, 1) := by decide +kernel
theorem dX4_measure_144 : decode cX4_measure 144 = .ok (.iload 5, 2) := by decide +kernel
theorem dX4_measure_146 : decode cX4_measure 146 = .ok (.iastore, 1) := by decide +kernel
theorem dX4_measure_147 : decode cX4_measure 147 = .ok (.return_, 1) := by decide +kernel
theorem dX4_measure_43 : decode cX4_measure 43 = .ok (.aload_n 3, 1) := by decide +kernel
theorem dX4_measure_44 : decode cX4_measure 44 = .ok (.getfield 60, 3) := by decide +kernel
theorem dX4_measure_47 : decode cX4_measure 47 = .ok (.iload 6, 2) := by decide +kernel
theorem dX4_measure_49 : decode cX4_measure 49 = .ok (.iaload, 1) := by decide +kernel
theorem dX4_measure_50 : decode cX4_measure 50 = .ok (.aload_n 0, 1) := by decide +kernel
theorem dX4_measure_51 : decode cX4_measure 51 = .ok (.getfield 9, 3) := by decide +kernel
theorem dX4_measure_54 : decode cX4_measure 54 = .ok (.iload 4, 2) := by decide +kernel
theorem dX4_measure_56 : decode cX4_measure 56 = .ok (.iconst 4, 1) := by decide +kernel
theorem dX4_measure_57 : decode cX4_measure 57 = .ok (.imul, 1) := by decide +kernel
theorem dX4_measure_58 : decode cX4_measure 58 = .ok (.iload 6, 2) := by decide +kernel
theorem dX4_measure_60 : decode cX4_measure 60 = .ok (.iadd, 1) := by decide +kernel
theorem dX4_measure_61 : decode cX4_measure 61 = .ok (.iaload, 1) := by decide +kernel
theorem dX4_measure_62 : decode cX4_measure 62 = .ok (.invokestatic 63, 3) := by decide +kernel
theorem dX4_measure_65 : decode cX4_measure 65 = .ok (.istore 7, 2) := by decide +kernel
theorem dX4_measure_67 : decode cX4_measure 67 = .ok (.aload_n 3, 1) := by decide +kernel
theorem dX4_measure_68 : decode cX4_measure 68 = .ok (.getfield 69, 3) := by decide +kernel
theorem dX4_measure_71 : decode cX4_measure 71 = .ok (.iload 6, 2) := by decide +kernel
theorem dX4_measure_73 : decode cX4_measure 73 = .ok (.iaload, 1) := by decide +kernel
theorem dX4_measure_74 : decode cX4_measure 74 = .ok (.aload_n 0, 1) := by decide +kernel
theorem dX4_measure_75 : decode cX4_measure 75 = .ok (.getfield 15, 3) := by decide +kernel
theorem dX4_measure_78 : decode cX4_measure 78 = .ok (.iload 4, 2) := by decide +kernel
theorem dX4_measure_80 : decode cX4_measure 80 = .ok (.iconst 4, 1) := by decide +kernel
theorem dX4_measure_81 : decode cX4_measure 81 = .ok (.imul, 1) := by decide +kernel
theorem dX4_measure_82 : decode cX4_measure 82 = .ok (.iload 6, 2) := by decide +kernel
theorem dX4_measure_84 : decode cX4_measure 84 = .ok (.iadd, 1) := by decide +kernel
theorem dX4_measure_85 : decode cX4_measure 85 = .ok (.iaload, 1) := by decide +kernel
theorem dX4_measure_86 : decode cX4_measure 86 = .ok (.invokestatic 70, 3) := by decide +kernel
theorem dX4_measure_89 : decode cX4_measure 89 = .ok (.istore 8, 2) := by decide +kernel
theorem dX4_measure_91 : decode cX4_measure 91 = .ok (.aload_n 0, 1) := by decide +kernel
theorem dX4_measure_92 : decode cX4_measure 92 = .ok (.getfield 9, 3) := by decide +kernel
theorem dX4_measure_95 : decode cX4_measure 95 = .ok (.iload_n 1, 1) := by decide +kernel
theorem dX4_measure_96 : decode cX4_measure 96 = .ok (.iconst 4, 1) := by decide +kernel
theorem dX4_measure_97 : decode cX4_measure 97 = .ok (.imul, 1) := by decide +kernel
theorem dX4_measure_98 : decode cX4_measure 98 = .ok (.iload 6, 2) := by decide +kernel
theorem dX4_measure_100 : decode cX4_measure 100 = .ok (.iadd, 1) := by decide +kernel
theorem dX4_measure_101 : decode cX4_measure 101 = .ok (.iload 7, 2) := by decide +kernel
theorem dX4_measure_103 : decode cX4_measure 103 = .ok (.iastore, 1) := by decide +kernel
theorem dX4_measure_104 : decode cX4_measure 104 = .ok (.aload_n 0, 1) := by decide +kernel
theorem dX4_measure_105 : decode cX4_measure 105 = .ok (.getfield 15, 3) := by decide +kernel
theorem dX4_measure_108 : decode cX4_measure 108 = .ok (.iload_n 1, 1) := by decide +kernel
theorem dX4_measure_109 : decode cX4_measure 109 = .ok (.iconst 4, 1) := by decide +kernel
theorem dX4_measure_110 : decode cX4_measure 110 = .ok (.imul, 1) := by decide +kernel
theorem dX4_measure_111 : decode cX4_measure 111 = .ok (.iload 6, 2) := by decide +kernel
theorem dX4_measure_113 : decode cX4_measure 113 = .ok (.iadd, 1) := by decide +kernel
theorem dX4_measure_114 : decode cX4_measure 114 = .ok (.iload 8, 2) := by decide +kernel
theorem dX4_measure_116 : decode cX4_measure 116 = .ok (.iastore, 1) := by decide +kernel
theorem dX4_measure_117 : decode cX4_measure 117 = .ok (.iload 5, 2) := by decide +kernel
theorem dX4_measure_119 : decode cX4_measure 119 = .ok (.iconst 0, 1) := by decide +kernel
theorem dX4_measure_120 : decode cX4_measure 120 = .ok (.iload 8, 2) := by decide +kernel
theorem dX4_measure_122 : decode cX4_measure 122 = .ok (.iload 7, 2) := by decide +kernel
theorem dX4_measure_124 : decode cX4_measure 124 = .ok (.isub, 1) := by decide +kernel
theorem dX4_measure_125 : decode cX4_measure 125 = .ok (.iconst 1, 1) := by decide +kernel
theorem dX4_measure_126 : decode cX4_measure 126 = .ok (.iadd, 1) := by decide +kernel
theorem dX4_measure_127 : decode cX4_measure 127 = .ok (.invokestatic 63, 3) := by decide +kernel
theorem dX4_measure_130 : decode cX4_measure 130 = .ok (.imul, 1) := by decide +kernel
theorem dX4_measure_131 : decode cX4_measure 131 = .ok (.istore 5, 2) := by decide +kernel
theorem dX4_measure_133 : decode cX4_measure 133 = .ok (.iinc 6 1, 3) := by decide +kernel
theorem dX4_measure_136 : decode cX4_measure 136 = .ok (.goto (-99), 3) := by decide +kernel
theorem dX4_takeOutLarger_0 : decode cX4_takeOutLarger 0 = .ok (.iconst 0, 1) := by decide +kernel
theorem dX4_takeOutLarger_1 : decode cX4_takeOutLarger 1 = .ok (.istore_n 1, 1) := by decide +kernel
theorem dX4_takeOutLarger_2 : decode cX4_takeOutLarger 2 = .ok (.iload_n 1, 1) := by decide +kernel
theorem dX4_takeOutLarger_3 : decode cX4_takeOutLarger 3 = .ok (.aload_n 0, 1) := by decide +kernel
theorem dX4_takeOutLarger_4 : decode cX4_takeOutLarger 4 = .ok (.getfield 21, 3) := by decide +kernel
theorem dX4_takeOutLarger_7 : decode cX4_takeOutLarger 7 = .ok (.getfield 46, 3) := by decide +kernel
theorem dX4_takeOutLarger_10 : decode cX4_takeOutLarger 10 = .ok (.if_icmp .ge 52, 3) := by decide +kernel
theorem dX4_takeOutLarger_62 : decode cX4_takeOutLarger 62 = .ok (.return_, 1) := by decide +kernel
theorem dX4_takeOutLarger_13 : decode cX4_takeOutLarger 13 = .ok (.iconst 1, 1) := by decide +kernel
theorem dX4_takeOutLarger_14 : decode cX4_takeOutLarger 14 = .ok (.iload_n 1, 1) := by decide +kernel
theorem dX4_takeOutLarger_15 : decode cX4_takeOutLarger 15 = .ok (.ishl, 1) := by decide +kernel
theorem dX4_takeOutLarger_16 : decode cX4_takeOutLarger 16 = .ok (.istore_n 2, 1) := by decide +kernel
theorem dX4_takeOutLarger_17 : decode cX4_takeOutLarger 17 = .ok (.iconst 0, 1) := by decide +kernel
theorem dX4_takeOutLarger_18 : decode cX4_takeOutLarger 18 = .ok (.istore_n 3, 1) := by decide +kernel
theorem dX4_takeOutLarger_19 : decode cX4_takeOutLarger 19 = .ok (.iload_n 3, 1) := by decide +kernel
theorem dX4_takeOutLarger_20 : decode cX4_takeOutLarger 20 = .ok (.aload_n 0, 1) := by decide +kernel
set_option maxRecDepth 20000 in
theorem ggX4_takeOutLarger_X4_setCount : GoodIn wsX4_takeOutLarger wsX4_setCount := goodIn_r _ [8, 1, 2, 9, 10, 11, 12, 13, 14, 15, 16] (by decide +kernel) (by decide +kernel)
set_option maxRecDepth 20000 in
theorem gX4_takeOutLarger_X4_setCount : GoodIn wsX4_takeOutLarger (wsV RX4 35 RX4 yX4_setCount wsX4_setCount) := goodIn_app (goodIn_of _ (by decide +kernel)) ggX4_takeOutLarger_X4_setCount
theorem dX4_takeOutLarger_21 : decode cX4_takeOutLarger 21 = .ok (.invokevirtual 35, 3) := by decide +kernel
theorem dX4_takeOutLarger_24 : decode cX4_takeOutLarger 24 = .ok (.if_icmp .ge 32, 3) := by decide +kernel
theorem dX4_takeOutLarger_56 : decode cX4_takeOutLarger 56 = .ok (.iinc 1 1, 3) := by decide +kernel
theorem dX4_takeOutLarger_59 : decode cX4_takeOutLarger 59 = .ok (.goto (-57), 3) := by decide +kernel
theorem dX4_takeOutLarger_27 : decode cX4_takeOutLarger 27 = .ok (.iload_n 3, 1) := by decide +kernel
theorem dX4_takeOutLarger_28 : decode cX4_takeOutLarger 28 = .ok (.iload_n 2, 1) := by decide +kernel
theorem dX4_takeOutLarger_29 : decode cX4_takeOutLarger 29 = .ok (.iand, 1) := by decide +kernel
theorem dX4_takeOutLarger_30 : decode cX4_takeOutLarger 30 = .ok (.ifCond .ne 20, 3) := by decide +kernel
theorem dX4_takeOutLarger_50 : decode cX4_takeOutLarger 50 = .ok (.iinc 3 1, 3) := by decide +kernel
theorem dX4_takeOutLarger_53 : decode cX4_takeOutLarger 53 = .ok (.goto (-34), 3) := by decide +kernel
theorem dX4_takeOutLarger_33 : decode cX4_takeOutLarger 33 = .ok (.aload_n 0, 1) := by decide +kernel
theorem dX4_takeOutLarger_34 : decode cX4_takeOutLarger 34 = .ok (.getfield 18, 3) := by decide +kernel
theorem dX4_takeOutLarger_37 : decode cX4_takeOutLarger 37 = .ok (.iload_n 3, 1) := by decide +kernel
theorem dX4_takeOutLarger_38 : decode cX4_takeOutLarger 38 = .ok (.dup2, 1) := by decide +kernel
theorem dX4_takeOutLarger_39 : decode cX4_takeOutLarger 39 = .ok (.iaload, 1) := by decide +kernel
theorem dX4_takeOutLarger_40 : decode cX4_takeOutLarger 40 = .ok (.aload_n 0, 1) := by decide +kernel
theorem dX4_takeOutLarger_41 : decode cX4_takeOutLarger 41 = .ok (.getfield 18, 3) := by decide +kernel
theorem dX4_takeOutLarger_44 : decode cX4_takeOutLarger 44 = .ok (.iload_n 3, 1) := by decide +kernel
theorem dX4_takeOutLarger_45 : decode cX4_takeOutLarger 45 = .ok (.iload_n 2, 1) := by decide +kernel
theorem dX4_takeOutLarger_46 : decode cX4_takeOutLarger 46 = .ok (.ior, 1) := by decide +kernel
theorem dX4_takeOutLarger_47 : decode cX4_takeOutLarger 47 = .ok (.iaload, 1) := by decide +kernel
theorem dX4_takeOutLarger_48 : decode cX4_takeOutLarger 48 = .ok (.isub, 1) := by decide +kernel
theorem dX4_takeOutLarger_49 : decode cX4_takeOutLarger 49 = .ok (.iastore, 1) := by decide +kernel
theorem dX4_refresh_0 : decode cX4_refresh 0 = .ok (.aload_n 0, 1) := by decide +kernel
theorem dX4_refresh_1 : decode cX4_refresh 1 = .ok (.getfield 25, 3) := by decide +kernel
theorem dX4_refresh_4 : decode cX4_refresh 4 = .ok (.ifCond .eq 4, 3) := by decide +kernel
theorem dX4_refresh_8 : decode cX4_refresh 8 = .ok (.iconst 0, 1) := by decide +kernel
theorem dX4_refresh_9 : decode cX4_refresh 9 = .ok (.istore_n 1, 1) := by decide +kernel
theorem dX4_refresh_10 : decode cX4_refresh 10 = .ok (.iload_n 1, 1) := by decide +kernel
theorem dX4_refresh_11 : decode cX4_refresh 11 = .ok (.iconst 4, 1) := by decide +kernel
theorem dX4_refresh_12 : decode cX4_refresh 12 = .ok (.if_icmp .ge 29, 3) := by decide +kernel
theorem dX4_refresh_15 : decode cX4_refresh 15 = .ok (.aload_n 0, 1) := by decide +kernel
theorem dX4_refresh_16 : decode cX4_refresh 16 = .ok (.getfield 9, 3) := by decide +kernel
theorem dX4_refresh_19 : decode cX4_refresh 19 = .ok (.iload_n 1, 1) := by decide +kernel
theorem dX4_refresh_20 : decode cX4_refresh 20 = .ok (.iconst 0, 1) := by decide +kernel
theorem dX4_refresh_21 : decode cX4_refresh 21 = .ok (.iastore, 1) := by decide +kernel
theorem dX4_refresh_22 : decode cX4_refresh 22 = .ok (.aload_n 0, 1) := by decide +kernel
theorem dX4_refresh_23 : decode cX4_refresh 23 = .ok (.getfield 15, 3) := by decide +kernel
theorem dX4_refresh_26 : decode cX4_refresh 26 = .ok (.iload_n 1, 1) := by decide +kernel
theorem dX4_refresh_27 : decode cX4_refresh 27 = .ok (.getstatic 29, 3) := by decide +kernel
theorem dX4_refresh_30 : decode cX4_refresh 30 = .ok (.iload_n 1, 1) := by decide +kernel
theorem dX4_refresh_31 : decode cX4_refresh 31 = .ok (.iaload, 1) := by decide +kernel
theorem dX4_refresh_32 : decode cX4_refresh 32 = .ok (.iconst 1, 1) := by decide +kernel
theorem dX4_refresh_33 : decode cX4_refresh 33 = .ok (.isub, 1) := by decide +kernel
theorem dX4_refresh_34 : decode cX4_refresh 34 = .ok (.iastore, 1) := by decide +kernel
theorem dX4_refresh_35 : decode cX4_refresh 35 = .ok (.iinc 1 1, 3) := by decide +kernel
theorem dX4_refresh_38 : decode cX4_refresh 38 = .ok (.goto (-28), 3) := by decide +kernel
theorem dX4_refresh_41 : decode cX4_refresh 41 = .ok (.aload_n 0, 1) := by decide +kernel
theorem dX4_refresh_42 : decode cX4_refresh 42 = .ok (.getfield 18, 3) := by decide +kernel
theorem dX4_refresh_45 : decode cX4_refresh 45 = .ok (.iconst 0, 1) := by decide +kernel
theorem dX4_refresh_46 : decode cX4_refresh 46 = .ok (.getstatic 32, 3) := by decide +kernel
theorem dX4_refresh_49 : decode cX4_refresh 49 = .ok (.iconst 0, 1) := by decide +kernel
theorem dX4_refresh_50 : decode cX4_refresh 50 = .ok (.iaload, 1) := by decide +kernel
theorem dX4_refresh_51 : decode cX4_refresh 51 = .ok (.iastore, 1) := by decide +kernel
theorem dX4_refresh_52 : decode cX4_refresh 52 = .ok (.iconst 1, 1) := by decide +kernel
theorem dX4_refresh_53 : decode cX4_refresh 53 = .ok (.istore_n 1, 1) := by decide +kernel
theorem dX4_refresh_54 : decode cX4_refresh 54 = .ok (.iload_n 1, 1) := by decide +kernel
theorem dX4_refresh_55 : decode cX4_refresh 55 = .ok (.aload_n 0, 1) := by decide +kernel
set_option maxRecDepth 20000 in
theorem ggX4_refresh_X4_setCount : GoodIn wsX4_refresh wsX4_setCount := goodIn_r _ [9, 10, 11, 36, 37, 38, 39, 40, 41, 42, 43] (by decide +kernel) (by decide +kernel)
set_option maxRecDepth 20000 in
theorem gX4_refresh_X4_setCount : GoodIn wsX4_refresh (wsV RX4 35 RX4 yX4_setCount wsX4_setCount) := goodIn_app (goodIn_of _ (by decide +kernel)) ggX4_refresh_X4_setCount
theorem dX4_refresh_56 : decode cX4_refresh 56 = .ok (.invokevirtual 35, 3) := by decide +kernel
theorem dX4_refresh_59 : decode cX4_refresh 59 = .ok (.if_icmp .ge 14, 3) := by decide +kernel
theorem dX4_refresh_73 : decode cX4_refresh 73 = .ok (.aload_n 0, 1) := by decide +kernel
set_option maxRecDepth 20000 in
theorem ggX4_refresh_X4_takeOutLarger : GoodIn wsX4_refresh wsX4_takeOutLarger := goodIn_r _ [35, 10, 11, 4, 5, 6, 7, 8, 9, 36, 37, 38, 39, 40, 41, 42, 43] (by decide +kernel) (by decide +kernel)
set_option maxRecDepth 20000 in
theorem gX4_refresh_X4_takeOutLarger : GoodIn wsX4_refresh (wsV RX4 43 RX4 yX4_takeOutLarger wsX4_takeOutLarger) := goodIn_app (goodIn_of _ (by decide +kernel)) ggX4_refresh_X4_takeOutLarger
theorem dX4_refresh_74 : decode cX4_refresh 74 = .ok (.invokevirtual 43, 3) := by decide +kernel
theorem dX4_refresh_77 : decode cX4_refresh 77 = .ok (.aload_n 0, 1) := by decide +kernel
theorem dX4_refresh_78 : decode cX4_refresh 78 = .ok (.iconst 1, 1) := by decide +kernel
theorem dX4_refresh_79 : decode cX4_refresh 79 = .ok (.putfield 25, 3) := by decide +kernel
theorem dX4_refresh_82 : decode cX4_refresh 82 = .ok (.return_, 1) := by decide +kernel
theorem dX4_refresh_62 : decode cX4_refresh 62 = .ok (.aload_n 0, 1) := by decide +kernel
theorem dX4_refresh_63 : decode cX4_refresh 63 = .ok (.iload_n 1, 1) := by decide +kernel
set_option maxRecDepth 20000 in
theorem ggX4_refresh_X4_measure : GoodIn wsX4_refresh wsX4_measure := goodIn_r _ [15, 10, 16, 17, 2, 18, 19, 20, 21, 22, 3, 23, 24, 25, 4, 26, 27, 28, 29, 30, 31, 36, 37, 38, 39, 40, 41, 42, 43, 44, 45, 46, 47] (by decide +kernel) (by decide +kernel)
set_option maxRecDepth 20000 in
theorem gX4_refresh_X4_measure : GoodIn wsX4_refresh (wsV RX4 39 RX4 yX4_measure wsX4_measure) := goodIn_app (goodIn_of _ (by decide +kernel)) ggX4_refresh_X4_measure
theorem dX4_refresh_64 : decode cX4_refresh 64 = .ok (.invokevirtual 39, 3) := by decide +kernel
theorem dX4_refresh_67 : decode cX4_refresh 67 = .ok (.iinc 1 1, 3) := by decide +kernel
theorem dX4_refresh_70 : decode cX4_refresh 70 = .ok (.goto (-16), 3) := by decide +kernel
theorem dX4_refresh_7 : decode cX4_refresh 7 = .ok (.return_, 1) := by decide +kernel
def zLo (X : Nat → Nat → Int) (k t h : Nat) : Int := max (X (zr X 0 k + 1) h) (X 54 (4 * t + h))
def zHi (X : Nat → Nat → Int) (k t h : Nat) : Int := min (X (zr X 0 k + 2) h) (X 55 (4 * t + h))
theorem zWe.bd {X Y : Nat → Nat → Int} (h : zWe X Y) (hV : zV X) {u g : Nat} {lo hi : Int} : zBd Y u g lo hi ↔ zBd X u g lo hi := by
  have hn := hV.n (Or.inl rfl : zIsW 0)
  unfold zBd
  rw [h.n (Or.inl rfl : zIsW 0)]
  have key : ∀ v : Int, (∀ i : Nat, i < zN X 0 → u.testBit i = true → Y (zr Y 0 i + 1) g ≤ v ∧ v ≤ Y (zr Y 0 i + 2) g) ↔ (∀ i : Nat, i < zN X 0 → u.testBit i = true → X (zr X 0 i + 1) g ≤ v ∧ v ≤ X (zr X 0 i + 2) g) := by
    intro v
    have e : ∀ i : Nat, i < zN X 0 → (Y (zr Y 0 i + 1) g ≤ v ∧ v ≤ Y (zr Y 0 i + 2) g ↔ X (zr X 0 i + 1) g ≤ v ∧ v ≤ X (zr X 0 i + 2) g) := fun i hi => by
      have hc := h.cell hV (Or.inl rfl : zIsW 0) (show i < 8 by omega)
      rw [h.r (Or.inl rfl : zIsW 0), hc.2.1, hc.2.2]
    exact ⟨fun q i hi hb => (e i hi).mp (q i hi hb), fun q i hi hb => (e i hi).mpr (q i hi hb)⟩
  constructor
  · exact fun q => ⟨q.1, fun v h0 h1 => (q.2 v h0 h1).trans (key v)⟩
  · exact fun q => ⟨q.1, fun v h0 h1 => (q.2 v h0 h1).trans (key v).symm⟩

set_option maxHeartbeats 4000000 in
set_option maxRecDepth 100000 in
/-- setCount -/
theorem c_X4_setCount (l : Launch) (G : zG) (ad : Nat → Nat) (X : Nat → Nat → Int) (hV : zV X) : zR l G yX4_setCount wsX4_setCount { frames := 0, cells := 0, slots := 0, locals := 0 } (zpic G ad X) [.ref (ad 53)] (zq G ad X (fun w => w = ((2 ^ zN X 0 : Nat) : Int))) 0 0 := by
  refine zR_of (cc := cX4_setCount) (maxL := 1) (rt := (some .int)) (by decide) rfl (Nat.le_of_ble_eq_true rfl) ?_
  intro p e s m below meth c A ls hx hb hml hr hts hown hlocks hin0 hA hE hP hD hS hl
  have hl : lv_has ls 1 [(0, .ref (ad 53))] := hl
  have hown : s.vm.findClass RX4 = some m.cls := hown
  have hn := hV.n (Or.inl rfl : zIsW 0)
  have hw4 : ∀ w ∈ u_ws RX4 TX4 5, w ∈ wsX4_setCount := by decide +kernel
  have hf21 := hts (.fieldLink RX4 21 "Nettle$Survey" "wall" "LNettle$Wall;") (by decide +kernel)
  have hw6 : ∀ w ∈ u_ws RX6 TX6 3, w ∈ wsX4_setCount := by decide +kernel
  have hf46 := hts (.fieldLink RX4 46 "Nettle$Wall" "count" "I") (by decide +kernel)
  refine lv_iconst (v := zi 1) hx hb dX4_setCount_0 rfl ?_
  refine lv_aload_n hx hb dX4_setCount_1 rfl (lv_at hl 0 rfl) ?_
  refine va_get (D := G.1) (ci := 4) (v := .ref (ad 0)) (C := RX4) (T := TX4) (N := 5) hx hb hts hw4 hown hE.1 hP 53 p_53 rfl 0 (by decide) hf21 (fun _ h9 => h9) rfl dX4_setCount_2 ?_
  refine va_get (D := G.1) (ci := 6) (v := .int (zi (X 0 1))) (C := RX6) (T := TX6) (N := 3) hx hb hts hw6 hown hE.1 hP 0 (p_w (Or.inl rfl)) rfl 1 (by decide) hf46 (fun _ h9 => h9) rfl dX4_setCount_5 ?_
  refine zti (v := zi ((zN X 0 : Nat) : Int)) (congrArg zi hn.1) ?_
  refine lv_ishl hx hb dX4_setCount_8 (zti (v := zi ((2 ^ zN X 0 : Nat) : Int)) (zi_shl1 (by omega)) ?_)
  exact zend_i hx hb hr hlocks hP hD hS (Nat.le_of_ble_eq_true rfl) (Nat.le_of_ble_eq_true rfl) dX4_setCount_9 ⟨_, rfl, rfl, rfl⟩

set_option maxHeartbeats 4000000 in
set_option maxRecDepth 100000 in
/-- measure -/
theorem c_X4_measure (l : Launch) (G : zG) (ad : Nat → Nat) (X : Nat → Nat → Int) (u : Nat) (hV : zV X) (hu : 0 < u ∧ u < 2 ^ zN X 0) (hL : ∀ t : Nat, t < u → ∀ g : Nat, g < 4 → zBd X t g (X 54 (4 * t + g)) (X 55 (4 * t + g))) : zR l G yX4_measure wsX4_measure { frames := 1, cells := 0, slots := 0, locals := 22 } (zpic G ad X) [.ref (ad 53), .int (zi (u : Int))] (zv G ad (fun Y => (∀ c : Nat, c ≠ 54 → c ≠ 55 → c ≠ 56 → Y c = X c) ∧ (∀ t : Nat, t < u + 1 → ∀ g : Nat, g < 4 → zBd X t g (Y 54 (4 * t + g)) (Y 55 (4 * t + g))) ∧ (∀ t : Nat, t ≠ u → Y 56 t = X 56 t) ∧ Y 56 u = zm X (zPq 0 u))) 0 0 := by
  refine zR_of (cc := cX4_measure) (maxL := 9) (rt := none) (by decide) rfl (Nat.le_of_ble_eq_true rfl) ?_
  intro p e s m below meth c A ls hx hb hml hr hts hown hlocks hin0 hA hE hP hD hS hl
  have hl : lv_has ls 9 [(0, .ref (ad 53)), (1, .int (zi (u : Int)))] := hl
  have hown : s.vm.findClass RX4 = some m.cls := hown
  have hn := hV.n (Or.inl rfl : zIsW 0)
  have h256 := z2_256 hn.2
  have hw4 : ∀ w ∈ u_ws RX4 TX4 5, w ∈ wsX4_measure := by decide +kernel
  have hf21 := hts (.fieldLink RX4 21 "Nettle$Survey" "wall" "LNettle$Wall;") (by decide +kernel)
  have hw6 : ∀ w ∈ u_ws RX6 TX6 3, w ∈ wsX4_measure := by decide +kernel
  have hf56 := hts (.fieldLink RX4 56 "Nettle$Wall" "rows" "[LNettle$Rule;") (by decide +kernel)
  have hf18 := hts (.fieldLink RX4 18 "Nettle$Survey" "amounts" "[I") (by decide +kernel)
  have hw3 : ∀ w ∈ u_ws RX3 TX3 4, w ∈ wsX4_measure := by decide +kernel
  have hf60 := hts (.fieldLink RX4 60 "Nettle$Rule" "lows" "[I") (by decide +kernel)
  have hf9 := hts (.fieldLink RX4 9 "Nettle$Survey" "lows" "[I") (by decide +kernel)
  have hmamax := hts (.code Lib.Math.max.name Lib.Math.max.code 2 (some .int)) (by decide +kernel)
  have hml63 := hts (.methodLink RX4 63 Lib.Math.max.name) (by decide +kernel)
  have hstmax := hts (.static Lib.Math.max.name) (by decide +kernel)
  have hiniMath := hts (.initialized "java/lang/Math") (by decide +kernel)
  have hf69 := hts (.fieldLink RX4 69 "Nettle$Rule" "highs" "[I") (by decide +kernel)
  have hf15 := hts (.fieldLink RX4 15 "Nettle$Survey" "highs" "[I") (by decide +kernel)
  have hmamin := hts (.code Lib.Math.min.name Lib.Math.min.code 2 (some .int)) (by decide +kernel)
  have hml70 := hts (.methodLink RX4 70 Lib.Math.min.name) (by decide +kernel)
  have hstmin := hts (.static Lib.Math.min.name) (by decide +kernel)
  refine lv_aload_n hx hb dX4_measure_0 rfl (lv_at hl 0 rfl) ?_
  refine va_get (D := G.1) (ci := 4) (v := .ref (ad 0)) (C := RX4) (T := TX4) (N := 5) hx hb hts hw4 hown hE.1 hP 53 p_53 rfl 0 (by decide) hf21 (fun _ h9 => h9) rfl dX4_measure_1 ?_
  refine lv_iload_n hx hb dX4_measure_4 rfl (lv_at hl 1 rfl) ?_
  refine zcall (wr := []) (va_runV (As := [.int (zi (u : Int))]) (rest := []) ⟨hx, hb, hml, hown, hts⟩ (c_X6_firstOf l G ad X 0 u hV (Or.inl rfl) (by omega) s.heap.size) (cwV 1 hts gX4_measure_X6_firstOf rfl rfl rfl (by decide +kernel) ⟨Nat.le_of_ble_eq_true rfl, Nat.le_of_ble_eq_true rfl⟩) (zPreV (wr := []) (wc := zpic G ad X) (q0 := 0) (ci := 6) (q := (RX6, TX6, 3)) hP hD hE hS hA rfl (p_w (Or.inl rfl))) rfl rfl hl.1 rfl (lv_room (Nat.le_of_ble_eq_true rfl)) dX4_measure_5 ⟨Nat.le_of_ble_eq_true rfl, Nat.le_of_ble_eq_true rfl⟩) hP hD hS hA (fun _ _ H locs hf hP hD hS => ?_)
  obtain ⟨v1, rfl, hv1, rfl⟩ := hf
  have hP : va_P G.1 vwCl (zpic G ad X) H := hP
  have hD : va_D A (zpic G ad X) := hD
  refine W.eq (g2 := F0 m 8 ls [.int (zi v1)]) rfl ?_
  refine lv_istore_n (lv' := [(2, .int (zi v1)), (0, .ref (ad 53)), (1, .int (zi (u : Int)))]) hx hb dX4_measure_8 rfl hl (by decide) rfl (fun ls hl => ?_)
  obtain ⟨k, rfl, hk⟩ : ∃ k : Nat, v1 = (k : Int) ∧ zFi (zN X 0) u k := by rcases hv1.2.2 with h | h; exact h; exact absurd (zNo_zero hu.2 h.2) (by omega)
  have hk1 := hk.1
  have hd0 : 0 < 2 ^ k := Nat.pow_pos (by omega)
  have hds := zDel_sub (u := u) (q := k) (by omega) (by omega) hk.2.1
  obtain ⟨t, ht⟩ : ∃ t : Nat, t = zDel u k := ⟨_, rfl⟩
  rw [← ht] at hds
  have hlt := zr_lt hV (Or.inl rfl : zIsW 0) (show k < 8 by omega)
  have hL2 : ∀ h : Nat, h < 4 → zBd X (zDel u k) h (X 54 (4 * t + h)) (X 55 (4 * t + h)) := fun h h2 => by rw [← ht]; exact hL t (by omega) h h2
  refine lv_iload_n hx hb dX4_measure_9 rfl (lv_at hl 0 rfl) ?_
  refine z0_ge (tgt := 14) hx hb dX4_measure_10 (by decide) (by omega) (fun h10 => ?_) (fun h9 => by exfalso; omega)
  refine lv_aload_n hx hb dX4_measure_14 rfl (lv_at hl 1 rfl) ?_
  refine va_get (D := G.1) (ci := 4) (v := .ref (ad 0)) (C := RX4) (T := TX4) (N := 5) hx hb hts hw4 hown hE.1 hP 53 p_53 rfl 0 (by decide) hf21 (fun _ h9 => h9) rfl dX4_measure_15 ?_
  refine va_get (D := G.1) (ci := 6) (v := .ref (ad 1)) (C := RX6) (T := TX6) (N := 3) hx hb hts hw6 hown hE.1 hP 0 (p_w (Or.inl rfl)) rfl 0 (by decide) hf56 (fun _ h9 => h9) rfl dX4_measure_18 ?_
  refine lv_iload_n hx hb dX4_measure_21 rfl (lv_at hl 0 rfl) ?_
  refine zqld hx hb hE hP (Or.inl rfl) k rfl (by omega) dX4_measure_22 ?_
  have hR1 : zIsR (zr X 0 k) := hV.isR (Or.inl rfl) (by omega)
  refine lv_astore_n (lv' := [(3, .ref (ad (zr X 0 k))), (2, .int (zi (k : Int))), (0, .ref (ad 53)), (1, .int (zi (u : Int)))]) hx hb dX4_measure_23 rfl hl (by decide) rfl (fun ls hl => ?_)
  refine lv_iload_n hx hb dX4_measure_24 rfl (lv_at hl 3 rfl) ?_
  refine lv_iconst (v := zi 1) hx hb dX4_measure_25 rfl ?_
  refine lv_iload_n hx hb dX4_measure_26 rfl (lv_at hl 1 rfl) ?_
  refine lv_ishl hx hb dX4_measure_27 (zti (v := zi ((2 ^ k : Nat) : Int)) (zi_shl1 (by omega)) ?_)
  refine lv_isub hx hb dX4_measure_28 (zti (v := zi ((u : Int) - ((2 ^ k : Nat) : Int))) (zi_sub _ _) ?_)
  refine zti (v := zi (t : Int)) (congrArg zi (by omega)) ?_
  refine lv_istore (lv' := [(4, .int (zi (t : Int))), (3, .ref (ad (zr X 0 k))), (2, .int (zi (k : Int))), (0, .ref (ad 53)), (1, .int (zi (u : Int)))]) hx hb dX4_measure_29 hl (by decide) rfl (fun ls hl => ?_)
  refine lv_iconst (v := zi 1) hx hb dX4_measure_31 rfl ?_
  refine lv_istore (lv' := [(5, .int (zi 1)), (4, .int (zi (t : Int))), (3, .ref (ad (zr X 0 k))), (2, .int (zi (k : Int))), (0, .ref (ad 53)), (1, .int (zi (u : Int)))]) hx hb dX4_measure_32 hl (by decide) rfl (fun ls hl => ?_)
  refine lv_iconst (v := zi 0) hx hb dX4_measure_34 rfl ?_
  refine lv_istore (lv' := [(6, .int (zi 0)), (5, .int (zi 1)), (4, .int (zi (t : Int))), (3, .ref (ad (zr X 0 k))), (2, .int (zi (k : Int))), (0, .ref (ad 53)), (1, .int (zi (u : Int)))]) hx hb dX4_measure_35 hl (by decide) rfl (fun ls hl => ?_)
  refine zloop3 (fun (g : Nat) (Y : Nat → Nat → Int) (am : Int) => 4 - g) (fun (g : Nat) (Y : Nat → Nat → Int) (am : Int) (H : Heap) (locs : List Loc) (ls : Array Slot) => va_P G.1 vwCl (zpic G ad Y) H ∧ va_D A (zpic G ad Y) ∧ va_S A s.heap H locs ∧ lv_has ls 9 [(6, .int (zi (g : Int))), (5, .int (zi am)), (4, .int (zi (t : Int))), (3, .ref (ad (zr X 0 k))), (1, .int (zi (u : Int))), (0, .ref (ad 53))] ∧ (g ≤ 4) ∧ (∀ c : Nat, c ≠ 54 → c ≠ 55 → Y c = X c) ∧ (∀ t2 : Nat, t2 < u → ∀ h : Nat, h < 4 → Y 54 (4 * t2 + h) = X 54 (4 * t2 + h) ∧ Y 55 (4 * t2 + h) = X 55 (4 * t2 + h)) ∧ (∀ h : Nat, h < g → Y 54 (4 * u + h) = zLo X k t h ∧ Y 55 (4 * u + h) = zHi X k t h) ∧ (am = zBoxA (fun h => zHi X k t h - zLo X k t h + 1) g)) ?_ 0 X 1 ⟨hP, hD, hS, lv_sub hl [0, 1, 2, 3, 6, 5] rfl, (by omega), (fun c h1 h2 => rfl), (fun t2 h1 h h2 => ⟨rfl, rfl⟩), (fun h h1 => by omega), rfl⟩
  intro g Y am ih H locs ls ⟨hP, hD, hS, hl, hg, hyc, hy1, hy2, ham⟩
  refine lv_iload hx hb dX4_measure_37 (lv_at hl 0 rfl) ?_
  refine lv_iconst (v := zi 4) hx hb dX4_measure_39 rfl ?_
  refine zc_ge (tgt := 139) hx hb dX4_measure_40 (by decide) (by omega) (by decide) (fun h40 => ?_) (fun h40 => ?_)
  · refine lv_aload_n hx hb dX4_measure_139 rfl (lv_at hl 5 rfl) ?_
    refine va_get (D := G.1) (ci := 4) (v := .ref (ad 56)) (C := RX4) (T := TX4) (N := 5) hx hb hts hw4 hown hE.1 hP 53 p_53 rfl 3 (by decide) hf18 (fun _ h9 => h9) rfl dX4_measure_140 ?_
    refine lv_iload_n hx hb dX4_measure_143 rfl (lv_at hl 4 rfl) ?_
    refine lv_iload hx hb dX4_measure_144 (lv_at hl 1 rfl) ?_
    refine zist hx hb hE hP hD hS 56 256 (fun _ => rfl) (by decide) u rfl (by omega) (by decide) dX4_measure_146 (fun H locs hP hD hS => ?_)
    exact zend_v hx hb hr hlocks hP hD hS (Nat.le_of_ble_eq_true rfl) (Nat.le_of_ble_eq_true rfl) dX4_measure_147 ⟨_, rfl, (by have hg4 : g = 4 := (by omega); rw [hg4] at hy2 ham; exact ⟨fun c h1 h2 h3 => (by rw [zw_cell h3]; exact hyc c h1 h2), fun t2 h1 h h2 => (by rw [zw_cell (show (54 : Nat) ≠ 56 by decide), zw_cell (show (55 : Nat) ≠ 56 by decide)]; by_cases e9 : t2 = u; (rw [e9, (hy2 h h2).1, (hy2 h h2).2]; exact zBd_step hV (by omega) hk h2 (hL2 h h2)); (rw [(hy1 t2 (by omega) h h2).1, (hy1 t2 (by omega) h h2).2]; exact hL t2 (by omega) h h2)), fun t2 h1 => (by rw [zw_ne h1, hyc 56 (by omega) (by omega)]), (by rw [zw_at, ham]; exact (zPq_box hV hu.2 (zLo X k t) (zHi X k t) (fun h h2 => zBd_step hV (by omega) hk h2 (hL2 h h2))).symm)⟩), rfl⟩
  · have hYV : zV Y := hV.eq (fun c h9 => hyc c (by omega) (by omega))
    have hrf := hYV.rf hR1 (show g < 4 by omega)
    have hb4 := (hL t (by omega) g (by omega)).1
    have e54 : Y 54 (4 * t + g) = X 54 (4 * t + g) := (hy1 t (by omega) g (by omega)).1
    have e55 : Y 55 (4 * t + g) = X 55 (4 * t + g) := (hy1 t (by omega) g (by omega)).2
    have er1 : Y (zr X 0 k + 1) = X (zr X 0 k + 1) := hyc _ (by omega) (by omega)
    have er2 : Y (zr X 0 k + 2) = X (zr X 0 k + 2) := hyc _ (by omega) (by omega)
    have elo : max (Y (zr X 0 k + 1) g) (Y 54 (4 * t + g)) = zLo X k t g := by unfold zLo; rw [er1, e54]
    have ehi : min (Y (zr X 0 k + 2) g) (Y 55 (4 * t + g)) = zHi X k t g := by unfold zHi; rw [er2, e55]
    have hsf := zS_le g
    refine lv_aload_n hx hb dX4_measure_43 rfl (lv_at hl 3 rfl) ?_
    refine va_get (D := G.1) (ci := 3) (v := .ref (ad ((zr X 0 k) + 1))) (C := RX3) (T := TX3) (N := 4) hx hb hts hw3 hown hE.1 hP (zr X 0 k) (p_r hR1) rfl 2 (by decide) hf60 (fun _ h9 => h9) rfl dX4_measure_44 ?_
    refine lv_iload hx hb dX4_measure_47 (lv_at hl 0 rfl) ?_
    refine zild hx hb hE hP ((zr X 0 k) + 1) 4 (a_l hR1) (by have := hR1.lt; omega) g rfl (by omega) (by decide) dX4_measure_49 ?_
    refine lv_aload_n hx hb dX4_measure_50 rfl (lv_at hl 5 rfl) ?_
    refine va_get (D := G.1) (ci := 4) (v := .ref (ad 54)) (C := RX4) (T := TX4) (N := 5) hx hb hts hw4 hown hE.1 hP 53 p_53 rfl 1 (by decide) hf9 (fun _ h9 => h9) rfl dX4_measure_51 ?_
    refine lv_iload hx hb dX4_measure_54 (lv_at hl 2 rfl) ?_
    refine lv_iconst (v := zi 4) hx hb dX4_measure_56 rfl ?_
    refine lv_imul hx hb dX4_measure_57 (zti (v := zi ((t : Int) * 4)) (zi_mul _ _) ?_)
    refine lv_iload hx hb dX4_measure_58 (lv_at hl 0 rfl) ?_
    refine lv_iadd hx hb dX4_measure_60 (zti (v := zi (((t : Int) * 4) + (g : Int))) (zi_add _ _) ?_)
    refine zild hx hb hE hP 54 1024 (fun _ => rfl) (by decide) (4 * t + g) (by omega) (by omega) (by decide) dX4_measure_61 ?_
    refine va_mmax hx hb (hml.trans hl.1.symm) hown hml63 hstmax hiniMath hmamax (Nat.le_of_ble_eq_true rfl) (Nat.le_of_ble_eq_true rfl) (Nat.le_of_ble_eq_true rfl) (Nat.le_of_ble_eq_true rfl) dX4_measure_62 ?_
    refine zti (v := zi (max (Y ((zr X 0 k) + 1) g) (Y 54 (4 * t + g)))) (zi_max (by omega) (by omega)) ?_
    refine lv_istore (lv' := [(7, .int (zi (max (Y ((zr X 0 k) + 1) g) (Y 54 (4 * t + g))))), (6, .int (zi (g : Int))), (5, .int (zi am)), (4, .int (zi (t : Int))), (3, .ref (ad (zr X 0 k))), (1, .int (zi (u : Int))), (0, .ref (ad 53))]) hx hb dX4_measure_65 hl (by decide) rfl (fun ls hl => ?_)
    refine lv_aload_n hx hb dX4_measure_67 rfl (lv_at hl 4 rfl) ?_
    refine va_get (D := G.1) (ci := 3) (v := .ref (ad ((zr X 0 k) + 2))) (C := RX3) (T := TX3) (N := 4) hx hb hts hw3 hown hE.1 hP (zr X 0 k) (p_r hR1) rfl 3 (by decide) hf69 (fun _ h9 => h9) rfl dX4_measure_68 ?_
    refine lv_iload hx hb dX4_measure_71 (lv_at hl 1 rfl) ?_
    refine zild hx hb hE hP ((zr X 0 k) + 2) 4 (a_h hR1) (by have := hR1.lt; omega) g rfl (by omega) (by decide) dX4_measure_73 ?_
    refine lv_aload_n hx hb dX4_measure_74 rfl (lv_at hl 6 rfl) ?_
    refine va_get (D := G.1) (ci := 4) (v := .ref (ad 55)) (C := RX4) (T := TX4) (N := 5) hx hb hts hw4 hown hE.1 hP 53 p_53 rfl 2 (by decide) hf15 (fun _ h9 => h9) rfl dX4_measure_75 ?_
    refine lv_iload hx hb dX4_measure_78 (lv_at hl 3 rfl) ?_
    refine lv_iconst (v := zi 4) hx hb dX4_measure_80 rfl ?_
    refine lv_imul hx hb dX4_measure_81 (zti (v := zi ((t : Int) * 4)) (zi_mul _ _) ?_)
    refine lv_iload hx hb dX4_measure_82 (lv_at hl 1 rfl) ?_
    refine lv_iadd hx hb dX4_measure_84 (zti (v := zi (((t : Int) * 4) + (g : Int))) (zi_add _ _) ?_)
    refine zild hx hb hE hP 55 1024 (fun _ => rfl) (by decide) (4 * t + g) (by omega) (by omega) (by decide) dX4_measure_85 ?_
    refine va_mmin hx hb (hml.trans hl.1.symm) hown hml70 hstmin hiniMath hmamin (Nat.le_of_ble_eq_true rfl) (Nat.le_of_ble_eq_true rfl) (Nat.le_of_ble_eq_true rfl) (Nat.le_of_ble_eq_true rfl) dX4_measure_86 ?_
    refine zti (v := zi (min (Y ((zr X 0 k) + 2) g) (Y 55 (4 * t + g)))) (zi_min (by omega) (by omega)) ?_
    refine lv_istore (lv' := [(8, .int (zi (min (Y ((zr X 0 k) + 2) g) (Y 55 (4 * t + g))))), (7, .int (zi (max (Y ((zr X 0 k) + 1) g) (Y 54 (4 * t + g))))), (6, .int (zi (g : Int))), (5, .int (zi am)), (4, .int (zi (t : Int))), (3, .ref (ad (zr X 0 k))), (1, .int (zi (u : Int))), (0, .ref (ad 53))]) hx hb dX4_measure_89 hl (by decide) rfl (fun ls hl => ?_)
    refine lv_aload_n hx hb dX4_measure_91 rfl (lv_at hl 7 rfl) ?_
    refine va_get (D := G.1) (ci := 4) (v := .ref (ad 54)) (C := RX4) (T := TX4) (N := 5) hx hb hts hw4 hown hE.1 hP 53 p_53 rfl 1 (by decide) hf9 (fun _ h9 => h9) rfl dX4_measure_92 ?_
    refine lv_iload_n hx hb dX4_measure_95 rfl (lv_at hl 6 rfl) ?_
    refine lv_iconst (v := zi 4) hx hb dX4_measure_96 rfl ?_
    refine lv_imul hx hb dX4_measure_97 (zti (v := zi ((u : Int) * 4)) (zi_mul _ _) ?_)
    refine lv_iload hx hb dX4_measure_98 (lv_at hl 2 rfl) ?_
    refine lv_iadd hx hb dX4_measure_100 (zti (v := zi (((u : Int) * 4) + (g : Int))) (zi_add _ _) ?_)
    refine lv_iload hx hb dX4_measure_101 (lv_at hl 1 rfl) ?_
    refine zist hx hb hE hP hD hS 54 1024 (fun _ => rfl) (by decide) (4 * u + g) (by omega) (by omega) (by decide) dX4_measure_103 (fun H locs hP hD hS => ?_)
    refine lv_aload_n hx hb dX4_measure_104 rfl (lv_at hl 7 rfl) ?_
    refine va_get (D := G.1) (ci := 4) (v := .ref (ad 55)) (C := RX4) (T := TX4) (N := 5) hx hb hts hw4 hown hE.1 hP 53 p_53 rfl 2 (by decide) hf15 (fun _ h9 => h9) rfl dX4_measure_105 ?_
    refine lv_iload_n hx hb dX4_measure_108 rfl (lv_at hl 6 rfl) ?_
    refine lv_iconst (v := zi 4) hx hb dX4_measure_109 rfl ?_
    refine lv_imul hx hb dX4_measure_110 (zti (v := zi ((u : Int) * 4)) (zi_mul _ _) ?_)
    refine lv_iload hx hb dX4_measure_111 (lv_at hl 2 rfl) ?_
    refine lv_iadd hx hb dX4_measure_113 (zti (v := zi (((u : Int) * 4) + (g : Int))) (zi_add _ _) ?_)
    refine lv_iload hx hb dX4_measure_114 (lv_at hl 0 rfl) ?_
    refine zist hx hb hE hP hD hS 55 1024 (fun _ => rfl) (by decide) (4 * u + g) (by omega) (by omega) (by decide) dX4_measure_116 (fun H locs hP hD hS => ?_)
    refine lv_iload hx hb dX4_measure_117 (lv_at hl 3 rfl) ?_
    refine lv_iconst (v := zi 0) hx hb dX4_measure_119 rfl ?_
    refine lv_iload hx hb dX4_measure_120 (lv_at hl 0 rfl) ?_
    refine lv_iload hx hb dX4_measure_122 (lv_at hl 1 rfl) ?_
    refine lv_isub hx hb dX4_measure_124 (zti (v := zi ((min (Y ((zr X 0 k) + 2) g) (Y 55 (4 * t + g))) - (max (Y ((zr X 0 k) + 1) g) (Y 54 (4 * t + g))))) (zi_sub _ _) ?_)
    refine lv_iconst (v := zi 1) hx hb dX4_measure_125 rfl ?_
    refine lv_iadd hx hb dX4_measure_126 (zti (v := zi (((min (Y ((zr X 0 k) + 2) g) (Y 55 (4 * t + g))) - (max (Y ((zr X 0 k) + 1) g) (Y 54 (4 * t + g)))) + 1)) (zi_add _ _) ?_)
    refine va_mmax hx hb (hml.trans hl.1.symm) hown hml63 hstmax hiniMath hmamax (Nat.le_of_ble_eq_true rfl) (Nat.le_of_ble_eq_true rfl) (Nat.le_of_ble_eq_true rfl) (Nat.le_of_ble_eq_true rfl) dX4_measure_127 ?_
    refine zti (v := zi (max 0 (((min (Y ((zr X 0 k) + 2) g) (Y 55 (4 * t + g))) - (max (Y ((zr X 0 k) + 1) g) (Y 54 (4 * t + g)))) + 1))) (zi_max (by decide) (by omega)) ?_
    refine lv_imul hx hb dX4_measure_130 (zti (v := zi (am * (max 0 (((min (Y ((zr X 0 k) + 2) g) (Y 55 (4 * t + g))) - (max (Y ((zr X 0 k) + 1) g) (Y 54 (4 * t + g)))) + 1)))) (zi_mul _ _) ?_)
    refine lv_istore (lv' := [(5, .int (zi (am * (max 0 (((min (Y ((zr X 0 k) + 2) g) (Y 55 (4 * t + g))) - (max (Y ((zr X 0 k) + 1) g) (Y 54 (4 * t + g)))) + 1))))), (8, .int (zi (min (Y ((zr X 0 k) + 2) g) (Y 55 (4 * t + g))))), (7, .int (zi (max (Y ((zr X 0 k) + 1) g) (Y 54 (4 * t + g))))), (6, .int (zi (g : Int))), (4, .int (zi (t : Int))), (3, .ref (ad (zr X 0 k))), (1, .int (zi (u : Int))), (0, .ref (ad 53))]) hx hb dX4_measure_131 hl (by decide) rfl (fun ls hl => ?_)
    refine lv_iinc (v := zi ((g : Int) + 1)) (lv' := [(6, .int (zi ((g : Int) + 1))), (5, .int (zi (am * (max 0 (((min (Y ((zr X 0 k) + 2) g) (Y 55 (4 * t + g))) - (max (Y ((zr X 0 k) + 1) g) (Y 54 (4 * t + g)))) + 1))))), (8, .int (zi (min (Y ((zr X 0 k) + 2) g) (Y 55 (4 * t + g))))), (7, .int (zi (max (Y ((zr X 0 k) + 1) g) (Y 54 (4 * t + g))))), (4, .int (zi (t : Int))), (3, .ref (ad (zr X 0 k))), (1, .int (zi (u : Int))), (0, .ref (ad 53))]) hx hb dX4_measure_133 hl (k := 3) rfl (zi_add _ _) (by decide) rfl (fun ls hl => ?_)
    refine lv_goto (tgt := 37) hx hb dX4_measure_136 (by decide) ?_
    exact ih (g + 1) (zw (zw Y 54 (4 * u + g) (max (Y ((zr X 0 k) + 1) g) (Y 54 (4 * t + g)))) 55 (4 * u + g) (min (Y ((zr X 0 k) + 2) g) (Y 55 (4 * t + g)))) (am * (max 0 (((min (Y ((zr X 0 k) + 2) g) (Y 55 (4 * t + g))) - (max (Y ((zr X 0 k) + 1) g) (Y 54 (4 * t + g)))) + 1))) (by omega) H locs ls ⟨hP, hD, hS, lv_sub hl [0, 1, 4, 5, 6, 7] rfl, (by omega), (fun c h1 h2 => by rw [zw_cell h2, zw_cell h1]; exact hyc c h1 h2), (fun t2 h1 h h2 => by have hne : 4 * t2 + h ≠ 4 * u + g := (by omega); rw [zw_cell (show (54 : Nat) ≠ 55 by decide), zw_ne hne, zw_ne hne, zw_cell (show (55 : Nat) ≠ 54 by decide)]; exact hy1 t2 h1 h h2), (fun h h1 => by by_cases e9 : h = g; (rw [e9]; exact ⟨by rw [zw_cell (show (54 : Nat) ≠ 55 by decide), zw_at]; exact elo, by rw [zw_at]; exact ehi⟩); (have hne : 4 * u + h ≠ 4 * u + g := (by omega); rw [zw_cell (show (54 : Nat) ≠ 55 by decide), zw_ne hne, zw_ne hne, zw_cell (show (55 : Nat) ≠ 54 by decide)]; exact hy2 h (by omega))), (by rw [ham, elo, ehi]; rfl)⟩

set_option maxHeartbeats 4000000 in
set_option maxRecDepth 100000 in
/-- takeOutLarger -/
theorem c_X4_takeOutLarger (l : Launch) (G : zG) (ad : Nat → Nat) (X : Nat → Nat → Int) (hV : zV X) (hTA : ∀ u : Nat, u < 2 ^ zN X 0 → X 56 u = zm X (zPq 0 u)) : zR l G yX4_takeOutLarger wsX4_takeOutLarger { frames := 1, cells := 0, slots := 0, locals := 20 } (zpic G ad X) [.ref (ad 53)] (zv G ad (fun Y => (∀ c : Nat, c ≠ 56 → Y c = X c) ∧ zSv X Y)) 0 0 := by
  refine zR_of (cc := cX4_takeOutLarger) (maxL := 4) (rt := none) (by decide) rfl (Nat.le_of_ble_eq_true rfl) ?_
  intro p e s m below meth c A ls hx hb hml hr hts hown hlocks hin0 hA hE hP hD hS hl
  have hl : lv_has ls 4 [(0, .ref (ad 53))] := hl
  have hown : s.vm.findClass RX4 = some m.cls := hown
  have hn := hV.n (Or.inl rfl : zIsW 0)
  have h256 := z2_256 hn.2
  have hw4 : ∀ w ∈ u_ws RX4 TX4 5, w ∈ wsX4_takeOutLarger := by decide +kernel
  have hf21 := hts (.fieldLink RX4 21 "Nettle$Survey" "wall" "LNettle$Wall;") (by decide +kernel)
  have hw6 : ∀ w ∈ u_ws RX6 TX6 3, w ∈ wsX4_takeOutLarger := by decide +kernel
  have hf46 := hts (.fieldLink RX4 46 "Nettle$Wall" "count" "I") (by decide +kernel)
  have hf18 := hts (.fieldLink RX4 18 "Nettle$Survey" "amounts" "[I") (by decide +kernel)
  refine lv_iconst (v := zi 0) hx hb dX4_takeOutLarger_0 rfl ?_
  refine lv_istore_n (lv' := [(1, .int (zi 0)), (0, .ref (ad 53))]) hx hb dX4_takeOutLarger_1 rfl hl (by decide) rfl (fun ls hl => ?_)
  refine zloop2 (fun (k : Nat) (Y : Nat → Nat → Int) => 8 - k) (fun (k : Nat) (Y : Nat → Nat → Int) (H : Heap) (locs : List Loc) (ls : Array Slot) => va_P G.1 vwCl (zpic G ad Y) H ∧ va_D A (zpic G ad Y) ∧ va_S A s.heap H locs ∧ lv_has ls 4 [(1, .int (zi (k : Int))), (0, .ref (ad 53))] ∧ (k ≤ zN X 0) ∧ (∀ c : Nat, c ≠ 56 → Y c = X c) ∧ (∀ u : Nat, u < 2 ^ zN X 0 → Y 56 u = zm X (zPq k u))) ?_ 0 X ⟨hP, hD, hS, lv_sub hl [0, 1] rfl, (by omega), (fun c h1 => rfl), hTA⟩
  intro k Y ih H locs ls ⟨hP, hD, hS, hl, hk, hy, hw⟩
  have hYV : zV Y := hV.eq (fun c h9 => hy c (by omega))
  have hY0 : Y 0 = X 0 := hy 0 (by omega)
  have hYn : zN Y 0 = zN X 0 := zN_eq hY0
  have hY1 : Y 0 1 = (zN X 0 : Int) := by rw [hY0]; exact hn.1
  refine lv_iload_n hx hb dX4_takeOutLarger_2 rfl (lv_at hl 0 rfl) ?_
  refine lv_aload_n hx hb dX4_takeOutLarger_3 rfl (lv_at hl 1 rfl) ?_
  refine va_get (D := G.1) (ci := 4) (v := .ref (ad 0)) (C := RX4) (T := TX4) (N := 5) hx hb hts hw4 hown hE.1 hP 53 p_53 rfl 0 (by decide) hf21 (fun _ h9 => h9) rfl dX4_takeOutLarger_4 ?_
  refine va_get (D := G.1) (ci := 6) (v := .int (zi (Y 0 1))) (C := RX6) (T := TX6) (N := 3) hx hb hts hw6 hown hE.1 hP 0 (p_w (Or.inl rfl)) rfl 1 (by decide) hf46 (fun _ h9 => h9) rfl dX4_takeOutLarger_7 ?_
  refine zc_ge (tgt := 62) hx hb dX4_takeOutLarger_10 (by decide) (by omega) (by omega) (fun h10 => ?_) (fun h10 => ?_)
  · exact zend_v hx hb hr hlocks hP hD hS (Nat.le_of_ble_eq_true rfl) (Nat.le_of_ble_eq_true rfl) dX4_takeOutLarger_62 ⟨_, rfl, ⟨hy, fun u hu => by have hkn : k = zN X 0 := (by omega); rw [hw u hu, hkn]; exact zPq_n hu⟩, rfl⟩
  · refine lv_iconst (v := zi 1) hx hb dX4_takeOutLarger_13 rfl ?_
    refine lv_iload_n hx hb dX4_takeOutLarger_14 rfl (lv_at hl 0 rfl) ?_
    refine lv_ishl hx hb dX4_takeOutLarger_15 (zti (v := zi ((2 ^ k : Nat) : Int)) (zi_shl1 (by omega)) ?_)
    refine lv_istore_n (lv' := [(2, .int (zi ((2 ^ k : Nat) : Int))), (1, .int (zi (k : Int))), (0, .ref (ad 53))]) hx hb dX4_takeOutLarger_16 rfl hl (by decide) rfl (fun ls hl => ?_)
    refine lv_iconst (v := zi 0) hx hb dX4_takeOutLarger_17 rfl ?_
    refine lv_istore_n (lv' := [(3, .int (zi 0)), (2, .int (zi ((2 ^ k : Nat) : Int))), (1, .int (zi (k : Int))), (0, .ref (ad 53))]) hx hb dX4_takeOutLarger_18 rfl hl (by decide) rfl (fun ls hl => ?_)
    refine zloop2 (fun (t : Nat) (Z : Nat → Nat → Int) => 256 - t) (fun (t : Nat) (Z : Nat → Nat → Int) (H : Heap) (locs : List Loc) (ls : Array Slot) => va_P G.1 vwCl (zpic G ad Z) H ∧ va_D A (zpic G ad Z) ∧ va_S A s.heap H locs ∧ lv_has ls 4 [(3, .int (zi (t : Int))), (2, .int (zi ((2 ^ k : Nat) : Int))), (1, .int (zi (k : Int))), (0, .ref (ad 53))] ∧ (t ≤ 2 ^ zN X 0) ∧ (∀ c : Nat, c ≠ 56 → Z c = X c) ∧ (∀ u : Nat, u < 2 ^ zN X 0 → Z 56 u = if u < t then zm X (zPq (k + 1) u) else zm X (zPq k u))) ?_ 0 Y ⟨hP, hD, hS, lv_sub hl [0, 1, 2, 3] rfl, (Nat.zero_le _), hy, (fun u hu => by rw [if_neg (by omega)]; exact hw u hu)⟩
    intro t Z ih19 H locs ls ⟨hP, hD, hS, hl, ht, hz, hv⟩
    have hZV : zV Z := hV.eq (fun c h9 => hz c (by omega))
    have hZ0 : Z 0 = X 0 := hz 0 (by omega)
    have hZn : zN Z 0 = zN X 0 := zN_eq hZ0
    have hZ1 : Z 0 1 = (zN X 0 : Int) := by rw [hZ0]; exact hn.1
    refine lv_iload_n hx hb dX4_takeOutLarger_19 rfl (lv_at hl 0 rfl) ?_
    refine lv_aload_n hx hb dX4_takeOutLarger_20 rfl (lv_at hl 3 rfl) ?_
    refine zcall (wr := []) (va_runV (As := []) (rest := [.int (zi (t : Int))]) ⟨hx, hb, hml, hown, hts⟩ (c_X4_setCount l G ad Z hZV H.size) (cwV 0 hts gX4_takeOutLarger_X4_setCount rfl rfl rfl (by decide +kernel) ⟨Nat.le_of_ble_eq_true rfl, Nat.le_of_ble_eq_true rfl⟩) (zPreV (wr := []) (wc := zpic G ad Z) (q0 := 53) (ci := 4) (q := (RX4, TX4, 5)) hP hD hE hS hA rfl p_53) rfl rfl hl.1 rfl (lv_room (Nat.le_of_ble_eq_true rfl)) dX4_takeOutLarger_21 ⟨Nat.le_of_ble_eq_true rfl, Nat.le_of_ble_eq_true rfl⟩) hP hD hS hA (fun _ _ H locs hf hP hD hS => ?_)
    obtain ⟨v1, rfl, hv1, rfl⟩ := hf
    have hP : va_P G.1 vwCl (zpic G ad Z) H := hP
    have hD : va_D A (zpic G ad Z) := hD
    refine W.eq (g2 := F0 m 24 ls [.int (zi v1), .int (zi (t : Int))]) rfl ?_
    have hv1n : v1 = ((2 ^ zN X 0 : Nat) : Int) := by rw [hv1, hZn]
    refine zc_ge (tgt := 56) hx hb dX4_takeOutLarger_24 (by decide) (by omega) (by omega) (fun h24 => ?_) (fun h24 => ?_)
    · refine lv_iinc (v := zi ((k : Int) + 1)) (lv' := [(1, .int (zi ((k : Int) + 1))), (3, .int (zi (t : Int))), (2, .int (zi ((2 ^ k : Nat) : Int))), (0, .ref (ad 53))]) hx hb dX4_takeOutLarger_56 hl (k := 2) rfl (zi_add _ _) (by decide) rfl (fun ls hl => ?_)
      refine lv_goto (tgt := 2) hx hb dX4_takeOutLarger_59 (by decide) ?_
      exact ih (k + 1) Z (by omega) H locs ls ⟨hP, hD, hS, lv_sub hl [0, 3] rfl, (by omega), hz, (fun u hu => by rw [hv u hu, if_pos (by omega)])⟩
    · have hand : t &&& 2 ^ k ≤ t := Nat.and_le_left
      refine lv_iload_n hx hb dX4_takeOutLarger_27 rfl (lv_at hl 0 rfl) ?_
      refine lv_iload_n hx hb dX4_takeOutLarger_28 rfl (lv_at hl 1 rfl) ?_
      refine lv_iand hx hb dX4_takeOutLarger_29 (zti (v := zi ((t &&& 2 ^ k : Nat) : Int)) (zi_and _ _) ?_)
      refine z0_ne (tgt := 50) hx hb dX4_takeOutLarger_30 (by decide) (by omega) (fun h30 => ?_) (fun h30 => ?_)
      · have hbt : t.testBit k = true := by cases hb9 : t.testBit k; (exact absurd (zand_two.mpr hb9) (by omega)); rfl
        refine lv_iinc (v := zi ((t : Int) + 1)) (lv' := [(3, .int (zi ((t : Int) + 1))), (2, .int (zi ((2 ^ k : Nat) : Int))), (1, .int (zi (k : Int))), (0, .ref (ad 53))]) hx hb dX4_takeOutLarger_50 hl (k := 0) rfl (zi_add _ _) (by decide) rfl (fun ls hl => ?_)
        refine lv_goto (tgt := 19) hx hb dX4_takeOutLarger_53 (by decide) ?_
        exact ih19 (t + 1) Z (by omega) H locs ls ⟨hP, hD, hS, lv_sub hl [0, 1, 2, 3] rfl, (by omega), hz, (fun u hu => by rw [hv u hu]; by_cases e9 : u = t; (rw [e9, if_neg (by omega), if_pos (by omega)]; exact (zm_congr (fun m _ => zPq_yes hbt)).symm); (by_cases e8 : u < t; (rw [if_pos e8, if_pos (by omega)]); (rw [if_neg e8, if_neg (by omega)])))⟩
      · have hbt : t.testBit k = false := zand_two.mp (by omega)
        have hor : t ||| 2 ^ k < 2 ^ zN X 0 := Nat.or_lt_two_pow (by omega) (z2_lt (by omega))
        have hor2 : t ≤ t ||| 2 ^ k := Nat.left_le_or
        refine lv_aload_n hx hb dX4_takeOutLarger_33 rfl (lv_at hl 3 rfl) ?_
        refine va_get (D := G.1) (ci := 4) (v := .ref (ad 56)) (C := RX4) (T := TX4) (N := 5) hx hb hts hw4 hown hE.1 hP 53 p_53 rfl 3 (by decide) hf18 (fun _ h9 => h9) rfl dX4_takeOutLarger_34 ?_
        refine lv_iload_n hx hb dX4_takeOutLarger_37 rfl (lv_at hl 0 rfl) ?_
        refine lv_dup2_11 hx hb dX4_takeOutLarger_38 rfl rfl ?_
        refine zild hx hb hE hP 56 256 (fun _ => rfl) (by decide) t rfl (by omega) (by decide) dX4_takeOutLarger_39 ?_
        refine lv_aload_n hx hb dX4_takeOutLarger_40 rfl (lv_at hl 3 rfl) ?_
        refine va_get (D := G.1) (ci := 4) (v := .ref (ad 56)) (C := RX4) (T := TX4) (N := 5) hx hb hts hw4 hown hE.1 hP 53 p_53 rfl 3 (by decide) hf18 (fun _ h9 => h9) rfl dX4_takeOutLarger_41 ?_
        refine lv_iload_n hx hb dX4_takeOutLarger_44 rfl (lv_at hl 0 rfl) ?_
        refine lv_iload_n hx hb dX4_takeOutLarger_45 rfl (lv_at hl 1 rfl) ?_
        refine lv_ior hx hb dX4_takeOutLarger_46 (zti (v := zi ((t ||| 2 ^ k : Nat) : Int)) (zi_or _ _) ?_)
        refine zild hx hb hE hP 56 256 (fun _ => rfl) (by decide) (t ||| 2 ^ k) rfl (by omega) (by decide) dX4_takeOutLarger_47 ?_
        refine lv_isub hx hb dX4_takeOutLarger_48 (zti (v := zi ((Z 56 t) - (Z 56 (t ||| 2 ^ k)))) (zi_sub _ _) ?_)
        refine zist hx hb hE hP hD hS 56 256 (fun _ => rfl) (by decide) t rfl (by omega) (by decide) dX4_takeOutLarger_49 (fun H locs hP hD hS => ?_)
        refine lv_iinc (v := zi ((t : Int) + 1)) (lv' := [(3, .int (zi ((t : Int) + 1))), (2, .int (zi ((2 ^ k : Nat) : Int))), (1, .int (zi (k : Int))), (0, .ref (ad 53))]) hx hb dX4_takeOutLarger_50 hl (k := 0) rfl (zi_add _ _) (by decide) rfl (fun ls hl => ?_)
        refine lv_goto (tgt := 19) hx hb dX4_takeOutLarger_53 (by decide) ?_
        exact ih19 (t + 1) (zw Z 56 t ((Z 56 t) - (Z 56 (t ||| 2 ^ k)))) (by omega) H locs ls ⟨hP, hD, hS, lv_sub hl [0, 1, 2, 3] rfl, (by omega), (fun c h1 => by rw [zw_cell h1]; exact hz c h1), (fun u hu => by by_cases e9 : u = t; (rw [e9, zw_at, hv t (by omega), hv (t ||| 2 ^ k) hor, if_neg (by omega), if_neg (by omega), if_pos (by omega)]; exact (zPq_no hbt).symm); (rw [zw_ne e9, hv u hu]; by_cases e8 : u < t; (rw [if_pos e8, if_pos (by omega)]); (rw [if_neg e8, if_neg (by omega)])))⟩

set_option maxHeartbeats 4000000 in
set_option maxRecDepth 100000 in
/-- refresh -/
theorem c_X4_refresh (l : Launch) (G : zG) (ad : Nat → Nat) (X : Nat → Nat → Int) (hV : zV X) (hSu : X 53 4 = 0 ∨ (X 53 4 = 1 ∧ zSv X X)) : zR l G yX4_refresh wsX4_refresh { frames := 2, cells := 0, slots := 0, locals := 50 } (zpic G ad X) [.ref (ad 53)] (zv G ad (fun Y => (X 53 4 = 1 → Y = X) ∧ (∀ c : Nat, c ≠ 53 → c ≠ 54 → c ≠ 55 → c ≠ 56 → Y c = X c) ∧ Y 53 4 = 1 ∧ zSv X Y)) 0 0 := by
  refine zR_of (cc := cX4_refresh) (maxL := 2) (rt := none) (by decide) rfl (Nat.le_of_ble_eq_true rfl) ?_
  intro p e s m below meth c A ls hx hb hml hr hts hown hlocks hin0 hA hE hP hD hS hl
  have hl : lv_has ls 2 [(0, .ref (ad 53))] := hl
  have hown : s.vm.findClass RX4 = some m.cls := hown
  have hn := hV.n (Or.inl rfl : zIsW 0)
  have h256 := z2_256 hn.2
  have hs01 : X 53 4 = 0 ∨ X 53 4 = 1 := hSu.elim Or.inl (fun q => Or.inr q.1)
  have h2p : 1 ≤ 2 ^ zN X 0 := Nat.one_le_two_pow
  have hw4 : ∀ w ∈ u_ws RX4 TX4 5, w ∈ wsX4_refresh := by decide +kernel
  have hf25 := hts (.fieldLink RX4 25 "Nettle$Survey" "isFresh" "Z") (by decide +kernel)
  have hf9 := hts (.fieldLink RX4 9 "Nettle$Survey" "lows" "[I") (by decide +kernel)
  have hf15 := hts (.fieldLink RX4 15 "Nettle$Survey" "highs" "[I") (by decide +kernel)
  have hf18 := hts (.fieldLink RX4 18 "Nettle$Survey" "amounts" "[I") (by decide +kernel)
  refine lv_aload_n hx hb dX4_refresh_0 rfl (lv_at hl 0 rfl) ?_
  refine va_get (D := G.1) (ci := 4) (v := .int (zi (X 53 4))) (C := RX4) (T := TX4) (N := 5) hx hb hts hw4 hown hE.1 hP 53 p_53 rfl 4 (by decide) hf25 (fun _ h9 => h9) rfl dX4_refresh_1 ?_
  refine z0_eq (tgt := 8) hx hb dX4_refresh_4 (by decide) (by omega) (fun h4 => ?_) (fun h4 => ?_)
  · refine lv_iconst (v := zi 0) hx hb dX4_refresh_8 rfl ?_
    refine lv_istore_n (lv' := [(1, .int (zi 0)), (0, .ref (ad 53))]) hx hb dX4_refresh_9 rfl hl (by decide) rfl (fun ls hl => ?_)
    refine lv_iload_n hx hb dX4_refresh_10 rfl (lv_at hl 0 rfl) ?_
    refine lv_iconst (v := zi 4) hx hb dX4_refresh_11 rfl ?_
    refine zc_ge (tgt := 41) hx hb dX4_refresh_12 (by decide) (by decide) (by decide) (fun h9 => absurd h9 (by decide)) (fun h12 => ?_)
    refine lv_aload_n hx hb dX4_refresh_15 rfl (lv_at hl 1 rfl) ?_
    refine va_get (D := G.1) (ci := 4) (v := .ref (ad 54)) (C := RX4) (T := TX4) (N := 5) hx hb hts hw4 hown hE.1 hP 53 p_53 rfl 1 (by decide) hf9 (fun _ h9 => h9) rfl dX4_refresh_16 ?_
    refine lv_iload_n hx hb dX4_refresh_19 rfl (lv_at hl 0 rfl) ?_
    refine lv_iconst (v := zi 0) hx hb dX4_refresh_20 rfl ?_
    refine zist hx hb hE hP hD hS 54 1024 (fun _ => rfl) (by decide) 0 rfl (by decide) (by decide) dX4_refresh_21 (fun H locs hP hD hS => ?_)
    refine lv_aload_n hx hb dX4_refresh_22 rfl (lv_at hl 1 rfl) ?_
    refine va_get (D := G.1) (ci := 4) (v := .ref (ad 55)) (C := RX4) (T := TX4) (N := 5) hx hb hts hw4 hown hE.1 hP 53 p_53 rfl 2 (by decide) hf15 (fun _ h9 => h9) rfl dX4_refresh_23 ?_
    refine lv_iload_n hx hb dX4_refresh_26 rfl (lv_at hl 0 rfl) ?_
    refine va_getsN hx hb hE.2.1.1 hS hown (va_Nw.use rfl hE.2.2.2.1.2.2.1) (fun _ h9 => h9) dX4_refresh_27 ?_
    refine lv_iload_n hx hb dX4_refresh_30 rfl (lv_at hl 0 rfl) ?_
    refine zsz_ld hx hb hE hS 0 rfl (by decide) dX4_refresh_31 ?_
    refine zti (v := zi 256) rfl ?_
    refine lv_iconst (v := zi 1) hx hb dX4_refresh_32 rfl ?_
    refine lv_isub hx hb dX4_refresh_33 (zti (v := zi 255) (zi_sub _ _) ?_)
    refine zist hx hb hE hP hD hS 55 1024 (fun _ => rfl) (by decide) 0 rfl (by decide) (by decide) dX4_refresh_34 (fun H locs hP hD hS => ?_)
    refine lv_iinc (v := zi 1) (lv' := [(1, .int (zi 1)), (0, .ref (ad 53))]) hx hb dX4_refresh_35 hl (k := 0) rfl (zi_add _ _) (by decide) rfl (fun ls hl => ?_)
    refine lv_goto (tgt := 10) hx hb dX4_refresh_38 (by decide) ?_
    refine lv_iload_n hx hb dX4_refresh_10 rfl (lv_at hl 0 rfl) ?_
    refine lv_iconst (v := zi 4) hx hb dX4_refresh_11 rfl ?_
    refine zc_ge (tgt := 41) hx hb dX4_refresh_12 (by decide) (by decide) (by decide) (fun h9 => absurd h9 (by decide)) (fun h12 => ?_)
    refine lv_aload_n hx hb dX4_refresh_15 rfl (lv_at hl 1 rfl) ?_
    refine va_get (D := G.1) (ci := 4) (v := .ref (ad 54)) (C := RX4) (T := TX4) (N := 5) hx hb hts hw4 hown hE.1 hP 53 p_53 rfl 1 (by decide) hf9 (fun _ h9 => h9) rfl dX4_refresh_16 ?_
    refine lv_iload_n hx hb dX4_refresh_19 rfl (lv_at hl 0 rfl) ?_
    refine lv_iconst (v := zi 0) hx hb dX4_refresh_20 rfl ?_
    refine zist hx hb hE hP hD hS 54 1024 (fun _ => rfl) (by decide) 1 rfl (by decide) (by decide) dX4_refresh_21 (fun H locs hP hD hS => ?_)
    refine lv_aload_n hx hb dX4_refresh_22 rfl (lv_at hl 1 rfl) ?_
    refine va_get (D := G.1) (ci := 4) (v := .ref (ad 55)) (C := RX4) (T := TX4) (N := 5) hx hb hts hw4 hown hE.1 hP 53 p_53 rfl 2 (by decide) hf15 (fun _ h9 => h9) rfl dX4_refresh_23 ?_
    refine lv_iload_n hx hb dX4_refresh_26 rfl (lv_at hl 0 rfl) ?_
    refine va_getsN hx hb hE.2.1.1 hS hown (va_Nw.use rfl hE.2.2.2.1.2.2.1) (fun _ h9 => h9) dX4_refresh_27 ?_
    refine lv_iload_n hx hb dX4_refresh_30 rfl (lv_at hl 0 rfl) ?_
    refine zsz_ld hx hb hE hS 1 rfl (by decide) dX4_refresh_31 ?_
    refine zti (v := zi 256) rfl ?_
    refine lv_iconst (v := zi 1) hx hb dX4_refresh_32 rfl ?_
    refine lv_isub hx hb dX4_refresh_33 (zti (v := zi 255) (zi_sub _ _) ?_)
    refine zist hx hb hE hP hD hS 55 1024 (fun _ => rfl) (by decide) 1 rfl (by decide) (by decide) dX4_refresh_34 (fun H locs hP hD hS => ?_)
    refine lv_iinc (v := zi 2) (lv' := [(1, .int (zi 2)), (0, .ref (ad 53))]) hx hb dX4_refresh_35 hl (k := 0) rfl (zi_add _ _) (by decide) rfl (fun ls hl => ?_)
    refine lv_goto (tgt := 10) hx hb dX4_refresh_38 (by decide) ?_
    refine lv_iload_n hx hb dX4_refresh_10 rfl (lv_at hl 0 rfl) ?_
    refine lv_iconst (v := zi 4) hx hb dX4_refresh_11 rfl ?_
    refine zc_ge (tgt := 41) hx hb dX4_refresh_12 (by decide) (by decide) (by decide) (fun h9 => absurd h9 (by decide)) (fun h12 => ?_)
    refine lv_aload_n hx hb dX4_refresh_15 rfl (lv_at hl 1 rfl) ?_
    refine va_get (D := G.1) (ci := 4) (v := .ref (ad 54)) (C := RX4) (T := TX4) (N := 5) hx hb hts hw4 hown hE.1 hP 53 p_53 rfl 1 (by decide) hf9 (fun _ h9 => h9) rfl dX4_refresh_16 ?_
    refine lv_iload_n hx hb dX4_refresh_19 rfl (lv_at hl 0 rfl) ?_
    refine lv_iconst (v := zi 0) hx hb dX4_refresh_20 rfl ?_
    refine zist hx hb hE hP hD hS 54 1024 (fun _ => rfl) (by decide) 2 rfl (by decide) (by decide) dX4_refresh_21 (fun H locs hP hD hS => ?_)
    refine lv_aload_n hx hb dX4_refresh_22 rfl (lv_at hl 1 rfl) ?_
    refine va_get (D := G.1) (ci := 4) (v := .ref (ad 55)) (C := RX4) (T := TX4) (N := 5) hx hb hts hw4 hown hE.1 hP 53 p_53 rfl 2 (by decide) hf15 (fun _ h9 => h9) rfl dX4_refresh_23 ?_
    refine lv_iload_n hx hb dX4_refresh_26 rfl (lv_at hl 0 rfl) ?_
    refine va_getsN hx hb hE.2.1.1 hS hown (va_Nw.use rfl hE.2.2.2.1.2.2.1) (fun _ h9 => h9) dX4_refresh_27 ?_
    refine lv_iload_n hx hb dX4_refresh_30 rfl (lv_at hl 0 rfl) ?_
    refine zsz_ld hx hb hE hS 2 rfl (by decide) dX4_refresh_31 ?_
    refine zti (v := zi 1024) rfl ?_
    refine lv_iconst (v := zi 1) hx hb dX4_refresh_32 rfl ?_
    refine lv_isub hx hb dX4_refresh_33 (zti (v := zi 1023) (zi_sub _ _) ?_)
    refine zist hx hb hE hP hD hS 55 1024 (fun _ => rfl) (by decide) 2 rfl (by decide) (by decide) dX4_refresh_34 (fun H locs hP hD hS => ?_)
    refine lv_iinc (v := zi 3) (lv' := [(1, .int (zi 3)), (0, .ref (ad 53))]) hx hb dX4_refresh_35 hl (k := 0) rfl (zi_add _ _) (by decide) rfl (fun ls hl => ?_)
    refine lv_goto (tgt := 10) hx hb dX4_refresh_38 (by decide) ?_
    refine lv_iload_n hx hb dX4_refresh_10 rfl (lv_at hl 0 rfl) ?_
    refine lv_iconst (v := zi 4) hx hb dX4_refresh_11 rfl ?_
    refine zc_ge (tgt := 41) hx hb dX4_refresh_12 (by decide) (by decide) (by decide) (fun h9 => absurd h9 (by decide)) (fun h12 => ?_)
    refine lv_aload_n hx hb dX4_refresh_15 rfl (lv_at hl 1 rfl) ?_
    refine va_get (D := G.1) (ci := 4) (v := .ref (ad 54)) (C := RX4) (T := TX4) (N := 5) hx hb hts hw4 hown hE.1 hP 53 p_53 rfl 1 (by decide) hf9 (fun _ h9 => h9) rfl dX4_refresh_16 ?_
    refine lv_iload_n hx hb dX4_refresh_19 rfl (lv_at hl 0 rfl) ?_
    refine lv_iconst (v := zi 0) hx hb dX4_refresh_20 rfl ?_
    refine zist hx hb hE hP hD hS 54 1024 (fun _ => rfl) (by decide) 3 rfl (by decide) (by decide) dX4_refresh_21 (fun H locs hP hD hS => ?_)
    refine lv_aload_n hx hb dX4_refresh_22 rfl (lv_at hl 1 rfl) ?_
    refine va_get (D := G.1) (ci := 4) (v := .ref (ad 55)) (C := RX4) (T := TX4) (N := 5) hx hb hts hw4 hown hE.1 hP 53 p_53 rfl 2 (by decide) hf15 (fun _ h9 => h9) rfl dX4_refresh_23 ?_
    refine lv_iload_n hx hb dX4_refresh_26 rfl (lv_at hl 0 rfl) ?_
    refine va_getsN hx hb hE.2.1.1 hS hown (va_Nw.use rfl hE.2.2.2.1.2.2.1) (fun _ h9 => h9) dX4_refresh_27 ?_
    refine lv_iload_n hx hb dX4_refresh_30 rfl (lv_at hl 0 rfl) ?_
    refine zsz_ld hx hb hE hS 3 rfl (by decide) dX4_refresh_31 ?_
    refine zti (v := zi 4) rfl ?_
    refine lv_iconst (v := zi 1) hx hb dX4_refresh_32 rfl ?_
    refine lv_isub hx hb dX4_refresh_33 (zti (v := zi 3) (zi_sub _ _) ?_)
    refine zist hx hb hE hP hD hS 55 1024 (fun _ => rfl) (by decide) 3 rfl (by decide) (by decide) dX4_refresh_34 (fun H locs hP hD hS => ?_)
    refine lv_iinc (v := zi 4) (lv' := [(1, .int (zi 4)), (0, .ref (ad 53))]) hx hb dX4_refresh_35 hl (k := 0) rfl (zi_add _ _) (by decide) rfl (fun ls hl => ?_)
    refine lv_goto (tgt := 10) hx hb dX4_refresh_38 (by decide) ?_
    refine lv_iload_n hx hb dX4_refresh_10 rfl (lv_at hl 0 rfl) ?_
    refine lv_iconst (v := zi 4) hx hb dX4_refresh_11 rfl ?_
    refine zc_ge (tgt := 41) hx hb dX4_refresh_12 (by decide) (by decide) (by decide) (fun h12 => ?_) (fun h9 => absurd h9 (by decide))
    refine lv_aload_n hx hb dX4_refresh_41 rfl (lv_at hl 1 rfl) ?_
    refine va_get (D := G.1) (ci := 4) (v := .ref (ad 56)) (C := RX4) (T := TX4) (N := 5) hx hb hts hw4 hown hE.1 hP 53 p_53 rfl 3 (by decide) hf18 (fun _ h9 => h9) rfl dX4_refresh_42 ?_
    refine lv_iconst (v := zi 0) hx hb dX4_refresh_45 rfl ?_
    refine va_getsN hx hb hE.2.2.1.1 hS hown (va_Nw.use rfl hE.2.2.2.1.2.2.2.1) (fun _ h9 => h9) dX4_refresh_46 ?_
    refine lv_iconst (v := zi 0) hx hb dX4_refresh_49 rfl ?_
    refine zam_ld hx hb hE hS 0 rfl (by decide) dX4_refresh_50 ?_
    refine zti (v := zi 268435456) rfl ?_
    refine zist hx hb hE hP hD hS 56 256 (fun _ => rfl) (by decide) 0 rfl (by decide) (by decide) dX4_refresh_51 (fun H locs hP hD hS => ?_)
    refine lv_iconst (v := zi 1) hx hb dX4_refresh_52 rfl ?_
    refine lv_istore_n (lv' := [(1, .int (zi 1)), (0, .ref (ad 53))]) hx hb dX4_refresh_53 rfl hl (by decide) rfl (fun ls hl => ?_)
    refine zloop2 (fun (u : Nat) (Y : Nat → Nat → Int) => 256 - u) (fun (u : Nat) (Y : Nat → Nat → Int) (H : Heap) (locs : List Loc) (ls : Array Slot) => va_P G.1 vwCl (zpic G ad Y) H ∧ va_D A (zpic G ad Y) ∧ va_S A s.heap H locs ∧ lv_has ls 2 [(1, .int (zi (u : Int))), (0, .ref (ad 53))] ∧ (1 ≤ u ∧ u ≤ 2 ^ zN X 0) ∧ (∀ c : Nat, c ≠ 54 → c ≠ 55 → c ≠ 56 → Y c = X c) ∧ (∀ t : Nat, t < u → ∀ g : Nat, g < 4 → zBd X t g (Y 54 (4 * t + g)) (Y 55 (4 * t + g))) ∧ (∀ t : Nat, t < u → Y 56 t = zm X (zPq 0 t))) ?_ 1 (zw (zw (zw (zw (zw (zw (zw (zw (zw X 54 0 0) 55 0 255) 54 1 0) 55 1 255) 54 2 0) 55 2 1023) 54 3 0) 55 3 3) 56 0 268435456) ⟨hP, hD, hS, lv_sub hl [0, 1] rfl, (by omega), (fun c h1 h2 h3 => by simp [zw_cell h1, zw_cell h2, zw_cell h3]), (fun t h1 g h2 => by have ht : t = 0 := (by omega); subst ht; have hg4 : g = 0 ∨ g = 1 ∨ g = 2 ∨ g = 3 := (by omega); rcases hg4 with rfl | rfl | rfl | rfl <;> simp [zw_get] <;> exact zBd_0 X _), (fun t h1 => by have ht : t = 0 := (by omega); rw [ht, zw_at]; exact (zPq_nil X).symm)⟩
    intro u Y ih H locs ls ⟨hP, hD, hS, hl, hu, hyc, hy1, hy2⟩
    have hwe : zWe X Y := fun c h9 => hyc c (by omega) (by omega) (by omega)
    have hYV : zV Y := hwe.v hV
    have hYn : zN Y 0 = zN X 0 := hwe.n (Or.inl rfl : zIsW 0)
    refine lv_iload_n hx hb dX4_refresh_54 rfl (lv_at hl 0 rfl) ?_
    refine lv_aload_n hx hb dX4_refresh_55 rfl (lv_at hl 1 rfl) ?_
    refine zcall (wr := []) (va_runV (As := []) (rest := [.int (zi (u : Int))]) ⟨hx, hb, hml, hown, hts⟩ (c_X4_setCount l G ad Y hYV H.size) (cwV 0 hts gX4_refresh_X4_setCount rfl rfl rfl (by decide +kernel) ⟨Nat.le_of_ble_eq_true rfl, Nat.le_of_ble_eq_true rfl⟩) (zPreV (wr := []) (wc := zpic G ad Y) (q0 := 53) (ci := 4) (q := (RX4, TX4, 5)) hP hD hE hS hA rfl p_53) rfl rfl hl.1 rfl (lv_room (Nat.le_of_ble_eq_true rfl)) dX4_refresh_56 ⟨Nat.le_of_ble_eq_true rfl, Nat.le_of_ble_eq_true rfl⟩) hP hD hS hA (fun _ _ H locs hf hP hD hS => ?_)
    obtain ⟨v1, rfl, hv1, rfl⟩ := hf
    have hP : va_P G.1 vwCl (zpic G ad Y) H := hP
    have hD : va_D A (zpic G ad Y) := hD
    refine W.eq (g2 := F0 m 59 ls [.int (zi v1), .int (zi (u : Int))]) rfl ?_
    have hv1n : v1 = ((2 ^ zN X 0 : Nat) : Int) := by rw [hv1, hYn]
    refine zc_ge (tgt := 73) hx hb dX4_refresh_59 (by decide) (by omega) (by omega) (fun h59 => ?_) (fun h59 => ?_)
    · refine lv_aload_n hx hb dX4_refresh_73 rfl (lv_at hl 1 rfl) ?_
      refine zcall (wr := []) (va_runV (As := []) (rest := []) ⟨hx, hb, hml, hown, hts⟩ (c_X4_takeOutLarger l G ad Y hYV (fun t h1 => by rw [hwe.m hV]; exact hy2 t (by rw [hYn] at h1; omega)) H.size) (cwV 0 hts gX4_refresh_X4_takeOutLarger rfl rfl rfl (by decide +kernel) ⟨Nat.le_of_ble_eq_true rfl, Nat.le_of_ble_eq_true rfl⟩) (zPreV (wr := []) (wc := zpic G ad Y) (q0 := 53) (ci := 4) (q := (RX4, TX4, 5)) hP hD hE hS hA rfl p_53) rfl rfl hl.1 rfl (lv_room (Nat.le_of_ble_eq_true rfl)) dX4_refresh_74 ⟨Nat.le_of_ble_eq_true rfl, Nat.le_of_ble_eq_true rfl⟩) hP hD hS hA (fun _ _ H locs hf hP hD hS => ?_)
      obtain ⟨X1, rfl, hX1, rfl⟩ := hf
      have hP : va_P G.1 vwCl (zpic G ad X1) H := hP
      have hD : va_D A (zpic G ad X1) := hD
      refine W.eq (g2 := F0 m 77 ls []) rfl ?_
      refine lv_aload_n hx hb dX4_refresh_77 rfl (lv_at hl 1 rfl) ?_
      refine lv_iconst (v := zi 1) hx hb dX4_refresh_78 rfl ?_
      refine zput (C := RX4) (T := TX4) (N := 5) (ci := 4) (v := .int (zi 1)) (ty := tyX4 4) hx hb hts hw4 tyX4 tyX4_ok nmX4 hown hE hP hD hS 53 p_53 rfl 4 (by decide) hf25 (fun _ h9 => h9) rfl (by decide +kernel) rfl rfl (Nat.le_of_ble_eq_true rfl) (s_53 1) dX4_refresh_79 (fun H locs hP hD hS => ?_)
      exact zend_v hx hb hr hlocks hP hD hS (Nat.le_of_ble_eq_true rfl) (Nat.le_of_ble_eq_true rfl) dX4_refresh_82 ⟨_, rfl, ⟨fun h9 => by omega, fun c h1 h2 h3 h5 => by rw [zw_cell h1, hX1.1 c h5]; exact hyc c h2 h3 h5, zw_at _ _ _ _, fun t ht => by rw [zw_cell (show (56 : Nat) ≠ 53 by decide), hX1.2 t (by rw [hYn]; exact ht), hwe.m hV]⟩, rfl⟩
    · refine lv_aload_n hx hb dX4_refresh_62 rfl (lv_at hl 1 rfl) ?_
      refine lv_iload_n hx hb dX4_refresh_63 rfl (lv_at hl 0 rfl) ?_
      refine zcall (wr := []) (va_runV (As := [.int (zi (u : Int))]) (rest := []) ⟨hx, hb, hml, hown, hts⟩ (c_X4_measure l G ad Y u hYV ⟨by omega, by rw [hYn]; omega⟩ (fun t h1 g h2 => (hwe.bd hV).mpr (hy1 t h1 g h2)) H.size) (cwV 1 hts gX4_refresh_X4_measure rfl rfl rfl (by decide +kernel) ⟨Nat.le_of_ble_eq_true rfl, Nat.le_of_ble_eq_true rfl⟩) (zPreV (wr := []) (wc := zpic G ad Y) (q0 := 53) (ci := 4) (q := (RX4, TX4, 5)) hP hD hE hS hA rfl p_53) rfl rfl hl.1 rfl (lv_room (Nat.le_of_ble_eq_true rfl)) dX4_refresh_64 ⟨Nat.le_of_ble_eq_true rfl, Nat.le_of_ble_eq_true rfl⟩) hP hD hS hA (fun _ _ H locs hf hP hD hS => ?_)
      obtain ⟨X1, rfl, hX1, rfl⟩ := hf
      have hP : va_P G.1 vwCl (zpic G ad X1) H := hP
      have hD : va_D A (zpic G ad X1) := hD
      refine W.eq (g2 := F0 m 67 ls []) rfl ?_
      refine lv_iinc (v := zi ((u : Int) + 1)) (lv' := [(1, .int (zi ((u : Int) + 1))), (0, .ref (ad 53))]) hx hb dX4_refresh_67 hl (k := 0) rfl (zi_add _ _) (by decide) rfl (fun ls hl => ?_)
      refine lv_goto (tgt := 54) hx hb dX4_refresh_70 (by decide) ?_
      exact ih (u + 1) X1 (by omega) H locs ls ⟨hP, hD, hS, lv_sub hl [0, 1] rfl, (by omega), (fun c h1 h2 h3 => by rw [hX1.1 c h1 h2 h3]; exact hyc c h1 h2 h3), (fun t h1 g h2 => (hwe.bd hV).mp (hX1.2.1 t h1 g h2)), (fun t h1 => by by_cases e9 : t = u; (rw [e9, hX1.2.2.2, hwe.m hV]); (rw [hX1.2.2.1 t e9]; exact hy2 t (by omega)))⟩
  · exact zend_v hx hb hr hlocks hP hD hS (Nat.le_of_ble_eq_true rfl) (Nat.le_of_ble_eq_true rfl) dX4_refresh_7 ⟨_, rfl, (by rcases hSu with h | h; omega; exact ⟨fun _ => rfl, fun c _ _ _ _ => rfl, h.1, h.2⟩), rfl⟩
end
section
/-! the survey is asked -/
theorem dX4_amountOf_0 : decode cX4_amountOf 0 = .ok (.iconst 1, 1) := by decide +kernel
theorem dX4_amountOf_1 : decode cX4_amountOf 1 = .ok (.iload_n 1, 1) := by decide +kernel
theorem dX4_amountOf_2 : decode cX4_amountOf 2 = .ok (.ishl, 1) := by decide +kernel
theorem dX4_amountOf_3 : decode cX4_amountOf 3 = .ok (.istore_n 2, 1) := by decide +kernel
theorem dX4_amountOf_4 : decode cX4_amountOf 4 = .ok (.aload_n 0, 1) := by decide +kernel
theorem dX4_amountOf_5 : decode cX4_amountOf 5 = .ok (.getfield 21, 3) := by decide +kernel
set_option maxRecDepth 20000 in
theorem ggX4_amountOf_X6_deciders : GoodIn wsX4_amountOf wsX6_deciders := goodIn_r _ [7, 8, 9, 10, 11, 12, 13, 14, 15, 27, 28, 29, 30, 31, 32, 33] (by decide +kernel) (by decide +kernel)
set_option maxRecDepth 20000 in
theorem gX4_amountOf_X6_deciders : GoodIn wsX4_amountOf (wsV RX4 73 RX6 yX6_deciders wsX6_deciders) := goodIn_app (goodIn_of _ (by decide +kernel)) ggX4_amountOf_X6_deciders
theorem dX4_amountOf_8 : decode cX4_amountOf 8 = .ok (.invokevirtual 73, 3) := by decide +kernel
theorem dX4_amountOf_11 : decode cX4_amountOf 11 = .ok (.iload_n 2, 1) := by decide +kernel
theorem dX4_amountOf_12 : decode cX4_amountOf 12 = .ok (.iconst 1, 1) := by decide +kernel
theorem dX4_amountOf_13 : decode cX4_amountOf 13 = .ok (.isub, 1) := by decide +kernel
theorem dX4_amountOf_14 : decode cX4_amountOf 14 = .ok (.iand, 1) := by decide +kernel
theorem dX4_amountOf_15 : decode cX4_amountOf 15 = .ok (.istore_n 3, 1) := by decide +kernel
theorem dX4_amountOf_16 : decode cX4_amountOf 16 = .ok (.iconst 0, 1) := by decide +kernel
theorem dX4_amountOf_17 : decode cX4_amountOf 17 = .ok (.istore 4, 2) := by decide +kernel
theorem dX4_amountOf_19 : decode cX4_amountOf 19 = .ok (.iconst 0, 1) := by decide +kernel
theorem dX4_amountOf_20 : decode cX4_amountOf 20 = .ok (.istore 5, 2) := by decide +kernel
theorem dX4_amountOf_22 : decode cX4_amountOf 22 = .ok (.iload 5, 2) := by decide +kernel
theorem dX4_amountOf_24 : decode cX4_amountOf 24 = .ok (.aload_n 0, 1) := by decide +kernel
set_option maxRecDepth 20000 in
theorem ggX4_amountOf_X4_setCount : GoodIn wsX4_amountOf wsX4_setCount := goodIn_r _ [20, 1, 21, 22, 23, 24, 25, 26, 27, 28, 29] (by decide +kernel) (by decide +kernel)
set_option maxRecDepth 20000 in
theorem gX4_amountOf_X4_setCount : GoodIn wsX4_amountOf (wsV RX4 35 RX4 yX4_setCount wsX4_setCount) := goodIn_app (goodIn_of _ (by decide +kernel)) ggX4_amountOf_X4_setCount
theorem dX4_amountOf_25 : decode cX4_amountOf 25 = .ok (.invokevirtual 35, 3) := by decide +kernel
theorem dX4_amountOf_28 : decode cX4_amountOf 28 = .ok (.if_icmp .ge 35, 3) := by decide +kernel
theorem dX4_amountOf_63 : decode cX4_amountOf 63 = .ok (.iload 4, 2) := by decide +kernel
theorem dX4_amountOf_65 : decode cX4_amountOf 65 = .ok (.ireturn, 1) := by decide +kernel
theorem dX4_amountOf_31 : decode cX4_amountOf 31 = .ok (.iload 5, 2) := by decide +kernel
theorem dX4_amountOf_33 : decode cX4_amountOf 33 = .ok (.iload_n 2, 1) := by decide +kernel
theorem dX4_amountOf_34 : decode cX4_amountOf 34 = .ok (.iand, 1) := by decide +kernel
theorem dX4_amountOf_35 : decode cX4_amountOf 35 = .ok (.ifCond .eq 22, 3) := by decide +kernel
theorem dX4_amountOf_57 : decode cX4_amountOf 57 = .ok (.iinc 5 1, 3) := by decide +kernel
theorem dX4_amountOf_60 : decode cX4_amountOf 60 = .ok (.goto (-38), 3) := by decide +kernel
theorem dX4_amountOf_38 : decode cX4_amountOf 38 = .ok (.iload 5, 2) := by decide +kernel
theorem dX4_amountOf_40 : decode cX4_amountOf 40 = .ok (.iload_n 3, 1) := by decide +kernel
theorem dX4_amountOf_41 : decode cX4_amountOf 41 = .ok (.iand, 1) := by decide +kernel
theorem dX4_amountOf_42 : decode cX4_amountOf 42 = .ok (.ifCond .ne 15, 3) := by decide +kernel
theorem dX4_amountOf_45 : decode cX4_amountOf 45 = .ok (.iload 4, 2) := by decide +kernel
theorem dX4_amountOf_47 : decode cX4_amountOf 47 = .ok (.aload_n 0, 1) := by decide +kernel
theorem dX4_amountOf_48 : decode cX4_amountOf 48 = .ok (.getfield 18, 3) := by decide +kernel
theorem dX4_amountOf_51 : decode cX4_amountOf 51 = .ok (.iload 5, 2) := by decide +kernel
theorem dX4_amountOf_53 : decode cX4_amountOf 53 = .ok (.iaload, 1) := by decide +kernel
theorem dX4_amountOf_54 : decode cX4_amountOf 54 = .ok (.iadd, 1) := by decide +kernel
theorem dX4_amountOf_55 : decode cX4_amountOf 55 = .ok (.istore 4, 2) := by decide +kernel
theorem dX4_amountAllowed_0 : decode cX4_amountAllowed 0 = .ok (.aload_n 0, 1) := by decide +kernel
theorem dX4_amountAllowed_1 : decode cX4_amountAllowed 1 = .ok (.getfield 21, 3) := by decide +kernel
set_option maxRecDepth 20000 in
theorem ggX4_amountAllowed_X6_deciders : GoodIn wsX4_amountAllowed wsX6_deciders := goodIn_r _ [7, 8, 9, 10, 11, 12, 13, 14, 15, 37, 38, 39, 40, 41, 42, 43] (by decide +kernel) (by decide +kernel)
set_option maxRecDepth 20000 in
theorem gX4_amountAllowed_X6_deciders : GoodIn wsX4_amountAllowed (wsV RX4 73 RX6 yX6_deciders wsX6_deciders) := goodIn_app (goodIn_of _ (by decide +kernel)) ggX4_amountAllowed_X6_deciders
theorem dX4_amountAllowed_4 : decode cX4_amountAllowed 4 = .ok (.invokevirtual 73, 3) := by decide +kernel
theorem dX4_amountAllowed_7 : decode cX4_amountAllowed 7 = .ok (.iload_n 1, 1) := by decide +kernel
theorem dX4_amountAllowed_8 : decode cX4_amountAllowed 8 = .ok (.iand, 1) := by decide +kernel
theorem dX4_amountAllowed_9 : decode cX4_amountAllowed 9 = .ok (.istore_n 2, 1) := by decide +kernel
theorem dX4_amountAllowed_10 : decode cX4_amountAllowed 10 = .ok (.iconst 0, 1) := by decide +kernel
theorem dX4_amountAllowed_11 : decode cX4_amountAllowed 11 = .ok (.istore_n 3, 1) := by decide +kernel
theorem dX4_amountAllowed_12 : decode cX4_amountAllowed 12 = .ok (.iconst 0, 1) := by decide +kernel
theorem dX4_amountAllowed_13 : decode cX4_amountAllowed 13 = .ok (.istore 4, 2) := by decide +kernel
theorem dX4_amountAllowed_15 : decode cX4_amountAllowed 15 = .ok (.iload 4, 2) := by decide +kernel
theorem dX4_amountAllowed_17 : decode cX4_amountAllowed 17 = .ok (.aload_n 0, 1) := by decide +kernel
set_option maxRecDepth 20000 in
theorem ggX4_amountAllowed_X4_setCount : GoodIn wsX4_amountAllowed wsX4_setCount := goodIn_r _ [20, 1, 21, 32, 33, 34, 35, 36, 37, 38, 39] (by decide +kernel) (by decide +kernel)
set_option maxRecDepth 20000 in
theorem gX4_amountAllowed_X4_setCount : GoodIn wsX4_amountAllowed (wsV RX4 35 RX4 yX4_setCount wsX4_setCount) := goodIn_app (goodIn_of _ (by decide +kernel)) ggX4_amountAllowed_X4_setCount
theorem dX4_amountAllowed_18 : decode cX4_amountAllowed 18 = .ok (.invokevirtual 35, 3) := by decide +kernel
theorem dX4_amountAllowed_21 : decode cX4_amountAllowed 21 = .ok (.if_icmp .ge 33, 3) := by decide +kernel
theorem dX4_amountAllowed_54 : decode cX4_amountAllowed 54 = .ok (.iload_n 3, 1) := by decide +kernel
theorem dX4_amountAllowed_55 : decode cX4_amountAllowed 55 = .ok (.ireturn, 1) := by decide +kernel
theorem dX4_amountAllowed_24 : decode cX4_amountAllowed 24 = .ok (.aload_n 0, 1) := by decide +kernel
theorem dX4_amountAllowed_25 : decode cX4_amountAllowed 25 = .ok (.getfield 21, 3) := by decide +kernel
theorem dX4_amountAllowed_28 : decode cX4_amountAllowed 28 = .ok (.iload 4, 2) := by decide +kernel
theorem dX4_amountAllowed_30 : decode cX4_amountAllowed 30 = .ok (.iload_n 2, 1) := by decide +kernel
theorem dX4_amountAllowed_31 : decode cX4_amountAllowed 31 = .ok (.iand, 1) := by decide +kernel
set_option maxRecDepth 20000 in
theorem ggX4_amountAllowed_X6_allows : GoodIn wsX4_amountAllowed wsX6_allows := goodIn_r _ [25, 26, 9, 27, 28, 29, 30, 6, 31, 8, 37, 38, 39, 40, 41, 42, 43] (by decide +kernel) (by decide +kernel)
set_option maxRecDepth 20000 in
theorem gX4_amountAllowed_X6_allows : GoodIn wsX4_amountAllowed (wsV RX4 76 RX6 yX6_allows wsX6_allows) := goodIn_app (goodIn_of _ (by decide +kernel)) ggX4_amountAllowed_X6_allows
theorem dX4_amountAllowed_32 : decode cX4_amountAllowed 32 = .ok (.invokevirtual 76, 3) := by decide +kernel
theorem dX4_amountAllowed_35 : decode cX4_amountAllowed 35 = .ok (.ifCond .eq 13, 3) := by decide +kernel
theorem dX4_amountAllowed_48 : decode cX4_amountAllowed 48 = .ok (.iinc 4 1, 3) := by decide +kernel
theorem dX4_amountAllowed_51 : decode cX4_amountAllowed 51 = .ok (.goto (-36), 3) := by decide +kernel
theorem dX4_amountAllowed_38 : decode cX4_amountAllowed 38 = .ok (.iload_n 3, 1) := by decide +kernel
theorem dX4_amountAllowed_39 : decode cX4_amountAllowed 39 = .ok (.aload_n 0, 1) := by decide +kernel
theorem dX4_amountAllowed_40 : decode cX4_amountAllowed 40 = .ok (.getfield 18, 3) := by decide +kernel
theorem dX4_amountAllowed_43 : decode cX4_amountAllowed 43 = .ok (.iload 4, 2) := by decide +kernel
theorem dX4_amountAllowed_45 : decode cX4_amountAllowed 45 = .ok (.iaload, 1) := by decide +kernel
theorem dX4_amountAllowed_46 : decode cX4_amountAllowed 46 = .ok (.iadd, 1) := by decide +kernel
theorem dX4_amountAllowed_47 : decode cX4_amountAllowed 47 = .ok (.istore_n 3, 1) := by decide +kernel
theorem dX4_isDead_0 : decode cX4_isDead 0 = .ok (.aload_n 0, 1) := by decide +kernel
theorem dX4_isDead_1 : decode cX4_isDead 1 = .ok (.iload_n 1, 1) := by decide +kernel
set_option maxRecDepth 20000 in
theorem ggX4_isDead_X4_amountOf : GoodIn wsX4_isDead wsX4_amountOf := goodIn_r _ [5, 6, 7, 8, 9, 10, 11, 12, 13, 14, 15, 16, 17, 18, 19, 20, 21, 22, 23, 4, 24, 25, 26, 27, 28, 29, 30, 31, 32, 33, 34, 35, 36, 37] (by decide +kernel) (by decide +kernel)
set_option maxRecDepth 20000 in
theorem gX4_isDead_X4_amountOf : GoodIn wsX4_isDead (wsV RX4 80 RX4 yX4_amountOf wsX4_amountOf) := goodIn_app (goodIn_of _ (by decide +kernel)) ggX4_isDead_X4_amountOf
theorem dX4_isDead_2 : decode cX4_isDead 2 = .ok (.invokevirtual 80, 3) := by decide +kernel
theorem dX4_isDead_5 : decode cX4_isDead 5 = .ok (.ifCond .ne 7, 3) := by decide +kernel
theorem dX4_isDead_12 : decode cX4_isDead 12 = .ok (.iconst 0, 1) := by decide +kernel
theorem dX4_isDead_13 : decode cX4_isDead 13 = .ok (.ireturn, 1) := by decide +kernel
theorem dX4_isDead_8 : decode cX4_isDead 8 = .ok (.iconst 1, 1) := by decide +kernel
theorem dX4_isDead_9 : decode cX4_isDead 9 = .ok (.goto 4, 3) := by decide +kernel
theorem dX4_isNeedless_0 : decode cX4_isNeedless 0 = .ok (.aload_n 0, 1) := by decide +kernel
theorem dX4_isNeedless_1 : decode cX4_isNeedless 1 = .ok (.getfield 21, 3) := by decide +kernel
theorem dX4_isNeedless_4 : decode cX4_isNeedless 4 = .ok (.getfield 56, 3) := by decide +kernel
theorem dX4_isNeedless_7 : decode cX4_isNeedless 7 = .ok (.iload_n 1, 1) := by decide +kernel
theorem dX4_isNeedless_8 : decode cX4_isNeedless 8 = .ok (.aaload, 1) := by decide +kernel
set_option maxRecDepth 20000 in
theorem ggX4_isNeedless_X3_isNote : GoodIn wsX4_isNeedless wsX3_isNote := goodIn_r _ [8, 9, 42, 43, 44, 45] (by decide +kernel) (by decide +kernel)
set_option maxRecDepth 20000 in
theorem gX4_isNeedless_X3_isNote : GoodIn wsX4_isNeedless (wsV RX4 83 RX3 yX3_isNote wsX3_isNote) := goodIn_app (goodIn_of _ (by decide +kernel)) ggX4_isNeedless_X3_isNote
theorem dX4_isNeedless_9 : decode cX4_isNeedless 9 = .ok (.invokevirtual 83, 3) := by decide +kernel
theorem dX4_isNeedless_12 : decode cX4_isNeedless 12 = .ok (.ifCond .eq 5, 3) := by decide +kernel
theorem dX4_isNeedless_17 : decode cX4_isNeedless 17 = .ok (.aload_n 0, 1) := by decide +kernel
theorem dX4_isNeedless_18 : decode cX4_isNeedless 18 = .ok (.getfield 21, 3) := by decide +kernel
set_option maxRecDepth 20000 in
theorem ggX4_isNeedless_X6_deciders : GoodIn wsX4_isNeedless wsX6_deciders := goodIn_r _ [14, 15, 16, 17, 5, 6, 7, 8, 9, 39, 40, 41, 42, 43, 44, 45] (by decide +kernel) (by decide +kernel)
set_option maxRecDepth 20000 in
theorem gX4_isNeedless_X6_deciders : GoodIn wsX4_isNeedless (wsV RX4 73 RX6 yX6_deciders wsX6_deciders) := goodIn_app (goodIn_of _ (by decide +kernel)) ggX4_isNeedless_X6_deciders
theorem dX4_isNeedless_21 : decode cX4_isNeedless 21 = .ok (.invokevirtual 73, 3) := by decide +kernel
theorem dX4_isNeedless_24 : decode cX4_isNeedless 24 = .ok (.istore_n 2, 1) := by decide +kernel
theorem dX4_isNeedless_25 : decode cX4_isNeedless 25 = .ok (.iload_n 2, 1) := by decide +kernel
theorem dX4_isNeedless_26 : decode cX4_isNeedless 26 = .ok (.iconst 1, 1) := by decide +kernel
theorem dX4_isNeedless_27 : decode cX4_isNeedless 27 = .ok (.iload_n 1, 1) := by decide +kernel
theorem dX4_isNeedless_28 : decode cX4_isNeedless 28 = .ok (.ishl, 1) := by decide +kernel
theorem dX4_isNeedless_29 : decode cX4_isNeedless 29 = .ok (.isub, 1) := by decide +kernel
theorem dX4_isNeedless_30 : decode cX4_isNeedless 30 = .ok (.istore_n 3, 1) := by decide +kernel
theorem dX4_isNeedless_31 : decode cX4_isNeedless 31 = .ok (.iconst 0, 1) := by decide +kernel
theorem dX4_isNeedless_32 : decode cX4_isNeedless 32 = .ok (.istore 4, 2) := by decide +kernel
theorem dX4_isNeedless_34 : decode cX4_isNeedless 34 = .ok (.iload 4, 2) := by decide +kernel
theorem dX4_isNeedless_36 : decode cX4_isNeedless 36 = .ok (.aload_n 0, 1) := by decide +kernel
set_option maxRecDepth 20000 in
theorem ggX4_isNeedless_X4_setCount : GoodIn wsX4_isNeedless wsX4_setCount := goodIn_r _ [22, 1, 23, 34, 35, 36, 37, 38, 39, 40, 41] (by decide +kernel) (by decide +kernel)
set_option maxRecDepth 20000 in
theorem gX4_isNeedless_X4_setCount : GoodIn wsX4_isNeedless (wsV RX4 35 RX4 yX4_setCount wsX4_setCount) := goodIn_app (goodIn_of _ (by decide +kernel)) ggX4_isNeedless_X4_setCount
theorem dX4_isNeedless_37 : decode cX4_isNeedless 37 = .ok (.invokevirtual 35, 3) := by decide +kernel
theorem dX4_isNeedless_40 : decode cX4_isNeedless 40 = .ok (.if_icmp .ge 46, 3) := by decide +kernel
theorem dX4_isNeedless_86 : decode cX4_isNeedless 86 = .ok (.iconst 1, 1) := by decide +kernel
theorem dX4_isNeedless_87 : decode cX4_isNeedless 87 = .ok (.ireturn, 1) := by decide +kernel
theorem dX4_isNeedless_43 : decode cX4_isNeedless 43 = .ok (.aload_n 0, 1) := by decide +kernel
theorem dX4_isNeedless_44 : decode cX4_isNeedless 44 = .ok (.getfield 18, 3) := by decide +kernel
theorem dX4_isNeedless_47 : decode cX4_isNeedless 47 = .ok (.iload 4, 2) := by decide +kernel
theorem dX4_isNeedless_49 : decode cX4_isNeedless 49 = .ok (.iaload, 1) := by decide +kernel
theorem dX4_isNeedless_50 : decode cX4_isNeedless 50 = .ok (.ifCond .le 30, 3) := by decide +kernel
theorem dX4_isNeedless_80 : decode cX4_isNeedless 80 = .ok (.iinc 4 1, 3) := by decide +kernel
theorem dX4_isNeedless_83 : decode cX4_isNeedless 83 = .ok (.goto (-49), 3) := by decide +kernel
theorem dX4_isNeedless_53 : decode cX4_isNeedless 53 = .ok (.aload_n 0, 1) := by decide +kernel
theorem dX4_isNeedless_54 : decode cX4_isNeedless 54 = .ok (.getfield 21, 3) := by decide +kernel
theorem dX4_isNeedless_57 : decode cX4_isNeedless 57 = .ok (.iload 4, 2) := by decide +kernel
theorem dX4_isNeedless_59 : decode cX4_isNeedless 59 = .ok (.iload_n 2, 1) := by decide +kernel
theorem dX4_isNeedless_60 : decode cX4_isNeedless 60 = .ok (.iand, 1) := by decide +kernel
set_option maxRecDepth 20000 in
theorem ggX4_isNeedless_X6_allows : GoodIn wsX4_isNeedless wsX6_allows := goodIn_r _ [27, 28, 16, 29, 30, 31, 32, 13, 33, 15, 39, 40, 41, 42, 43, 44, 45] (by decide +kernel) (by decide +kernel)
set_option maxRecDepth 20000 in
theorem gX4_isNeedless_X6_allows : GoodIn wsX4_isNeedless (wsV RX4 76 RX6 yX6_allows wsX6_allows) := goodIn_app (goodIn_of _ (by decide +kernel)) ggX4_isNeedless_X6_allows
theorem dX4_isNeedless_61 : decode cX4_isNeedless 61 = .ok (.invokevirtual 76, 3) := by decide +kernel
theorem dX4_isNeedless_64 : decode cX4_isNeedless 64 = .ok (.aload_n 0, 1) := by decide +kernel
theorem dX4_isNeedless_65 : decode cX4_isNeedless 65 = .ok (.getfield 21, 3) := by decide +kernel
theorem dX4_isNeedless_68 : decode cX4_isNeedless 68 = .ok (.iload 4, 2) := by decide +kernel
theorem dX4_isNeedless_70 : decode cX4_isNeedless 70 = .ok (.iload_n 3, 1) := by decide +kernel
theorem dX4_isNeedless_71 : decode cX4_isNeedless 71 = .ok (.iand, 1) := by decide +kernel
theorem dX4_isNeedless_72 : decode cX4_isNeedless 72 = .ok (.invokevirtual 76, 3) := by decide +kernel
theorem dX4_isNeedless_75 : decode cX4_isNeedless 75 = .ok (.if_icmp .eq 5, 3) := by decide +kernel
theorem dX4_isNeedless_78 : decode cX4_isNeedless 78 = .ok (.iconst 0, 1) := by decide +kernel
theorem dX4_isNeedless_79 : decode cX4_isNeedless 79 = .ok (.ireturn, 1) := by decide +kernel
theorem dX4_isNeedless_15 : decode cX4_isNeedless 15 = .ok (.iconst 0, 1) := by decide +kernel
theorem dX4_isNeedless_16 : decode cX4_isNeedless 16 = .ok (.ireturn, 1) := by decide +kernel
theorem dX4_allowsMoved_0 : decode cX4_allowsMoved 0 = .ok (.iconst 1, 1) := by decide +kernel
theorem dX4_allowsMoved_1 : decode cX4_allowsMoved 1 = .ok (.iload_n 2, 1) := by decide +kernel
theorem dX4_allowsMoved_2 : decode cX4_allowsMoved 2 = .ok (.ishl, 1) := by decide +kernel
theorem dX4_allowsMoved_3 : decode cX4_allowsMoved 3 = .ok (.istore 4, 2) := by decide +kernel
theorem dX4_allowsMoved_5 : decode cX4_allowsMoved 5 = .ok (.iload_n 1, 1) := by decide +kernel
theorem dX4_allowsMoved_6 : decode cX4_allowsMoved 6 = .ok (.iload 4, 2) := by decide +kernel
theorem dX4_allowsMoved_8 : decode cX4_allowsMoved 8 = .ok (.iconst (-1), 1) := by decide +kernel
theorem dX4_allowsMoved_9 : decode cX4_allowsMoved 9 = .ok (.ixor, 1) := by decide +kernel
theorem dX4_allowsMoved_10 : decode cX4_allowsMoved 10 = .ok (.iand, 1) := by decide +kernel
theorem dX4_allowsMoved_11 : decode cX4_allowsMoved 11 = .ok (.istore 5, 2) := by decide +kernel
theorem dX4_allowsMoved_13 : decode cX4_allowsMoved 13 = .ok (.iload_n 3, 1) := by decide +kernel
theorem dX4_allowsMoved_14 : decode cX4_allowsMoved 14 = .ok (.iload_n 2, 1) := by decide +kernel
theorem dX4_allowsMoved_15 : decode cX4_allowsMoved 15 = .ok (.if_icmp .ge 11, 3) := by decide +kernel
theorem dX4_allowsMoved_26 : decode cX4_allowsMoved 26 = .ok (.iconst 2, 1) := by decide +kernel
theorem dX4_allowsMoved_27 : decode cX4_allowsMoved 27 = .ok (.iload_n 3, 1) := by decide +kernel
theorem dX4_allowsMoved_28 : decode cX4_allowsMoved 28 = .ok (.ishl, 1) := by decide +kernel
theorem dX4_allowsMoved_29 : decode cX4_allowsMoved 29 = .ok (.iconst 1, 1) := by decide +kernel
theorem dX4_allowsMoved_30 : decode cX4_allowsMoved 30 = .ok (.isub, 1) := by decide +kernel
theorem dX4_allowsMoved_31 : decode cX4_allowsMoved 31 = .ok (.istore 6, 2) := by decide +kernel
theorem dX4_allowsMoved_33 : decode cX4_allowsMoved 33 = .ok (.iload_n 1, 1) := by decide +kernel
theorem dX4_allowsMoved_34 : decode cX4_allowsMoved 34 = .ok (.iload 4, 2) := by decide +kernel
theorem dX4_allowsMoved_36 : decode cX4_allowsMoved 36 = .ok (.iand, 1) := by decide +kernel
theorem dX4_allowsMoved_37 : decode cX4_allowsMoved 37 = .ok (.ifCond .eq 21, 3) := by decide +kernel
theorem dX4_allowsMoved_58 : decode cX4_allowsMoved 58 = .ok (.aload_n 0, 1) := by decide +kernel
theorem dX4_allowsMoved_59 : decode cX4_allowsMoved 59 = .ok (.getfield 21, 3) := by decide +kernel
theorem dX4_allowsMoved_62 : decode cX4_allowsMoved 62 = .ok (.iload 5, 2) := by decide +kernel
set_option maxRecDepth 20000 in
theorem ggX4_allowsMoved_X6_allows : GoodIn wsX4_allowsMoved wsX6_allows := goodIn_r _ [6, 7, 8, 9, 10, 11, 12, 5, 13, 14, 20, 21, 22, 23, 24, 25, 26] (by decide +kernel) (by decide +kernel)
set_option maxRecDepth 20000 in
theorem gX4_allowsMoved_X6_allows : GoodIn wsX4_allowsMoved (wsV RX4 76 RX6 yX6_allows wsX6_allows) := goodIn_app (goodIn_of _ (by decide +kernel)) ggX4_allowsMoved_X6_allows
theorem dX4_allowsMoved_64 : decode cX4_allowsMoved 64 = .ok (.invokevirtual 76, 3) := by decide +kernel
theorem dX4_allowsMoved_67 : decode cX4_allowsMoved 67 = .ok (.ireturn, 1) := by decide +kernel
theorem dX4_allowsMoved_40 : decode cX4_allowsMoved 40 = .ok (.iload 5, 2) := by decide +kernel
theorem dX4_allowsMoved_42 : decode cX4_allowsMoved 42 = .ok (.iload 6, 2) := by decide +kernel
theorem dX4_allowsMoved_44 : decode cX4_allowsMoved 44 = .ok (.iand, 1) := by decide +kernel
theorem dX4_allowsMoved_45 : decode cX4_allowsMoved 45 = .ok (.ifCond .ne 13, 3) := by decide +kernel
theorem dX4_allowsMoved_48 : decode cX4_allowsMoved 48 = .ok (.aload_n 0, 1) := by decide +kernel
theorem dX4_allowsMoved_49 : decode cX4_allowsMoved 49 = .ok (.getfield 21, 3) := by decide +kernel
theorem dX4_allowsMoved_52 : decode cX4_allowsMoved 52 = .ok (.iload 4, 2) := by decide +kernel
theorem dX4_allowsMoved_54 : decode cX4_allowsMoved 54 = .ok (.invokevirtual 76, 3) := by decide +kernel
theorem dX4_allowsMoved_57 : decode cX4_allowsMoved 57 = .ok (.ireturn, 1) := by decide +kernel
theorem dX4_amountMoved_0 : decode cX4_amountMoved 0 = .ok (.aload_n 0, 1) := by decide +kernel
theorem dX4_amountMoved_1 : decode cX4_amountMoved 1 = .ok (.getfield 21, 3) := by decide +kernel
set_option maxRecDepth 20000 in
theorem ggX4_amountMoved_X6_deciders : GoodIn wsX4_amountMoved wsX6_deciders := goodIn_r _ [7, 8, 9, 10, 11, 12, 13, 14, 15, 41, 42, 43, 44, 45, 46, 47] (by decide +kernel) (by decide +kernel)
set_option maxRecDepth 20000 in
theorem gX4_amountMoved_X6_deciders : GoodIn wsX4_amountMoved (wsV RX4 73 RX6 yX6_deciders wsX6_deciders) := goodIn_app (goodIn_of _ (by decide +kernel)) ggX4_amountMoved_X6_deciders
theorem dX4_amountMoved_4 : decode cX4_amountMoved 4 = .ok (.invokevirtual 73, 3) := by decide +kernel
theorem dX4_amountMoved_7 : decode cX4_amountMoved 7 = .ok (.istore_n 3, 1) := by decide +kernel
theorem dX4_amountMoved_8 : decode cX4_amountMoved 8 = .ok (.iconst 0, 1) := by decide +kernel
theorem dX4_amountMoved_9 : decode cX4_amountMoved 9 = .ok (.istore 4, 2) := by decide +kernel
theorem dX4_amountMoved_11 : decode cX4_amountMoved 11 = .ok (.iconst 0, 1) := by decide +kernel
theorem dX4_amountMoved_12 : decode cX4_amountMoved 12 = .ok (.istore 5, 2) := by decide +kernel
theorem dX4_amountMoved_14 : decode cX4_amountMoved 14 = .ok (.iload 5, 2) := by decide +kernel
theorem dX4_amountMoved_16 : decode cX4_amountMoved 16 = .ok (.aload_n 0, 1) := by decide +kernel
set_option maxRecDepth 20000 in
theorem ggX4_amountMoved_X4_setCount : GoodIn wsX4_amountMoved wsX4_setCount := goodIn_r _ [20, 1, 21, 36, 37, 38, 39, 40, 41, 42, 43] (by decide +kernel) (by decide +kernel)
set_option maxRecDepth 20000 in
theorem gX4_amountMoved_X4_setCount : GoodIn wsX4_amountMoved (wsV RX4 35 RX4 yX4_setCount wsX4_setCount) := goodIn_app (goodIn_of _ (by decide +kernel)) ggX4_amountMoved_X4_setCount
theorem dX4_amountMoved_17 : decode cX4_amountMoved 17 = .ok (.invokevirtual 35, 3) := by decide +kernel
theorem dX4_amountMoved_20 : decode cX4_amountMoved 20 = .ok (.if_icmp .ge 45, 3) := by decide +kernel
theorem dX4_amountMoved_65 : decode cX4_amountMoved 65 = .ok (.iload 4, 2) := by decide +kernel
theorem dX4_amountMoved_67 : decode cX4_amountMoved 67 = .ok (.ireturn, 1) := by decide +kernel
theorem dX4_amountMoved_23 : decode cX4_amountMoved 23 = .ok (.aload_n 0, 1) := by decide +kernel
theorem dX4_amountMoved_24 : decode cX4_amountMoved 24 = .ok (.getfield 21, 3) := by decide +kernel
theorem dX4_amountMoved_27 : decode cX4_amountMoved 27 = .ok (.iload 5, 2) := by decide +kernel
theorem dX4_amountMoved_29 : decode cX4_amountMoved 29 = .ok (.iload_n 3, 1) := by decide +kernel
theorem dX4_amountMoved_30 : decode cX4_amountMoved 30 = .ok (.iand, 1) := by decide +kernel
set_option maxRecDepth 20000 in
theorem ggX4_amountMoved_X6_allows : GoodIn wsX4_amountMoved wsX6_allows := goodIn_r _ [25, 26, 9, 27, 28, 29, 30, 6, 31, 8, 41, 42, 43, 44, 45, 46, 47] (by decide +kernel) (by decide +kernel)
set_option maxRecDepth 20000 in
theorem gX4_amountMoved_X6_allows : GoodIn wsX4_amountMoved (wsV RX4 76 RX6 yX6_allows wsX6_allows) := goodIn_app (goodIn_of _ (by decide +kernel)) ggX4_amountMoved_X6_allows
theorem dX4_amountMoved_31 : decode cX4_amountMoved 31 = .ok (.invokevirtual 76, 3) := by decide +kernel
theorem dX4_amountMoved_34 : decode cX4_amountMoved 34 = .ok (.aload_n 0, 1) := by decide +kernel
theorem dX4_amountMoved_35 : decode cX4_amountMoved 35 = .ok (.iload 5, 2) := by decide +kernel
theorem dX4_amountMoved_37 : decode cX4_amountMoved 37 = .ok (.iload_n 3, 1) := by decide +kernel
theorem dX4_amountMoved_38 : decode cX4_amountMoved 38 = .ok (.iand, 1) := by decide +kernel
theorem dX4_amountMoved_39 : decode cX4_amountMoved 39 = .ok (.iload_n 1, 1) := by decide +kernel
theorem dX4_amountMoved_40 : decode cX4_amountMoved 40 = .ok (.iload_n 2, 1) := by decide +kernel
set_option maxRecDepth 20000 in
theorem ggX4_amountMoved_X4_allowsMoved : GoodIn wsX4_amountMoved wsX4_allowsMoved := goodIn_r _ [35, 1, 22, 23, 24, 6, 25, 26, 9, 27, 28, 29, 30, 31, 8, 36, 37, 38, 39, 40, 41, 42, 43, 44, 45, 46, 47] (by decide +kernel) (by decide +kernel)
set_option maxRecDepth 20000 in
theorem gX4_amountMoved_X4_allowsMoved : GoodIn wsX4_amountMoved (wsV RX4 87 RX4 yX4_allowsMoved wsX4_allowsMoved) := goodIn_app (goodIn_of _ (by decide +kernel)) ggX4_amountMoved_X4_allowsMoved
theorem dX4_amountMoved_41 : decode cX4_amountMoved 41 = .ok (.invokevirtual 87, 3) := by decide +kernel
theorem dX4_amountMoved_44 : decode cX4_amountMoved 44 = .ok (.if_icmp .eq 15, 3) := by decide +kernel
theorem dX4_amountMoved_59 : decode cX4_amountMoved 59 = .ok (.iinc 5 1, 3) := by decide +kernel
theorem dX4_amountMoved_62 : decode cX4_amountMoved 62 = .ok (.goto (-48), 3) := by decide +kernel
/-- the sets of which the RULE q decides: it is in, none that is no NOTE is ahead of it -/
def zPdc (X : Nat → Nat → Int) (q m : Nat) : Prop := m.testBit q = true ∧ ∀ j : Nat, j < q → ¬ (m.testBit j = true ∧ (zDec X 0).testBit j = true)
theorem zPdc_iff {X : Nat → Nat → Int} {q m : Nat} : zPdc X q m ↔ (m &&& 2 ^ q ≠ 0 ∧ m &&& (zDec X 0 &&& (2 ^ q - 1)) = 0) := by
  have h1 : m.testBit q = true ↔ m &&& 2 ^ q ≠ 0 := by
    rw [Ne, zand_two]
    cases m.testBit q
    · exact ⟨fun h => (by cases h), fun h => absurd rfl h⟩
    · exact ⟨fun _ h => (by cases h), fun _ => rfl⟩
  unfold zPdc
  rw [h1, zand_nil]
  constructor
  · rintro ⟨a, b⟩
    refine ⟨a, fun i ⟨h2, h3⟩ => ?_⟩
    rw [Nat.testBit_and, zmask_bit, Bool.and_eq_true, decide_eq_true_iff] at h3
    exact b i h3.2 ⟨h2, h3.1⟩
  · rintro ⟨a, b⟩
    refine ⟨a, fun j hj ⟨h2, h3⟩ => b j ⟨h2, ?_⟩⟩
    rw [Nat.testBit_and, zmask_bit, h3, decide_eq_true hj]
    rfl
theorem zDec_bit {X : Nat → Nat → Int} {a i : Nat} : (zDec X a).testBit i = true ↔ i < zN X a ∧ X (zr X a i) 0 ≠ 2 := by
  unfold zDec zPd
  rw [zSet_bit, Bool.and_eq_true, decide_eq_true_iff, decide_eq_true_iff]
theorem zDec_lt {X : Nat → Nat → Int} (hV : zV X) {a : Nat} (ha : zIsW a) : zDec X a < 256 := zSet_256 (hV.n ha).2 _
/-- a RULE that is no NOTE, without which each set allows the same -/
def zNl (X : Nat → Nat → Int) (q : Nat) : Prop := X (zr X 0 q) 0 ≠ 2 ∧ ∀ j : Nat, j < 2 ^ zN X 0 → 0 < X 56 j → (zAl X 0 (j &&& zDec X 0) ↔ zAl X 0 (j &&& zDel (zDec X 0) q))
theorem zi_cpl {q : Nat} (hq : q < 8) : zi ((2 ^ q : Nat) : Int) ^^^ zi (-1) = zi (-((2 ^ q : Nat) : Int) - 1) := by
  have key : ∀ q : Fin 8, zi ((2 ^ q.val : Nat) : Int) ^^^ zi (-1) = zi (-((2 ^ q.val : Nat) : Int) - 1) := by decide +kernel
  exact key ⟨q, hq⟩
theorem zi_del {u q : Nat} (hu : u < 256) (hq : q < 8) : zi (u : Int) &&& zi (-((2 ^ q : Nat) : Int) - 1) = zi ((zDel u q : Nat) : Int) := by
  rw [← zi_cpl hq]
  exact zi_not hu hq
theorem zAl_mv {X : Nat → Nat → Int} {u q : Nat} (hn : zN X 0 ≤ 8) (hu : u < 256) (hq : q < 8) (h : ¬ (u &&& 2 ^ q ≠ 0 ∧ zDel u q &&& (2 ^ (q + 1) - 1) = 0)) : zAl X 0 (zDel u q) ↔ zAl X 0 u := by
  cases hb : u.testBit q
  · rw [zDel_id hu hq hb]
  · have h1 : ¬ (zDel u q &&& (2 ^ (q + 1) - 1) = 0) := fun z => h ⟨fun z2 => (by rw [zand_two.mp z2] at hb; cases hb), z⟩
    rcases zFi_or (zN X 0) u with ⟨k, hk⟩ | hk
    · refine zAl_del hn hq hk (fun e => h1 (zand_nil.mpr fun i ⟨h2, h3⟩ => ?_))
      rw [zmask_bit, decide_eq_true_iff] at h3
      rw [zDel_bit hq (by omega), Bool.and_eq_true, decide_eq_true_iff] at h2
      have h4 := hk.2.2 i (by omega)
      rw [h2.1] at h4
      cases h4
    · rw [zAl_no hk, zAl_no (hk.del hn hq)]
theorem zAl_mv2 {X : Nat → Nat → Int} {u q : Nat} (hq8 : q < 8) (hq : q < zN X 0) (h : u &&& 2 ^ q ≠ 0) (h2 : zDel u q &&& (2 ^ (q + 1) - 1) = 0) : zAl X 0 (2 ^ q) ↔ zAl X 0 u := by
  refine zAl_same ⟨hq, ?_, fun j hj => ?_⟩
  · cases hb : u.testBit q
    · exact absurd (zand_two.mpr hb) h
    · rfl
  · cases hb : u.testBit j
    · rfl
    · refine absurd ⟨?_, ?_⟩ (zand_nil.mp h2 j)
      · rw [zDel_bit hq8 (by omega), hb, decide_eq_true (show j ≠ q by omega)]; rfl
      · rw [zmask_bit, decide_eq_true (by omega)]

set_option maxHeartbeats 4000000 in
set_option maxRecDepth 100000 in
/-- amountOf -/
theorem c_X4_amountOf (l : Launch) (G : zG) (ad : Nat → Nat) (X : Nat → Nat → Int) (q : Nat) (hV : zV X) (hSv : zSv X X) (hq : q < zN X 0) : zR l G yX4_amountOf wsX4_amountOf { frames := 2, cells := 0, slots := 0, locals := 42 } (zpic G ad X) [.ref (ad 53), .int (zi (q : Int))] (zq G ad X (fun w => w = zm X (zPdc X q))) 0 0 := by
  refine zR_of (cc := cX4_amountOf) (maxL := 6) (rt := (some .int)) (by decide) rfl (Nat.le_of_ble_eq_true rfl) ?_
  intro p e s m below meth c A ls hx hb hml hr hts hown hlocks hin0 hA hE hP hD hS hl
  have hl : lv_has ls 6 [(0, .ref (ad 53)), (1, .int (zi (q : Int)))] := hl
  have hown : s.vm.findClass RX4 = some m.cls := hown
  have hn := hV.n (Or.inl rfl : zIsW 0)
  have h256 := z2_256 hn.2
  have hdl := zDec_lt hV (Or.inl rfl : zIsW 0)
  have hw4 : ∀ w ∈ u_ws RX4 TX4 5, w ∈ wsX4_amountOf := by decide +kernel
  have hf21 := hts (.fieldLink RX4 21 "Nettle$Survey" "wall" "LNettle$Wall;") (by decide +kernel)
  have hf18 := hts (.fieldLink RX4 18 "Nettle$Survey" "amounts" "[I") (by decide +kernel)
  refine lv_iconst (v := zi 1) hx hb dX4_amountOf_0 rfl ?_
  refine lv_iload_n hx hb dX4_amountOf_1 rfl (lv_at hl 1 rfl) ?_
  refine lv_ishl hx hb dX4_amountOf_2 (zti (v := zi ((2 ^ q : Nat) : Int)) (zi_shl1 (by omega)) ?_)
  refine lv_istore_n (lv' := [(2, .int (zi ((2 ^ q : Nat) : Int))), (0, .ref (ad 53)), (1, .int (zi (q : Int)))]) hx hb dX4_amountOf_3 rfl hl (by decide) rfl (fun ls hl => ?_)
  refine lv_aload_n hx hb dX4_amountOf_4 rfl (lv_at hl 1 rfl) ?_
  refine va_get (D := G.1) (ci := 4) (v := .ref (ad 0)) (C := RX4) (T := TX4) (N := 5) hx hb hts hw4 hown hE.1 hP 53 p_53 rfl 0 (by decide) hf21 (fun _ h9 => h9) rfl dX4_amountOf_5 ?_
  refine zcall (wr := []) (va_runV (As := []) (rest := []) ⟨hx, hb, hml, hown, hts⟩ (c_X6_deciders l G ad X 0 hV (Or.inl rfl) s.heap.size) (cwV 0 hts gX4_amountOf_X6_deciders rfl rfl rfl (by decide +kernel) ⟨Nat.le_of_ble_eq_true rfl, Nat.le_of_ble_eq_true rfl⟩) (zPreV (wr := []) (wc := zpic G ad X) (q0 := 0) (ci := 6) (q := (RX6, TX6, 3)) hP hD hE hS hA rfl (p_w (Or.inl rfl))) rfl rfl hl.1 rfl (lv_room (Nat.le_of_ble_eq_true rfl)) dX4_amountOf_8 ⟨Nat.le_of_ble_eq_true rfl, Nat.le_of_ble_eq_true rfl⟩) hP hD hS hA (fun _ _ H locs hf hP hD hS => ?_)
  obtain ⟨v1, rfl, hv1, rfl⟩ := hf
  have hP : va_P G.1 vwCl (zpic G ad X) H := hP
  have hD : va_D A (zpic G ad X) := hD
  refine W.eq (g2 := F0 m 11 ls [.int (zi v1)]) rfl ?_
  refine lv_iload_n hx hb dX4_amountOf_11 rfl (lv_at hl 0 rfl) ?_
  refine lv_iconst (v := zi 1) hx hb dX4_amountOf_12 rfl ?_
  refine lv_isub hx hb dX4_amountOf_13 (zti (v := zi (((2 ^ q : Nat) : Int) - 1)) (zi_sub _ _) ?_)
  refine zti (v := zi ((2 ^ q - 1 : Nat) : Int)) (congrArg zi (by have h2q : 1 ≤ 2 ^ q := Nat.one_le_two_pow; omega)) ?_
  refine lv_iand hx hb dX4_amountOf_14 (zti (v := zi ((zDec X 0 &&& (2 ^ q - 1) : Nat) : Int)) (by rw [hv1]; exact zi_and _ _) ?_)
  refine lv_istore_n (lv' := [(3, .int (zi ((zDec X 0 &&& (2 ^ q - 1) : Nat) : Int))), (2, .int (zi ((2 ^ q : Nat) : Int))), (0, .ref (ad 53)), (1, .int (zi (q : Int)))]) hx hb dX4_amountOf_15 rfl hl (by decide) rfl (fun ls hl => ?_)
  refine lv_iconst (v := zi 0) hx hb dX4_amountOf_16 rfl ?_
  refine lv_istore (lv' := [(4, .int (zi 0)), (3, .int (zi ((zDec X 0 &&& (2 ^ q - 1) : Nat) : Int))), (2, .int (zi ((2 ^ q : Nat) : Int))), (0, .ref (ad 53)), (1, .int (zi (q : Int)))]) hx hb dX4_amountOf_17 hl (by decide) rfl (fun ls hl => ?_)
  refine lv_iconst (v := zi 0) hx hb dX4_amountOf_19 rfl ?_
  refine lv_istore (lv' := [(5, .int (zi 0)), (4, .int (zi 0)), (3, .int (zi ((zDec X 0 &&& (2 ^ q - 1) : Nat) : Int))), (2, .int (zi ((2 ^ q : Nat) : Int))), (0, .ref (ad 53)), (1, .int (zi (q : Int)))]) hx hb dX4_amountOf_20 hl (by decide) rfl (fun ls hl => ?_)
  refine zloop2 (fun (u : Nat) (p : Int) => 256 - u) (fun (u : Nat) (p : Int) (H : Heap) (locs : List Loc) (ls : Array Slot) => va_P G.1 vwCl (zpic G ad X) H ∧ va_D A (zpic G ad X) ∧ va_S A s.heap H locs ∧ lv_has ls 6 [(5, .int (zi (u : Int))), (4, .int (zi p)), (3, .int (zi ((zDec X 0 &&& (2 ^ q - 1) : Nat) : Int))), (2, .int (zi ((2 ^ q : Nat) : Int))), (0, .ref (ad 53))] ∧ (u ≤ 2 ^ zN X 0) ∧ (p = zm X (fun m => m < u ∧ zPdc X q m))) ?_ 0 0 ⟨hP, hD, hS, lv_sub hl [0, 1, 2, 3, 4] rfl, (Nat.zero_le _), zm_start.symm⟩
  intro u p ih H locs ls ⟨hP, hD, hS, hl, hu, hp⟩
  refine lv_iload hx hb dX4_amountOf_22 (lv_at hl 0 rfl) ?_
  refine lv_aload_n hx hb dX4_amountOf_24 rfl (lv_at hl 4 rfl) ?_
  refine zcall (wr := []) (va_runV (As := []) (rest := [.int (zi (u : Int))]) ⟨hx, hb, hml, hown, hts⟩ (c_X4_setCount l G ad X hV H.size) (cwV 0 hts gX4_amountOf_X4_setCount rfl rfl rfl (by decide +kernel) ⟨Nat.le_of_ble_eq_true rfl, Nat.le_of_ble_eq_true rfl⟩) (zPreV (wr := []) (wc := zpic G ad X) (q0 := 53) (ci := 4) (q := (RX4, TX4, 5)) hP hD hE hS hA rfl p_53) rfl rfl hl.1 rfl (lv_room (Nat.le_of_ble_eq_true rfl)) dX4_amountOf_25 ⟨Nat.le_of_ble_eq_true rfl, Nat.le_of_ble_eq_true rfl⟩) hP hD hS hA (fun _ _ H locs hf hP hD hS => ?_)
  obtain ⟨v2, rfl, hv2, rfl⟩ := hf
  have hP : va_P G.1 vwCl (zpic G ad X) H := hP
  have hD : va_D A (zpic G ad X) := hD
  refine W.eq (g2 := F0 m 28 ls [.int (zi v2), .int (zi (u : Int))]) rfl ?_
  refine zc_ge (tgt := 63) hx hb dX4_amountOf_28 (by decide) (by omega) (by omega) (fun h28 => ?_) (fun h28 => ?_)
  · refine lv_iload hx hb dX4_amountOf_63 (lv_at hl 1 rfl) ?_
    exact zend_i hx hb hr hlocks hP hD hS (Nat.le_of_ble_eq_true rfl) (Nat.le_of_ble_eq_true rfl) dX4_amountOf_65 ⟨_, rfl, (by have hun : u = 2 ^ zN X 0 := (by omega); rw [hp, hun, zm_full]), rfl⟩
  · have ha1 : u &&& 2 ^ q ≤ u := Nat.and_le_left
    have ha2 : u &&& (zDec X 0 &&& (2 ^ q - 1)) ≤ u := Nat.and_le_left
    refine lv_iload hx hb dX4_amountOf_31 (lv_at hl 0 rfl) ?_
    refine lv_iload_n hx hb dX4_amountOf_33 rfl (lv_at hl 3 rfl) ?_
    refine lv_iand hx hb dX4_amountOf_34 (zti (v := zi ((u &&& 2 ^ q : Nat) : Int)) (zi_and _ _) ?_)
    refine z0_eq (tgt := 57) hx hb dX4_amountOf_35 (by decide) (by omega) (fun h35 => ?_) (fun h35 => ?_)
    · refine lv_iinc (v := zi ((u : Int) + 1)) (lv' := [(5, .int (zi ((u : Int) + 1))), (4, .int (zi p)), (3, .int (zi ((zDec X 0 &&& (2 ^ q - 1) : Nat) : Int))), (2, .int (zi ((2 ^ q : Nat) : Int))), (0, .ref (ad 53))]) hx hb dX4_amountOf_57 hl (k := 0) rfl (zi_add _ _) (by decide) rfl (fun ls hl => ?_)
      refine lv_goto (tgt := 22) hx hb dX4_amountOf_60 (by decide) ?_
      exact ih (u + 1) p (by omega) H locs ls ⟨hP, hD, hS, lv_sub hl [0, 1, 2, 3, 4] rfl, (by omega), (by rw [zm_no (P := zPdc X q) (fun z => absurd (zPdc_iff.mp z).1 (by omega))]; exact hp)⟩
    · refine lv_iload hx hb dX4_amountOf_38 (lv_at hl 0 rfl) ?_
      refine lv_iload_n hx hb dX4_amountOf_40 rfl (lv_at hl 2 rfl) ?_
      refine lv_iand hx hb dX4_amountOf_41 (zti (v := zi ((u &&& (zDec X 0 &&& (2 ^ q - 1)) : Nat) : Int)) (zi_and _ _) ?_)
      refine z0_ne (tgt := 57) hx hb dX4_amountOf_42 (by decide) (by omega) (fun h42 => ?_) (fun h42 => ?_)
      · refine lv_iinc (v := zi ((u : Int) + 1)) (lv' := [(5, .int (zi ((u : Int) + 1))), (4, .int (zi p)), (3, .int (zi ((zDec X 0 &&& (2 ^ q - 1) : Nat) : Int))), (2, .int (zi ((2 ^ q : Nat) : Int))), (0, .ref (ad 53))]) hx hb dX4_amountOf_57 hl (k := 0) rfl (zi_add _ _) (by decide) rfl (fun ls hl => ?_)
        refine lv_goto (tgt := 22) hx hb dX4_amountOf_60 (by decide) ?_
        exact ih (u + 1) p (by omega) H locs ls ⟨hP, hD, hS, lv_sub hl [0, 1, 2, 3, 4] rfl, (by omega), (by rw [zm_no (P := zPdc X q) (fun z => absurd (zPdc_iff.mp z).2 (by omega))]; exact hp)⟩
      · refine lv_iload hx hb dX4_amountOf_45 (lv_at hl 1 rfl) ?_
        refine lv_aload_n hx hb dX4_amountOf_47 rfl (lv_at hl 4 rfl) ?_
        refine va_get (D := G.1) (ci := 4) (v := .ref (ad 56)) (C := RX4) (T := TX4) (N := 5) hx hb hts hw4 hown hE.1 hP 53 p_53 rfl 3 (by decide) hf18 (fun _ h9 => h9) rfl dX4_amountOf_48 ?_
        refine lv_iload hx hb dX4_amountOf_51 (lv_at hl 0 rfl) ?_
        refine zild hx hb hE hP 56 256 (fun _ => rfl) (by decide) u rfl (by omega) (by decide) dX4_amountOf_53 ?_
        refine lv_iadd hx hb dX4_amountOf_54 (zti (v := zi (p + (X 56 u))) (zi_add _ _) ?_)
        refine lv_istore (lv' := [(4, .int (zi (p + (X 56 u)))), (5, .int (zi (u : Int))), (3, .int (zi ((zDec X 0 &&& (2 ^ q - 1) : Nat) : Int))), (2, .int (zi ((2 ^ q : Nat) : Int))), (0, .ref (ad 53))]) hx hb dX4_amountOf_55 hl (by decide) rfl (fun ls hl => ?_)
        refine lv_iinc (v := zi ((u : Int) + 1)) (lv' := [(5, .int (zi ((u : Int) + 1))), (4, .int (zi (p + (X 56 u)))), (3, .int (zi ((zDec X 0 &&& (2 ^ q - 1) : Nat) : Int))), (2, .int (zi ((2 ^ q : Nat) : Int))), (0, .ref (ad 53))]) hx hb dX4_amountOf_57 hl (k := 1) rfl (zi_add _ _) (by decide) rfl (fun ls hl => ?_)
        refine lv_goto (tgt := 22) hx hb dX4_amountOf_60 (by decide) ?_
        exact ih (u + 1) (p + (X 56 u)) (by omega) H locs ls ⟨hP, hD, hS, lv_sub hl [0, 1, 2, 3, 4] rfl, (by omega), (by rw [zm_yes (P := zPdc X q) (zPdc_iff.mpr ⟨by omega, by omega⟩), ← hSv u (by omega), hp])⟩

set_option maxHeartbeats 4000000 in
set_option maxRecDepth 100000 in
/-- amountAllowed -/
theorem c_X4_amountAllowed (l : Launch) (G : zG) (ad : Nat → Nat) (X : Nat → Nat → Int) (pr : Nat) (hV : zV X) (hSv : zSv X X) (hpr : pr < 256) : zR l G yX4_amountAllowed wsX4_amountAllowed { frames := 2, cells := 0, slots := 0, locals := 44 } (zpic G ad X) [.ref (ad 53), .int (zi (pr : Int))] (zq G ad X (fun w => w = zm X (fun m => zAl X 0 (m &&& (zDec X 0 &&& pr))))) 0 0 := by
  refine zR_of (cc := cX4_amountAllowed) (maxL := 5) (rt := (some .int)) (by decide) rfl (Nat.le_of_ble_eq_true rfl) ?_
  intro p e s m below meth c A ls hx hb hml hr hts hown hlocks hin0 hA hE hP hD hS hl
  have hl : lv_has ls 5 [(0, .ref (ad 53)), (1, .int (zi (pr : Int)))] := hl
  have hown : s.vm.findClass RX4 = some m.cls := hown
  have hn := hV.n (Or.inl rfl : zIsW 0)
  have h256 := z2_256 hn.2
  have hdl := zDec_lt hV (Or.inl rfl : zIsW 0)
  have hw4 : ∀ w ∈ u_ws RX4 TX4 5, w ∈ wsX4_amountAllowed := by decide +kernel
  have hf21 := hts (.fieldLink RX4 21 "Nettle$Survey" "wall" "LNettle$Wall;") (by decide +kernel)
  have hf18 := hts (.fieldLink RX4 18 "Nettle$Survey" "amounts" "[I") (by decide +kernel)
  refine lv_aload_n hx hb dX4_amountAllowed_0 rfl (lv_at hl 0 rfl) ?_
  refine va_get (D := G.1) (ci := 4) (v := .ref (ad 0)) (C := RX4) (T := TX4) (N := 5) hx hb hts hw4 hown hE.1 hP 53 p_53 rfl 0 (by decide) hf21 (fun _ h9 => h9) rfl dX4_amountAllowed_1 ?_
  refine zcall (wr := []) (va_runV (As := []) (rest := []) ⟨hx, hb, hml, hown, hts⟩ (c_X6_deciders l G ad X 0 hV (Or.inl rfl) s.heap.size) (cwV 0 hts gX4_amountAllowed_X6_deciders rfl rfl rfl (by decide +kernel) ⟨Nat.le_of_ble_eq_true rfl, Nat.le_of_ble_eq_true rfl⟩) (zPreV (wr := []) (wc := zpic G ad X) (q0 := 0) (ci := 6) (q := (RX6, TX6, 3)) hP hD hE hS hA rfl (p_w (Or.inl rfl))) rfl rfl hl.1 rfl (lv_room (Nat.le_of_ble_eq_true rfl)) dX4_amountAllowed_4 ⟨Nat.le_of_ble_eq_true rfl, Nat.le_of_ble_eq_true rfl⟩) hP hD hS hA (fun _ _ H locs hf hP hD hS => ?_)
  obtain ⟨v1, rfl, hv1, rfl⟩ := hf
  have hP : va_P G.1 vwCl (zpic G ad X) H := hP
  have hD : va_D A (zpic G ad X) := hD
  refine W.eq (g2 := F0 m 7 ls [.int (zi v1)]) rfl ?_
  refine lv_iload_n hx hb dX4_amountAllowed_7 rfl (lv_at hl 1 rfl) ?_
  refine lv_iand hx hb dX4_amountAllowed_8 (zti (v := zi ((zDec X 0 &&& pr : Nat) : Int)) (by rw [hv1]; exact zi_and _ _) ?_)
  refine lv_istore_n (lv' := [(2, .int (zi ((zDec X 0 &&& pr : Nat) : Int))), (0, .ref (ad 53)), (1, .int (zi (pr : Int)))]) hx hb dX4_amountAllowed_9 rfl hl (by decide) rfl (fun ls hl => ?_)
  refine lv_iconst (v := zi 0) hx hb dX4_amountAllowed_10 rfl ?_
  refine lv_istore_n (lv' := [(3, .int (zi 0)), (2, .int (zi ((zDec X 0 &&& pr : Nat) : Int))), (0, .ref (ad 53)), (1, .int (zi (pr : Int)))]) hx hb dX4_amountAllowed_11 rfl hl (by decide) rfl (fun ls hl => ?_)
  refine lv_iconst (v := zi 0) hx hb dX4_amountAllowed_12 rfl ?_
  refine lv_istore (lv' := [(4, .int (zi 0)), (3, .int (zi 0)), (2, .int (zi ((zDec X 0 &&& pr : Nat) : Int))), (0, .ref (ad 53)), (1, .int (zi (pr : Int)))]) hx hb dX4_amountAllowed_13 hl (by decide) rfl (fun ls hl => ?_)
  refine zloop2 (fun (u : Nat) (p : Int) => 256 - u) (fun (u : Nat) (p : Int) (H : Heap) (locs : List Loc) (ls : Array Slot) => va_P G.1 vwCl (zpic G ad X) H ∧ va_D A (zpic G ad X) ∧ va_S A s.heap H locs ∧ lv_has ls 5 [(4, .int (zi (u : Int))), (3, .int (zi p)), (2, .int (zi ((zDec X 0 &&& pr : Nat) : Int))), (0, .ref (ad 53))] ∧ (u ≤ 2 ^ zN X 0) ∧ (p = zm X (fun m => m < u ∧ zAl X 0 (m &&& (zDec X 0 &&& pr))))) ?_ 0 0 ⟨hP, hD, hS, lv_sub hl [0, 1, 2, 3] rfl, (Nat.zero_le _), (zm_start (P := fun m => zAl X 0 (m &&& (zDec X 0 &&& pr)))).symm⟩
  intro u p ih H locs ls ⟨hP, hD, hS, hl, hu, hp⟩
  refine lv_iload hx hb dX4_amountAllowed_15 (lv_at hl 0 rfl) ?_
  refine lv_aload_n hx hb dX4_amountAllowed_17 rfl (lv_at hl 3 rfl) ?_
  refine zcall (wr := []) (va_runV (As := []) (rest := [.int (zi (u : Int))]) ⟨hx, hb, hml, hown, hts⟩ (c_X4_setCount l G ad X hV H.size) (cwV 0 hts gX4_amountAllowed_X4_setCount rfl rfl rfl (by decide +kernel) ⟨Nat.le_of_ble_eq_true rfl, Nat.le_of_ble_eq_true rfl⟩) (zPreV (wr := []) (wc := zpic G ad X) (q0 := 53) (ci := 4) (q := (RX4, TX4, 5)) hP hD hE hS hA rfl p_53) rfl rfl hl.1 rfl (lv_room (Nat.le_of_ble_eq_true rfl)) dX4_amountAllowed_18 ⟨Nat.le_of_ble_eq_true rfl, Nat.le_of_ble_eq_true rfl⟩) hP hD hS hA (fun _ _ H locs hf hP hD hS => ?_)
  obtain ⟨v2, rfl, hv2, rfl⟩ := hf
  have hP : va_P G.1 vwCl (zpic G ad X) H := hP
  have hD : va_D A (zpic G ad X) := hD
  refine W.eq (g2 := F0 m 21 ls [.int (zi v2), .int (zi (u : Int))]) rfl ?_
  refine zc_ge (tgt := 54) hx hb dX4_amountAllowed_21 (by decide) (by omega) (by omega) (fun h21 => ?_) (fun h21 => ?_)
  · refine lv_iload_n hx hb dX4_amountAllowed_54 rfl (lv_at hl 1 rfl) ?_
    exact zend_i hx hb hr hlocks hP hD hS (Nat.le_of_ble_eq_true rfl) (Nat.le_of_ble_eq_true rfl) dX4_amountAllowed_55 ⟨_, rfl, (by have hun : u = 2 ^ zN X 0 := (by omega); rw [hp, hun, zm_full]), rfl⟩
  · have ha1 : u &&& (zDec X 0 &&& pr) ≤ u := Nat.and_le_left
    refine lv_aload_n hx hb dX4_amountAllowed_24 rfl (lv_at hl 3 rfl) ?_
    refine va_get (D := G.1) (ci := 4) (v := .ref (ad 0)) (C := RX4) (T := TX4) (N := 5) hx hb hts hw4 hown hE.1 hP 53 p_53 rfl 0 (by decide) hf21 (fun _ h9 => h9) rfl dX4_amountAllowed_25 ?_
    refine lv_iload hx hb dX4_amountAllowed_28 (lv_at hl 0 rfl) ?_
    refine lv_iload_n hx hb dX4_amountAllowed_30 rfl (lv_at hl 2 rfl) ?_
    refine lv_iand hx hb dX4_amountAllowed_31 (zti (v := zi ((u &&& (zDec X 0 &&& pr) : Nat) : Int)) (zi_and _ _) ?_)
    refine zcall (wr := []) (va_runV (As := [.int (zi ((u &&& (zDec X 0 &&& pr) : Nat) : Int))]) (rest := []) ⟨hx, hb, hml, hown, hts⟩ (c_X6_allows l G ad X 0 (u &&& (zDec X 0 &&& pr) : Nat) hV (Or.inl rfl) (by omega) H.size) (cwV 1 hts gX4_amountAllowed_X6_allows rfl rfl rfl (by decide +kernel) ⟨Nat.le_of_ble_eq_true rfl, Nat.le_of_ble_eq_true rfl⟩) (zPreV (wr := []) (wc := zpic G ad X) (q0 := 0) (ci := 6) (q := (RX6, TX6, 3)) hP hD hE hS hA rfl (p_w (Or.inl rfl))) rfl rfl hl.1 rfl (lv_room (Nat.le_of_ble_eq_true rfl)) dX4_amountAllowed_32 ⟨Nat.le_of_ble_eq_true rfl, Nat.le_of_ble_eq_true rfl⟩) hP hD hS hA (fun _ _ H locs hf hP hD hS => ?_)
    obtain ⟨v3, rfl, hv3, rfl⟩ := hf
    have hP : va_P G.1 vwCl (zpic G ad X) H := hP
    have hD : va_D A (zpic G ad X) := hD
    refine W.eq (g2 := F0 m 35 ls [.int (zi v3)]) rfl ?_
    refine z0_eq (tgt := 48) hx hb dX4_amountAllowed_35 (by decide) (by omega) (fun h35 => ?_) (fun h35 => ?_)
    · refine lv_iinc (v := zi ((u : Int) + 1)) (lv' := [(4, .int (zi ((u : Int) + 1))), (3, .int (zi p)), (2, .int (zi ((zDec X 0 &&& pr : Nat) : Int))), (0, .ref (ad 53))]) hx hb dX4_amountAllowed_48 hl (k := 0) rfl (zi_add _ _) (by decide) rfl (fun ls hl => ?_)
      refine lv_goto (tgt := 15) hx hb dX4_amountAllowed_51 (by decide) ?_
      exact ih (u + 1) p (by omega) H locs ls ⟨hP, hD, hS, lv_sub hl [0, 1, 2, 3] rfl, (by omega), (by rw [zm_no (P := fun m => zAl X 0 (m &&& (zDec X 0 &&& pr))) (by rcases hv3 with h | h; omega; exact h.2)]; exact hp)⟩
    · refine lv_iload_n hx hb dX4_amountAllowed_38 rfl (lv_at hl 1 rfl) ?_
      refine lv_aload_n hx hb dX4_amountAllowed_39 rfl (lv_at hl 3 rfl) ?_
      refine va_get (D := G.1) (ci := 4) (v := .ref (ad 56)) (C := RX4) (T := TX4) (N := 5) hx hb hts hw4 hown hE.1 hP 53 p_53 rfl 3 (by decide) hf18 (fun _ h9 => h9) rfl dX4_amountAllowed_40 ?_
      refine lv_iload hx hb dX4_amountAllowed_43 (lv_at hl 0 rfl) ?_
      refine zild hx hb hE hP 56 256 (fun _ => rfl) (by decide) u rfl (by omega) (by decide) dX4_amountAllowed_45 ?_
      refine lv_iadd hx hb dX4_amountAllowed_46 (zti (v := zi (p + (X 56 u))) (zi_add _ _) ?_)
      refine lv_istore_n (lv' := [(3, .int (zi (p + (X 56 u)))), (4, .int (zi (u : Int))), (2, .int (zi ((zDec X 0 &&& pr : Nat) : Int))), (0, .ref (ad 53))]) hx hb dX4_amountAllowed_47 rfl hl (by decide) rfl (fun ls hl => ?_)
      refine lv_iinc (v := zi ((u : Int) + 1)) (lv' := [(4, .int (zi ((u : Int) + 1))), (3, .int (zi (p + (X 56 u)))), (2, .int (zi ((zDec X 0 &&& pr : Nat) : Int))), (0, .ref (ad 53))]) hx hb dX4_amountAllowed_48 hl (k := 1) rfl (zi_add _ _) (by decide) rfl (fun ls hl => ?_)
      refine lv_goto (tgt := 15) hx hb dX4_amountAllowed_51 (by decide) ?_
      exact ih (u + 1) (p + (X 56 u)) (by omega) H locs ls ⟨hP, hD, hS, lv_sub hl [0, 1, 2, 3] rfl, (by omega), (by rw [zm_yes (P := fun m => zAl X 0 (m &&& (zDec X 0 &&& pr))) (by rcases hv3 with h | h; exact h.2; omega), ← hSv u (by omega), hp])⟩

set_option maxHeartbeats 4000000 in
set_option maxRecDepth 100000 in
/-- isDead -/
theorem c_X4_isDead (l : Launch) (G : zG) (ad : Nat → Nat) (X : Nat → Nat → Int) (q : Nat) (hV : zV X) (hSv : zSv X X) (hq : q < zN X 0) : zR l G yX4_isDead wsX4_isDead { frames := 3, cells := 0, slots := 0, locals := 67 } (zpic G ad X) [.ref (ad 53), .int (zi (q : Int))] (zq G ad X (fun w => (w = 1 ∧ zm X (zPdc X q) = 0) ∨ (w = 0 ∧ zm X (zPdc X q) ≠ 0))) 0 0 := by
  refine zR_of (cc := cX4_isDead) (maxL := 2) (rt := (some .boolean)) (by decide) rfl (Nat.le_of_ble_eq_true rfl) ?_
  intro p e s m below meth c A ls hx hb hml hr hts hown hlocks hin0 hA hE hP hD hS hl
  have hl : lv_has ls 2 [(0, .ref (ad 53)), (1, .int (zi (q : Int)))] := hl
  have hown : s.vm.findClass RX4 = some m.cls := hown
  have hn := hV.n (Or.inl rfl : zIsW 0)
  have hb1 := zm_nn (X := X) (P := zPdc X q)
  have hb2 := zm_top (X := X) (P := zPdc X q)
  refine lv_aload_n hx hb dX4_isDead_0 rfl (lv_at hl 0 rfl) ?_
  refine lv_iload_n hx hb dX4_isDead_1 rfl (lv_at hl 1 rfl) ?_
  refine zcall (wr := []) (va_runV (As := [.int (zi (q : Int))]) (rest := []) ⟨hx, hb, hml, hown, hts⟩ (c_X4_amountOf l G ad X q hV (by omega) (by omega) s.heap.size) (cwV 1 hts gX4_isDead_X4_amountOf rfl rfl rfl (by decide +kernel) ⟨Nat.le_of_ble_eq_true rfl, Nat.le_of_ble_eq_true rfl⟩) (zPreV (wr := []) (wc := zpic G ad X) (q0 := 53) (ci := 4) (q := (RX4, TX4, 5)) hP hD hE hS hA rfl p_53) rfl rfl hl.1 rfl (lv_room (Nat.le_of_ble_eq_true rfl)) dX4_isDead_2 ⟨Nat.le_of_ble_eq_true rfl, Nat.le_of_ble_eq_true rfl⟩) hP hD hS hA (fun _ _ H locs hf hP hD hS => ?_)
  obtain ⟨v1, rfl, hv1, rfl⟩ := hf
  have hP : va_P G.1 vwCl (zpic G ad X) H := hP
  have hD : va_D A (zpic G ad X) := hD
  refine W.eq (g2 := F0 m 5 ls [.int (zi v1)]) rfl ?_
  refine z0_ne (tgt := 12) hx hb dX4_isDead_5 (by decide) (by omega) (fun h5 => ?_) (fun h5 => ?_)
  · refine lv_iconst (v := zi 0) hx hb dX4_isDead_12 rfl ?_
    exact zend_z hx hb hr hlocks (by decide +kernel) hP hD hS (Nat.le_of_ble_eq_true rfl) (Nat.le_of_ble_eq_true rfl) dX4_isDead_13 ⟨_, rfl, (by omega), rfl⟩
  · refine lv_iconst (v := zi 1) hx hb dX4_isDead_8 rfl ?_
    refine lv_goto (tgt := 13) hx hb dX4_isDead_9 (by decide) ?_
    exact zend_z hx hb hr hlocks (by decide +kernel) hP hD hS (Nat.le_of_ble_eq_true rfl) (Nat.le_of_ble_eq_true rfl) dX4_isDead_13 ⟨_, rfl, (by omega), rfl⟩

set_option maxHeartbeats 4000000 in
set_option maxRecDepth 100000 in
/-- isNeedless -/
theorem c_X4_isNeedless (l : Launch) (G : zG) (ad : Nat → Nat) (X : Nat → Nat → Int) (q : Nat) (hV : zV X) (hSv : zSv X X) (hq : q < zN X 0) : zR l G yX4_isNeedless wsX4_isNeedless { frames := 2, cells := 0, slots := 0, locals := 44 } (zpic G ad X) [.ref (ad 53), .int (zi (q : Int))] (zq G ad X (fun w => (w = 1 ∧ zNl X q) ∨ (w = 0 ∧ ¬ zNl X q))) 0 0 := by
  refine zR_of (cc := cX4_isNeedless) (maxL := 5) (rt := (some .boolean)) (by decide) rfl (Nat.le_of_ble_eq_true rfl) ?_
  intro p e s m below meth c A ls hx hb hml hr hts hown hlocks hin0 hA hE hP hD hS hl
  have hl : lv_has ls 5 [(0, .ref (ad 53)), (1, .int (zi (q : Int)))] := hl
  have hown : s.vm.findClass RX4 = some m.cls := hown
  have hn := hV.n (Or.inl rfl : zIsW 0)
  have h256 := z2_256 hn.2
  have hdl := zDec_lt hV (Or.inl rfl : zIsW 0)
  have hw4 : ∀ w ∈ u_ws RX4 TX4 5, w ∈ wsX4_isNeedless := by decide +kernel
  have hf21 := hts (.fieldLink RX4 21 "Nettle$Survey" "wall" "LNettle$Wall;") (by decide +kernel)
  have hw6 : ∀ w ∈ u_ws RX6 TX6 3, w ∈ wsX4_isNeedless := by decide +kernel
  have hf56 := hts (.fieldLink RX4 56 "Nettle$Wall" "rows" "[LNettle$Rule;") (by decide +kernel)
  have hf18 := hts (.fieldLink RX4 18 "Nettle$Survey" "amounts" "[I") (by decide +kernel)
  refine lv_aload_n hx hb dX4_isNeedless_0 rfl (lv_at hl 0 rfl) ?_
  refine va_get (D := G.1) (ci := 4) (v := .ref (ad 0)) (C := RX4) (T := TX4) (N := 5) hx hb hts hw4 hown hE.1 hP 53 p_53 rfl 0 (by decide) hf21 (fun _ h9 => h9) rfl dX4_isNeedless_1 ?_
  refine va_get (D := G.1) (ci := 6) (v := .ref (ad 1)) (C := RX6) (T := TX6) (N := 3) hx hb hts hw6 hown hE.1 hP 0 (p_w (Or.inl rfl)) rfl 0 (by decide) hf56 (fun _ h9 => h9) rfl dX4_isNeedless_4 ?_
  refine lv_iload_n hx hb dX4_isNeedless_7 rfl (lv_at hl 1 rfl) ?_
  refine zqld hx hb hE hP (Or.inl rfl) q rfl (by omega) dX4_isNeedless_8 ?_
  have hR1 : zIsR (zr X 0 q) := hV.isR (Or.inl rfl) (by omega)
  refine zcall (wr := []) (va_runV (As := []) (rest := []) ⟨hx, hb, hml, hown, hts⟩ (c_X3_isNote l G ad X (zr X 0 q) hV hR1 s.heap.size) (cwV 0 hts gX4_isNeedless_X3_isNote rfl rfl rfl (by decide +kernel) ⟨Nat.le_of_ble_eq_true rfl, Nat.le_of_ble_eq_true rfl⟩) (zPreV (wr := []) (wc := zpic G ad X) (q0 := (zr X 0 q)) (ci := 3) (q := (RX3, TX3, 4)) hP hD hE hS hA rfl (p_r hR1)) rfl rfl hl.1 rfl (lv_room (Nat.le_of_ble_eq_true rfl)) dX4_isNeedless_9 ⟨Nat.le_of_ble_eq_true rfl, Nat.le_of_ble_eq_true rfl⟩) hP hD hS hA (fun _ _ H locs hf hP hD hS => ?_)
  obtain ⟨v1, rfl, hv1, rfl⟩ := hf
  have hP : va_P G.1 vwCl (zpic G ad X) H := hP
  have hD : va_D A (zpic G ad X) := hD
  refine W.eq (g2 := F0 m 12 ls [.int (zi v1)]) rfl ?_
  refine z0_eq (tgt := 17) hx hb dX4_isNeedless_12 (by decide) (by omega) (fun h12 => ?_) (fun h12 => ?_)
  · have hnt : X (zr X 0 q) 0 ≠ 2 := by rcases hv1 with h | h; omega; exact h.2
    have hqd := zDel_sub (u := zDec X 0) (q := q) hdl (by omega) (zDec_bit.mpr ⟨hq, hnt⟩)
    refine lv_aload_n hx hb dX4_isNeedless_17 rfl (lv_at hl 0 rfl) ?_
    refine va_get (D := G.1) (ci := 4) (v := .ref (ad 0)) (C := RX4) (T := TX4) (N := 5) hx hb hts hw4 hown hE.1 hP 53 p_53 rfl 0 (by decide) hf21 (fun _ h9 => h9) rfl dX4_isNeedless_18 ?_
    refine zcall (wr := []) (va_runV (As := []) (rest := []) ⟨hx, hb, hml, hown, hts⟩ (c_X6_deciders l G ad X 0 hV (Or.inl rfl) H.size) (cwV 0 hts gX4_isNeedless_X6_deciders rfl rfl rfl (by decide +kernel) ⟨Nat.le_of_ble_eq_true rfl, Nat.le_of_ble_eq_true rfl⟩) (zPreV (wr := []) (wc := zpic G ad X) (q0 := 0) (ci := 6) (q := (RX6, TX6, 3)) hP hD hE hS hA rfl (p_w (Or.inl rfl))) rfl rfl hl.1 rfl (lv_room (Nat.le_of_ble_eq_true rfl)) dX4_isNeedless_21 ⟨Nat.le_of_ble_eq_true rfl, Nat.le_of_ble_eq_true rfl⟩) hP hD hS hA (fun _ _ H locs hf hP hD hS => ?_)
    obtain ⟨v2, rfl, hv2, rfl⟩ := hf
    have hP : va_P G.1 vwCl (zpic G ad X) H := hP
    have hD : va_D A (zpic G ad X) := hD
    refine W.eq (g2 := F0 m 24 ls [.int (zi v2)]) rfl ?_
    rw [hv2]
    refine lv_istore_n (lv' := [(2, .int (zi (zDec X 0 : Int))), (0, .ref (ad 53)), (1, .int (zi (q : Int)))]) hx hb dX4_isNeedless_24 rfl hl (by decide) rfl (fun ls hl => ?_)
    refine lv_iload_n hx hb dX4_isNeedless_25 rfl (lv_at hl 0 rfl) ?_
    refine lv_iconst (v := zi 1) hx hb dX4_isNeedless_26 rfl ?_
    refine lv_iload_n hx hb dX4_isNeedless_27 rfl (lv_at hl 2 rfl) ?_
    refine lv_ishl hx hb dX4_isNeedless_28 (zti (v := zi ((2 ^ q : Nat) : Int)) (zi_shl1 (by omega)) ?_)
    refine lv_isub hx hb dX4_isNeedless_29 (zti (v := zi ((zDec X 0 : Int) - ((2 ^ q : Nat) : Int))) (zi_sub _ _) ?_)
    refine zti (v := zi ((zDel (zDec X 0) q : Nat) : Int)) (congrArg zi (by omega)) ?_
    refine lv_istore_n (lv' := [(3, .int (zi ((zDel (zDec X 0) q : Nat) : Int))), (2, .int (zi (zDec X 0 : Int))), (0, .ref (ad 53)), (1, .int (zi (q : Int)))]) hx hb dX4_isNeedless_30 rfl hl (by decide) rfl (fun ls hl => ?_)
    refine lv_iconst (v := zi 0) hx hb dX4_isNeedless_31 rfl ?_
    refine lv_istore (lv' := [(4, .int (zi 0)), (3, .int (zi ((zDel (zDec X 0) q : Nat) : Int))), (2, .int (zi (zDec X 0 : Int))), (0, .ref (ad 53)), (1, .int (zi (q : Int)))]) hx hb dX4_isNeedless_32 hl (by decide) rfl (fun ls hl => ?_)
    refine zloop1 (fun (u : Nat) => 256 - u) (fun (u : Nat) (H : Heap) (locs : List Loc) (ls : Array Slot) => va_P G.1 vwCl (zpic G ad X) H ∧ va_D A (zpic G ad X) ∧ va_S A s.heap H locs ∧ lv_has ls 5 [(4, .int (zi (u : Int))), (3, .int (zi ((zDel (zDec X 0) q : Nat) : Int))), (2, .int (zi (zDec X 0 : Int))), (0, .ref (ad 53))] ∧ (u ≤ 2 ^ zN X 0) ∧ (∀ j : Nat, j < u → 0 < X 56 j → (zAl X 0 (j &&& zDec X 0) ↔ zAl X 0 (j &&& zDel (zDec X 0) q)))) ?_ 0 ⟨hP, hD, hS, lv_sub hl [0, 1, 2, 3] rfl, (Nat.zero_le _), (fun j h1 => by omega)⟩
    intro u ih H locs ls ⟨hP, hD, hS, hl, hu, hw⟩
    refine lv_iload hx hb dX4_isNeedless_34 (lv_at hl 0 rfl) ?_
    refine lv_aload_n hx hb dX4_isNeedless_36 rfl (lv_at hl 3 rfl) ?_
    refine zcall (wr := []) (va_runV (As := []) (rest := [.int (zi (u : Int))]) ⟨hx, hb, hml, hown, hts⟩ (c_X4_setCount l G ad X hV H.size) (cwV 0 hts gX4_isNeedless_X4_setCount rfl rfl rfl (by decide +kernel) ⟨Nat.le_of_ble_eq_true rfl, Nat.le_of_ble_eq_true rfl⟩) (zPreV (wr := []) (wc := zpic G ad X) (q0 := 53) (ci := 4) (q := (RX4, TX4, 5)) hP hD hE hS hA rfl p_53) rfl rfl hl.1 rfl (lv_room (Nat.le_of_ble_eq_true rfl)) dX4_isNeedless_37 ⟨Nat.le_of_ble_eq_true rfl, Nat.le_of_ble_eq_true rfl⟩) hP hD hS hA (fun _ _ H locs hf hP hD hS => ?_)
    obtain ⟨v3, rfl, hv3, rfl⟩ := hf
    have hP : va_P G.1 vwCl (zpic G ad X) H := hP
    have hD : va_D A (zpic G ad X) := hD
    refine W.eq (g2 := F0 m 40 ls [.int (zi v3), .int (zi (u : Int))]) rfl ?_
    refine zc_ge (tgt := 86) hx hb dX4_isNeedless_40 (by decide) (by omega) (by omega) (fun h40 => ?_) (fun h40 => ?_)
    · refine lv_iconst (v := zi 1) hx hb dX4_isNeedless_86 rfl ?_
      exact zend_z hx hb hr hlocks (by decide +kernel) hP hD hS (Nat.le_of_ble_eq_true rfl) (Nat.le_of_ble_eq_true rfl) dX4_isNeedless_87 ⟨_, rfl, (Or.inl ⟨rfl, hnt, fun j hj h9 => hw j (by omega) h9⟩), rfl⟩
    · have hbu := hSv.bd (u := u) (by omega)
      have ha1 : u &&& zDec X 0 ≤ u := Nat.and_le_left
      have ha2 : u &&& zDel (zDec X 0) q ≤ u := Nat.and_le_left
      refine lv_aload_n hx hb dX4_isNeedless_43 rfl (lv_at hl 3 rfl) ?_
      refine va_get (D := G.1) (ci := 4) (v := .ref (ad 56)) (C := RX4) (T := TX4) (N := 5) hx hb hts hw4 hown hE.1 hP 53 p_53 rfl 3 (by decide) hf18 (fun _ h9 => h9) rfl dX4_isNeedless_44 ?_
      refine lv_iload hx hb dX4_isNeedless_47 (lv_at hl 0 rfl) ?_
      refine zild hx hb hE hP 56 256 (fun _ => rfl) (by decide) u rfl (by omega) (by decide) dX4_isNeedless_49 ?_
      refine z0_le (tgt := 80) hx hb dX4_isNeedless_50 (by decide) (by omega) (fun h50 => ?_) (fun h50 => ?_)
      · refine lv_iinc (v := zi ((u : Int) + 1)) (lv' := [(4, .int (zi ((u : Int) + 1))), (3, .int (zi ((zDel (zDec X 0) q : Nat) : Int))), (2, .int (zi (zDec X 0 : Int))), (0, .ref (ad 53))]) hx hb dX4_isNeedless_80 hl (k := 0) rfl (zi_add _ _) (by decide) rfl (fun ls hl => ?_)
        refine lv_goto (tgt := 34) hx hb dX4_isNeedless_83 (by decide) ?_
        exact ih (u + 1) (by omega) H locs ls ⟨hP, hD, hS, lv_sub hl [0, 1, 2, 3] rfl, (by omega), (fun j h1 => by by_cases hk : j < u; exact hw j hk; have hjk : j = u := (by omega); rw [hjk]; intro h9; omega)⟩
      · refine lv_aload_n hx hb dX4_isNeedless_53 rfl (lv_at hl 3 rfl) ?_
        refine va_get (D := G.1) (ci := 4) (v := .ref (ad 0)) (C := RX4) (T := TX4) (N := 5) hx hb hts hw4 hown hE.1 hP 53 p_53 rfl 0 (by decide) hf21 (fun _ h9 => h9) rfl dX4_isNeedless_54 ?_
        refine lv_iload hx hb dX4_isNeedless_57 (lv_at hl 0 rfl) ?_
        refine lv_iload_n hx hb dX4_isNeedless_59 rfl (lv_at hl 2 rfl) ?_
        refine lv_iand hx hb dX4_isNeedless_60 (zti (v := zi ((u &&& zDec X 0 : Nat) : Int)) (zi_and _ _) ?_)
        refine zcall (wr := []) (va_runV (As := [.int (zi ((u &&& zDec X 0 : Nat) : Int))]) (rest := []) ⟨hx, hb, hml, hown, hts⟩ (c_X6_allows l G ad X 0 (u &&& zDec X 0 : Nat) hV (Or.inl rfl) (by omega) H.size) (cwV 1 hts gX4_isNeedless_X6_allows rfl rfl rfl (by decide +kernel) ⟨Nat.le_of_ble_eq_true rfl, Nat.le_of_ble_eq_true rfl⟩) (zPreV (wr := []) (wc := zpic G ad X) (q0 := 0) (ci := 6) (q := (RX6, TX6, 3)) hP hD hE hS hA rfl (p_w (Or.inl rfl))) rfl rfl hl.1 rfl (lv_room (Nat.le_of_ble_eq_true rfl)) dX4_isNeedless_61 ⟨Nat.le_of_ble_eq_true rfl, Nat.le_of_ble_eq_true rfl⟩) hP hD hS hA (fun _ _ H locs hf hP hD hS => ?_)
        obtain ⟨v4, rfl, hv4, rfl⟩ := hf
        have hP : va_P G.1 vwCl (zpic G ad X) H := hP
        have hD : va_D A (zpic G ad X) := hD
        refine W.eq (g2 := F0 m 64 ls [.int (zi v4)]) rfl ?_
        refine lv_aload_n hx hb dX4_isNeedless_64 rfl (lv_at hl 3 rfl) ?_
        refine va_get (D := G.1) (ci := 4) (v := .ref (ad 0)) (C := RX4) (T := TX4) (N := 5) hx hb hts hw4 hown hE.1 hP 53 p_53 rfl 0 (by decide) hf21 (fun _ h9 => h9) rfl dX4_isNeedless_65 ?_
        refine lv_iload hx hb dX4_isNeedless_68 (lv_at hl 0 rfl) ?_
        refine lv_iload_n hx hb dX4_isNeedless_70 rfl (lv_at hl 1 rfl) ?_
        refine lv_iand hx hb dX4_isNeedless_71 (zti (v := zi ((u &&& zDel (zDec X 0) q : Nat) : Int)) (zi_and _ _) ?_)
        refine zcall (wr := []) (va_runV (As := [.int (zi ((u &&& zDel (zDec X 0) q : Nat) : Int))]) (rest := [.int (zi v4)]) ⟨hx, hb, hml, hown, hts⟩ (c_X6_allows l G ad X 0 (u &&& zDel (zDec X 0) q : Nat) hV (Or.inl rfl) (by omega) H.size) (cwV 1 hts gX4_isNeedless_X6_allows rfl rfl rfl (by decide +kernel) ⟨Nat.le_of_ble_eq_true rfl, Nat.le_of_ble_eq_true rfl⟩) (zPreV (wr := []) (wc := zpic G ad X) (q0 := 0) (ci := 6) (q := (RX6, TX6, 3)) hP hD hE hS hA rfl (p_w (Or.inl rfl))) rfl rfl hl.1 rfl (lv_room (Nat.le_of_ble_eq_true rfl)) dX4_isNeedless_72 ⟨Nat.le_of_ble_eq_true rfl, Nat.le_of_ble_eq_true rfl⟩) hP hD hS hA (fun _ _ H locs hf hP hD hS => ?_)
        obtain ⟨v5, rfl, hv5, rfl⟩ := hf
        have hP : va_P G.1 vwCl (zpic G ad X) H := hP
        have hD : va_D A (zpic G ad X) := hD
        refine W.eq (g2 := F0 m 75 ls [.int (zi v5), .int (zi v4)]) rfl ?_
        refine zc_eq (tgt := 80) hx hb dX4_isNeedless_75 (by decide) (by omega) (by omega) (fun h75 => ?_) (fun h75 => ?_)
        · refine lv_iinc (v := zi ((u : Int) + 1)) (lv' := [(4, .int (zi ((u : Int) + 1))), (3, .int (zi ((zDel (zDec X 0) q : Nat) : Int))), (2, .int (zi (zDec X 0 : Int))), (0, .ref (ad 53))]) hx hb dX4_isNeedless_80 hl (k := 0) rfl (zi_add _ _) (by decide) rfl (fun ls hl => ?_)
          refine lv_goto (tgt := 34) hx hb dX4_isNeedless_83 (by decide) ?_
          exact ih (u + 1) (by omega) H locs ls ⟨hP, hD, hS, lv_sub hl [0, 1, 2, 3] rfl, (by omega), (fun j h1 => by by_cases hk : j < u; exact hw j hk; have hjk : j = u := (by omega); rw [hjk]; exact fun _ => by rcases hv4 with h | h <;> rcases hv5 with h5 | h5 <;> first | exact ⟨fun _ => h5.2, fun _ => h.2⟩ | exact ⟨fun z => absurd z h.2, fun z => absurd z h5.2⟩ | omega)⟩
        · refine lv_iconst (v := zi 0) hx hb dX4_isNeedless_78 rfl ?_
          exact zend_z hx hb hr hlocks (by decide +kernel) hP hD hS (Nat.le_of_ble_eq_true rfl) (Nat.le_of_ble_eq_true rfl) dX4_isNeedless_79 ⟨_, rfl, (Or.inr ⟨rfl, fun z => by have z2 := z.2 u (by omega) (by omega); rcases hv4 with h | h <;> rcases hv5 with h5 | h5 <;> first | exact h5.2 (z2.mp h.2) | exact h.2 (z2.mpr h5.2) | omega⟩), rfl⟩
  · refine lv_iconst (v := zi 0) hx hb dX4_isNeedless_15 rfl ?_
    exact zend_z hx hb hr hlocks (by decide +kernel) hP hD hS (Nat.le_of_ble_eq_true rfl) (Nat.le_of_ble_eq_true rfl) dX4_isNeedless_16 ⟨_, rfl, (Or.inr ⟨rfl, fun z => z.1 (by rcases hv1 with h | h; exact h.2; omega)⟩), rfl⟩

set_option maxHeartbeats 4000000 in
set_option maxRecDepth 100000 in
/-- allowsMoved -/
theorem c_X4_allowsMoved (l : Launch) (G : zG) (ad : Nat → Nat) (X : Nat → Nat → Int) (u : Nat) (q : Nat) (hV : zV X) (hu : u < 256) (hq : q < zN X 0) : zR l G yX4_allowsMoved wsX4_allowsMoved { frames := 2, cells := 0, slots := 0, locals := 44 } (zpic G ad X) [.ref (ad 53), .int (zi (u : Int)), .int (zi (q : Int)), .int (zi (q : Int))] (zq G ad X (fun w => (w = 1 ∧ zAl X 0 u) ∨ (w = 0 ∧ ¬ zAl X 0 u))) 0 0 := by
  refine zR_of (cc := cX4_allowsMoved) (maxL := 7) (rt := (some .boolean)) (by decide) rfl (Nat.le_of_ble_eq_true rfl) ?_
  intro p e s m below meth c A ls hx hb hml hr hts hown hlocks hin0 hA hE hP hD hS hl
  have hl : lv_has ls 7 [(0, .ref (ad 53)), (1, .int (zi (u : Int))), (2, .int (zi (q : Int))), (3, .int (zi (q : Int)))] := hl
  have hown : s.vm.findClass RX4 = some m.cls := hown
  have hn := hV.n (Or.inl rfl : zIsW 0)
  have h256 := z2_256 hn.2
  have hw4 : ∀ w ∈ u_ws RX4 TX4 5, w ∈ wsX4_allowsMoved := by decide +kernel
  have hf21 := hts (.fieldLink RX4 21 "Nettle$Survey" "wall" "LNettle$Wall;") (by decide +kernel)
  refine lv_iconst (v := zi 1) hx hb dX4_allowsMoved_0 rfl ?_
  refine lv_iload_n hx hb dX4_allowsMoved_1 rfl (lv_at hl 2 rfl) ?_
  refine lv_ishl hx hb dX4_allowsMoved_2 (zti (v := zi ((2 ^ q : Nat) : Int)) (zi_shl1 (by omega)) ?_)
  refine lv_istore (lv' := [(4, .int (zi ((2 ^ q : Nat) : Int))), (0, .ref (ad 53)), (1, .int (zi (u : Int))), (2, .int (zi (q : Int))), (3, .int (zi (q : Int)))]) hx hb dX4_allowsMoved_3 hl (by decide) rfl (fun ls hl => ?_)
  refine lv_iload_n hx hb dX4_allowsMoved_5 rfl (lv_at hl 2 rfl) ?_
  refine lv_iload hx hb dX4_allowsMoved_6 (lv_at hl 0 rfl) ?_
  refine lv_iconst (v := zi (-1)) hx hb dX4_allowsMoved_8 rfl ?_
  refine lv_ixor hx hb dX4_allowsMoved_9 (zti (v := zi (-((2 ^ q : Nat) : Int) - 1)) (zi_cpl (by omega)) ?_)
  refine lv_iand hx hb dX4_allowsMoved_10 (zti (v := zi ((zDel u q : Nat) : Int)) (zi_del hu (by omega)) ?_)
  refine lv_istore (lv' := [(5, .int (zi ((zDel u q : Nat) : Int))), (4, .int (zi ((2 ^ q : Nat) : Int))), (0, .ref (ad 53)), (1, .int (zi (u : Int))), (2, .int (zi (q : Int))), (3, .int (zi (q : Int)))]) hx hb dX4_allowsMoved_11 hl (by decide) rfl (fun ls hl => ?_)
  refine lv_iload_n hx hb dX4_allowsMoved_13 rfl (lv_at hl 5 rfl) ?_
  refine lv_iload_n hx hb dX4_allowsMoved_14 rfl (lv_at hl 4 rfl) ?_
  refine zc_ge (tgt := 26) hx hb dX4_allowsMoved_15 (by decide) (by omega) (by omega) (fun h15 => ?_) (fun h9 => by exfalso; omega)
  refine lv_iconst (v := zi 2) hx hb dX4_allowsMoved_26 rfl ?_
  refine lv_iload_n hx hb dX4_allowsMoved_27 rfl (lv_at hl 5 rfl) ?_
  refine lv_ishl hx hb dX4_allowsMoved_28 (zti (v := zi ((2 ^ (q + 1) : Nat) : Int)) (zi_shl2 (by omega)) ?_)
  refine lv_iconst (v := zi 1) hx hb dX4_allowsMoved_29 rfl ?_
  refine lv_isub hx hb dX4_allowsMoved_30 (zti (v := zi (((2 ^ (q + 1) : Nat) : Int) - 1)) (zi_sub _ _) ?_)
  refine zti (v := zi ((2 ^ (q + 1) - 1 : Nat) : Int)) (congrArg zi (by have h2q : 1 ≤ 2 ^ (q + 1) := Nat.one_le_two_pow; omega)) ?_
  refine lv_istore (lv' := [(6, .int (zi ((2 ^ (q + 1) - 1 : Nat) : Int))), (5, .int (zi ((zDel u q : Nat) : Int))), (4, .int (zi ((2 ^ q : Nat) : Int))), (0, .ref (ad 53)), (1, .int (zi (u : Int))), (2, .int (zi (q : Int))), (3, .int (zi (q : Int)))]) hx hb dX4_allowsMoved_31 hl (by decide) rfl (fun ls hl => ?_)
  have ha1 : u &&& 2 ^ q ≤ u := Nat.and_le_left
  have ha2 : zDel u q &&& (2 ^ (q + 1) - 1) ≤ zDel u q := Nat.and_le_left
  have ha3 : zDel u q ≤ u := Nat.and_le_left
  have hq2 : 2 ^ q < 256 := Nat.lt_of_lt_of_le (z2_lt (show q < 8 by omega)) (by decide)
  refine lv_iload_n hx hb dX4_allowsMoved_33 rfl (lv_at hl 4 rfl) ?_
  refine lv_iload hx hb dX4_allowsMoved_34 (lv_at hl 2 rfl) ?_
  refine lv_iand hx hb dX4_allowsMoved_36 (zti (v := zi ((u &&& 2 ^ q : Nat) : Int)) (zi_and _ _) ?_)
  refine z0_eq (tgt := 58) hx hb dX4_allowsMoved_37 (by decide) (by omega) (fun h37 => ?_) (fun h37 => ?_)
  · refine lv_aload_n hx hb dX4_allowsMoved_58 rfl (lv_at hl 3 rfl) ?_
    refine va_get (D := G.1) (ci := 4) (v := .ref (ad 0)) (C := RX4) (T := TX4) (N := 5) hx hb hts hw4 hown hE.1 hP 53 p_53 rfl 0 (by decide) hf21 (fun _ h9 => h9) rfl dX4_allowsMoved_59 ?_
    refine lv_iload hx hb dX4_allowsMoved_62 (lv_at hl 1 rfl) ?_
    refine zcall (wr := []) (va_runV (As := [.int (zi ((zDel u q : Nat) : Int))]) (rest := []) ⟨hx, hb, hml, hown, hts⟩ (c_X6_allows l G ad X 0 (zDel u q : Nat) hV (Or.inl rfl) (by omega) s.heap.size) (cwV 1 hts gX4_allowsMoved_X6_allows rfl rfl rfl (by decide +kernel) ⟨Nat.le_of_ble_eq_true rfl, Nat.le_of_ble_eq_true rfl⟩) (zPreV (wr := []) (wc := zpic G ad X) (q0 := 0) (ci := 6) (q := (RX6, TX6, 3)) hP hD hE hS hA rfl (p_w (Or.inl rfl))) rfl rfl hl.1 rfl (lv_room (Nat.le_of_ble_eq_true rfl)) dX4_allowsMoved_64 ⟨Nat.le_of_ble_eq_true rfl, Nat.le_of_ble_eq_true rfl⟩) hP hD hS hA (fun _ _ H locs hf hP hD hS => ?_)
    obtain ⟨v1, rfl, hv1, rfl⟩ := hf
    have hP : va_P G.1 vwCl (zpic G ad X) H := hP
    have hD : va_D A (zpic G ad X) := hD
    refine W.eq (g2 := F0 m 67 ls [.int (zi v1)]) rfl ?_
    exact zend_z hx hb hr hlocks (zbool (by omega)) hP hD hS (Nat.le_of_ble_eq_true rfl) (Nat.le_of_ble_eq_true rfl) dX4_allowsMoved_67 ⟨_, rfl, (by rw [← zAl_mv (X := X) (u := u) (q := q) hn.2 hu (by omega) (fun z => by omega)]; exact hv1), rfl⟩
  · refine lv_iload hx hb dX4_allowsMoved_40 (lv_at hl 1 rfl) ?_
    refine lv_iload hx hb dX4_allowsMoved_42 (lv_at hl 0 rfl) ?_
    refine lv_iand hx hb dX4_allowsMoved_44 (zti (v := zi ((zDel u q &&& (2 ^ (q + 1) - 1) : Nat) : Int)) (zi_and _ _) ?_)
    refine z0_ne (tgt := 58) hx hb dX4_allowsMoved_45 (by decide) (by omega) (fun h45 => ?_) (fun h45 => ?_)
    · refine lv_aload_n hx hb dX4_allowsMoved_58 rfl (lv_at hl 3 rfl) ?_
      refine va_get (D := G.1) (ci := 4) (v := .ref (ad 0)) (C := RX4) (T := TX4) (N := 5) hx hb hts hw4 hown hE.1 hP 53 p_53 rfl 0 (by decide) hf21 (fun _ h9 => h9) rfl dX4_allowsMoved_59 ?_
      refine lv_iload hx hb dX4_allowsMoved_62 (lv_at hl 1 rfl) ?_
      refine zcall (wr := []) (va_runV (As := [.int (zi ((zDel u q : Nat) : Int))]) (rest := []) ⟨hx, hb, hml, hown, hts⟩ (c_X6_allows l G ad X 0 (zDel u q : Nat) hV (Or.inl rfl) (by omega) s.heap.size) (cwV 1 hts gX4_allowsMoved_X6_allows rfl rfl rfl (by decide +kernel) ⟨Nat.le_of_ble_eq_true rfl, Nat.le_of_ble_eq_true rfl⟩) (zPreV (wr := []) (wc := zpic G ad X) (q0 := 0) (ci := 6) (q := (RX6, TX6, 3)) hP hD hE hS hA rfl (p_w (Or.inl rfl))) rfl rfl hl.1 rfl (lv_room (Nat.le_of_ble_eq_true rfl)) dX4_allowsMoved_64 ⟨Nat.le_of_ble_eq_true rfl, Nat.le_of_ble_eq_true rfl⟩) hP hD hS hA (fun _ _ H locs hf hP hD hS => ?_)
      obtain ⟨v1, rfl, hv1, rfl⟩ := hf
      have hP : va_P G.1 vwCl (zpic G ad X) H := hP
      have hD : va_D A (zpic G ad X) := hD
      refine W.eq (g2 := F0 m 67 ls [.int (zi v1)]) rfl ?_
      exact zend_z hx hb hr hlocks (zbool (by omega)) hP hD hS (Nat.le_of_ble_eq_true rfl) (Nat.le_of_ble_eq_true rfl) dX4_allowsMoved_67 ⟨_, rfl, (by rw [← zAl_mv (X := X) (u := u) (q := q) hn.2 hu (by omega) (fun z => by omega)]; exact hv1), rfl⟩
    · refine lv_aload_n hx hb dX4_allowsMoved_48 rfl (lv_at hl 3 rfl) ?_
      refine va_get (D := G.1) (ci := 4) (v := .ref (ad 0)) (C := RX4) (T := TX4) (N := 5) hx hb hts hw4 hown hE.1 hP 53 p_53 rfl 0 (by decide) hf21 (fun _ h9 => h9) rfl dX4_allowsMoved_49 ?_
      refine lv_iload hx hb dX4_allowsMoved_52 (lv_at hl 2 rfl) ?_
      refine zcall (wr := []) (va_runV (As := [.int (zi ((2 ^ q : Nat) : Int))]) (rest := []) ⟨hx, hb, hml, hown, hts⟩ (c_X6_allows l G ad X 0 (2 ^ q : Nat) hV (Or.inl rfl) (by omega) s.heap.size) (cwV 1 hts gX4_allowsMoved_X6_allows rfl rfl rfl (by decide +kernel) ⟨Nat.le_of_ble_eq_true rfl, Nat.le_of_ble_eq_true rfl⟩) (zPreV (wr := []) (wc := zpic G ad X) (q0 := 0) (ci := 6) (q := (RX6, TX6, 3)) hP hD hE hS hA rfl (p_w (Or.inl rfl))) rfl rfl hl.1 rfl (lv_room (Nat.le_of_ble_eq_true rfl)) dX4_allowsMoved_54 ⟨Nat.le_of_ble_eq_true rfl, Nat.le_of_ble_eq_true rfl⟩) hP hD hS hA (fun _ _ H locs hf hP hD hS => ?_)
      obtain ⟨v1, rfl, hv1, rfl⟩ := hf
      have hP : va_P G.1 vwCl (zpic G ad X) H := hP
      have hD : va_D A (zpic G ad X) := hD
      refine W.eq (g2 := F0 m 57 ls [.int (zi v1)]) rfl ?_
      exact zend_z hx hb hr hlocks (zbool (by omega)) hP hD hS (Nat.le_of_ble_eq_true rfl) (Nat.le_of_ble_eq_true rfl) dX4_allowsMoved_57 ⟨_, rfl, (by rw [← zAl_mv2 (by omega) hq (by omega) (by omega)]; exact hv1), rfl⟩

set_option maxHeartbeats 4000000 in
set_option maxRecDepth 100000 in
/-- amountMoved -/
theorem c_X4_amountMoved (l : Launch) (G : zG) (ad : Nat → Nat) (X : Nat → Nat → Int) (q : Nat) (hV : zV X) (hq : q < zN X 0) : zR l G yX4_amountMoved wsX4_amountMoved { frames := 3, cells := 0, slots := 0, locals := 70 } (zpic G ad X) [.ref (ad 53), .int (zi (q : Int)), .int (zi (q : Int))] (zq G ad X (fun w => w = 0)) 0 0 := by
  refine zR_of (cc := cX4_amountMoved) (maxL := 6) (rt := (some .int)) (by decide) rfl (Nat.le_of_ble_eq_true rfl) ?_
  intro p e s m below meth c A ls hx hb hml hr hts hown hlocks hin0 hA hE hP hD hS hl
  have hl : lv_has ls 6 [(0, .ref (ad 53)), (1, .int (zi (q : Int))), (2, .int (zi (q : Int)))] := hl
  have hown : s.vm.findClass RX4 = some m.cls := hown
  have hn := hV.n (Or.inl rfl : zIsW 0)
  have h256 := z2_256 hn.2
  have hw4 : ∀ w ∈ u_ws RX4 TX4 5, w ∈ wsX4_amountMoved := by decide +kernel
  have hf21 := hts (.fieldLink RX4 21 "Nettle$Survey" "wall" "LNettle$Wall;") (by decide +kernel)
  refine lv_aload_n hx hb dX4_amountMoved_0 rfl (lv_at hl 0 rfl) ?_
  refine va_get (D := G.1) (ci := 4) (v := .ref (ad 0)) (C := RX4) (T := TX4) (N := 5) hx hb hts hw4 hown hE.1 hP 53 p_53 rfl 0 (by decide) hf21 (fun _ h9 => h9) rfl dX4_amountMoved_1 ?_
  refine zcall (wr := []) (va_runV (As := []) (rest := []) ⟨hx, hb, hml, hown, hts⟩ (c_X6_deciders l G ad X 0 hV (Or.inl rfl) s.heap.size) (cwV 0 hts gX4_amountMoved_X6_deciders rfl rfl rfl (by decide +kernel) ⟨Nat.le_of_ble_eq_true rfl, Nat.le_of_ble_eq_true rfl⟩) (zPreV (wr := []) (wc := zpic G ad X) (q0 := 0) (ci := 6) (q := (RX6, TX6, 3)) hP hD hE hS hA rfl (p_w (Or.inl rfl))) rfl rfl hl.1 rfl (lv_room (Nat.le_of_ble_eq_true rfl)) dX4_amountMoved_4 ⟨Nat.le_of_ble_eq_true rfl, Nat.le_of_ble_eq_true rfl⟩) hP hD hS hA (fun _ _ H locs hf hP hD hS => ?_)
  obtain ⟨v1, rfl, hv1, rfl⟩ := hf
  have hP : va_P G.1 vwCl (zpic G ad X) H := hP
  have hD : va_D A (zpic G ad X) := hD
  refine W.eq (g2 := F0 m 7 ls [.int (zi v1)]) rfl ?_
  rw [hv1]
  refine lv_istore_n (lv' := [(3, .int (zi (zDec X 0 : Int))), (0, .ref (ad 53)), (1, .int (zi (q : Int))), (2, .int (zi (q : Int)))]) hx hb dX4_amountMoved_7 rfl hl (by decide) rfl (fun ls hl => ?_)
  refine lv_iconst (v := zi 0) hx hb dX4_amountMoved_8 rfl ?_
  refine lv_istore (lv' := [(4, .int (zi 0)), (3, .int (zi (zDec X 0 : Int))), (0, .ref (ad 53)), (1, .int (zi (q : Int))), (2, .int (zi (q : Int)))]) hx hb dX4_amountMoved_9 hl (by decide) rfl (fun ls hl => ?_)
  refine lv_iconst (v := zi 0) hx hb dX4_amountMoved_11 rfl ?_
  refine lv_istore (lv' := [(5, .int (zi 0)), (4, .int (zi 0)), (3, .int (zi (zDec X 0 : Int))), (0, .ref (ad 53)), (1, .int (zi (q : Int))), (2, .int (zi (q : Int)))]) hx hb dX4_amountMoved_12 hl (by decide) rfl (fun ls hl => ?_)
  refine zloop1 (fun (u : Nat) => 256 - u) (fun (u : Nat) (H : Heap) (locs : List Loc) (ls : Array Slot) => va_P G.1 vwCl (zpic G ad X) H ∧ va_D A (zpic G ad X) ∧ va_S A s.heap H locs ∧ lv_has ls 6 [(5, .int (zi (u : Int))), (4, .int (zi 0)), (3, .int (zi (zDec X 0 : Int))), (2, .int (zi (q : Int))), (1, .int (zi (q : Int))), (0, .ref (ad 53))] ∧ (u ≤ 2 ^ zN X 0)) ?_ 0 ⟨hP, hD, hS, lv_sub hl [0, 1, 2, 5, 4, 3] rfl, (Nat.zero_le _)⟩
  intro u ih H locs ls ⟨hP, hD, hS, hl, hu⟩
  refine lv_iload hx hb dX4_amountMoved_14 (lv_at hl 0 rfl) ?_
  refine lv_aload_n hx hb dX4_amountMoved_16 rfl (lv_at hl 5 rfl) ?_
  refine zcall (wr := []) (va_runV (As := []) (rest := [.int (zi (u : Int))]) ⟨hx, hb, hml, hown, hts⟩ (c_X4_setCount l G ad X hV H.size) (cwV 0 hts gX4_amountMoved_X4_setCount rfl rfl rfl (by decide +kernel) ⟨Nat.le_of_ble_eq_true rfl, Nat.le_of_ble_eq_true rfl⟩) (zPreV (wr := []) (wc := zpic G ad X) (q0 := 53) (ci := 4) (q := (RX4, TX4, 5)) hP hD hE hS hA rfl p_53) rfl rfl hl.1 rfl (lv_room (Nat.le_of_ble_eq_true rfl)) dX4_amountMoved_17 ⟨Nat.le_of_ble_eq_true rfl, Nat.le_of_ble_eq_true rfl⟩) hP hD hS hA (fun _ _ H locs hf hP hD hS => ?_)
  obtain ⟨v2, rfl, hv2, rfl⟩ := hf
  have hP : va_P G.1 vwCl (zpic G ad X) H := hP
  have hD : va_D A (zpic G ad X) := hD
  refine W.eq (g2 := F0 m 20 ls [.int (zi v2), .int (zi (u : Int))]) rfl ?_
  refine zc_ge (tgt := 65) hx hb dX4_amountMoved_20 (by decide) (by omega) (by omega) (fun h20 => ?_) (fun h20 => ?_)
  · refine lv_iload hx hb dX4_amountMoved_65 (lv_at hl 1 rfl) ?_
    exact zend_i hx hb hr hlocks hP hD hS (Nat.le_of_ble_eq_true rfl) (Nat.le_of_ble_eq_true rfl) dX4_amountMoved_67 ⟨_, rfl, rfl, rfl⟩
  · have ha1 : u &&& zDec X 0 ≤ u := Nat.and_le_left
    refine lv_aload_n hx hb dX4_amountMoved_23 rfl (lv_at hl 5 rfl) ?_
    refine va_get (D := G.1) (ci := 4) (v := .ref (ad 0)) (C := RX4) (T := TX4) (N := 5) hx hb hts hw4 hown hE.1 hP 53 p_53 rfl 0 (by decide) hf21 (fun _ h9 => h9) rfl dX4_amountMoved_24 ?_
    refine lv_iload hx hb dX4_amountMoved_27 (lv_at hl 0 rfl) ?_
    refine lv_iload_n hx hb dX4_amountMoved_29 rfl (lv_at hl 2 rfl) ?_
    refine lv_iand hx hb dX4_amountMoved_30 (zti (v := zi ((u &&& zDec X 0 : Nat) : Int)) (zi_and _ _) ?_)
    refine zcall (wr := []) (va_runV (As := [.int (zi ((u &&& zDec X 0 : Nat) : Int))]) (rest := []) ⟨hx, hb, hml, hown, hts⟩ (c_X6_allows l G ad X 0 (u &&& zDec X 0 : Nat) hV (Or.inl rfl) (by omega) H.size) (cwV 1 hts gX4_amountMoved_X6_allows rfl rfl rfl (by decide +kernel) ⟨Nat.le_of_ble_eq_true rfl, Nat.le_of_ble_eq_true rfl⟩) (zPreV (wr := []) (wc := zpic G ad X) (q0 := 0) (ci := 6) (q := (RX6, TX6, 3)) hP hD hE hS hA rfl (p_w (Or.inl rfl))) rfl rfl hl.1 rfl (lv_room (Nat.le_of_ble_eq_true rfl)) dX4_amountMoved_31 ⟨Nat.le_of_ble_eq_true rfl, Nat.le_of_ble_eq_true rfl⟩) hP hD hS hA (fun _ _ H locs hf hP hD hS => ?_)
    obtain ⟨v3, rfl, hv3, rfl⟩ := hf
    have hP : va_P G.1 vwCl (zpic G ad X) H := hP
    have hD : va_D A (zpic G ad X) := hD
    refine W.eq (g2 := F0 m 34 ls [.int (zi v3)]) rfl ?_
    refine lv_aload_n hx hb dX4_amountMoved_34 rfl (lv_at hl 5 rfl) ?_
    refine lv_iload hx hb dX4_amountMoved_35 (lv_at hl 0 rfl) ?_
    refine lv_iload_n hx hb dX4_amountMoved_37 rfl (lv_at hl 2 rfl) ?_
    refine lv_iand hx hb dX4_amountMoved_38 (zti (v := zi ((u &&& zDec X 0 : Nat) : Int)) (zi_and _ _) ?_)
    refine lv_iload_n hx hb dX4_amountMoved_39 rfl (lv_at hl 4 rfl) ?_
    refine lv_iload_n hx hb dX4_amountMoved_40 rfl (lv_at hl 3 rfl) ?_
    refine zcall (wr := []) (va_runV (As := [.int (zi ((u &&& zDec X 0 : Nat) : Int)), .int (zi (q : Int)), .int (zi (q : Int))]) (rest := [.int (zi v3)]) ⟨hx, hb, hml, hown, hts⟩ (c_X4_allowsMoved l G ad X (u &&& zDec X 0 : Nat) q hV (by omega) (by omega) H.size) (cwV 3 hts gX4_amountMoved_X4_allowsMoved rfl rfl rfl (by decide +kernel) ⟨Nat.le_of_ble_eq_true rfl, Nat.le_of_ble_eq_true rfl⟩) (zPreV (wr := []) (wc := zpic G ad X) (q0 := 53) (ci := 4) (q := (RX4, TX4, 5)) hP hD hE hS hA rfl p_53) rfl rfl hl.1 rfl (lv_room (Nat.le_of_ble_eq_true rfl)) dX4_amountMoved_41 ⟨Nat.le_of_ble_eq_true rfl, Nat.le_of_ble_eq_true rfl⟩) hP hD hS hA (fun _ _ H locs hf hP hD hS => ?_)
    obtain ⟨v4, rfl, hv4, rfl⟩ := hf
    have hP : va_P G.1 vwCl (zpic G ad X) H := hP
    have hD : va_D A (zpic G ad X) := hD
    refine W.eq (g2 := F0 m 44 ls [.int (zi v4), .int (zi v3)]) rfl ?_
    refine zc_eq (tgt := 59) hx hb dX4_amountMoved_44 (by decide) (by omega) (by omega) (fun h44 => ?_) (fun h9 => absurd h9 (fun z => z (by rcases hv3 with h | h <;> rcases hv4 with h4 | h4 <;> first | exact absurd h.2 h4.2 | exact absurd h4.2 h.2 | omega)))
    refine lv_iinc (v := zi ((u : Int) + 1)) (lv' := [(5, .int (zi ((u : Int) + 1))), (4, .int (zi 0)), (3, .int (zi (zDec X 0 : Int))), (2, .int (zi (q : Int))), (1, .int (zi (q : Int))), (0, .ref (ad 53))]) hx hb dX4_amountMoved_59 hl (k := 0) rfl (zi_add _ _) (by decide) rfl (fun ls hl => ?_)
    refine lv_goto (tgt := 14) hx hb dX4_amountMoved_62 (by decide) ?_
    exact ih (u + 1) (by omega) H locs ls ⟨hP, hD, hS, lv_sub hl [0, 1, 2, 3, 4, 5] rfl, (by omega)⟩
end
