/-! a method's end, calls, numbers, new arrays -/
section ZE
variable {p : Program} {l : Launch} {e : Env} {R : Room} {s : State} {m : MethodId} {args : Array Value} {below : List Frame} {meth : Method} {c : Code} {H : Heap} {locs : List Loc} {cells slots : Nat} {Q : State → Prop}
variable {cc : ByteArray} {pc : Nat} {ls : Array Slot} {rest st0 : List Value} {G : zG} {A : Nat → Prop} {W1 : (Nat → Nat) → va_W} {mc ms : Nat}
theorem zQ_of {ret : Option Value} {t : State} {a : Array Value} (u : Nat → Nat) (hP : va_P G.1 vwCl (W1 u) H) (hD : va_D A (W1 u)) (hS : va_S A s.heap H locs) (ht : t.heap = H) : zQ G A ret W1 a s (.returned ret) t :=
  ⟨u, rfl, by rw [ht]; exact hP, hD, hS.F ht⟩
theorem zend_v (hx : p.tables.exec = Jvm.exec) (hb : c.code = cc) (hr : meth.sig.returnType = none) (hlocks : meth.locks = false) (u : Nat → Nat) (hP : va_P G.1 vwCl (W1 u) H) (hD : va_D A (W1 u)) (hS : va_S A s.heap H locs) (h1 : cells ≤ mc) (h2 : slots ≤ ms) (hdg : decode cc pc = .ok (.return_, 1)) :
    W p l e R s m args below meth c H locs cells slots (MQ below (zQ G A none W1) args s mc ms A) (F0 m pc ls []) :=
  W.widen h1 h2 (W.vret hx hb hr (fun _ ht _ => zQ_of u hP hD hS ht) hS.2.2 hdg hlocks)
theorem zend_i {v : Int32} (hx : p.tables.exec = Jvm.exec) (hb : c.code = cc) (hr : meth.sig.returnType = some .int) (hlocks : meth.locks = false) (u : Nat → Nat) (hP : va_P G.1 vwCl (W1 u) H) (hD : va_D A (W1 u)) (hS : va_S A s.heap H locs) (h1 : cells ≤ mc) (h2 : slots ≤ ms) (hdg : decode cc pc = .ok (.ireturn, 1)) :
    W p l e R s m args below meth c H locs cells slots (MQ below (zQ G A (some (.int v)) W1) args s mc ms A) (F0 m pc ls [.int v]) :=
  W.widen h1 h2 (W.iret hx hb hr (fun _ ht _ => zQ_of u hP hD hS ht) hS.2.2 hdg hlocks)
theorem zend_z {v : Int32} (hx : p.tables.exec = Jvm.exec) (hb : c.code = cc) (hr : meth.sig.returnType = some .boolean) (hlocks : meth.locks = false) (hn : narrow .boolean (.int v) = .int v) (u : Nat → Nat) (hP : va_P G.1 vwCl (W1 u) H) (hD : va_D A (W1 u)) (hS : va_S A s.heap H locs) (h1 : cells ≤ mc) (h2 : slots ≤ ms) (hdg : decode cc pc = .ok (.ireturn, 1)) :
    W p l e R s m args below meth c H locs cells slots (MQ below (zQ G A (some (.int v)) W1) args s mc ms A) (F0 m pc ls [.int v]) :=
  W.widen h1 h2 (W.zret hx hb hr hn (fun _ ht _ => zQ_of u hP hD hS ht) hS.2.2 hdg hlocks)
theorem zend_l {v : Int64} (hx : p.tables.exec = Jvm.exec) (hb : c.code = cc) (hr : meth.sig.returnType = some .long) (hlocks : meth.locks = false) (u : Nat → Nat) (hP : va_P G.1 vwCl (W1 u) H) (hD : va_D A (W1 u)) (hS : va_S A s.heap H locs) (h1 : cells ≤ mc) (h2 : slots ≤ ms) (hdg : decode cc pc = .ok (.lreturn, 1)) :
    W p l e R s m args below meth c H locs cells slots (MQ below (zQ G A (some (.long v)) W1) args s mc ms A) (F0 m pc ls [.long v]) :=
  W.widen h1 h2 (W.lret hx hb hr (fun _ ht _ => zQ_of u hP hD hS ht) hS.2.2 hdg hlocks)
theorem zend_d {v : UInt64} (hx : p.tables.exec = Jvm.exec) (hb : c.code = cc) (hr : meth.sig.returnType = some .double) (hlocks : meth.locks = false) (u : Nat → Nat) (hP : va_P G.1 vwCl (W1 u) H) (hD : va_D A (W1 u)) (hS : va_S A s.heap H locs) (h1 : cells ≤ mc) (h2 : slots ≤ ms) (hdg : decode cc pc = .ok (.dreturn, 1)) :
    W p l e R s m args below meth c H locs cells slots (MQ below (zQ G A (some (.double v)) W1) args s mc ms A) (F0 m pc ls [.double v]) :=
  W.widen h1 h2 (W.dret hx hb hr (fun _ ht _ => zQ_of u hP hD hS ht) hS.2.2 hdg hlocks)
theorem zend_a {q : Nat} {rt : FieldType} (hx : p.tables.exec = Jvm.exec) (hb : c.code = cc) (hr : meth.sig.returnType = some rt) (hlocks : meth.locks = false) (hrt : (∃ n, rt = .object n) ∨ ∃ t, rt = .array t) (u : Nat → Nat) (hP : va_P G.1 vwCl (W1 u) H) (hD : va_D A (W1 u)) (hS : va_S A s.heap H locs) (h1 : cells ≤ mc) (h2 : slots ≤ ms) (hdg : decode cc pc = .ok (.areturn, 1)) :
    W p l e R s m args below meth c H locs cells slots (MQ below (zQ G A (some (.ref q)) W1) args s mc ms A) (F0 m pc ls [.ref q]) :=
  W.widen h1 h2 (W.aret hx hb hr hrt (Or.inr ⟨_, rfl⟩) (fun _ ht _ => zQ_of u hP hD hS ht) hS.2.2 hdg hlocks)
/-- the premises of a call: the callee's start -/
theorem zPre {Wc ws : va_W} {As : List Value} (hP : va_P G.1 vwCl ws H) (hD : va_D A ws) (hE : zZ G A s s.heap) (hS : va_S A s.heap H locs) (hA : ∀ q : Nat, s.heap.size ≤ q → A q) (isC : List Nat) (hC : isC.map (fun i => ws[i]?) = Wc.map some) (hn : va_nd isC = true) : PreS s H (va_Pc As (zP G Wc H.size)) As := by
  have hCf : isC.filterMap (fun i => ws[i]?) = Wc := by
    have h1 : (isC.map (fun i => ws[i]?)).filterMap id = (Wc.map some).filterMap id := by rw [hC]
    rw [List.filterMap_map, List.filterMap_map] at h1
    have h2 : List.filterMap (id ∘ fun i => ws[i]?) isC = isC.filterMap (fun i => ws[i]?) := rfl
    have h3 : List.filterMap (id ∘ some) Wc = Wc := by
      show List.filterMap some Wc = Wc
      exact List.filterMap_some
    rw [h2, h3] at h1
    exact h1
  have hPc := hP.sub isC hCf
  have hDc := hD.sub (ws' := Wc) isC hn hC
  have hF := va_free (wc := Wc) hD hS hA isC hC
  refine ⟨fun a U g mk q => ?_, fun U hU hW => ⟨rfl, by rw [hU], by rw [hU]; exact hPc, hE.give hS hF hU hW, hDc.weaken (fun _ _ _ _ => trivial)⟩⟩
  obtain ⟨q0, q1, qP, qE, qD⟩ := q
  exact ⟨q0, q1, qP, zZ.same (u := U) (U := U.calling g mk a) rfl qE, qD⟩
theorem zPreV {Wc ws : va_W} {As : List Value} {b q0 ci : Nat} {q : vw_C} {fs : List Value} (hP : va_P G.1 vwCl ws H) (hD : va_D A ws) (hE : zZ G A s s.heap) (hS : va_S A s.heap H locs) (hA : ∀ q : Nat, s.heap.size ≤ q → A q) (isC : List Nat) (hC : isC.map (fun i => ws[i]?) = Wc.map some) (hn : va_nd isC = true) (hc : vwCl[ci]? = some q) (he : ws[q0]? = some (b, .inr (ci, fs))) : PreV s H q.1 b (va_Pc (.ref b :: As) (zP G Wc H.size)) As := by
  obtain ⟨h1, h2⟩ := zPre (As := .ref b :: As) hP hD hE hS hA isC hC hn
  exact ⟨h1, va_recv hE.1 hP hc he, h2⟩
/-- behind a call that returns -/
theorem zcall {ret : Option Value} {ws wc wr : va_W} {a : Array Value} (hr : va_Run p l e R s m args below meth c H locs cells slots mc ms (F0 m pc ls st0) rest (zQ G (va_A wc H.size) ret W1 a) (va_A wc H.size))
    (hP : va_P G.1 vwCl ws H) (hD : va_D A ws) (hS : va_S A s.heap H locs) (hA : ∀ q : Nat, s.heap.size ≤ q → A q) (isC isR : List Nat) (hC : isC.map (fun i => ws[i]?) = wc.map some) (hR : isR.map (fun i => ws[i]?) = wr.map some) (hn : va_nd isR = true) (hdis : ∀ i ∈ isR, i ∉ isC)
    (kk : ∀ (u : Nat → Nat) (H1 : Heap) (locs1 : List Loc), va_P G.1 vwCl (wr ++ W1 u) H1 → va_D A (wr ++ W1 u) → va_S A s.heap H1 locs1 → W p l e R s m args below meth c H1 locs1 (cells + mc) (slots + ms) Q (F0 m (pc + 3) ls (ret.toList ++ rest))) : W p l e R s m args below meth c H locs cells slots Q (F0 m pc ls st0) := by
  intro T hT X
  obtain ⟨v, st₀, t, T', L, h0, X', hL, e1, e2, ⟨u, hv, hP1, hD1, hz, hk⟩, st⟩ := hr T hT X
  cases hv
  have hF := va_free (wc := wc) hD hS hA isC hC
  rw [h0] at hz hk
  have hk1 : ∀ q : Nat, q < H.size → ¬ va_A wc H.size q → T'.heap[q]? = H[q]? := fun q h1 h2 => by rw [e1]; exact hk q h1 h2
  rw [← e1] at hP1
  obtain ⟨hP2, hD2⟩ := va_join hP hD isC isR hC hR hn hdis hk1 hF hP1 hD1
  obtain ⟨t2, a1, b1⟩ := kk u T'.heap (locs ++ L) hP2 hD2 ⟨Nat.le_trans hS.1 (by rw [e1]; exact hz), fun q h1 h2 => by rw [hk1 q (Nat.lt_of_lt_of_le h1 hS.1) (fun z => h2 (hF q z))]; exact hS.2.1 q h1 h2, fun q hq => by
      rcases List.mem_append.mp hq with h | h
      · exact hS.2.2 q h
      · exact hF _ (hL q h)⟩ T' rfl X'
  exact ⟨t2, st t2 a1, b1⟩
/-- behind a call that throws -/
theorem zcallT {E0 : String} {X1 ws wc wr : va_W} (hr : vx_Run p l e R s m args below meth c H locs cells slots mc ms (F0 m pc ls st0) rest (fun _ _ _ => False) (zX G (va_A wc H.size) E0 X1) (va_A wc H.size))
    (hP : va_P G.1 vwCl ws H) (hD : va_D A ws) (hS : va_S A s.heap H locs) (hA : ∀ q : Nat, s.heap.size ≤ q → A q) (isC isR : List Nat) (hC : isC.map (fun i => ws[i]?) = wc.map some) (hR : isR.map (fun i => ws[i]?) = wr.map some) (hn : va_nd isR = true) (hdis : ∀ i ∈ isR, i ∉ isC)
    (kk : ∀ (ce : Cell) (q9 : Addr) (H1 : Heap) (locs1 : List Loc), va_P G.1 vwCl (wr ++ X1) H1 → va_D A (wr ++ X1) → va_S A s.heap H1 locs1 → H1[q9]? = some ce → ce.vm = .none → s.vm.findClass E0 = some ce.cls → vx_W p l e R s m args below meth c H1 locs1 (cells + mc) (slots + ms) Q (F0 m pc ls rest) q9) : W p l e R s m args below meth c H locs cells slots Q (F0 m pc ls st0) := by
  intro T hT X
  rcases hr T hT X with ⟨v, st₀, t, T', L, h0, X', hL, e1, e2, hq, st⟩ | ⟨q, st₀, t, T', L, E, ce, h0, X', hL, e1, e2, ⟨hE0, hP1, hD1, hz, hk⟩, hce, hcv, hcl, st⟩
  · exact hq.elim
  · subst hE0
    have hF := va_free (wc := wc) hD hS hA isC hC
    rw [h0] at hz hk
    have hk1 : ∀ q : Nat, q < H.size → ¬ va_A wc H.size q → T'.heap[q]? = H[q]? := fun q h1 h2 => by rw [e1]; exact hk q h1 h2
    rw [← e1] at hP1
    obtain ⟨hP2, hD2⟩ := va_join hP hD isC isR hC hR hn hdis hk1 hF hP1 hD1
    obtain ⟨t2, a1, b1⟩ := kk ce q T'.heap (locs ++ L) hP2 hD2 ⟨Nat.le_trans hS.1 (by rw [e1]; exact hz), fun q h1 h2 => by rw [hk1 q (Nat.lt_of_lt_of_le h1 hS.1) (fun z => h2 (hF q z))]; exact hS.2.1 q h1 h2, fun q hq => by
        rcases List.mem_append.mp hq with h | h
        · exact hS.2.2 q h
        · exact hF _ (hL q h)⟩ (by rw [e1]; exact hce) hcv hcl T' rfl X'
    exact ⟨t2, st.trans a1, b1⟩
/-- a call of one with a table of its own is a call that returns -/
theorem zrunH {ret : Option Value} {wc : va_W} {a : Array Value} {g : JFrame} (hr : vx_Run p l e R s m args below meth c H locs cells slots mc ms g rest (zQ G (va_A wc H.size) ret W1 a) (fun _ _ _ => False) (va_A wc H.size)) : va_Run p l e R s m args below meth c H locs cells slots mc ms g rest (zQ G (va_A wc H.size) ret W1 a) (va_A wc H.size) := by
  intro T hT X
  rcases hr T hT X with h | ⟨q, st₀, t, T', L, E, ce, h0, X', hL, e1, e2, hq, -⟩
  · exact h
  · exact hq.elim
/-- thrown on to the caller -/
theorem zout {E0 : String} {X1 : va_W} {q : Addr} {ce : Cell} {Qc : Array Value → State → Outcome → State → Prop} (ht : ∀ x ∈ c.exceptionTable.toList, False) (hlocks : meth.locks = false) (hP : va_P G.1 vwCl X1 H) (hD : va_D A X1) (hS : va_S A s.heap H locs) (hce : H[q]? = some ce) (hv : ce.vm = .none) (hcl : s.vm.findClass E0 = some ce.cls) (h1 : cells ≤ mc) (h2 : slots ≤ ms) :
    vx_W p l e R s m args below meth c H locs cells slots (vx_MQ below Qc (zX G A E0 X1) args s mc ms A) (F0 m pc ls rest) q :=
  vx_out (fun x hx => (ht x hx).elim) hlocks hce hv hcl (fun t ht2 _ => ⟨rfl, by rw [ht2]; exact hP, hD, hS.F ht2⟩) hS.2.2 h1 h2
/-- 'throw new E("text")' in Nettle -/
abbrev zNm : List String := ["java/lang/RuntimeException", "java/lang/Exception"]
theorem zthrow {E0 text : String} {ik is ic : Nat} {X1 : va_W} {Qc : Array Value → State → Outcome → State → Prop} (hx : p.tables.exec = Jvm.exec) (hb : c.code = cc) (hl : l.stackTraces = false) (hown : s.vm.findClass RX7 = some m.cls) (hcls : Bundle.fit E0 = true)
    (hk : (Cond.classLink RX7 ik E0).before args s = true) (hini : (Cond.initialized E0).before args s = true) (hat : ∀ w ∈ (vx_atS RX7 ic E0 zNm).filter goodWord, w.before args s = true) (hng : ∀ w ∈ (vx_atS RX7 ic E0 zNm).filter (fun w => !goodWord w), w ∈ [Cond.castable E0 E0, .declares (Bundle.initS "java/lang/RuntimeException"), .declares (Bundle.initS "java/lang/Exception"), .declares (Bundle.initS Bundle.tN)]) (hca : (Cond.castable E0 E0).before args s = true)
    (hgood : ∀ w ∈ Cond.classLink RX7 ik E0 :: Cond.initialized E0 :: vx_atS RX7 ic E0 zNm, vx_ot w = true) (hstr : ∃ sa : Nat, vk_R "Nettle" is text sa s)
    (hE : zZ G A s s.heap) (hP : va_P G.1 vwCl X1 H) (hD : va_D A X1) (hS : va_S A s.heap H locs) (hsize : ls.size = c.maxLocals)
    (d0 : decode cc pc = .ok (.new ik, 3)) (d3 : decode cc (pc + 3) = .ok (.dup, 1)) (d4 : decode cc (pc + 4) = .ok (.ldc is, 2)) (d6 : decode cc (pc + 6) = .ok (.invokespecial ic, 3)) (d9 : decode cc (pc + 9) = .ok (.athrow, 1))
    (ht : ∀ x ∈ c.exceptionTable.toList, False) (hRf : 6 ≤ R.frames) (hRl : 82 ≤ R.locals) (hRc : cells + 1 ≤ R.cells) (hRs : slots + 6 ≤ R.slots) (hlocks : meth.locks = false) (hc : cells + 1 ≤ mc) (hs : slots + 6 ≤ ms) :
    W p l e R s m args below meth c H locs cells slots (vx_MQ below Qc (zX G A E0 X1) args s mc ms A) (F0 m pc ls []) := by
  obtain ⟨sa, hsa⟩ := hstr
  exact vx_throwS (names := zNm) hx hb hl hown hcls (by decide +kernel) hk hini hsa (vx_hat hat hng (vx_c hca (vx_c (va_Nw.use rfl hE.2.2.2.2.2.2.2.2.1.1) (vx_c (va_Nw.use rfl hE.2.2.2.2.2.2.2.2.1.2.1) (vx_c (va_Nw.use rfl hE.2.2.2.2.2.2.2.2.1.2.2) vx_n))))) hgood hE.2.2.2.1.1 hE.2.2.2.1.2 hS hsize d0 d3 d4 d6 d9 (fun x hx => (ht x hx).elim) (by show 2 + 3 < _; omega) (by show 0 + 82 ≤ _; omega) hRc hRs hlocks
    (fun t _ hz hq => ⟨rfl, hP.kept (fun k x hx => hq x.1 ((hP k x hx).lt)), hD, ⟨Nat.le_trans hS.1 hz, fun q h1 h2 => (hq q (Nat.lt_of_lt_of_le h1 hS.1)).trans (hS.2.1 q h1 h2)⟩⟩) hS.2.2 hc hs
theorem zthrowW {E0 text : String} {ik is ic : Nat} {X1 : va_W} {Qc : Array Value → State → Outcome → State → Prop} (hx : p.tables.exec = Jvm.exec) (hb : c.code = cc) (hl : l.stackTraces = false) (hown : s.vm.findClass RX7 = some m.cls) (hcls : Bundle.fit E0 = true)
    (hk : (Cond.classLink RX7 ik E0).before args s = true) (hini : (Cond.initialized E0).before args s = true) (hat : ∀ w ∈ (vx_atS RX7 ic E0 zNm).filter goodWord, w.before args s = true) (hng : ∀ w ∈ (vx_atS RX7 ic E0 zNm).filter (fun w => !goodWord w), w ∈ [Cond.castable E0 E0, .declares (Bundle.initS "java/lang/RuntimeException"), .declares (Bundle.initS "java/lang/Exception"), .declares (Bundle.initS Bundle.tN)]) (hca : (Cond.castable E0 E0).before args s = true)
    (hgood : ∀ w ∈ Cond.classLink RX7 ik E0 :: Cond.initialized E0 :: vx_atS RX7 ic E0 zNm, vx_ot w = true) (hstr : ∃ sa : Nat, vk_R "Nettle" is text sa s)
    (hE : zZ G A s s.heap) (hP : va_P G.1 vwCl X1 H) (hD : va_D A X1) (hS : va_S A s.heap H locs) (hsize : ls.size = c.maxLocals)
    (d0 : decode cc pc = .ok (.new ik, 3)) (d3 : decode cc (pc + 3) = .ok (.dup, 1)) (d4 : decode cc (pc + 4) = .ok (.ldc_w is, 3)) (d7 : decode cc (pc + 7) = .ok (.invokespecial ic, 3)) (d10 : decode cc (pc + 10) = .ok (.athrow, 1))
    (ht : ∀ x ∈ c.exceptionTable.toList, False) (hRf : 6 ≤ R.frames) (hRl : 82 ≤ R.locals) (hRc : cells + 1 ≤ R.cells) (hRs : slots + 6 ≤ R.slots) (hlocks : meth.locks = false) (hc : cells + 1 ≤ mc) (hs : slots + 6 ≤ ms) :
    W p l e R s m args below meth c H locs cells slots (vx_MQ below Qc (zX G A E0 X1) args s mc ms A) (F0 m pc ls []) := by
  obtain ⟨sa, hsa⟩ := hstr
  exact vx_throwSW (names := zNm) hx hb hl hown hcls (by decide +kernel) hk hini hsa (vx_hat hat hng (vx_c hca (vx_c (va_Nw.use rfl hE.2.2.2.2.2.2.2.2.1.1) (vx_c (va_Nw.use rfl hE.2.2.2.2.2.2.2.2.1.2.1) (vx_c (va_Nw.use rfl hE.2.2.2.2.2.2.2.2.1.2.2) vx_n))))) hgood hE.2.2.2.1.1 hE.2.2.2.1.2 hS hsize d0 d3 d4 d7 d10 (fun x hx => (ht x hx).elim) (by show 2 + 3 < _; omega) (by show 0 + 82 ≤ _; omega) hRc hRs hlocks
    (fun t _ hz hq => ⟨rfl, hP.kept (fun k x hx => hq x.1 ((hP k x hx).lt)), hD, ⟨Nat.le_trans hS.1 hz, fun q h1 h2 => (hq q (Nat.lt_of_lt_of_le h1 hS.1)).trans (hS.2.1 q h1 h2)⟩⟩) hS.2.2 hc hs
/-- an index within, of written numbers -/
theorem zin {i : Int32} {n : Nat} (h : decide (¬ (i < 0 ∨ n ≤ i.toNatClampNeg)) = true) : vp_in i n := by
  have h1 : ¬ (i < 0 ∨ n ≤ i.toNatClampNeg) := of_decide_eq_true h
  exact h1
/-- a reference out of a row -/
theorem zrf {r : Option Nat} {q : Nat} (h : r = some q) (k : W p l e R s m args below meth c H locs cells slots Q (F0 m pc ls (.ref q :: rest))) : W p l e R s m args below meth c H locs cells slots Q (F0 m pc ls (va_rf r :: rest)) := by rw [h]; exact k
/-- a computed number is this one -/
theorem zti {x v : Int32} (h : x = v) (k : W p l e R s m args below meth c H locs cells slots Q (F0 m pc ls (.int v :: rest))) : W p l e R s m args below meth c H locs cells slots Q (F0 m pc ls (.int x :: rest)) := by rw [h]; exact k
theorem ztl {x v : Int64} (h : x = v) (k : W p l e R s m args below meth c H locs cells slots Q (F0 m pc ls (.long v :: rest))) : W p l e R s m args below meth c H locs cells slots Q (F0 m pc ls (.long x :: rest)) := by rw [h]; exact k
theorem ztd {x v : UInt64} (h : x = v) (k : W p l e R s m args below meth c H locs cells slots Q (F0 m pc ls (.double v :: rest))) : W p l e R s m args below meth c H locs cells slots Q (F0 m pc ls (.double x :: rest)) := by rw [h]; exact k
/-- two classes of one name are one -/
theorem zcA {cA cB : ClassId} {U : State} {D : va_G} {tys : List (ClassId × FieldType)} (i j : Nat) {ty : FieldType} (hK : va_K D vwCl tys U) (hi : tys[i]? = some (cA, ty)) (hj : tys[j]? = some (cB, ty)) : cA = cB := by
  have h1 := (hK.2 i _ hi).2
  have h2 := (hK.2 j _ hj).2
  cases ty with
  | object C =>
    obtain ⟨_, _, -, -, -, a1⟩ := h1
    obtain ⟨_, _, -, -, -, a2⟩ := h2
    exact Option.some.inj (a1.symm.trans a2)
  | _ => exact Option.some.inj (Eq.trans (Eq.symm h1) h2)
theorem znewa {ws : va_W} (hx : p.tables.exec = Jvm.exec) (hb : c.code = cc) (harr : (Cond.arrayClass .int).before args s = true) (hE : zZ G A s s.heap) (hP : va_P G.1 vwCl ws H) (hD : va_D A ws) (hS : va_S A s.heap H locs) (hA : ∀ q : Nat, s.heap.size ≤ q → A q) {n : Int32} {N : Nat} (hn : ¬ n < 0) (hN : n.toNatClampNeg = N) (hbytes : N * 4 ≤ 536870912) (hcells : cells + 1 ≤ R.cells) (hslots : slots + N ≤ R.slots) (hdg : decode cc pc = .ok (.newarray .int, 2))
    (kk : ∀ (q : Nat) (H1 : Heap), va_P G.1 vwCl (ws ++ [(q, .inl (G.2.1, N, .inl (fun _ => 0)))]) H1 → va_D A (ws ++ [(q, .inl (G.2.1, N, .inl (fun _ => 0)))]) → va_S A s.heap H1 locs → W p l e R s m args below meth c H1 locs (cells + 1) (slots + N) Q (F0 m (pc + 2) ls (.ref q :: rest))) : W p l e R s m args below meth c H locs cells slots Q (F0 m pc ls (.int n :: rest)) := by
  refine va_newa (atype := .int) (ty := .int) (a0 := (N, .inl (fun _ => 0))) hx hb harr rfl hE.1 hP hD hS hA (fun cA => rfl) hn hN hbytes hcells hslots hdg (fun q cA H1 hK1 hP1 hD1 hS1 => ?_)
  have e : G.2.1 = cA := zcA 0 3 hK1 rfl rfl
  subst e
  exact kk q H1 hP1 hD1 hS1
theorem znewl {ws : va_W} (hx : p.tables.exec = Jvm.exec) (hb : c.code = cc) (harr : (Cond.arrayClass .long).before args s = true) (hE : zZ G A s s.heap) (hP : va_P G.1 vwCl ws H) (hD : va_D A ws) (hS : va_S A s.heap H locs) (hA : ∀ q : Nat, s.heap.size ≤ q → A q) {n : Int32} {N : Nat} (hn : ¬ n < 0) (hN : n.toNatClampNeg = N) (hbytes : N * 8 ≤ 536870912) (hcells : cells + 1 ≤ R.cells) (hslots : slots + N ≤ R.slots) (hdg : decode cc pc = .ok (.newarray .long, 2))
    (kk : ∀ (q : Nat) (H1 : Heap), va_P G.1 vwCl (ws ++ [(q, .inl (G.2.2.2.1, N, .inr (.inl (fun _ => 0))))]) H1 → va_D A (ws ++ [(q, .inl (G.2.2.2.1, N, .inr (.inl (fun _ => 0))))]) → va_S A s.heap H1 locs → W p l e R s m args below meth c H1 locs (cells + 1) (slots + N) Q (F0 m (pc + 2) ls (.ref q :: rest))) : W p l e R s m args below meth c H locs cells slots Q (F0 m pc ls (.int n :: rest)) := by
  refine va_newa (atype := .long) (ty := .long) (a0 := (N, .inr (.inl (fun _ => 0)))) hx hb harr rfl hE.1 hP hD hS hA (fun cA => rfl) hn hN hbytes hcells hslots hdg (fun q cA H1 hK1 hP1 hD1 hS1 => ?_)
  have e : G.2.2.2.1 = cA := zcA 2 3 hK1 rfl rfl
  subst e
  exact kk q H1 hP1 hD1 hS1
theorem znewq {ws : va_W} {own : String} {index : Nat} (hx : p.tables.exec = Jvm.exec) (hb : c.code = cc) (hown : s.vm.findClass own = some m.cls) (hclink : (Cond.classLink own index "Nettle$Rule").before args s = true) (hE : zZ G A s s.heap) (hP : va_P G.1 vwCl ws H) (hD : va_D A ws) (hS : va_S A s.heap H locs) (hA : ∀ q : Nat, s.heap.size ≤ q → A q) {n : Int32} {N : Nat} (hn : ¬ n < 0) (hN : n.toNatClampNeg = N) (hbytes : N * 4 ≤ 536870912) (hcells : cells + 1 ≤ R.cells) (hslots : slots + N ≤ R.slots) (hdg : decode cc pc = .ok (.anewarray index, 3))
    (kk : ∀ (q : Nat) (H1 : Heap), va_P G.1 vwCl (ws ++ [(q, .inl (G.2.2.1, N, .inr (.inr (.inr (.inr (fun _ => none))))))]) H1 → va_D A (ws ++ [(q, .inl (G.2.2.1, N, .inr (.inr (.inr (.inr (fun _ => none))))))]) → va_S A s.heap H1 locs → W p l e R s m args below meth c H1 locs (cells + 1) (slots + N) Q (F0 m (pc + 3) ls (.ref q :: rest))) : W p l e R s m args below meth c H locs cells slots Q (F0 m pc ls (.int n :: rest)) := by
  refine va_newq (C := "Nettle$Rule") hx hb hown hclink hE.2.2.2.2.2.2.1 hE.1 hP hD hS hA hn hN hbytes hcells hslots hdg (fun q cA H1 hK1 hP1 hD1 hS1 => ?_)
  have e : G.2.2.1 = cA := zcA 1 3 hK1 rfl rfl
  subst e
  exact kk q H1 hP1 hD1 hS1
/-- a row of rows that nobody asks for: it only takes room -/
theorem znewAA {ws : va_W} {own : String} {index : Nat} (hx : p.tables.exec = Jvm.exec) (hb : c.code = cc) (hown : s.vm.findClass own = some m.cls) (hclink : (Cond.classLink own index "[I").before args s = true) (hover : (Cond.arrayOver (.array .int)).before args s = true) (hP : va_P G.1 vwCl ws H) (hS : va_S A s.heap H locs) {n : Int32} {N : Nat} (hn : ¬ n < 0) (hN : n.toNatClampNeg = N) (hbytes : N * 4 ≤ 536870912) (hcells : cells + 1 ≤ R.cells) (hslots : slots + N ≤ R.slots) (hdg : decode cc pc = .ok (.anewarray index, 3))
    (kk : ∀ (q : Nat) (H1 : Heap), va_P G.1 vwCl ws H1 → va_S A s.heap H1 locs → W p l e R s m args below meth c H1 locs (cells + 1) (slots + N) Q (F0 m (pc + 3) ls (.ref q :: rest))) : W p l e R s m args below meth c H locs cells slots Q (F0 m pc ls (.int n :: rest)) := by
  subst hN
  refine W.anewA (t := .int) hx hb hown hclink hover rfl hdg rfl hn hbytes hcells hslots (fun cA kA comp f1 f2 f3 f4 => ?_)
  generalize hH1 : H.push ({ cls := cA, slots := Array.replicate n.toNatClampNeg .null, vm := .none } : Cell) = H1
  have z1 : H1.size = H.size + 1 := by rw [← hH1, Array.size_push]
  have o1 : ∀ q : Nat, q < H.size → H1[q]? = H[q]? := fun q hq => by rw [← hH1, Array.getElem?_push, if_neg (Nat.ne_of_lt hq)]
  exact kk H.size H1 (hP.kept (fun k x hx => o1 x.1 ((hP k x hx).lt))) ⟨Nat.le_trans hS.1 (by omega), fun x h1 h2 => (o1 x (Nat.lt_of_lt_of_le h1 hS.1)).trans (hS.2.1 x h1 h2), hS.2.2⟩
end ZE
