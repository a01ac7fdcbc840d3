section JT
theorem jgo_link {Q : Handler → Pre} {E : CtlPost} {e : Env} {d : Bool} {acts : List Action} {S : State} {f : JFrame} {a : Addr} {y : ExceptionTableEntry} {t : List ExceptionTableEntry} {c : ClassId} {cell : Cell} (hx : covers y f.pc = true) (h0 : y.catchType ≠ 0) (hl : S.vm.ClassLinks e.platform f.method.cls y.catchType c)
    (hcell : S.heap[a]? = some cell) (hobj : ∀ k, cell.vm ≠ .statics k) (hk : ∃ k, S.vm.classes[cell.cls]? = some k) (hc : ∃ k, S.vm.classes[c]? = some k) :
    wp (findHandler.go f a (y :: t)) Q E e d acts S ↔ if S.vm.assignable cell.cls c = true then Q (.found y.handlerPc) d acts (S.setVm (S.vm.noted f.method.cls y.catchType (.cls c))) else wp (findHandler.go f a t) Q E e d acts (S.setVm (S.vm.noted f.method.cls y.catchType (.cls c))) := by
  simp only [covers] at hx
  obtain ⟨w1, w2⟩ := (resolveClass_links e.toSetting hl).op (op := VmOp.resolveClass f.method.cls y.catchType) rfl
  have hal : S.vm.Alike (S.vm.noted f.method.cls y.catchType (.cls c)) := (Vm.Alike.refl S.vm).noted _ _ _
  obtain ⟨k1, hk1⟩ := hk
  obtain ⟨k2, hk2⟩ := hc
  obtain ⟨k1', hk1', -⟩ := hal.2.2 _ _ hk1
  obtain ⟨k2', hk2', -⟩ := hal.2.2 _ _ hk2
  cases hfit : S.vm.assignable cell.cls c with
  | true =>
    have hfit' : (S.vm.noted f.method.cls y.catchType (.cls c)).assignable cell.cls c = true := by rw [hal.assignable]; exact hfit
    simp [findHandler.go, hx, h0, w1, w2, hcell, hobj, hk1', hk2', hfit', VmOp.dirties, VmOp.acts]
  | false =>
    have hfit' : (S.vm.noted f.method.cls y.catchType (.cls c)).assignable cell.cls c = false := by rw [hal.assignable]; exact hfit
    simp [findHandler.go, hx, h0, w1, w2, hcell, hobj, hk1', hk2', hfit', VmOp.dirties, VmOp.acts]
/-- the search through handlers that all cover the pc and name what they catch: it ends at tgt -/
def jSr (pl : Platform) (s₀ : State) (dc : ClassId) (pc : Nat) (th : ClassId) (tgt : Nat) : List ExceptionTableEntry → Prop
  | [] => False
  | y :: t => covers y pc = true ∧ y.catchType ≠ 0 ∧ ∃ c, s₀.vm.ClassLinks pl dc y.catchType c ∧ ((s₀.vm.assignable th c = true ∧ y.handlerPc = tgt) ∨ (s₀.vm.assignable th c = false ∧ jSr pl s₀ dc pc th tgt t))
theorem jsearch {e : Env} {s₀ : State} {f : JFrame} {a : Addr} {cell : Cell} (hobj : ∀ k, cell.vm ≠ .statics k) (hk0 : ∃ k, s₀.vm.classes[cell.cls]? = some k) {tgt : Nat} :
    ∀ (es : List ExceptionTableEntry) (S : State), s₀.WarmedH S.vm → S.heap[a]? = some cell → jSr e.platform s₀ f.method.cls f.pc cell.cls tgt es →
      ∃ vm', s₀.WarmedH vm' ∧ ∀ (Q : Handler → Pre) (E : CtlPost) (d : Bool) (acts : List Action), wp (findHandler.go f a es) Q E e d acts S ↔ Q (.found tgt) d acts (S.setVm vm') := by
  intro es
  induction es with
  | nil => intro S _ _ h; exact h.elim
  | cons y t ih =>
    intro S hW hcell ⟨hx, h0, c, hl, hor⟩
    obtain ⟨k0, hk0⟩ := hk0
    obtain ⟨k0', hk0', -⟩ := hW.alike.2.2 _ _ hk0
    obtain ⟨dk, _, _, kt, hd, _, _, _, _, hkt, _, hfree⟩ := hl.here
    obtain ⟨kt', hkt', -⟩ := hW.alike.2.2 _ _ hkt
    have hW2 := hW.noted hd hfree (State.rightAt_cls hl)
    have key := fun (Q : Handler → Pre) (E : CtlPost) (d : Bool) (acts : List Action) => jgo_link (Q := Q) (E := E) (d := d) (acts := acts) (t := t) hx h0 (hW.classLinks hl) hcell hobj ⟨k0', hk0'⟩ ⟨kt', hkt'⟩
    rcases hor with ⟨hfit, htg⟩ | ⟨hno, hrest⟩
    · refine ⟨_, hW2, fun Q E d acts => ?_⟩
      rw [key, if_pos (by rw [hW.alike.assignable]; exact hfit), htg]
    · obtain ⟨vm', hW3, h3⟩ := ih (S.setVm (S.vm.noted f.method.cls y.catchType (.cls c))) hW2 hcell hrest
      refine ⟨vm', hW3, fun Q E d acts => ?_⟩
      rw [key, if_neg (by rw [hW.alike.assignable, hno]; decide), h3, State.setVm_twice]
theorem jcaught {tb : Tables} {e : Env} {s target : State} {g : JFrame} {c : Code} {below : List Frame} {a : Addr} (h : At s g.method c below) {pc : Nat} {vm' : Vm}
    (hfind : ∀ (Q : Handler → Pre) (E : CtlPost) (d : Bool) (acts : List Action), wp (findHandler g a) Q E e d acts ((s.setTop g).pushFrame (.throwing a)) ↔ Q (.found pc) d acts (((s.setTop g).pushFrame (.throwing a)).setVm vm'))
    (hrest : Steps tb e below ((s.setVm vm').setTop { g with pc := pc, stack := [.ref a] }) target) : Steps tb e below ((s.setTop g).pushFrame (.throwing a)) target := by
  obtain ⟨hgo, hw⟩ := h.throwing a
  refine Steps.head hgo hw ?_
  rw [stepThread_throwing (frames_entered h.top _)]
  have key : ∀ r : List Frame, (stepThrowing e ((s.setTop g).pushFrame (.throwing a)) a (.java g :: r)).1 = (((s.setTop g).pushFrame (.throwing a)).setVm vm').setFrames (.java { g with pc := pc, stack := [.ref a] } :: r) := by
    intro r
    simp only [stepThrowing, searchFrame, vmDo]
    generalize hr : Sem.go _ e false [] _ = res
    obtain ⟨as, rfl, -⟩ := Sem.eq_ok_of hr (a := Handler.found pc) (s' := ((s.setTop g).pushFrame (.throwing a)).setVm vm') (acts' := []) (by simp [hfind _ _ _ _])
    rfl
  rw [key]
  obtain ⟨g₀, hg⟩ := Option.isSome_iff_exists.mp h.top
  obtain ⟨r, hr⟩ := State.topJava?_eq_some.mp hg
  have hr' : (s.setVm vm').frames = .java g₀ :: r := hr
  rw [State.setTop_of_frames _ hr'] at hrest
  have e1 : (((s.setTop g).pushFrame (.throwing a)).setVm vm').setFrames (.java { g with pc := pc, stack := [.ref a] } :: s.frames.tail) = (s.setVm vm').setFrames (.java { g with pc := pc, stack := [.ref a] } :: r) := by
    rw [hr, List.tail_cons, State.pushFrame, State.setTop_of_frames _ hr]
    show ((((s.setFrames _).setFrames _).setVm vm').setFrames _) = _
    rw [State.setFrames_setFrames]
    show ((s.setVm vm').setFrames _).setFrames _ = _
    rw [State.setFrames_setFrames]
  rw [e1]
  exact hrest
end JT
/-! Calls, throws and catches of the J layer. -/
theorem jsum (st : List Value) : (st.map fun v => v.category).sum ≤ 2 * st.length := by
  induction st with
  | nil => simp
  | cons v w ih => rcases lv_cat v with hv | hv <;> simp [hv] <;> omega
theorem jst_weak {tb : Tables} {e : Env} {g : Frame} {below : List Frame} {a b : State} (h : Steps tb e (g :: below) a b) : Steps tb e below a b := by
  obtain ⟨n, hn, w⟩ := h
  exact ⟨n, hn, fun k hk => Within.weaken (mid := [g]) (w k hk)⟩
/-- a method of the system: its code stands in the words -/
def jMth (y : jm) : Prop := y.2.2.1 ≤ 30 ∧ plainFor y.1 = true ∧ ((y.2.2.2.2 = [] ∧ Cond.code y.1 y.2.1 y.2.2.1 y.2.2.2.1 ∈ jWS) ∨ Cond.codeWith y.1 y.2.1 y.2.2.1 y.2.2.2.1 y.2.2.2.2 ∈ jWS)
theorem jMth.at {y : jm} (hy : jMth y) {args : Array Value} {s : State} {mk : MethodId} (hn : s.methodNamed? y.1 = some mk) (hw : ∀ w ∈ jWS, w.before args s = true) :
    ∃ (meth : Method) (c : Code), s.vm.method? mk = some meth ∧ meth.code = some c ∧ c.code = y.2.1 ∧ c.maxLocals = y.2.2.1 ∧ meth.sig.returnType = y.2.2.2.1 ∧ meth.locks = false ∧
      c.exceptionTable.toList.map (fun h => (h.startPc, h.endPc, h.handlerPc, h.catchType)) = y.2.2.2.2 ∧ parseMethodDescriptor y.1.desc = some meth.sig := by
  rcases hy.2.2 with ⟨h0, h1⟩ | h1
  · obtain ⟨meth, c, g1, g2, g3, g4, g5, g6, g7, g8⟩ := Cond.code_spec hn (hw _ h1)
    refine ⟨meth, c, g1, g2, g3, g4, g5, g6, ?_, g8⟩
    rw [h0]
    have : c.exceptionTable = #[] := by simpa using g7
    rw [this]; rfl
  · obtain ⟨m', meth, c, g0, g1, g2, g3, g4, g5, g6, g7, g8⟩ := Cond.codeWith_spec (hw _ h1)
    cases hn.symm.trans g0
    exact ⟨meth, c, g1, g2, g3, g4, g6, g7, g5, g8⟩
section JX
variable {ω : jw} {d : Nat} {x : jm} {h : jh} {Q : jr → jh → Prop}
variable {p : Program} {e : Env} {R : Room} {s : State} {m : MethodId} {args : Array Value} {below : List Frame} {meth : Method} {c : Code} {T : State} {locs : List Loc} {cells slots : Nat}
theorem jcall (X : Stand p (jl ω) e R s m args below meth c T locs cells slots) (C : jC ω (d + 1) x p e R s m args meth c) (hH : jHR ω h T.heap) (hL : ∀ q ∈ locs, jN ω ≤ q.base) (hc : cells + jCM ≤ R.cells + (h.1 + h.2.1)) (hs : slots + jSM ≤ R.slots + h.2.2.1)
    {g : JFrame} (hg : g.method = m) (hsz : g.locals.size = c.maxLocals) (hmon : g.monitorRoom = 0) (hst : g.stack.length ≤ 10) {ig : Instr} (hdg : decode c.code g.pc = .ok (ig, 3)) {mk : MethodId} {y : jm} {av : List Value} (hn : s.methodNamed? y.1 = some mk) (hy : jMth y) {Q1 : jr → jh → Prop} (hk : jwp ω d y av h Q1) {G : State → Prop}
    (hret : ∀ (v : Option Value) (h' : jh) (T' : State) (locs' : List Loc) (cells' slots' : Nat), Q1 (.inl v) h' → Stand p (jl ω) e R s m args below meth c T' locs' cells' slots' → jHR ω h' T'.heap → (∀ q ∈ locs', jN ω ≤ q.base) → cells' + jCM ≤ R.cells + (h'.1 + h'.2.1) → slots' + jSM ≤ R.slots + h'.2.2.1 →
      ∃ t, Steps p.tables e below (T'.setTop { g with pc := g.pc + 3, stack := v.toList ++ g.stack }) t ∧ G t)
    (hthr : ∀ (kx : Nat) (a : Addr) (cell : Cell) (h' : jh) (T' : State) (locs' : List Loc) (cells' slots' : Nat), Q1 (.inr kx) h' → Stand p (jl ω) e R s m args below meth c T' locs' cells' slots' → jHR ω h' T'.heap → (∀ q ∈ locs', jN ω ≤ q.base) → cells' + jCM ≤ R.cells + (h'.1 + h'.2.1) → slots' + jSM ≤ R.slots + h'.2.2.1 →
      T'.heap[a]? = some cell → s.vm.findClass (jE kx) = some cell.cls → cell.vm.isStatics = false → ∃ t, Steps p.tables e below ((T'.setTop g).pushFrame (.throwing a)) t ∧ G t) :
    ∃ t, (∀ acts, Steps p.tables e below (doInvoke e (T.setTop g) acts mk av.toArray).1 t) ∧ G t := by
  obtain ⟨methk, ck, k1, k2, k3, k4, k5, k6, k7, k8⟩ := hy.at hn C.wds
  have hal := X.warmed.alike
  have hmk : T.vm.method? mk = some methk := by rw [hal.method?]; exact k1
  have hsum := jsum g.stack
  have hfr := C.frm
  have hlo := C.loc
  have hml := hy.1
  have hcr : h.1 + h.2.1 ≤ jCM := hH.2.2.2.2.1
  have hsr : h.2.2.1 ≤ jSM := hH.2.2.2.2.2
  obtain ⟨Y, hent⟩ := X.into hg hsz hdg av.toArray (R' := ({ frames := R.frames - 1, cells := R.cells - cells, slots := R.slots - slots, locals := 64 * d + 200 } : Room)) hmk k2 k6
    (State.plainMethod.of_named hy.2.1 (X.named hn) hmk) (by show R.frames - 1 + 1 ≤ R.frames; omega) (by rw [hmon, k4]; show 2 * 0 + _ + (_ + 11) + (64 * d + 200) ≤ _; omega) (by show cells + (R.cells - cells) ≤ R.cells; omega) (by show slots + (R.slots - slots) ≤ R.slots; omega)
  have hW0 : s.WarmedH (T.calling g mk av.toArray).vm := X.warmed
  have C' : jC ω d y p e ({ frames := R.frames - 1, cells := R.cells - cells, slots := R.slots - slots, locals := 64 * d + 200 } : Room) (T.calling g mk av.toArray) mk av.toArray methk ck := by
    refine ⟨C.1, k3, k4, k5, k6, (name_of_methodNamed hn k1).1, k7, ?_, jwords hW0 C.wds, va_K.moved (U := T.calling g mk av.toArray) hal C.kn, va_X.moved (U := T.calling g mk av.toArray) hal C.scr, C.bN, by show d + 8 ≤ R.frames - 1; omega, by show 64 * d + 200 ≤ 64 * d + 200; omega, C.trc, ?_⟩
    · show T.vm.findClass y.1.cls = some mk.cls
      rw [hal.findClass]
      exact findClass_of_methodNamed hn
    · obtain ⟨w1, w2, w3, w4, w5, w6⟩ := C.w0
      exact ⟨hH.2.2.1, hH.2.2.2.1, w3, vx_Zq.moved (U := T.calling g mk av.toArray) hal w4, vx_Zq.moved (U := T.calling g mk av.toArray) hal w5, fun a ha b hb hab => va_Nc.moved (U := T.calling g mk av.toArray) hal (w6 a ha b hb hab)⟩
  obtain ⟨t, st, o, r, h', L, k, n, a1, a2, a3, a4, a5, a6, a7, a8, a9, a10⟩ := hk p e _ (T.calling g mk av.toArray) mk (.java g :: below) methk ck C' hH (by show jCM ≤ R.cells - cells + _; omega) (by show jSM ≤ R.slots - slots + _; omega) ((T.setTop g).pushFrame (.java (entryFrame mk av.toArray ck.maxLocals))) rfl Y
  have hent' : ∀ acts, (doInvoke e (T.setTop g) acts mk av.toArray).1 = ((T.setTop g).pushFrame (.java (entryFrame mk av.toArray ck.maxLocals))).setTop (entryFrame mk av.toArray y.2.2.1) := fun acts => by
    rw [hent acts, k4]
  have a9 : k + jCM ≤ R.cells - cells + (h'.1 + h'.2.1) := a9
  have a10 : n + jSM ≤ R.slots - slots + h'.2.2.1 := a10
  rcases r with v | kx
  · have a3 : o = .returned v := a3
    subst a3
    obtain ⟨T', X', hW', hsame', ht⟩ := X.outOf hg hdg a2 a6 a7
    have hth : T'.heap = t.heap := by rw [ht]; rfl
    obtain ⟨t2, st2, hG⟩ := hret v h' T' _ _ _ a5 X' (by rw [hth]; exact a4) (fun q hq => (List.mem_append.mp hq).elim (hL q) (a8 q)) (by omega) (by omega)
    refine ⟨t2, fun acts => ?_, hG⟩
    rw [hent' acts]
    refine (jst_weak st).trans ?_
    rw [ht]
    exact st2
  · obtain ⟨a, cell, b1, b2, b3, b4⟩ : ∃ (a : Addr) (cell : Cell), o = .threw a ∧ t.heap[a]? = some cell ∧ (T.calling g mk av.toArray).vm.findClass (jE kx) = some cell.cls ∧ cell.vm.isStatics = false := a3
    subst b1
    obtain ⟨T', X', hW', hsame', ht⟩ := X.outOfThrown hg a2 a6 a7
    have hth : T'.heap = t.heap := by rw [ht]; rfl
    have b3' : s.vm.findClass (jE kx) = some cell.cls := by rw [← hal.findClass]; exact b3
    obtain ⟨t2, st2, hG⟩ := hthr kx a cell h' T' _ _ _ a5 X' (by rw [hth]; exact a4) (fun q hq => (List.mem_append.mp hq).elim (hL q) (a8 q)) (by omega) (by omega) (by rw [hth]; exact b2) b3' b4
    refine ⟨t2, fun acts => ?_, hG⟩
    rw [hent' acts]
    refine (jst_weak st).trans ?_
    rw [ht]
    exact st2
/-- the exception leaves a method that has no handlers -/
theorem jleave (X : Stand p (jl ω) e R s m args below meth c T locs cells slots) (C : jC ω d x p e R s m args meth c) (hx : x.2.2.2.2 = []) (hH : jHR ω h T.heap) (hL : ∀ q ∈ locs, jN ω ≤ q.base) (hc : cells + jCM ≤ R.cells + (h.1 + h.2.1)) (hs : slots + jSM ≤ R.slots + h.2.2.1)
    {g : JFrame} (hg : g.method = m) (hlk : g.locked = none) (hen : g.entered = []) {kx : Nat} {a : Addr} {cell : Cell} (hcell : T.heap[a]? = some cell) (hcls : s.vm.findClass (jE kx) = some cell.cls) (hst : cell.vm.isStatics = false) (hq : Q (.inr kx) h) :
    ∃ t, Steps p.tables e below ((T.setTop g).pushFrame (.throwing a)) t ∧ jEnd ω R s below Q t := by
  have h7 := C.2.2.2.2.2.2.1
  rw [hx] at h7
  have h8 : c.exceptionTable.toList = [] := List.map_eq_nil_iff.mp h7
  obtain ⟨st, hrun, hend, hW, hsame⟩ := X.leaveThrown a hg hlk hen (fun y hy => by rw [h8] at hy; cases hy) C.2.2.2.2.1
  exact ⟨_, st, .threw a, .inr kx, h, locs, cells, slots, hrun, hend, ⟨a, cell, rfl, hcell, hcls, hst⟩, hH, hq, hW, hsame, hL, hc, hs⟩
end JX
/-- the handlers from the pc on, in their order: exception k comes to tgt -/
def jHs (own : String) (pc k tgt : Nat) : List (Nat × Nat × Nat × Nat) → Prop
  | [] => False
  | q :: t => (q.1 ≤ pc ∧ pc < q.2.1) ∧ q.2.2.2 ≠ 0 ∧ ∃ b : Nat, b < 4 ∧ Cond.classLink own q.2.2.2 (jE b) ∈ jWS ∧ ((b = k ∧ Cond.castable (jE b) (jE b) ∈ jWS ∧ q.2.2.1 = tgt) ∨ (b ≠ k ∧ jHs own pc k tgt t))
def jHd (x : jm) (pc k tgt : Nat) : Prop := k < 4 ∧ jHs x.1.cls pc k tgt x.2.2.2.2
section JY
variable {ω : jw} {d : Nat} {x : jm} {h : jh} {Q : jr → jh → Prop}
variable {p : Program} {e : Env} {R : Room} {s : State} {m : MethodId} {args : Array Value} {below : List Frame} {meth : Method} {c : Code} {T : State} {locs : List Loc} {cells slots : Nat}
theorem jSr_of (C : jC ω d x p e R s m args meth c) (hpl : e.platform.magicAccessors = ({} : Platform).magicAccessors) {pc k tgt : Nat} {cell : Cell} (hk : k < 4) (hcls : s.vm.findClass (jE k) = some cell.cls) :
    ∀ (es : List ExceptionTableEntry) (hs : List (Nat × Nat × Nat × Nat)), es.map (fun h => (h.startPc, h.endPc, h.handlerPc, h.catchType)) = hs → jHs x.1.cls pc k tgt hs → jSr e.platform s m.cls pc cell.cls tgt es := by
  intro es
  induction es with
  | nil => intro hs h1 h2; rw [← h1] at h2; exact h2.elim
  | cons y t ih =>
    intro hs h1 h2
    rw [← h1] at h2
    obtain ⟨⟨g1, g2⟩, g3, b, hb, g4, g5⟩ := h2
    obtain ⟨c', hc', hcl⟩ := Cond.classLink_spec C.own (C.wds _ g4) e.platform hpl
    refine ⟨by show (decide (y.startPc ≤ pc) && decide (pc < y.endPc)) = true; rw [decide_eq_true g1, decide_eq_true g2]; rfl, g3, c', hcl, ?_⟩
    rcases g5 with ⟨rfl, g6, g7⟩ | ⟨g6, g7⟩
    · obtain ⟨c3, c4, hc3, hc4, hasg⟩ := Cond.castable_spec (C.wds _ g6)
      cases Option.some.inj (hc3.symm.trans hcls)
      cases Option.some.inj (hc4.symm.trans hc')
      exact Or.inl ⟨hasg, g7⟩
    · obtain ⟨a8, b8, n1, n2, n3⟩ := C.w0.2.2.2.2.2 k (by rcases (show k = 0 ∨ k = 1 ∨ k = 2 ∨ k = 3 by omega) with rfl | rfl | rfl | rfl <;> simp) b (by rcases (show b = 0 ∨ b = 1 ∨ b = 2 ∨ b = 3 by omega) with rfl | rfl | rfl | rfl <;> simp) (Ne.symm g6)
      cases Option.some.inj (n1.symm.trans hcls)
      cases Option.some.inj (n2.symm.trans hc')
      exact Or.inr ⟨n3, ih _ rfl g7⟩
theorem jcatch (X : Stand p (jl ω) e R s m args below meth c T locs cells slots) (C : jC ω d x p e R s m args meth c) {g : JFrame} {k tgt : Nat} (hd : jHd x g.pc k tgt) (a : Addr) (hg : g.method = m) {cell : Cell} (hcell : T.heap[a]? = some cell) (hcls : s.vm.findClass (jE k) = some cell.cls) (hst : cell.vm.isStatics = false) :
    ∃ vm' : Vm, Stand p (jl ω) e R s m args below meth c (T.setVm vm') locs cells slots ∧ ∀ target, Steps p.tables e below ((T.setVm vm').setTop { g with pc := tgt, stack := [.ref a] }) target → Steps p.tables e below ((T.setTop g).pushFrame (.throwing a)) target := by
  have hpl : e.platform.magicAccessors = ({} : Platform).magicAccessors := by rw [X.admits.platform]
  subst hg
  have hsr := jSr_of (pc := g.pc) C hpl hd.1 hcls c.exceptionTable.toList _ C.2.2.2.2.2.2.1 hd.2
  obtain ⟨k9, h9, -⟩ := Vm.findClass_spec hcls
  obtain ⟨vm', hW, hf⟩ := jsearch (e := e) (s₀ := s) (f := g) (a := a) (cell := cell) (VmData.ne_statics_of hst) ⟨k9, h9⟩ c.exceptionTable.toList ((T.setTop g).pushFrame (.throwing a)) X.warmed hcell hsr
  refine ⟨vm', X.noted hW, fun target hrest => jcaught X.here (fun Q E d acts => ?_) hrest⟩
  rw [W.findHandler_eq (show ((T.setTop g).pushFrame (.throwing a)).vm.method? g.method = some meth from X.method') X.code]
  exact hf Q E d acts
end JY
theorem jE_fit (k : Nat) : Bundle.fit (jE k) = true := by
  unfold jE
  split <;> decide +kernel
abbrev jUp : List String := ["java/lang/RuntimeException", "java/lang/Exception"]
def jThw (own : String) (ik ic k : Nat) : Prop := ∀ w ∈ Cond.classLink own ik (jE k) :: Cond.initialized (jE k) :: vx_at0 own ic (jE k) jUp, vx_ot w = true ∧ w ∈ jWS
theorem jj_throw {ω : jw} {d : Nat} {x : jm} {pc : Nat} {ls : List (Option Value)} {st : List Value} {h : jh} {Q : jr → jh → Prop} {ik ic : Nat} (k : Nat) (d0 : decode x.2.1 pc = .ok (.new ik, 3)) (d3 : decode x.2.1 (pc + 3) = .ok (.dup, 1)) (d4 : decode x.2.1 (pc + 4) = .ok (.invokespecial ic, 3)) (d7 : decode x.2.1 (pc + 7) = .ok (.athrow, 1))
    (hx : x.2.2.2.2 = []) (hw : jThw x.1.cls ik ic k) (hst : st.length ≤ 10) (hcm : h.1 + h.2.1 + 1 ≤ jCM) (hsm : h.2.2.1 + 6 ≤ jSM) (hq : Q (.inr k) (h.1, h.2.1 + 1, h.2.2.1 + 6, h.2.2.2)) : jj ω d x pc ls st h Q := by
  intro p e R s m args below meth c C H locs cells slots lsm hH hL hc hs hls hlen T hT X
  obtain ⟨w1, w2, w3, w4, w5, w6⟩ := C.w0
  have hsz : lsm.size = c.maxLocals := by
    obtain ⟨lv, hv, -⟩ := hls
    rw [hv.1, hlen, C.2.2.1]
  have h7 := C.2.2.2.2.2.2.1
  rw [hx] at h7
  have h8 : c.exceptionTable.toList = [] := List.map_eq_nil_iff.mp h7
  have hsum := jsum st
  have hfr := C.frm
  have hlo := C.loc
  have hk1 : ∀ a : Nat, a < (jH ω).size → ¬ jN ω ≤ a → s.heap[a]? = (jH ω)[a]? := fun a _ ha => w2 a (by omega)
  have hS : va_S (fun q => jN ω ≤ q) s.heap H locs := ⟨by rw [← hT]; exact X.same.2.1, fun q _ hq => by rw [hH.2.2.2.1 q (by omega), w2 q (by omega)], hL⟩
  obtain ⟨t, st1, o, a1, a2, a3⟩ := vx_throw0 (Qc := fun _ _ _ _ => False) (XC := fun E _ t => E = jE k ∧ H.size ≤ t.heap.size ∧ ∀ q : Nat, q < H.size → t.heap[q]? = H[q]?) (free := fun q => jN ω ≤ q) (mc := cells + 1) (ms := slots + 6) (names := jUp) (rest := st) (ls := lsm) C.1 C.2.1 C.trc C.own (jE_fit k) (by decide +kernel)
    (C.wds _ (hw _ List.mem_cons_self).2) (C.wds _ (hw _ (List.mem_cons_of_mem _ List.mem_cons_self)).2) (fun w h9 => C.wds _ (hw _ (List.mem_cons_of_mem _ (List.mem_cons_of_mem _ h9))).2) (fun w h9 => (hw _ h9).1)
    (w4.kept hk1) (w5.kept hk1) hS hsz d0 d3 d4 d7 (fun y hy => by rw [h8] at hy; cases hy) (by show 2 + 3 < R.frames; omega) (by show _ + (13 * (2 + 1) + 42) ≤ _; omega) (by omega) (by omega) C.2.2.2.2.1 (fun t _ h1 h2 => ⟨rfl, h1, h2⟩) hL (Nat.le_refl _) (Nat.le_refl _) T hT X
  rcases a3 with ⟨hf, _⟩ | ⟨q, rfl, E, ce, L, ⟨rfl, b1, b2⟩, c1, c2, c3, c4, c5, c6⟩
  · exact hf.elim
  · refine ⟨t, st1, .threw q, .inr k, _, L, cells + 1, slots + 6, a1, a2, ⟨q, ce, rfl, c1, c3, by rw [c2]; rfl⟩, ?_, hq, c4, c5, c6, by show _ ≤ _ + (h.1 + (h.2.1 + 1)); omega, by show _ ≤ _ + (h.2.2.1 + 6); omega⟩
    obtain ⟨e1, e2, e3, e4, e5⟩ := hH
    refine ⟨fun a e9 ha => ?_, fun h0 => absurd h0 (Nat.succ_ne_zero _), by omega, fun q hq => by rw [b2 q (by omega)]; exact e4 q hq, by show h.1 + (h.2.1 + 1) ≤ jCM; omega, by show h.2.2.1 + 6 ≤ jSM; omega⟩
    obtain ⟨cell, g1, -⟩ := jat_cell (e1 a e9 ha).2
    have hlt : a < H.size := (Array.getElem?_eq_some_iff.mp g1).1
    exact ⟨(e1 a e9 ha).1, jat_kept (e1 a e9 ha).2 (b2 a hlt)⟩
section JV
variable {ω : jw} {d : Nat} {x : jm} {pc : Nat} {ls : List (Option Value)} {st : List Value} {h : jh} {Q : jr → jh → Prop}
/-- an exception arises at pc -/
def jThr (ω : jw) (d : Nat) (x : jm) (pc : Nat) (ls : List (Option Value)) (k : Nat) (h : jh) (Q : jr → jh → Prop) : Prop :=
  (x.2.2.2.2 = [] ∧ Q (.inr k) h) ∨ ∃ tgt : Nat, jHd x pc k tgt ∧ ∀ a : Nat, jj ω d x tgt ls [.ref a] h Q
def jk (ω : jw) (d : Nat) (x : jm) (pc : Nat) (ls : List (Option Value)) (st : List Value) (Q : jr → jh → Prop) : jr → jh → Prop := fun r h' => match r with
  | .inl v => jj ω d x (pc + 3) ls (v.toList ++ st) h' Q
  | .inr k => jThr ω d x pc ls k h' Q
def jCV (own : String) (idx : Nat) (C : String) (y : jm) (n : Nat) : Prop := (Cond.methodLink own idx y.1 ∈ jWS ∨ ∃ host : String, Cond.methodLinkNest own idx y.1 host ∈ jWS) ∧ Cond.instanceMethod y.1 ∈ jWS ∧ Cond.selects C y.1 y.1 ∈ jWS ∧ jMth y ∧
  (y.1.cls ≠ "java/lang/invoke/MethodHandle" ∧ y.1.cls ≠ "java/lang/invoke/VarHandle") ∧ (parseMethodDescriptor y.1.desc).map (fun d => d.parameters.length) = some n
def jCS (own : String) (idx : Nat) (y : jm) (n : Nat) : Prop := (Cond.methodLink own idx y.1 ∈ jWS ∨ ∃ host : String, Cond.methodLinkNest own idx y.1 host ∈ jWS) ∧ Cond.static y.1 ∈ jWS ∧ Cond.initialized y.1.cls ∈ jWS ∧ jMth y ∧
  (y.1.cls ≠ "java/lang/invoke/MethodHandle" ∧ y.1.cls ≠ "java/lang/invoke/VarHandle") ∧ (parseMethodDescriptor y.1.desc).map (fun d => d.parameters.length) = some n
def jCI (own : String) (idx : Nat) (y : jm) (n : Nat) : Prop := (Cond.methodLink own idx y.1 ∈ jWS ∨ ∃ host : String, Cond.methodLinkNest own idx y.1 host ∈ jWS) ∧ Cond.instanceMethod y.1 ∈ jWS ∧ (jMth y ∧ y.2.2.2.2 = [] ∧ y.2.2.2.1 = none ∧ Cond.code y.1 y.2.1 y.2.2.1 none ∈ jWS ∧ y.1.name = "<init>") ∧
  (y.1.cls ≠ "java/lang/invoke/MethodHandle" ∧ y.1.cls ≠ "java/lang/invoke/VarHandle") ∧ (parseMethodDescriptor y.1.desc).map (fun d => d.parameters.length) = some n
theorem jlenD {y : jm} {n : Nat} (h : (parseMethodDescriptor y.1.desc).map (fun d => d.parameters.length) = some n) : ∀ sig, parseMethodDescriptor y.1.desc = some sig → n = sig.parameters.length := by
  intro sig hs
  rw [hs] at h
  exact (Option.some.inj h).symm
/-- behind any call -/
theorem jback {p : Program} {e : Env} {R : Room} {s : State} {m : MethodId} {args : Array Value} {below : List Frame} {meth : Method} {c : Code} {T : State} {locs : List Loc} {cells slots : Nat} {lsm : Array Slot}
    (X : Stand p (jl ω) e R s m args below meth c T locs cells slots) (C : jC ω (d + 1) x p e R s m args meth c) (hH : jHR ω h T.heap) (hL : ∀ q ∈ locs, jN ω ≤ q.base) (hc : cells + jCM ≤ R.cells + (h.1 + h.2.1)) (hs : slots + jSM ≤ R.slots + h.2.2.1) (hls : jLs ls lsm) (hlen : ls.length = x.2.2.1)
    (hst : st.length ≤ 10) {ig : Instr} (hdg : decode c.code pc = .ok (ig, 3)) {mk : MethodId} {y : jm} {av : List Value} (hn : s.methodNamed? y.1 = some mk) (hy : jMth y) (hk : jwp ω d y av h (jk ω (d + 1) x pc ls st Q)) :
    ∃ t, (∀ acts, Steps p.tables e below (doInvoke e (T.setTop (F0 m pc lsm st)) acts mk av.toArray).1 t) ∧ jEnd ω R s below Q t := by
  have hsz : lsm.size = c.maxLocals := by
    obtain ⟨lv, hv, -⟩ := hls
    rw [hv.1, hlen, C.2.2.1]
  refine jcall X C hH hL hc hs (g := F0 m pc lsm st) rfl hsz rfl hst hdg hn hy hk ?_ ?_
  · intro v h' T' locs' cells' slots' hq X' hH' hL' hc' hs'
    exact hq p e R s m args below meth c C T'.heap locs' cells' slots' lsm hH' hL' hc' hs' hls hlen T' rfl X'
  · intro kx a cell h' T' locs' cells' slots' hq X' hH' hL' hc' hs' b1 b2 b3
    rcases hq with ⟨hx, hq⟩ | ⟨tgt, hd, hq⟩
    · exact jleave X' C hx hH' hL' hc' hs' (g := F0 m pc lsm st) rfl rfl rfl b1 b2 b3 hq
    · obtain ⟨vm', X2, st2⟩ := jcatch X' C (g := F0 m pc lsm st) hd a rfl b1 b2 b3
      obtain ⟨t, st3, hG⟩ := hq a p e R s m args below meth c C T'.heap locs' cells' slots' lsm hH' hL' hc' hs' hls hlen (T'.setVm vm') rfl X2
      exact ⟨t, st2 _ st3, hG⟩
theorem jj_V {idx a ci : Nat} {q : vw_C} {ty : Nat → FieldType} {fs av : List Value} {y : jm} (hd : decode x.2.1 pc = .ok (.invokevirtual idx, 3)) (cl : jCl ci q ty) (cv : jCV x.1.cls idx q.1 y av.length) (hf : h.2.2.2 a = some (.inr (ci, fs))) (hst : st.length ≤ 10) (hk : jwp ω d y (.ref a :: av) h (jk ω (d + 1) x pc ls st Q)) : jj ω (d + 1) x pc ls (av.reverse ++ .ref a :: st) h Q := by
  intro p e R s m args below meth c C H locs cells slots lsm hH hL hc hs hls hlen T hT X
  subst hT
  obtain ⟨hlk, hin, hsel, hy, hnm, hdn⟩ := cv
  obtain ⟨mk, methM, hnamed, hmethM, hstM, habM⟩ := Cond.instanceMethod_spec (C.wds _ hin)
  obtain ⟨methM', cM, hmethM', -, -, -, -, -, -, hsigM⟩ := hy.at hnamed C.wds
  cases hmethM.symm.trans hmethM'
  obtain ⟨c2, r2, m2, q1, q2, q3, q4, kP, hkP, hkPi⟩ := Cond.selects_spec (C.wds _ hsel)
  obtain ⟨r, g1, cellB, b1, b2, b3, -⟩ := (hH.1 a _ hf).2
  have hfc := (C.kn.1 ci _ cl.1).2.1
  have hcls : s.vm.findClass q.1 = some cellB.cls := by rw [b2]; exact hfc
  cases hcls.symm.trans q1
  cases (State.methodFound?_of_named hnamed hnm).symm.trans q2
  cases hnamed.symm.trans q3
  have hselP : selectMethod e.platform s.vm cellB.cls mk = .method mk := by rw [Launch.admits_selectMethod X.admits]; exact q4
  have hdg : decode c.code pc = .ok (.invokevirtual idx, 3) := by rw [C.2.1]; exact hd
  have hob : ∀ z, cellB.vm ≠ .statics z := fun z hz => by rw [b3] at hz; cases hz
  have hlen2 := jlenD hdn _ hsigM
  rcases hlk with hlk | ⟨host, hlk⟩
  · obtain ⟨vm₁, X₁, hstep⟩ := X.invokevirtual C.1 C.own (C.wds _ hlk) hnamed hmethM hstM hkP hkPi hnm (a := a) (cell := cellB) b1 hob hselP hmethM habM hkP hkPi (g := F0 m pc lsm (av.reverse ++ .ref a :: st)) rfl (argsL := av) (rest := st) hlen2 rfl hdg
    obtain ⟨t, ht, hG⟩ := jback X₁ C hH hL hc hs hls hlen hst hdg hnamed hy hk
    exact ⟨t, hstep t ht, hG⟩
  · obtain ⟨vm₁, X₁, hstep⟩ := X.invokevirtualNest C.1 C.own (C.wds _ hlk) hnamed hmethM hstM hkP hkPi hnm (a := a) (cell := cellB) b1 hob hselP hmethM habM hkP hkPi (g := F0 m pc lsm (av.reverse ++ .ref a :: st)) rfl (argsL := av) (rest := st) hlen2 rfl hdg
    obtain ⟨t, ht, hG⟩ := jback X₁ C hH hL hc hs hls hlen hst hdg hnamed hy hk
    exact ⟨t, hstep t ht, hG⟩
theorem jj_S {idx : Nat} {av : List Value} {y : jm} (hd : decode x.2.1 pc = .ok (.invokestatic idx, 3)) (cv : jCS x.1.cls idx y av.length) (hst : st.length ≤ 10) (hk : jwp ω d y av h (jk ω (d + 1) x pc ls st Q)) : jj ω (d + 1) x pc ls (av.reverse ++ st) h Q := by
  intro p e R s m args below meth c C H locs cells slots lsm hH hL hc hs hls hlen T hT X
  subst hT
  obtain ⟨hlk, hstat, hini, hy, hnm, hdn⟩ := cv
  obtain ⟨mk, hnamed⟩ : ∃ mk, s.methodNamed? y.1 = some mk := by
    rcases hy.2.2 with ⟨-, h1⟩ | h1
    · exact Cond.code_named (C.wds _ h1)
    · obtain ⟨m', -, -, g0, -⟩ := Cond.codeWith_spec (C.wds _ h1)
      exact ⟨m', g0⟩
  obtain ⟨methM, cM, hmethM, -, -, -, -, -, -, hsigM⟩ := hy.at hnamed C.wds
  have hstatic : methM.isStatic = true := Cond.static_spec hnamed hmethM (C.wds _ hstat)
  obtain ⟨kP, hkP, -⟩ := className_of_methodNamed hnamed
  have hinitP : kP.init = .initialized := Cond.initialized_spec (findClass_of_methodNamed hnamed) hkP (C.wds _ hini)
  have hdg : decode c.code pc = .ok (.invokestatic idx, 3) := by rw [C.2.1]; exact hd
  have hlen2 := jlenD hdn _ hsigM
  rcases hlk with hlk | ⟨host, hlk⟩
  · obtain ⟨vm₁, X₁, hstep⟩ := X.invokestatic C.1 C.own (C.wds _ hlk) hnamed hmethM hstatic hkP hinitP hnm (g := F0 m pc lsm (av.reverse ++ st)) rfl (argsL := av) (rest := st) hlen2 rfl hdg
    obtain ⟨t, ht, hG⟩ := jback X₁ C hH hL hc hs hls hlen hst hdg hnamed hy hk
    exact ⟨t, hstep t ht, hG⟩
  · obtain ⟨vm₁, X₁, hstep⟩ := X.invokestaticNest C.1 C.own (C.wds _ hlk) hnamed hmethM hstatic hkP hinitP hnm (g := F0 m pc lsm (av.reverse ++ st)) rfl (argsL := av) (rest := st) hlen2 rfl hdg
    obtain ⟨t, ht, hG⟩ := jback X₁ C hH hL hc hs hls hlen hst hdg hnamed hy hk
    exact ⟨t, hstep t ht, hG⟩
theorem jj_I {idx a : Nat} {av : List Value} {y : jm} (hd : decode x.2.1 pc = .ok (.invokespecial idx, 3)) (cv : jCI x.1.cls idx y av.length) (hst : st.length ≤ 10) (hk : jwp ω d y (.ref a :: av) h (jk ω (d + 1) x pc ls st Q)) : jj ω (d + 1) x pc ls (av.reverse ++ .ref a :: st) h Q := by
  intro p e R s m args below meth c C H locs cells slots lsm hH hL hc hs hls hlen T hT X
  subst hT
  obtain ⟨hlk, hin, ⟨hy, hy2, hy3, hy4, hy5⟩, hnm, hdn⟩ := cv
  have hpl : e.platform.magicAccessors = ({} : Platform).magicAccessors := by rw [X.admits.platform]
  have hdg : decode c.code pc = .ok (.invokespecial idx, 3) := by rw [C.2.1]; exact hd
  rcases hlk with hlk | ⟨host, hlk⟩
  · obtain ⟨mk, methM, cM, kP, vm₁, hnamed, -, -, -, -, -, -, -, hW₁, hstep⟩ := Steps.initColdArgs (e := e) X.here C.1 X.warmed hpl C.own hy5 hnm (C.wds _ hlk) (C.wds _ hin) (C.wds _ hy4) (f := F0 m pc lsm (av.reverse ++ .ref a :: st)) rfl (a := a) (argsL := av) (rest := st) (jlenD hdn) rfl hdg
    obtain ⟨t, ht, hG⟩ := jback (X.noted hW₁) C hH hL hc hs hls hlen hst hdg hnamed hy hk
    exact ⟨t, hstep t ht, hG⟩
  · obtain ⟨mk, methM, cM, kP, vm₁, hnamed, -, -, -, -, -, -, -, hW₁, hstep⟩ := Steps.initColdArgsNest (e := e) X.here C.1 X.warmed hpl C.own hy5 hnm (C.wds _ hlk) (C.wds _ hin) (C.wds _ hy4) (f := F0 m pc lsm (av.reverse ++ .ref a :: st)) rfl (a := a) (argsL := av) (rest := st) (jlenD hdn) rfl hdg
    obtain ⟨t, ht, hG⟩ := jback (X.noted hW₁) C hH hL hc hs hls hlen hst hdg hnamed hy hk
    exact ⟨t, hstep t ht, hG⟩
end JV
