/-! THE J LAYER: the machine's walk with all its context packed away. jw: the world (launch, first free address, heap below it, the tables' numbers, the script). jh: a pure heap (cells made, exceptions made, slots made, contents by address). jm: a method (name, code, locals, answer's type, handlers). jj: from this frame and pure heap the invocation comes to an end with Q. jwp: the same from a method's entry. -/
abbrev jw : Type := Launch × Nat × Heap × va_G × (Nat → ClassId) × Nat × Nat × (Nat → Int32)
abbrev jl (ω : jw) : Launch := ω.1
abbrev jN (ω : jw) : Nat := ω.2.1
abbrev jH (ω : jw) : Heap := ω.2.2.1
abbrev jD (ω : jw) : va_G := ω.2.2.2.1
abbrev jK (ω : jw) : Nat → ClassId := ω.2.2.2.2.1
abbrev jb (ω : jw) : Nat := ω.2.2.2.2.2.1
abbrev jL (ω : jw) : Nat := ω.2.2.2.2.2.2.1
abbrev jx (ω : jw) : Nat → Int32 := ω.2.2.2.2.2.2.2
abbrev jtys (ω : jw) : List (ClassId × FieldType) := [(jK ω 0, .int), (jK ω 1, .boolean), (jK ω 2, .long), (jK ω 3, .object jRL)]
abbrev jh : Type := Nat × Nat × Nat × (Nat → Option va_E)
abbrev jm : Type := MethodName × ByteArray × Nat × Option FieldType × List (Nat × Nat × Nat × Nat)
abbrev jr : Type := Option Value ⊕ Nat
/-- the names of the exceptions that are thrown -/
def jE : Nat → String
  | 0 => "java/lang/IndexOutOfBoundsException"
  | 1 => "java/lang/IllegalArgumentException"
  | 2 => "java/lang/IllegalStateException"
  | _ => "java/util/NoSuchElementException"
abbrev jCM : Nat := room_1.cells
abbrev jSM : Nat := room_1.slots
def jHR (ω : jw) (h : jh) (H : Heap) : Prop :=
  (∀ (a : Nat) (e : va_E), h.2.2.2 a = some e → jN ω ≤ a ∧ va_at (jD ω) vwCl (a, e) H) ∧ (h.2.1 = 0 → H.size = jN ω + h.1) ∧ jN ω ≤ H.size ∧
  (∀ q : Nat, q < jN ω → H[q]? = (jH ω)[q]?) ∧ h.1 + h.2.1 ≤ jCM ∧ h.2.2.1 ≤ jSM
def jOut (s t : State) (o : Outcome) (r : jr) : Prop := match r with
  | .inl v => o = .returned v
  | .inr k => ∃ (a : Addr) (cell : Cell), o = .threw a ∧ t.heap[a]? = some cell ∧ s.vm.findClass (jE k) = some cell.cls ∧ cell.vm.isStatics = false
def jLs (ls : List (Option Value)) (lsm : Array Slot) : Prop := ∃ lv : List (Nat × Value), lv_has lsm ls.length lv ∧ ∀ (i : Nat) (v : Value), ls[i]? = some (some v) → (i, v) ∈ lv ∧ v.category = 1
/-- what holds throughout an invocation of x in which d more calls may nest -/
def jW0 (ω : jw) (s : State) : Prop := jN ω ≤ s.heap.size ∧ (∀ q : Nat, q < jN ω → s.heap[q]? = (jH ω)[q]?) ∧ (jH ω).size = jN ω ∧ vx_Zq Bundle.tN "UNASSIGNED_STACK" Bundle.steD (fun q => jN ω ≤ q) s (jH ω) ∧ vx_Zq Bundle.tN "SUPPRESSED_SENTINEL" Bundle.listD (fun q => jN ω ≤ q) s (jH ω) ∧ ∀ a ∈ [0, 1, 2, 3], ∀ b ∈ [0, 1, 2, 3], a ≠ b → va_Nc (jE a) (jE b) s
def jC (ω : jw) (d : Nat) (x : jm) (p : Program) (e : Env) (R : Room) (s : State) (m : MethodId) (args : Array Value) (meth : Method) (c : Code) : Prop :=
  p.tables.exec = Jvm.exec ∧ c.code = x.2.1 ∧ c.maxLocals = x.2.2.1 ∧ meth.sig.returnType = x.2.2.2.1 ∧ meth.locks = false ∧ meth.name = x.1.name ∧
  c.exceptionTable.toList.map (fun h => (h.startPc, h.endPc, h.handlerPc, h.catchType)) = x.2.2.2.2 ∧ s.vm.findClass x.1.cls = some m.cls ∧
  (∀ w ∈ jWS, w.before args s = true) ∧ va_K (jD ω) vwCl (jtys ω) s ∧ va_X (jb ω) (jL ω) (jx ω) s (jH ω) ∧ jb ω < jN ω ∧ d + 8 ≤ R.frames ∧ 64 * d + 200 ≤ R.locals ∧ (jl ω).stackTraces = false ∧ jW0 ω s
def jEnd (ω : jw) (R : Room) (s : State) (below : List Frame) (Q : jr → jh → Prop) : State → Prop := fun t =>
  ∃ (o : Outcome) (r : jr) (h' : jh) (L : List Loc) (k n : Nat), t.status = .running ∧ Ended t below o ∧ jOut s t o r ∧ jHR ω h' t.heap ∧ Q r h' ∧ s.WarmedH t.vm ∧ s.sameButNew ({ t with vm := s.vm } : State) L k n ∧ (∀ q ∈ L, jN ω ≤ q.base) ∧ k + jCM ≤ R.cells + (h'.1 + h'.2.1) ∧ n + jSM ≤ R.slots + h'.2.2.1
def jj (ω : jw) (d : Nat) (x : jm) (pc : Nat) (ls : List (Option Value)) (st : List Value) (h : jh) (Q : jr → jh → Prop) : Prop :=
  ∀ (p : Program) (e : Env) (R : Room) (s : State) (m : MethodId) (args : Array Value) (below : List Frame) (meth : Method) (c : Code), jC ω d x p e R s m args meth c → ∀ (H : Heap) (locs : List Loc) (cells slots : Nat) (lsm : Array Slot),
    jHR ω h H → (∀ q ∈ locs, jN ω ≤ q.base) → cells + jCM ≤ R.cells + (h.1 + h.2.1) → slots + jSM ≤ R.slots + h.2.2.1 → jLs ls lsm → ls.length = x.2.2.1 →
    W p (jl ω) e R s m args below meth c H locs cells slots (jEnd ω R s below Q) (F0 m pc lsm st)
def jwp (ω : jw) (d : Nat) (x : jm) (av : List Value) (h : jh) (Q : jr → jh → Prop) : Prop :=
  ∀ (p : Program) (e : Env) (R : Room) (s : State) (m : MethodId) (below : List Frame) (meth : Method) (c : Code), jC ω d x p e R s m av.toArray meth c → jHR ω h s.heap → jCM ≤ R.cells + (h.1 + h.2.1) → jSM ≤ R.slots + h.2.2.1 →
    W p (jl ω) e R s m av.toArray below meth c s.heap [] 0 0 (jEnd ω R s below Q) (entryFrame m av.toArray x.2.2.1)
theorem jwp_mono {ω : jw} {d : Nat} {x : jm} {av : List Value} {h : jh} {Q Q' : jr → jh → Prop} (k : jwp ω d x av h Q) (hQ : ∀ r h', Q r h' → Q' r h') : jwp ω d x av h Q' := by
  intro p e R s m below meth c C hH hc hs T hT X
  obtain ⟨t, st, o, r, h', L, k, n, a1, a2, a3, a4, a5, a6⟩ := k p e R s m below meth c C hH hc hs T hT X
  exact ⟨t, st, o, r, h', L, k, n, a1, a2, a3, a4, hQ r h' a5, a6⟩
theorem jj_mono {ω : jw} {d : Nat} {x : jm} {pc : Nat} {ls : List (Option Value)} {st : List Value} {h : jh} {Q Q' : jr → jh → Prop} (k : jj ω d x pc ls st h Q) (hQ : ∀ r h', Q r h' → Q' r h') : jj ω d x pc ls st h Q' := by
  intro p e R s m args below meth c C H locs cells slots lsm hH hL hc hs hls hlen T hT X
  obtain ⟨t, st, o, r, h', L, k, n, a1, a2, a3, a4, a5, a6⟩ := k p e R s m args below meth c C H locs cells slots lsm hH hL hc hs hls hlen T hT X
  exact ⟨t, st, o, r, h', L, k, n, a1, a2, a3, a4, hQ r h' a5, a6⟩
theorem jC.down {ω : jw} {d : Nat} {x : jm} {p : Program} {e : Env} {R : Room} {s : State} {m : MethodId} {args : Array Value} {meth : Method} {c : Code} (C : jC ω (d + 1) x p e R s m args meth c) : jC ω d x p e R s m args meth c := by
  obtain ⟨h1, h2, h3, h4, h5, h6, h7, h8, h9, h10, h11, h12, h13, h14, h15⟩ := C
  exact ⟨h1, h2, h3, h4, h5, h6, h7, h8, h9, h10, h11, h12, by omega, by omega, h15⟩
theorem jwp_up {ω : jw} {d : Nat} {x : jm} {av : List Value} {h : jh} {Q : jr → jh → Prop} (k : jwp ω d x av h Q) : jwp ω (d + 1) x av h Q :=
  fun p e R s m below meth c C => k p e R s m below meth c C.down
theorem jwp_ups {ω : jw} {d : Nat} {x : jm} {av : List Value} {h : jh} {Q : jr → jh → Prop} (n : Nat) (k : jwp ω d x av h Q) : jwp ω (d + n) x av h Q := by
  induction n with
  | zero => exact k
  | succ n ih => exact jwp_up ih
theorem jwp_le {ω : jw} {d d' : Nat} {x : jm} {av : List Value} {h : jh} {Q : jr → jh → Prop} (k : jwp ω d x av h Q) (hd : d ≤ d') : jwp ω d' x av h Q := by
  obtain ⟨n, rfl⟩ := Nat.exists_eq_add_of_le hd
  exact jwp_ups n k
theorem jlv_args (vs : List Value) (hv : ∀ v ∈ vs, v.category = 1) : ∀ (i j : Nat) (v : Value), vs[j]? = some v → (i + j, v) ∈ lv_args i vs := by
  induction vs with
  | nil => intro i j v h; simp at h
  | cons w ws ih =>
    intro i j v h
    have hw : ¬ w.category = 2 := by rw [hv w List.mem_cons_self]; decide
    cases j with
    | zero =>
      simp at h
      subst h
      simp [lv_args]
    | succ j =>
      have h2 : ws[j]? = some v := by simpa using h
      have := ih (fun v hv2 => hv v (List.mem_cons_of_mem _ hv2)) (i + 1) j v h2
      simp only [lv_args, hw, if_false]
      exact List.mem_cons_of_mem _ (by rw [show i + (j + 1) = i + 1 + j by omega]; exact this)
theorem jlg_len (vs : List Value) (hv : ∀ v ∈ vs, v.category = 1) : (lg_sl vs).length = vs.length := by
  induction vs with
  | nil => rfl
  | cons w ws ih =>
    have hw : ¬ w.category = 2 := by rw [hv w List.mem_cons_self]; decide
    have h2 := ih (fun v hv2 => hv v (List.mem_cons_of_mem _ hv2))
    simp only [lg_sl, List.flatMap_cons, hw, if_false, List.length_append, List.length_cons, List.length_nil] at h2 ⊢
    omega
/-- a method's entry -/
theorem jwp_of {ω : jw} {d : Nat} {x : jm} {av : List Value} {ls : List (Option Value)} {h : jh} {Q : jr → jh → Prop} (hv : ∀ v ∈ av, v.category = 1) (hn : av.length ≤ x.2.2.1) (hls : av.map some ++ List.replicate (x.2.2.1 - av.length) none = ls) (k : jj ω d x 0 ls [] h Q) : jwp ω d x av h Q := by
  intro p e R s m below meth c C hH hc hs
  have h0 := jlg_len av hv
  rw [lg_entry_eq]
  have hl := lv_entry av (n := x.2.2.1) (by rw [h0]; exact hn)
  have hlen : ls.length = x.2.2.1 := by rw [← hls]; simp; omega
  refine k p e R s m av.toArray below meth c C s.heap [] 0 0 _ hH (fun q hq => by cases hq) (by omega) (by omega) ⟨_, by rw [hlen]; exact hl, fun i v hi => ?_⟩ hlen
  rw [← hls] at hi
  by_cases hlt : i < av.length
  · rw [List.getElem?_append_left (by simpa using hlt)] at hi
    have hi2 : av[i]? = some v := by
      rw [List.getElem?_map] at hi
      cases ha : av[i]? with
      | none => rw [ha] at hi; cases hi
      | some w => rw [ha] at hi; cases hi; rfl
    exact ⟨by simpa using jlv_args av hv 0 i v hi2, hv v (List.mem_of_getElem? hi2)⟩
  · rw [List.getElem?_append_right (by simpa using hlt)] at hi
    have := List.eq_of_mem_replicate (List.mem_of_getElem? hi)
    cases this
theorem jLs_set {ls : List (Option Value)} {lsm : Array Slot} {lv : List (Nat × Value)} {i : Nat} {v : Value} (hall : ∀ (i : Nat) (v : Value), ls[i]? = some (some v) → (i, v) ∈ lv ∧ v.category = 1) (hc : v.category = 1)
    (h' : lv_has lsm ls.length ((i, v) :: lv.filter (fun q => !(q.1 == i) && !(q.1 + 1 == i && q.2.category == 2)))) : jLs (ls.set i (some v)) lsm := by
  refine ⟨_, by rw [List.length_set]; exact h', fun j w hj => ?_⟩
  rw [List.getElem?_set] at hj
  by_cases hij : i = j
  · subst hij
    rw [if_pos rfl] at hj
    split at hj
    · cases hj
      exact ⟨List.mem_cons_self, hc⟩
    · cases hj
  · rw [if_neg hij] at hj
    obtain ⟨h1, h2⟩ := hall j w hj
    refine ⟨List.mem_cons_of_mem _ (List.mem_filter.mpr ⟨h1, ?_⟩), h2⟩
    have h3 : (j == i) = false := by simpa using Ne.symm hij
    simp [h3, h2]
section JR
variable {ω : jw} {d : Nat} {x : jm} {pc : Nat} {ls : List (Option Value)} {st : List Value} {h : jh} {Q : jr → jh → Prop}

theorem jj_iconst {n : Int} (v : Int32) (hd : decode x.2.1 pc = .ok (.iconst n, 1)) (hv : Int32.ofInt n = v) (k : jj ω d x (pc + 1) ls (.int v :: st) h Q) : jj ω d x pc ls st h Q := by
  intro p e R s m args below meth c C H locs cells slots lsm hH hL hc hs hls hlen
  exact lv_iconst C.1 C.2.1 hd hv (k p e R s m args below meth c C H locs cells slots lsm hH hL hc hs hls hlen)
theorem jj_bipush {n : Int} (v : Int32) (hd : decode x.2.1 pc = .ok (.bipush n, 2)) (hv : (Int8.ofInt n).toInt32 = v) (k : jj ω d x (pc + 2) ls (.int v :: st) h Q) : jj ω d x pc ls st h Q := by
  intro p e R s m args below meth c C H locs cells slots lsm hH hL hc hs hls hlen
  exact lv_bipush C.1 C.2.1 hd hv (k p e R s m args below meth c C H locs cells slots lsm hH hL hc hs hls hlen)
theorem jj_sipush {n : Int} (v : Int32) (hd : decode x.2.1 pc = .ok (.sipush n, 3)) (hv : (Int16.ofInt n).toInt32 = v) (k : jj ω d x (pc + 3) ls (.int v :: st) h Q) : jj ω d x pc ls st h Q := by
  intro p e R s m args below meth c C H locs cells slots lsm hH hL hc hs hls hlen
  exact lv_sipush C.1 C.2.1 hd hv (k p e R s m args below meth c C H locs cells slots lsm hH hL hc hs hls hlen)
theorem jj_iadd {a b : Int32} (hd : decode x.2.1 pc = .ok (.iadd, 1)) (k : jj ω d x (pc + 1) ls (.int (a + b) :: st) h Q) : jj ω d x pc ls (.int b :: .int a :: st) h Q := by
  intro p e R s m args below meth c C H locs cells slots lsm hH hL hc hs hls hlen
  exact lv_iadd C.1 C.2.1 hd (k p e R s m args below meth c C H locs cells slots lsm hH hL hc hs hls hlen)
theorem jj_isub {a b : Int32} (hd : decode x.2.1 pc = .ok (.isub, 1)) (k : jj ω d x (pc + 1) ls (.int (a - b) :: st) h Q) : jj ω d x pc ls (.int b :: .int a :: st) h Q := by
  intro p e R s m args below meth c C H locs cells slots lsm hH hL hc hs hls hlen
  exact lv_isub C.1 C.2.1 hd (k p e R s m args below meth c C H locs cells slots lsm hH hL hc hs hls hlen)
theorem jj_imul {a b : Int32} (hd : decode x.2.1 pc = .ok (.imul, 1)) (k : jj ω d x (pc + 1) ls (.int (a * b) :: st) h Q) : jj ω d x pc ls (.int b :: .int a :: st) h Q := by
  intro p e R s m args below meth c C H locs cells slots lsm hH hL hc hs hls hlen
  exact lv_imul C.1 C.2.1 hd (k p e R s m args below meth c C H locs cells slots lsm hH hL hc hs hls hlen)
theorem jj_iand {a b : Int32} (hd : decode x.2.1 pc = .ok (.iand, 1)) (k : jj ω d x (pc + 1) ls (.int (a &&& b) :: st) h Q) : jj ω d x pc ls (.int b :: .int a :: st) h Q := by
  intro p e R s m args below meth c C H locs cells slots lsm hH hL hc hs hls hlen
  exact lv_iand C.1 C.2.1 hd (k p e R s m args below meth c C H locs cells slots lsm hH hL hc hs hls hlen)
theorem jj_ior {a b : Int32} (hd : decode x.2.1 pc = .ok (.ior, 1)) (k : jj ω d x (pc + 1) ls (.int (a ||| b) :: st) h Q) : jj ω d x pc ls (.int b :: .int a :: st) h Q := by
  intro p e R s m args below meth c C H locs cells slots lsm hH hL hc hs hls hlen
  exact lv_ior C.1 C.2.1 hd (k p e R s m args below meth c C H locs cells slots lsm hH hL hc hs hls hlen)
theorem jj_ixor {a b : Int32} (hd : decode x.2.1 pc = .ok (.ixor, 1)) (k : jj ω d x (pc + 1) ls (.int (a ^^^ b) :: st) h Q) : jj ω d x pc ls (.int b :: .int a :: st) h Q := by
  intro p e R s m args below meth c C H locs cells slots lsm hH hL hc hs hls hlen
  exact lv_ixor C.1 C.2.1 hd (k p e R s m args below meth c C H locs cells slots lsm hH hL hc hs hls hlen)
theorem jj_ishl {a b : Int32} (hd : decode x.2.1 pc = .ok (.ishl, 1)) (k : jj ω d x (pc + 1) ls (.int (a <<< (b &&& 31)) :: st) h Q) : jj ω d x pc ls (.int b :: .int a :: st) h Q := by
  intro p e R s m args below meth c C H locs cells slots lsm hH hL hc hs hls hlen
  exact lv_ishl C.1 C.2.1 hd (k p e R s m args below meth c C H locs cells slots lsm hH hL hc hs hls hlen)
theorem jj_ishr {a b : Int32} (hd : decode x.2.1 pc = .ok (.ishr, 1)) (k : jj ω d x (pc + 1) ls (.int (a >>> (b &&& 31)) :: st) h Q) : jj ω d x pc ls (.int b :: .int a :: st) h Q := by
  intro p e R s m args below meth c C H locs cells slots lsm hH hL hc hs hls hlen
  exact lv_ishr C.1 C.2.1 hd (k p e R s m args below meth c C H locs cells slots lsm hH hL hc hs hls hlen)
theorem jj_irem {a b : Int32} (hd : decode x.2.1 pc = .ok (.irem, 1)) (hne : ¬ b = 0) (k : jj ω d x (pc + 1) ls (.int (a - a / b * b) :: st) h Q) : jj ω d x pc ls (.int b :: .int a :: st) h Q := by
  intro p e R s m args below meth c C H locs cells slots lsm hH hL hc hs hls hlen
  exact lv_irem C.1 C.2.1 hd hne (k p e R s m args below meth c C H locs cells slots lsm hH hL hc hs hls hlen)
theorem jj_iushr {a b : Int32} (hd : decode x.2.1 pc = .ok (.iushr, 1)) (k : jj ω d x (pc + 1) ls (.int ((a.toUInt32 >>> (b.toUInt32 &&& Int32.toUInt32 31)).toInt32) :: st) h Q) : jj ω d x pc ls (.int b :: .int a :: st) h Q := by
  intro p e R s m args below meth c C H locs cells slots lsm hH hL hc hs hls hlen
  exact lv_iushr C.1 C.2.1 hd rfl (k p e R s m args below meth c C H locs cells slots lsm hH hL hc hs hls hlen)
theorem jj_i2l {a : Int32} (hd : decode x.2.1 pc = .ok (.i2l, 1)) (k : jj ω d x (pc + 1) ls (.long a.toInt64 :: st) h Q) : jj ω d x pc ls (.int a :: st) h Q := by
  intro p e R s m args below meth c C H locs cells slots lsm hH hL hc hs hls hlen
  exact lv_i2l C.1 C.2.1 hd rfl (k p e R s m args below meth c C H locs cells slots lsm hH hL hc hs hls hlen)
theorem jj_dup {v : Value} (hd : decode x.2.1 pc = .ok (.dup, 1)) (hv : v.category = 1) (k : jj ω d x (pc + 1) ls (v :: v :: st) h Q) : jj ω d x pc ls (v :: st) h Q := by
  intro p e R s m args below meth c C H locs cells slots lsm hH hL hc hs hls hlen
  exact lv_dup C.1 C.2.1 hd hv (k p e R s m args below meth c C H locs cells slots lsm hH hL hc hs hls hlen)
theorem jj_pop {v : Value} (hd : decode x.2.1 pc = .ok (.pop, 1)) (hv : v.category = 1) (k : jj ω d x (pc + 1) ls st h Q) : jj ω d x pc ls (v :: st) h Q := by
  intro p e R s m args below meth c C H locs cells slots lsm hH hL hc hs hls hlen
  exact lv_pop C.1 C.2.1 hd hv (k p e R s m args below meth c C H locs cells slots lsm hH hL hc hs hls hlen)
theorem jj_dup_x1 {v w : Value} (hd : decode x.2.1 pc = .ok (.dup_x1, 1)) (hv : v.category = 1) (hw : w.category = 1) (k : jj ω d x (pc + 1) ls (v :: w :: v :: st) h Q) : jj ω d x pc ls (v :: w :: st) h Q := by
  intro p e R s m args below meth c C H locs cells slots lsm hH hL hc hs hls hlen
  exact lv_dup_x1 C.1 C.2.1 hd hv hw (k p e R s m args below meth c C H locs cells slots lsm hH hL hc hs hls hlen)
theorem jj_dup2 {v w : Value} (hd : decode x.2.1 pc = .ok (.dup2, 1)) (hv : v.category = 1) (hw : w.category = 1) (k : jj ω d x (pc + 1) ls (v :: w :: v :: w :: st) h Q) : jj ω d x pc ls (v :: w :: st) h Q := by
  intro p e R s m args below meth c C H locs cells slots lsm hH hL hc hs hls hlen
  exact lv_dup2_11 C.1 C.2.1 hd hv hw (k p e R s m args below meth c C H locs cells slots lsm hH hL hc hs hls hlen)
theorem jj_goto {off : Int} (tgt : Nat) (hd : decode x.2.1 pc = .ok (.goto off, 3)) (ht : (pc : Int) + off = (tgt : Int)) (k : jj ω d x tgt ls st h Q) : jj ω d x pc ls st h Q := by
  intro p e R s m args below meth c C H locs cells slots lsm hH hL hc hs hls hlen
  exact lv_goto C.1 C.2.1 hd ht (k p e R s m args below meth c C H locs cells slots lsm hH hL hc hs hls hlen)
theorem jj_if_eq {a : Int32} {off : Int} (tgt : Nat) (hd : decode x.2.1 pc = .ok (.ifCond .eq off, 3)) (ht : (pc : Int) + off = (tgt : Int)) (kt : a = 0 → jj ω d x tgt ls st h Q) (kf : ¬ a = 0 → jj ω d x (pc + 3) ls st h Q) : jj ω d x pc ls (.int a :: st) h Q := by
  intro p e R s m args below meth c C H locs cells slots lsm hH hL hc hs hls hlen
  exact lv_if_eq C.1 C.2.1 hd ht (fun q => ((kt q) p e R s m args below meth c C H locs cells slots lsm hH hL hc hs hls hlen)) (fun q => ((kf q) p e R s m args below meth c C H locs cells slots lsm hH hL hc hs hls hlen))
theorem jj_icmp_eq {a b : Int32} {off : Int} (tgt : Nat) (hd : decode x.2.1 pc = .ok (.if_icmp .eq off, 3)) (ht : (pc : Int) + off = (tgt : Int)) (kt : a = b → jj ω d x tgt ls st h Q) (kf : ¬ a = b → jj ω d x (pc + 3) ls st h Q) : jj ω d x pc ls (.int b :: .int a :: st) h Q := by
  intro p e R s m args below meth c C H locs cells slots lsm hH hL hc hs hls hlen
  exact lv_icmp_eq C.1 C.2.1 hd ht (fun q => ((kt q) p e R s m args below meth c C H locs cells slots lsm hH hL hc hs hls hlen)) (fun q => ((kf q) p e R s m args below meth c C H locs cells slots lsm hH hL hc hs hls hlen))
theorem jj_if_lt {a : Int32} {off : Int} (tgt : Nat) (hd : decode x.2.1 pc = .ok (.ifCond .lt off, 3)) (ht : (pc : Int) + off = (tgt : Int)) (kt : a < 0 → jj ω d x tgt ls st h Q) (kf : ¬ a < 0 → jj ω d x (pc + 3) ls st h Q) : jj ω d x pc ls (.int a :: st) h Q := by
  intro p e R s m args below meth c C H locs cells slots lsm hH hL hc hs hls hlen
  exact lv_if_lt C.1 C.2.1 hd ht (fun q => ((kt q) p e R s m args below meth c C H locs cells slots lsm hH hL hc hs hls hlen)) (fun q => ((kf q) p e R s m args below meth c C H locs cells slots lsm hH hL hc hs hls hlen))
theorem jj_icmp_lt {a b : Int32} {off : Int} (tgt : Nat) (hd : decode x.2.1 pc = .ok (.if_icmp .lt off, 3)) (ht : (pc : Int) + off = (tgt : Int)) (kt : a < b → jj ω d x tgt ls st h Q) (kf : ¬ a < b → jj ω d x (pc + 3) ls st h Q) : jj ω d x pc ls (.int b :: .int a :: st) h Q := by
  intro p e R s m args below meth c C H locs cells slots lsm hH hL hc hs hls hlen
  exact lv_icmp_lt C.1 C.2.1 hd ht (fun q => ((kt q) p e R s m args below meth c C H locs cells slots lsm hH hL hc hs hls hlen)) (fun q => ((kf q) p e R s m args below meth c C H locs cells slots lsm hH hL hc hs hls hlen))
theorem jj_if_ge {a : Int32} {off : Int} (tgt : Nat) (hd : decode x.2.1 pc = .ok (.ifCond .ge off, 3)) (ht : (pc : Int) + off = (tgt : Int)) (kt : 0 ≤ a → jj ω d x tgt ls st h Q) (kf : ¬ 0 ≤ a → jj ω d x (pc + 3) ls st h Q) : jj ω d x pc ls (.int a :: st) h Q := by
  intro p e R s m args below meth c C H locs cells slots lsm hH hL hc hs hls hlen
  exact lv_if_ge C.1 C.2.1 hd ht (fun q => ((kt q) p e R s m args below meth c C H locs cells slots lsm hH hL hc hs hls hlen)) (fun q => ((kf q) p e R s m args below meth c C H locs cells slots lsm hH hL hc hs hls hlen))
theorem jj_icmp_ge {a b : Int32} {off : Int} (tgt : Nat) (hd : decode x.2.1 pc = .ok (.if_icmp .ge off, 3)) (ht : (pc : Int) + off = (tgt : Int)) (kt : b ≤ a → jj ω d x tgt ls st h Q) (kf : ¬ b ≤ a → jj ω d x (pc + 3) ls st h Q) : jj ω d x pc ls (.int b :: .int a :: st) h Q := by
  intro p e R s m args below meth c C H locs cells slots lsm hH hL hc hs hls hlen
  exact lv_icmp_ge C.1 C.2.1 hd ht (fun q => ((kt q) p e R s m args below meth c C H locs cells slots lsm hH hL hc hs hls hlen)) (fun q => ((kf q) p e R s m args below meth c C H locs cells slots lsm hH hL hc hs hls hlen))
theorem jj_if_gt {a : Int32} {off : Int} (tgt : Nat) (hd : decode x.2.1 pc = .ok (.ifCond .gt off, 3)) (ht : (pc : Int) + off = (tgt : Int)) (kt : 0 < a → jj ω d x tgt ls st h Q) (kf : ¬ 0 < a → jj ω d x (pc + 3) ls st h Q) : jj ω d x pc ls (.int a :: st) h Q := by
  intro p e R s m args below meth c C H locs cells slots lsm hH hL hc hs hls hlen
  exact lv_if_gt C.1 C.2.1 hd ht (fun q => ((kt q) p e R s m args below meth c C H locs cells slots lsm hH hL hc hs hls hlen)) (fun q => ((kf q) p e R s m args below meth c C H locs cells slots lsm hH hL hc hs hls hlen))
theorem jj_icmp_gt {a b : Int32} {off : Int} (tgt : Nat) (hd : decode x.2.1 pc = .ok (.if_icmp .gt off, 3)) (ht : (pc : Int) + off = (tgt : Int)) (kt : b < a → jj ω d x tgt ls st h Q) (kf : ¬ b < a → jj ω d x (pc + 3) ls st h Q) : jj ω d x pc ls (.int b :: .int a :: st) h Q := by
  intro p e R s m args below meth c C H locs cells slots lsm hH hL hc hs hls hlen
  exact lv_icmp_gt C.1 C.2.1 hd ht (fun q => ((kt q) p e R s m args below meth c C H locs cells slots lsm hH hL hc hs hls hlen)) (fun q => ((kf q) p e R s m args below meth c C H locs cells slots lsm hH hL hc hs hls hlen))
theorem jj_if_le {a : Int32} {off : Int} (tgt : Nat) (hd : decode x.2.1 pc = .ok (.ifCond .le off, 3)) (ht : (pc : Int) + off = (tgt : Int)) (kt : a ≤ 0 → jj ω d x tgt ls st h Q) (kf : ¬ a ≤ 0 → jj ω d x (pc + 3) ls st h Q) : jj ω d x pc ls (.int a :: st) h Q := by
  intro p e R s m args below meth c C H locs cells slots lsm hH hL hc hs hls hlen
  exact lv_if_le C.1 C.2.1 hd ht (fun q => ((kt q) p e R s m args below meth c C H locs cells slots lsm hH hL hc hs hls hlen)) (fun q => ((kf q) p e R s m args below meth c C H locs cells slots lsm hH hL hc hs hls hlen))
theorem jj_icmp_le {a b : Int32} {off : Int} (tgt : Nat) (hd : decode x.2.1 pc = .ok (.if_icmp .le off, 3)) (ht : (pc : Int) + off = (tgt : Int)) (kt : a ≤ b → jj ω d x tgt ls st h Q) (kf : ¬ a ≤ b → jj ω d x (pc + 3) ls st h Q) : jj ω d x pc ls (.int b :: .int a :: st) h Q := by
  intro p e R s m args below meth c C H locs cells slots lsm hH hL hc hs hls hlen
  exact lv_icmp_le C.1 C.2.1 hd ht (fun q => ((kt q) p e R s m args below meth c C H locs cells slots lsm hH hL hc hs hls hlen)) (fun q => ((kf q) p e R s m args below meth c C H locs cells slots lsm hH hL hc hs hls hlen))
theorem jj_if_ne {a : Int32} {off : Int} (tgt : Nat) (hd : decode x.2.1 pc = .ok (.ifCond .ne off, 3)) (ht : (pc : Int) + off = (tgt : Int)) (kt : ¬ a = 0 → jj ω d x tgt ls st h Q) (kf : a = 0 → jj ω d x (pc + 3) ls st h Q) : jj ω d x pc ls (.int a :: st) h Q := by
  intro p e R s m args below meth c C H locs cells slots lsm hH hL hc hs hls hlen
  exact lv_if_ne C.1 C.2.1 hd ht (fun q => ((kt q) p e R s m args below meth c C H locs cells slots lsm hH hL hc hs hls hlen)) (fun q => ((kf q) p e R s m args below meth c C H locs cells slots lsm hH hL hc hs hls hlen))
theorem jj_icmp_ne {a b : Int32} {off : Int} (tgt : Nat) (hd : decode x.2.1 pc = .ok (.if_icmp .ne off, 3)) (ht : (pc : Int) + off = (tgt : Int)) (kt : ¬ a = b → jj ω d x tgt ls st h Q) (kf : a = b → jj ω d x (pc + 3) ls st h Q) : jj ω d x pc ls (.int b :: .int a :: st) h Q := by
  intro p e R s m args below meth c C H locs cells slots lsm hH hL hc hs hls hlen
  exact lv_icmp_ne C.1 C.2.1 hd ht (fun q => ((kt q) p e R s m args below meth c C H locs cells slots lsm hH hL hc hs hls hlen)) (fun q => ((kf q) p e R s m args below meth c C H locs cells slots lsm hH hL hc hs hls hlen))
end JR
section JL
variable {ω : jw} {d : Nat} {x : jm} {pc : Nat} {st : List Value} {h : jh} {Q : jr → jh → Prop} {r : List (Option Value)} {l0 l1 l2 l3 l4 l5 l6 l7 l8 l9 : Option Value}
theorem jLs_get {ls : List (Option Value)} {lsm : Array Slot} (hls : jLs ls lsm) {i : Nat} {v : Value} (hi : ls[i]? = some (some v)) : lsm[i]? = some (.val v) := by
  obtain ⟨lv, h1, h2⟩ := hls
  exact h1.2.2 (i, v) (h2 i v hi).1
theorem jj_ist {ls : List (Option Value)} {i n : Nat} {v : Int32} (hd : (∃ k : Fin 4, decode x.2.1 pc = .ok (.istore_n k, 1) ∧ (k : Nat) = i ∧ n = 1) ∨ (decode x.2.1 pc = .ok (.istore i, 2) ∧ n = 2)) (hi : i < ls.length) (k : jj ω d x (pc + n) (ls.set i (some (.int v))) st h Q) : jj ω d x pc ls (.int v :: st) h Q := by
  intro p e R s m args below meth c C H locs cells slots lsm hH hL hc hs hls hlen
  obtain ⟨lv, h1, h2⟩ := hls
  have hk : ∀ ls' : Array Slot, lv_has ls' ls.length ((i, Value.int v) :: lv.filter (fun q => !(q.1 == i) && !(q.1 + 1 == i && q.2.category == 2))) → W p (jl ω) e R s m args below meth c H locs cells slots (jEnd ω R s below Q) (F0 m (pc + n) ls' st) :=
    fun ls' h' => k p e R s m args below meth c C H locs cells slots ls' hH hL hc hs (jLs_set h2 rfl h') (by rw [List.length_set]; exact hlen)
  rcases hd with ⟨kf, hd, hkf, rfl⟩ | ⟨hd, rfl⟩
  · exact lv_istore_n C.1 C.2.1 hd hkf h1 hi rfl hk
  · exact lv_istore C.1 C.2.1 hd h1 hi rfl hk
theorem jj_ast {ls : List (Option Value)} {i n : Nat} {v : Nat} (hd : (∃ k : Fin 4, decode x.2.1 pc = .ok (.astore_n k, 1) ∧ (k : Nat) = i ∧ n = 1) ∨ (decode x.2.1 pc = .ok (.astore i, 2) ∧ n = 2)) (hi : i < ls.length) (k : jj ω d x (pc + n) (ls.set i (some (.ref v))) st h Q) : jj ω d x pc ls (.ref v :: st) h Q := by
  intro p e R s m args below meth c C H locs cells slots lsm hH hL hc hs hls hlen
  obtain ⟨lv, h1, h2⟩ := hls
  have hk : ∀ ls' : Array Slot, lv_has ls' ls.length ((i, Value.ref v) :: lv.filter (fun q => !(q.1 == i) && !(q.1 + 1 == i && q.2.category == 2))) → W p (jl ω) e R s m args below meth c H locs cells slots (jEnd ω R s below Q) (F0 m (pc + n) ls' st) :=
    fun ls' h' => k p e R s m args below meth c C H locs cells slots ls' hH hL hc hs (jLs_set h2 rfl h') (by rw [List.length_set]; exact hlen)
  rcases hd with ⟨kf, hd, hkf, rfl⟩ | ⟨hd, rfl⟩
  · exact lv_astore_n C.1 C.2.1 hd hkf h1 hi rfl hk
  · exact lv_astore C.1 C.2.1 hd h1 hi rfl hk
theorem jj_inc {ls : List (Option Value)} {i : Nat} {n : Int} {v : Int32} (hd : decode x.2.1 pc = .ok (.iinc i n, 3)) (hi : ls[i]? = some (some (.int v))) (k : jj ω d x (pc + 3) (ls.set i (some (.int (v + Int32.ofInt n)))) st h Q) : jj ω d x pc ls st h Q := by
  intro p e R s m args below meth c C H locs cells slots lsm hH hL hc hs hls hlen
  obtain ⟨lv, h1, h2⟩ := hls
  obtain ⟨j, hj⟩ := List.getElem?_of_mem (h2 i _ hi).1
  have hlt : i < ls.length := (List.getElem?_eq_some_iff.mp hi).1
  exact lv_iinc C.1 C.2.1 hd h1 hj rfl hlt rfl (fun ls' h' => k p e R s m args below meth c C H locs cells slots ls' hH hL hc hs (jLs_set h2 rfl h') (by rw [List.length_set]; exact hlen))
theorem jj_il0 {v : Int32} (hd : decode x.2.1 pc = .ok (.iload_n 0, 1)) (k : jj ω d x (pc + 1) (some (.int v) :: r) (.int v :: st) h Q) : jj ω d x pc (some (.int v) :: r) st h Q := by
  intro p e R s m args below meth c C H locs cells slots lsm hH hL hc hs hls hlen
  exact lv_iload_n C.1 C.2.1 hd rfl (jLs_get hls (i := 0) rfl) (k p e R s m args below meth c C H locs cells slots lsm hH hL hc hs hls hlen)
theorem jj_al0 {v : Nat} (hd : decode x.2.1 pc = .ok (.aload_n 0, 1)) (k : jj ω d x (pc + 1) (some (.ref v) :: r) (.ref v :: st) h Q) : jj ω d x pc (some (.ref v) :: r) st h Q := by
  intro p e R s m args below meth c C H locs cells slots lsm hH hL hc hs hls hlen
  exact lv_aload_n C.1 C.2.1 hd rfl (jLs_get hls (i := 0) rfl) (k p e R s m args below meth c C H locs cells slots lsm hH hL hc hs hls hlen)
theorem jj_is0 {v : Int32} (hd : decode x.2.1 pc = .ok (.istore_n 0, 1)) (k : jj ω d x (pc + 1) (some (.int v) :: r) st h Q) : jj ω d x pc (l0 :: r) (.int v :: st) h Q :=
  jj_ist (i := 0) (n := 1) (Or.inl ⟨0, hd, rfl, rfl⟩) (by simp) k
theorem jj_as0 {v : Nat} (hd : decode x.2.1 pc = .ok (.astore_n 0, 1)) (k : jj ω d x (pc + 1) (some (.ref v) :: r) st h Q) : jj ω d x pc (l0 :: r) (.ref v :: st) h Q :=
  jj_ast (i := 0) (n := 1) (Or.inl ⟨0, hd, rfl, rfl⟩) (by simp) k
theorem jj_ii0 {v : Int32} {n : Int} (w : Int32) (hd : decode x.2.1 pc = .ok (.iinc 0 n, 3)) (hw : v + Int32.ofInt n = w) (k : jj ω d x (pc + 3) (some (.int w) :: r) st h Q) : jj ω d x pc (some (.int v) :: r) st h Q := by
  subst hw
  exact jj_inc (i := 0) hd rfl k
theorem jj_il1 {v : Int32} (hd : decode x.2.1 pc = .ok (.iload_n 1, 1)) (k : jj ω d x (pc + 1) (l0 :: some (.int v) :: r) (.int v :: st) h Q) : jj ω d x pc (l0 :: some (.int v) :: r) st h Q := by
  intro p e R s m args below meth c C H locs cells slots lsm hH hL hc hs hls hlen
  exact lv_iload_n C.1 C.2.1 hd rfl (jLs_get hls (i := 1) rfl) (k p e R s m args below meth c C H locs cells slots lsm hH hL hc hs hls hlen)
theorem jj_al1 {v : Nat} (hd : decode x.2.1 pc = .ok (.aload_n 1, 1)) (k : jj ω d x (pc + 1) (l0 :: some (.ref v) :: r) (.ref v :: st) h Q) : jj ω d x pc (l0 :: some (.ref v) :: r) st h Q := by
  intro p e R s m args below meth c C H locs cells slots lsm hH hL hc hs hls hlen
  exact lv_aload_n C.1 C.2.1 hd rfl (jLs_get hls (i := 1) rfl) (k p e R s m args below meth c C H locs cells slots lsm hH hL hc hs hls hlen)
theorem jj_is1 {v : Int32} (hd : decode x.2.1 pc = .ok (.istore_n 1, 1)) (k : jj ω d x (pc + 1) (l0 :: some (.int v) :: r) st h Q) : jj ω d x pc (l0 :: l1 :: r) (.int v :: st) h Q :=
  jj_ist (i := 1) (n := 1) (Or.inl ⟨1, hd, rfl, rfl⟩) (by simp) k
theorem jj_as1 {v : Nat} (hd : decode x.2.1 pc = .ok (.astore_n 1, 1)) (k : jj ω d x (pc + 1) (l0 :: some (.ref v) :: r) st h Q) : jj ω d x pc (l0 :: l1 :: r) (.ref v :: st) h Q :=
  jj_ast (i := 1) (n := 1) (Or.inl ⟨1, hd, rfl, rfl⟩) (by simp) k
theorem jj_ii1 {v : Int32} {n : Int} (w : Int32) (hd : decode x.2.1 pc = .ok (.iinc 1 n, 3)) (hw : v + Int32.ofInt n = w) (k : jj ω d x (pc + 3) (l0 :: some (.int w) :: r) st h Q) : jj ω d x pc (l0 :: some (.int v) :: r) st h Q := by
  subst hw
  exact jj_inc (i := 1) hd rfl k
theorem jj_il2 {v : Int32} (hd : decode x.2.1 pc = .ok (.iload_n 2, 1)) (k : jj ω d x (pc + 1) (l0 :: l1 :: some (.int v) :: r) (.int v :: st) h Q) : jj ω d x pc (l0 :: l1 :: some (.int v) :: r) st h Q := by
  intro p e R s m args below meth c C H locs cells slots lsm hH hL hc hs hls hlen
  exact lv_iload_n C.1 C.2.1 hd rfl (jLs_get hls (i := 2) rfl) (k p e R s m args below meth c C H locs cells slots lsm hH hL hc hs hls hlen)
theorem jj_al2 {v : Nat} (hd : decode x.2.1 pc = .ok (.aload_n 2, 1)) (k : jj ω d x (pc + 1) (l0 :: l1 :: some (.ref v) :: r) (.ref v :: st) h Q) : jj ω d x pc (l0 :: l1 :: some (.ref v) :: r) st h Q := by
  intro p e R s m args below meth c C H locs cells slots lsm hH hL hc hs hls hlen
  exact lv_aload_n C.1 C.2.1 hd rfl (jLs_get hls (i := 2) rfl) (k p e R s m args below meth c C H locs cells slots lsm hH hL hc hs hls hlen)
theorem jj_is2 {v : Int32} (hd : decode x.2.1 pc = .ok (.istore_n 2, 1)) (k : jj ω d x (pc + 1) (l0 :: l1 :: some (.int v) :: r) st h Q) : jj ω d x pc (l0 :: l1 :: l2 :: r) (.int v :: st) h Q :=
  jj_ist (i := 2) (n := 1) (Or.inl ⟨2, hd, rfl, rfl⟩) (by simp) k
theorem jj_as2 {v : Nat} (hd : decode x.2.1 pc = .ok (.astore_n 2, 1)) (k : jj ω d x (pc + 1) (l0 :: l1 :: some (.ref v) :: r) st h Q) : jj ω d x pc (l0 :: l1 :: l2 :: r) (.ref v :: st) h Q :=
  jj_ast (i := 2) (n := 1) (Or.inl ⟨2, hd, rfl, rfl⟩) (by simp) k
theorem jj_ii2 {v : Int32} {n : Int} (w : Int32) (hd : decode x.2.1 pc = .ok (.iinc 2 n, 3)) (hw : v + Int32.ofInt n = w) (k : jj ω d x (pc + 3) (l0 :: l1 :: some (.int w) :: r) st h Q) : jj ω d x pc (l0 :: l1 :: some (.int v) :: r) st h Q := by
  subst hw
  exact jj_inc (i := 2) hd rfl k
theorem jj_il3 {v : Int32} (hd : decode x.2.1 pc = .ok (.iload_n 3, 1)) (k : jj ω d x (pc + 1) (l0 :: l1 :: l2 :: some (.int v) :: r) (.int v :: st) h Q) : jj ω d x pc (l0 :: l1 :: l2 :: some (.int v) :: r) st h Q := by
  intro p e R s m args below meth c C H locs cells slots lsm hH hL hc hs hls hlen
  exact lv_iload_n C.1 C.2.1 hd rfl (jLs_get hls (i := 3) rfl) (k p e R s m args below meth c C H locs cells slots lsm hH hL hc hs hls hlen)
theorem jj_al3 {v : Nat} (hd : decode x.2.1 pc = .ok (.aload_n 3, 1)) (k : jj ω d x (pc + 1) (l0 :: l1 :: l2 :: some (.ref v) :: r) (.ref v :: st) h Q) : jj ω d x pc (l0 :: l1 :: l2 :: some (.ref v) :: r) st h Q := by
  intro p e R s m args below meth c C H locs cells slots lsm hH hL hc hs hls hlen
  exact lv_aload_n C.1 C.2.1 hd rfl (jLs_get hls (i := 3) rfl) (k p e R s m args below meth c C H locs cells slots lsm hH hL hc hs hls hlen)
theorem jj_is3 {v : Int32} (hd : decode x.2.1 pc = .ok (.istore_n 3, 1)) (k : jj ω d x (pc + 1) (l0 :: l1 :: l2 :: some (.int v) :: r) st h Q) : jj ω d x pc (l0 :: l1 :: l2 :: l3 :: r) (.int v :: st) h Q :=
  jj_ist (i := 3) (n := 1) (Or.inl ⟨3, hd, rfl, rfl⟩) (by simp) k
theorem jj_as3 {v : Nat} (hd : decode x.2.1 pc = .ok (.astore_n 3, 1)) (k : jj ω d x (pc + 1) (l0 :: l1 :: l2 :: some (.ref v) :: r) st h Q) : jj ω d x pc (l0 :: l1 :: l2 :: l3 :: r) (.ref v :: st) h Q :=
  jj_ast (i := 3) (n := 1) (Or.inl ⟨3, hd, rfl, rfl⟩) (by simp) k
theorem jj_ii3 {v : Int32} {n : Int} (w : Int32) (hd : decode x.2.1 pc = .ok (.iinc 3 n, 3)) (hw : v + Int32.ofInt n = w) (k : jj ω d x (pc + 3) (l0 :: l1 :: l2 :: some (.int w) :: r) st h Q) : jj ω d x pc (l0 :: l1 :: l2 :: some (.int v) :: r) st h Q := by
  subst hw
  exact jj_inc (i := 3) hd rfl k
theorem jj_il4 {v : Int32} (hd : decode x.2.1 pc = .ok (.iload 4, 2)) (k : jj ω d x (pc + 2) (l0 :: l1 :: l2 :: l3 :: some (.int v) :: r) (.int v :: st) h Q) : jj ω d x pc (l0 :: l1 :: l2 :: l3 :: some (.int v) :: r) st h Q := by
  intro p e R s m args below meth c C H locs cells slots lsm hH hL hc hs hls hlen
  exact lv_iload C.1 C.2.1 hd (jLs_get hls (i := 4) rfl) (k p e R s m args below meth c C H locs cells slots lsm hH hL hc hs hls hlen)
theorem jj_al4 {v : Nat} (hd : decode x.2.1 pc = .ok (.aload 4, 2)) (k : jj ω d x (pc + 2) (l0 :: l1 :: l2 :: l3 :: some (.ref v) :: r) (.ref v :: st) h Q) : jj ω d x pc (l0 :: l1 :: l2 :: l3 :: some (.ref v) :: r) st h Q := by
  intro p e R s m args below meth c C H locs cells slots lsm hH hL hc hs hls hlen
  exact lv_aload C.1 C.2.1 hd (jLs_get hls (i := 4) rfl) (k p e R s m args below meth c C H locs cells slots lsm hH hL hc hs hls hlen)
theorem jj_is4 {v : Int32} (hd : decode x.2.1 pc = .ok (.istore 4, 2)) (k : jj ω d x (pc + 2) (l0 :: l1 :: l2 :: l3 :: some (.int v) :: r) st h Q) : jj ω d x pc (l0 :: l1 :: l2 :: l3 :: l4 :: r) (.int v :: st) h Q :=
  jj_ist (i := 4) (n := 2) (Or.inr ⟨hd, rfl⟩) (by simp) k
theorem jj_as4 {v : Nat} (hd : decode x.2.1 pc = .ok (.astore 4, 2)) (k : jj ω d x (pc + 2) (l0 :: l1 :: l2 :: l3 :: some (.ref v) :: r) st h Q) : jj ω d x pc (l0 :: l1 :: l2 :: l3 :: l4 :: r) (.ref v :: st) h Q :=
  jj_ast (i := 4) (n := 2) (Or.inr ⟨hd, rfl⟩) (by simp) k
theorem jj_ii4 {v : Int32} {n : Int} (w : Int32) (hd : decode x.2.1 pc = .ok (.iinc 4 n, 3)) (hw : v + Int32.ofInt n = w) (k : jj ω d x (pc + 3) (l0 :: l1 :: l2 :: l3 :: some (.int w) :: r) st h Q) : jj ω d x pc (l0 :: l1 :: l2 :: l3 :: some (.int v) :: r) st h Q := by
  subst hw
  exact jj_inc (i := 4) hd rfl k
theorem jj_il5 {v : Int32} (hd : decode x.2.1 pc = .ok (.iload 5, 2)) (k : jj ω d x (pc + 2) (l0 :: l1 :: l2 :: l3 :: l4 :: some (.int v) :: r) (.int v :: st) h Q) : jj ω d x pc (l0 :: l1 :: l2 :: l3 :: l4 :: some (.int v) :: r) st h Q := by
  intro p e R s m args below meth c C H locs cells slots lsm hH hL hc hs hls hlen
  exact lv_iload C.1 C.2.1 hd (jLs_get hls (i := 5) rfl) (k p e R s m args below meth c C H locs cells slots lsm hH hL hc hs hls hlen)
theorem jj_al5 {v : Nat} (hd : decode x.2.1 pc = .ok (.aload 5, 2)) (k : jj ω d x (pc + 2) (l0 :: l1 :: l2 :: l3 :: l4 :: some (.ref v) :: r) (.ref v :: st) h Q) : jj ω d x pc (l0 :: l1 :: l2 :: l3 :: l4 :: some (.ref v) :: r) st h Q := by
  intro p e R s m args below meth c C H locs cells slots lsm hH hL hc hs hls hlen
  exact lv_aload C.1 C.2.1 hd (jLs_get hls (i := 5) rfl) (k p e R s m args below meth c C H locs cells slots lsm hH hL hc hs hls hlen)
theorem jj_is5 {v : Int32} (hd : decode x.2.1 pc = .ok (.istore 5, 2)) (k : jj ω d x (pc + 2) (l0 :: l1 :: l2 :: l3 :: l4 :: some (.int v) :: r) st h Q) : jj ω d x pc (l0 :: l1 :: l2 :: l3 :: l4 :: l5 :: r) (.int v :: st) h Q :=
  jj_ist (i := 5) (n := 2) (Or.inr ⟨hd, rfl⟩) (by simp) k
theorem jj_as5 {v : Nat} (hd : decode x.2.1 pc = .ok (.astore 5, 2)) (k : jj ω d x (pc + 2) (l0 :: l1 :: l2 :: l3 :: l4 :: some (.ref v) :: r) st h Q) : jj ω d x pc (l0 :: l1 :: l2 :: l3 :: l4 :: l5 :: r) (.ref v :: st) h Q :=
  jj_ast (i := 5) (n := 2) (Or.inr ⟨hd, rfl⟩) (by simp) k
theorem jj_ii5 {v : Int32} {n : Int} (w : Int32) (hd : decode x.2.1 pc = .ok (.iinc 5 n, 3)) (hw : v + Int32.ofInt n = w) (k : jj ω d x (pc + 3) (l0 :: l1 :: l2 :: l3 :: l4 :: some (.int w) :: r) st h Q) : jj ω d x pc (l0 :: l1 :: l2 :: l3 :: l4 :: some (.int v) :: r) st h Q := by
  subst hw
  exact jj_inc (i := 5) hd rfl k
theorem jj_il6 {v : Int32} (hd : decode x.2.1 pc = .ok (.iload 6, 2)) (k : jj ω d x (pc + 2) (l0 :: l1 :: l2 :: l3 :: l4 :: l5 :: some (.int v) :: r) (.int v :: st) h Q) : jj ω d x pc (l0 :: l1 :: l2 :: l3 :: l4 :: l5 :: some (.int v) :: r) st h Q := by
  intro p e R s m args below meth c C H locs cells slots lsm hH hL hc hs hls hlen
  exact lv_iload C.1 C.2.1 hd (jLs_get hls (i := 6) rfl) (k p e R s m args below meth c C H locs cells slots lsm hH hL hc hs hls hlen)
theorem jj_al6 {v : Nat} (hd : decode x.2.1 pc = .ok (.aload 6, 2)) (k : jj ω d x (pc + 2) (l0 :: l1 :: l2 :: l3 :: l4 :: l5 :: some (.ref v) :: r) (.ref v :: st) h Q) : jj ω d x pc (l0 :: l1 :: l2 :: l3 :: l4 :: l5 :: some (.ref v) :: r) st h Q := by
  intro p e R s m args below meth c C H locs cells slots lsm hH hL hc hs hls hlen
  exact lv_aload C.1 C.2.1 hd (jLs_get hls (i := 6) rfl) (k p e R s m args below meth c C H locs cells slots lsm hH hL hc hs hls hlen)
theorem jj_is6 {v : Int32} (hd : decode x.2.1 pc = .ok (.istore 6, 2)) (k : jj ω d x (pc + 2) (l0 :: l1 :: l2 :: l3 :: l4 :: l5 :: some (.int v) :: r) st h Q) : jj ω d x pc (l0 :: l1 :: l2 :: l3 :: l4 :: l5 :: l6 :: r) (.int v :: st) h Q :=
  jj_ist (i := 6) (n := 2) (Or.inr ⟨hd, rfl⟩) (by simp) k
theorem jj_as6 {v : Nat} (hd : decode x.2.1 pc = .ok (.astore 6, 2)) (k : jj ω d x (pc + 2) (l0 :: l1 :: l2 :: l3 :: l4 :: l5 :: some (.ref v) :: r) st h Q) : jj ω d x pc (l0 :: l1 :: l2 :: l3 :: l4 :: l5 :: l6 :: r) (.ref v :: st) h Q :=
  jj_ast (i := 6) (n := 2) (Or.inr ⟨hd, rfl⟩) (by simp) k
theorem jj_ii6 {v : Int32} {n : Int} (w : Int32) (hd : decode x.2.1 pc = .ok (.iinc 6 n, 3)) (hw : v + Int32.ofInt n = w) (k : jj ω d x (pc + 3) (l0 :: l1 :: l2 :: l3 :: l4 :: l5 :: some (.int w) :: r) st h Q) : jj ω d x pc (l0 :: l1 :: l2 :: l3 :: l4 :: l5 :: some (.int v) :: r) st h Q := by
  subst hw
  exact jj_inc (i := 6) hd rfl k
theorem jj_il7 {v : Int32} (hd : decode x.2.1 pc = .ok (.iload 7, 2)) (k : jj ω d x (pc + 2) (l0 :: l1 :: l2 :: l3 :: l4 :: l5 :: l6 :: some (.int v) :: r) (.int v :: st) h Q) : jj ω d x pc (l0 :: l1 :: l2 :: l3 :: l4 :: l5 :: l6 :: some (.int v) :: r) st h Q := by
  intro p e R s m args below meth c C H locs cells slots lsm hH hL hc hs hls hlen
  exact lv_iload C.1 C.2.1 hd (jLs_get hls (i := 7) rfl) (k p e R s m args below meth c C H locs cells slots lsm hH hL hc hs hls hlen)
theorem jj_al7 {v : Nat} (hd : decode x.2.1 pc = .ok (.aload 7, 2)) (k : jj ω d x (pc + 2) (l0 :: l1 :: l2 :: l3 :: l4 :: l5 :: l6 :: some (.ref v) :: r) (.ref v :: st) h Q) : jj ω d x pc (l0 :: l1 :: l2 :: l3 :: l4 :: l5 :: l6 :: some (.ref v) :: r) st h Q := by
  intro p e R s m args below meth c C H locs cells slots lsm hH hL hc hs hls hlen
  exact lv_aload C.1 C.2.1 hd (jLs_get hls (i := 7) rfl) (k p e R s m args below meth c C H locs cells slots lsm hH hL hc hs hls hlen)
theorem jj_is7 {v : Int32} (hd : decode x.2.1 pc = .ok (.istore 7, 2)) (k : jj ω d x (pc + 2) (l0 :: l1 :: l2 :: l3 :: l4 :: l5 :: l6 :: some (.int v) :: r) st h Q) : jj ω d x pc (l0 :: l1 :: l2 :: l3 :: l4 :: l5 :: l6 :: l7 :: r) (.int v :: st) h Q :=
  jj_ist (i := 7) (n := 2) (Or.inr ⟨hd, rfl⟩) (by simp) k
theorem jj_as7 {v : Nat} (hd : decode x.2.1 pc = .ok (.astore 7, 2)) (k : jj ω d x (pc + 2) (l0 :: l1 :: l2 :: l3 :: l4 :: l5 :: l6 :: some (.ref v) :: r) st h Q) : jj ω d x pc (l0 :: l1 :: l2 :: l3 :: l4 :: l5 :: l6 :: l7 :: r) (.ref v :: st) h Q :=
  jj_ast (i := 7) (n := 2) (Or.inr ⟨hd, rfl⟩) (by simp) k
theorem jj_ii7 {v : Int32} {n : Int} (w : Int32) (hd : decode x.2.1 pc = .ok (.iinc 7 n, 3)) (hw : v + Int32.ofInt n = w) (k : jj ω d x (pc + 3) (l0 :: l1 :: l2 :: l3 :: l4 :: l5 :: l6 :: some (.int w) :: r) st h Q) : jj ω d x pc (l0 :: l1 :: l2 :: l3 :: l4 :: l5 :: l6 :: some (.int v) :: r) st h Q := by
  subst hw
  exact jj_inc (i := 7) hd rfl k
theorem jj_il8 {v : Int32} (hd : decode x.2.1 pc = .ok (.iload 8, 2)) (k : jj ω d x (pc + 2) (l0 :: l1 :: l2 :: l3 :: l4 :: l5 :: l6 :: l7 :: some (.int v) :: r) (.int v :: st) h Q) : jj ω d x pc (l0 :: l1 :: l2 :: l3 :: l4 :: l5 :: l6 :: l7 :: some (.int v) :: r) st h Q := by
  intro p e R s m args below meth c C H locs cells slots lsm hH hL hc hs hls hlen
  exact lv_iload C.1 C.2.1 hd (jLs_get hls (i := 8) rfl) (k p e R s m args below meth c C H locs cells slots lsm hH hL hc hs hls hlen)
theorem jj_al8 {v : Nat} (hd : decode x.2.1 pc = .ok (.aload 8, 2)) (k : jj ω d x (pc + 2) (l0 :: l1 :: l2 :: l3 :: l4 :: l5 :: l6 :: l7 :: some (.ref v) :: r) (.ref v :: st) h Q) : jj ω d x pc (l0 :: l1 :: l2 :: l3 :: l4 :: l5 :: l6 :: l7 :: some (.ref v) :: r) st h Q := by
  intro p e R s m args below meth c C H locs cells slots lsm hH hL hc hs hls hlen
  exact lv_aload C.1 C.2.1 hd (jLs_get hls (i := 8) rfl) (k p e R s m args below meth c C H locs cells slots lsm hH hL hc hs hls hlen)
theorem jj_is8 {v : Int32} (hd : decode x.2.1 pc = .ok (.istore 8, 2)) (k : jj ω d x (pc + 2) (l0 :: l1 :: l2 :: l3 :: l4 :: l5 :: l6 :: l7 :: some (.int v) :: r) st h Q) : jj ω d x pc (l0 :: l1 :: l2 :: l3 :: l4 :: l5 :: l6 :: l7 :: l8 :: r) (.int v :: st) h Q :=
  jj_ist (i := 8) (n := 2) (Or.inr ⟨hd, rfl⟩) (by simp) k
theorem jj_as8 {v : Nat} (hd : decode x.2.1 pc = .ok (.astore 8, 2)) (k : jj ω d x (pc + 2) (l0 :: l1 :: l2 :: l3 :: l4 :: l5 :: l6 :: l7 :: some (.ref v) :: r) st h Q) : jj ω d x pc (l0 :: l1 :: l2 :: l3 :: l4 :: l5 :: l6 :: l7 :: l8 :: r) (.ref v :: st) h Q :=
  jj_ast (i := 8) (n := 2) (Or.inr ⟨hd, rfl⟩) (by simp) k
theorem jj_ii8 {v : Int32} {n : Int} (w : Int32) (hd : decode x.2.1 pc = .ok (.iinc 8 n, 3)) (hw : v + Int32.ofInt n = w) (k : jj ω d x (pc + 3) (l0 :: l1 :: l2 :: l3 :: l4 :: l5 :: l6 :: l7 :: some (.int w) :: r) st h Q) : jj ω d x pc (l0 :: l1 :: l2 :: l3 :: l4 :: l5 :: l6 :: l7 :: some (.int v) :: r) st h Q := by
  subst hw
  exact jj_inc (i := 8) hd rfl k
theorem jj_il9 {v : Int32} (hd : decode x.2.1 pc = .ok (.iload 9, 2)) (k : jj ω d x (pc + 2) (l0 :: l1 :: l2 :: l3 :: l4 :: l5 :: l6 :: l7 :: l8 :: some (.int v) :: r) (.int v :: st) h Q) : jj ω d x pc (l0 :: l1 :: l2 :: l3 :: l4 :: l5 :: l6 :: l7 :: l8 :: some (.int v) :: r) st h Q := by
  intro p e R s m args below meth c C H locs cells slots lsm hH hL hc hs hls hlen
  exact lv_iload C.1 C.2.1 hd (jLs_get hls (i := 9) rfl) (k p e R s m args below meth c C H locs cells slots lsm hH hL hc hs hls hlen)
theorem jj_al9 {v : Nat} (hd : decode x.2.1 pc = .ok (.aload 9, 2)) (k : jj ω d x (pc + 2) (l0 :: l1 :: l2 :: l3 :: l4 :: l5 :: l6 :: l7 :: l8 :: some (.ref v) :: r) (.ref v :: st) h Q) : jj ω d x pc (l0 :: l1 :: l2 :: l3 :: l4 :: l5 :: l6 :: l7 :: l8 :: some (.ref v) :: r) st h Q := by
  intro p e R s m args below meth c C H locs cells slots lsm hH hL hc hs hls hlen
  exact lv_aload C.1 C.2.1 hd (jLs_get hls (i := 9) rfl) (k p e R s m args below meth c C H locs cells slots lsm hH hL hc hs hls hlen)
theorem jj_is9 {v : Int32} (hd : decode x.2.1 pc = .ok (.istore 9, 2)) (k : jj ω d x (pc + 2) (l0 :: l1 :: l2 :: l3 :: l4 :: l5 :: l6 :: l7 :: l8 :: some (.int v) :: r) st h Q) : jj ω d x pc (l0 :: l1 :: l2 :: l3 :: l4 :: l5 :: l6 :: l7 :: l8 :: l9 :: r) (.int v :: st) h Q :=
  jj_ist (i := 9) (n := 2) (Or.inr ⟨hd, rfl⟩) (by simp) k
theorem jj_as9 {v : Nat} (hd : decode x.2.1 pc = .ok (.astore 9, 2)) (k : jj ω d x (pc + 2) (l0 :: l1 :: l2 :: l3 :: l4 :: l5 :: l6 :: l7 :: l8 :: some (.ref v) :: r) st h Q) : jj ω d x pc (l0 :: l1 :: l2 :: l3 :: l4 :: l5 :: l6 :: l7 :: l8 :: l9 :: r) (.ref v :: st) h Q :=
  jj_ast (i := 9) (n := 2) (Or.inr ⟨hd, rfl⟩) (by simp) k
theorem jj_ii9 {v : Int32} {n : Int} (w : Int32) (hd : decode x.2.1 pc = .ok (.iinc 9 n, 3)) (hw : v + Int32.ofInt n = w) (k : jj ω d x (pc + 3) (l0 :: l1 :: l2 :: l3 :: l4 :: l5 :: l6 :: l7 :: l8 :: some (.int w) :: r) st h Q) : jj ω d x pc (l0 :: l1 :: l2 :: l3 :: l4 :: l5 :: l6 :: l7 :: l8 :: some (.int v) :: r) st h Q := by
  subst hw
  exact jj_inc (i := 9) hd rfl k
end JL
section JH
variable {ω : jw} {d : Nat} {x : jm} {pc : Nat} {ls : List (Option Value)} {st : List Value} {h : jh} {Q : jr → jh → Prop}
section JCC
variable {p : Program} {e : Env} {R : Room} {s : State} {m : MethodId} {args : Array Value} {meth : Method} {c : Code}
theorem jC.own (C : jC ω d x p e R s m args meth c) : s.vm.findClass x.1.cls = some m.cls := C.2.2.2.2.2.2.2.1
theorem jC.wds (C : jC ω d x p e R s m args meth c) : ∀ w ∈ jWS, w.before args s = true := C.2.2.2.2.2.2.2.2.1
theorem jC.kn (C : jC ω d x p e R s m args meth c) : va_K (jD ω) vwCl (jtys ω) s := C.2.2.2.2.2.2.2.2.2.1
theorem jC.scr (C : jC ω d x p e R s m args meth c) : va_X (jb ω) (jL ω) (jx ω) s (jH ω) := C.2.2.2.2.2.2.2.2.2.2.1
theorem jC.bN (C : jC ω d x p e R s m args meth c) : jb ω < jN ω := C.2.2.2.2.2.2.2.2.2.2.2.1
theorem jC.frm (C : jC ω d x p e R s m args meth c) : d + 8 ≤ R.frames := C.2.2.2.2.2.2.2.2.2.2.2.2.1
theorem jC.loc (C : jC ω d x p e R s m args meth c) : 64 * d + 200 ≤ R.locals := C.2.2.2.2.2.2.2.2.2.2.2.2.2.1
theorem jC.trc (C : jC ω d x p e R s m args meth c) : (jl ω).stackTraces = false := C.2.2.2.2.2.2.2.2.2.2.2.2.2.2.1
theorem jC.w0 (C : jC ω d x p e R s m args meth c) : jW0 ω s := C.2.2.2.2.2.2.2.2.2.2.2.2.2.2.2
end JCC
theorem jat_cell {D : va_G} {cl : List vw_C} {a : Nat} {e : va_E} {H : Heap} (h : va_at D cl (a, e) H) : ∃ cell : Cell, H[a]? = some cell ∧ cell.vm = .none := by
  rcases e with ⟨cA, n, f | f | f | f | f⟩ | ⟨ci, fs⟩
  · exact ⟨_, h, rfl⟩
  · exact ⟨_, h, rfl⟩
  · exact ⟨_, h, rfl⟩
  · exact ⟨_, h, rfl⟩
  · exact ⟨_, h, rfl⟩
  · obtain ⟨r, -, cell, q1, -, q3, -⟩ := h
    exact ⟨cell, q1, q3⟩
theorem jat_kept {D : va_G} {cl : List vw_C} {a : Nat} {e : va_E} {H H1 : Heap} (h : va_at D cl (a, e) H) (hq : H1[a]? = H[a]?) : va_at D cl (a, e) H1 := va_at.kept h hq
abbrev jup (h : jh) (a : Nat) (e : va_E) : jh := (h.1, h.2.1, h.2.2.1, va_up h.2.2.2 a (some e))
theorem jHR.put {H H1 : Heap} {a : Nat} {e0 e : va_E} (hH : jHR ω h H) (ha : h.2.2.2 a = some e0) (he : va_at (jD ω) vwCl (a, e) H1) (z : H1.size = H.size) (oq : ∀ q : Nat, q ≠ a → H1[q]? = H[q]?) : jHR ω (jup h a e) H1 := by
  obtain ⟨h1, h2, h3, h4, h5⟩ := hH
  have haN := (h1 a e0 ha).1
  refine ⟨fun b e' hb => ?_, by rw [z]; exact h2, by rw [z]; exact h3, fun q hq => ?_, h5⟩
  · by_cases hba : b = a
    · subst hba
      have : some e = some e' := by rw [← hb]; exact (va_up_self _ _ _).symm
      cases this
      exact ⟨haN, he⟩
    · have hb' : h.2.2.2 b = some e' := by rw [← hb]; exact (va_up_ne _ _ hba).symm
      exact ⟨(h1 b e' hb').1, jat_kept (h1 b e' hb').2 (oq b hba)⟩
  · rw [oq q (by omega)]
    exact h4 q hq
theorem jHR.push {H H1 : Heap} {e : va_E} {n : Nat} (hH : jHR ω h H) (hj : h.2.1 = 0) (he : va_at (jD ω) vwCl (jN ω + h.1, e) H1) (z : H1.size = H.size + 1) (oq : ∀ q : Nat, q < H.size → H1[q]? = H[q]?) (hcm : h.1 + 1 ≤ jCM) (hsm : h.2.2.1 + n ≤ jSM) : jHR ω (h.1 + 1, h.2.1, h.2.2.1 + n, va_up h.2.2.2 (jN ω + h.1) (some e)) H1 := by
  obtain ⟨h1, h2, h3, h4, h5⟩ := hH
  have h2 := h2 hj
  refine ⟨fun b e' hb => ?_, fun _ => by rw [z, h2]; rfl, by omega, fun q hq => ?_, by show h.1 + 1 + h.2.1 ≤ jCM; omega, hsm⟩
  · by_cases hba : b = jN ω + h.1
    · subst hba
      have : some e = some e' := by rw [← hb]; exact (va_up_self _ _ _).symm
      cases this
      exact ⟨by omega, he⟩
    · have hb' : h.2.2.2 b = some e' := by rw [← hb]; exact (va_up_ne _ _ hba).symm
      obtain ⟨cell', g1, -⟩ := jat_cell (h1 b e' hb').2
      have hlt : b < H.size := (Array.getElem?_eq_some_iff.mp g1).1
      exact ⟨(h1 b e' hb').1, jat_kept (h1 b e' hb').2 (oq b hlt)⟩
  · rw [oq q (by omega)]
    exact h4 q hq
theorem jP1 {D : va_G} {cl : List vw_C} {a : Nat} {e : va_E} {H : Heap} (h : va_at D cl (a, e) H) : va_P D cl [(a, e)] H := by
  intro k q hk
  cases k with
  | zero => cases hk; exact h
  | succ k => simp at hk
/-- a system's kind of object: its table, what the words say of it -/
def jCl (ci : Nat) (q : vw_C) (ty : Nat → FieldType) : Prop := vwCl[ci]? = some q ∧ (∀ w ∈ u_ws q.1 q.2.1 q.2.2, w ∈ jWS) ∧ (∀ k, k < q.2.2 → parseFieldDescriptor (q.2.1 k).2.2.1 = some (ty k)) ∧
  (∀ a, a < q.2.2 → ∀ b, b < q.2.2 → a ≠ b → (q.2.1 a).2.1 ≠ (q.2.1 b).2.1) ∧ (∀ k, k < q.2.2 → (q.2.1 k).1 = q.1) ∧ Cond.instantiable q.1 q.2.2 ∈ jWS ∧ Cond.initialized q.1 ∈ jWS
def jLk (own : String) (idx : Nat) (q : vw_C) (k : Nat) : Prop := k < q.2.2 ∧ (Cond.fieldLink own idx q.1 (q.2.1 k).2.1 (q.2.1 k).2.2.1 ∈ jWS ∨ ∃ host : String, Cond.fieldLinkNest own idx q.1 (q.2.1 k).2.1 (q.2.1 k).2.2.1 host ∈ jWS)
theorem jj_get {ci idx k a : Nat} {q : vw_C} {ty : Nat → FieldType} {fs : List Value} (v : Value) (hd : decode x.2.1 pc = .ok (.getfield idx, 3)) (cl : jCl ci q ty) (lk : jLk x.1.cls idx q k) (hf : h.2.2.2 a = some (.inr (ci, fs))) (hv : fs[k]? = some v) (kk : jj ω d x (pc + 3) ls (v :: st) h Q) : jj ω d x pc ls (.ref a :: st) h Q := by
  intro p e R s m args below meth c C H locs cells slots lsm hH hL hc hs hls hlen
  obtain ⟨C0, T0, N0⟩ := q
  have hP := jP1 (hH.1 a _ hf).2
  have K := kk p e R s m args below meth c C H locs cells slots lsm hH hL hc hs hls hlen
  have hsame : ∀ y, s.fieldFound? (T0 k).1 (T0 k).2.1 (T0 k).2.2.1 = some y → s.fieldFound? C0 (T0 k).2.1 (T0 k).2.2.1 = some y := fun y hy => by
    have := cl.2.2.2.2.1 k lk.1
    rw [show (T0 k).1 = C0 from this] at hy
    exact hy
  rcases lk.2 with h5 | ⟨host, h5⟩
  · exact va_get C.1 C.2.1 C.wds cl.2.1 C.own C.kn hP 0 rfl cl.1 k lk.1 (C.wds _ h5) hsame hv hd K
  · exact va_getN C.1 C.2.1 C.wds cl.2.1 C.own C.kn hP 0 rfl cl.1 k lk.1 (C.wds _ h5) hsame hv hd K
theorem jj_put {ci idx k a : Nat} {q : vw_C} {ty : Nat → FieldType} {fs : List Value} {v : Value} (fs' : List Value) (hd : decode x.2.1 pc = .ok (.putfield idx, 3)) (cl : jCl ci q ty) (lk : jLk x.1.cls idx q k) (hfin : (q.2.1 k).2.2.2 = false) (hf : h.2.2.2 a = some (.inr (ci, fs))) (hn : narrow (ty k) v = v) (hfit : fits (ty k) v = true) (hl : k < fs.length) (hfs : fs.set k v = fs')
    (kk : jj ω d x (pc + 3) ls st (jup h a (.inr (ci, fs'))) Q) : jj ω d x pc ls (v :: .ref a :: st) h Q := by
  subst hfs
  intro p e R s m args below meth c C H locs cells slots lsm hH hL hc hs hls hlen
  obtain ⟨C0, T0, N0⟩ := q
  have hap := va_apart (own := x.1.cls) C.wds cl.2.1 ty cl.2.2.1 cl.2.2.2.1 C.kn cl.1
  obtain ⟨haN, hat⟩ := hH.1 a _ hf
  obtain ⟨r, g1, cell, q1, q2, q3, q4⟩ := hat
  have hr : r = (C0, T0, N0) := Option.some.inj (g1.symm.trans cl.1)
  subst hr
  obtain ⟨hS, hfc, kC, hkC, hkind⟩ := C.kn.1 ci _ cl.1
  obtain ⟨cf, kf, fi, f, hi, hsl⟩ := hS k lk.1
  have hsame : s.fieldFound? C0 (T0 k).2.1 (T0 k).2.2.1 = some (cf, kf, fi, f) := by
    have := cl.2.2.2.2.1 k lk.1
    rw [show (T0 k).1 = C0 from this] at hi
    exact hi
  have hlay := C.wds _ (cl.2.1 _ (u_in_lay lk.1))
  unfold u_lay at hlay
  rw [if_neg (by rw [show (T0 k).2.2.2 = false from hfin]; decide)] at hlay
  have hst := (u_facts hfc hkC (u_lays C.wds cl.2.1 lk.1) hi).1
  have h6 := u_store hfc hkC hkind hlay hi (cl.2.2.1 k lk.1) hn hfit
  have hend : ∀ H' : Heap, H'[a]? = some (cell.setSlot f.slot v) → H'.size = H.size → (∀ q, q ≠ a → H'[q]? = H[q]?) → W p (jl ω) e R s m args below meth c H' (locs ++ [⟨a, f.slot⟩]) cells slots (jEnd ω R s below Q) (F0 m (pc + 3) lsm st) := by
    intro H' e1 e2 e3
    rw [hsl] at e1 ⊢
    refine kk p e R s m args below meth c C H' _ cells slots lsm (hH.put hf ⟨_, cl.1, t_OB.to (V := updV (vp_V fs) k v) ⟨_, e1, q2, q3, t_set q4 hap lk.1 v⟩ (fun j _ => vp_updV_set hl v j)⟩ e2 e3) (fun z hz => ?_) hc hs hls hlen
    rcases List.mem_append.mp hz with hz | hz
    · exact hL z hz
    · rw [List.mem_singleton.mp hz]
      exact haN
  rcases lk.2 with h5 | ⟨host, h5⟩
  · exact W.putK C.1 C.2.1 (f := f) ⟨C.own, C.wds _ h5, ⟨_, _, _, hsame⟩, hst⟩ (by rw [q2]; exact h6) q1 q3 (by rw [hsl]; exact k2_hasslot (q4 k lk.1)) rfl rfl hd hend
  · exact va_WputK C.1 C.2.1 (f := f) C.own (C.wds _ h5) hsame hst (by rw [q2]; exact h6) q1 q3 (by rw [hsl]; exact k2_hasslot (q4 k lk.1)) rfl rfl hd hend
theorem jj_putF {ci idx k a : Nat} {q : vw_C} {ty : Nat → FieldType} {fs : List Value} {v : Value} (fs' : List Value) (hd : decode x.2.1 pc = .ok (.putfield idx, 3)) (cl : jCl ci q ty) (lk : k < q.2.2 ∧ Cond.fieldLink x.1.cls idx q.1 (q.2.1 k).2.1 (q.2.1 k).2.2.1 ∈ jWS) (hfin : (q.2.1 k).2.2.2 = true) (hin : x.1.name = "<init>") (hdecl : q.1 = x.1.cls) (hf : h.2.2.2 a = some (.inr (ci, fs))) (hn : narrow (ty k) v = v) (hfit : fits (ty k) v = true) (hl : k < fs.length) (hfs : fs.set k v = fs')
    (kk : jj ω d x (pc + 3) ls st (jup h a (.inr (ci, fs'))) Q) : jj ω d x pc ls (v :: .ref a :: st) h Q := by
  subst hfs
  intro p e R s m args below meth c C H locs cells slots lsm hH hL hc hs hls hlen
  obtain ⟨C0, T0, N0⟩ := q
  have hap := va_apart (own := x.1.cls) C.wds cl.2.1 ty cl.2.2.1 cl.2.2.2.1 C.kn cl.1
  obtain ⟨haN, hat⟩ := hH.1 a _ hf
  obtain ⟨r, g1, cell, q1, q2, q3, q4⟩ := hat
  have hr : r = (C0, T0, N0) := Option.some.inj (g1.symm.trans cl.1)
  subst hr
  obtain ⟨hS, hfc, kC, hkC, hkind⟩ := C.kn.1 ci _ cl.1
  obtain ⟨cf, kf, fi, f, hi, hsl⟩ := hS k lk.1
  have hdec : (T0 k).1 = C0 := cl.2.2.2.2.1 k lk.1
  have hsame : s.fieldFound? C0 (T0 k).2.1 (T0 k).2.2.1 = some (cf, kf, fi, f) := by
    rw [hdec] at hi
    exact hi
  have hlay := C.wds _ (cl.2.1 _ (u_in_lay lk.1))
  unfold u_lay at hlay
  rw [if_pos (show (T0 k).2.2.2 = true from hfin)] at hlay
  have hst := (u_facts hfc hkC (u_lays C.wds cl.2.1 lk.1) hi).1
  have hcf : m.cls = cf := by
    obtain ⟨_, _, c', _, _, _, -, -, hf', -, -, -, hown2, -⟩ := Cond.laysFinal_spec hlay
    have e1 : c' = cf := by have := hi.symm.trans hf'; simp at this; exact this.1.symm
    rw [hdec, show C0 = x.1.cls from hdecl] at hown2
    rw [← e1]; exact Option.some.inj (C.own.symm.trans hown2)
  have h6 := u_fits hfc hkC hkind (Or.inr hlay) hi (cl.2.2.1 k lk.1) hn hfit
  refine W.putFinK C.1 C.2.1 C.own (C.wds _ lk.2) hsame hst hcf (by rw [C.2.2.2.2.2.1]; exact hin) (by rw [q2]; exact h6) q1 q3 (by rw [hsl]; exact k2_hasslot (q4 k lk.1)) rfl rfl hd fun H' e1 e2 e3 => ?_
  rw [hsl] at e1 ⊢
  refine kk p e R s m args below meth c C H' _ cells slots lsm (hH.put hf ⟨_, cl.1, t_OB.to (V := updV (vp_V fs) k v) ⟨_, e1, q2, q3, t_set q4 hap lk.1 v⟩ (fun j _ => vp_updV_set hl v j)⟩ e2 e3) (fun z hz => ?_) hc hs hls hlen
  rcases List.mem_append.mp hz with hz | hz
  · exact hL z hz
  · rw [List.mem_singleton.mp hz]
    exact haN
theorem jj_new {ci idx : Nat} {q : vw_C} {ty : Nat → FieldType} (fs : List Value) (hd : decode x.2.1 pc = .ok (.new idx, 3)) (cl : jCl ci q ty) (lk : Cond.classLink x.1.cls idx q.1 ∈ jWS) (hfs : ∀ j, j < q.2.2 → defaultValue (ty j) = vp_V fs j) (hj : h.2.1 = 0) (hcm : h.1 + 1 ≤ jCM) (hsm : h.2.2.1 + q.2.2 ≤ jSM)
    (kk : jj ω d x (pc + 3) ls (.ref (jN ω + h.1) :: st) (h.1 + 1, h.2.1, h.2.2.1 + q.2.2, va_up h.2.2.2 (jN ω + h.1) (some (.inr (ci, fs)))) Q) : jj ω d x pc ls st h Q := by
  intro p e R s m args below meth c C H locs cells slots lsm hH hL hc hs hls hlen
  obtain ⟨C0, T0, N0⟩ := q
  have hKn := C.kn.1 ci _ cl.1
  have hz : H.size = jN ω + h.1 := hH.2.1 hj
  refine W.newcK C.1 C.2.1 C.own (C.wds _ lk) (C.wds _ cl.2.2.2.2.2.1) (C.wds _ cl.2.2.2.2.2.2) rfl hd (by omega) (by show slots + N0 ≤ R.slots; have hsm2 : h.2.2.1 + N0 ≤ jSM := hsm; omega) hKn.2.1 hz fun H1 kC hkC e1 z1 o1 => ?_
  have h9 : va_at (jD ω) vwCl (jN ω + h.1, .inr (ci, fs)) H1 := ⟨_, cl.1, (u_born ty C.wds cl.2.1 hKn hkC e1 cl.2.2.1).to hfs⟩
  exact kk p e R s m args below meth c C H1 locs (cells + 1) (slots + N0) lsm (hH.push (n := N0) hj h9 (by rw [z1, hz]) (fun y hy => o1 y (by omega)) hcm hsm) hL (by dsimp only; omega) (by dsimp only; omega) hls hlen

theorem jj_iald {a n : Nat} {f : Nat → Int32} {i : Int32} (hd : decode x.2.1 pc = .ok (.iaload, 1)) (hf : h.2.2.2 a = some (.inl (jK ω 0, n, .inl f))) (hin : vp_in i n) (k : jj ω d x (pc + 1) ls (.int (f i.toNatClampNeg) :: st) h Q) : jj ω d x pc ls (.int i :: .ref a :: st) h Q := by
  intro p e R s m args below meth c C H locs cells slots lsm hH hL hc hs hls hlen
  exact va_iald C.1 C.2.1 C.kn (jP1 (hH.1 a _ hf).2) 0 0 rfl rfl hin hd (k p e R s m args below meth c C H locs cells slots lsm hH hL hc hs hls hlen)
theorem jj_zald {a n : Nat} {f : Nat → Int32} {i : Int32} (hd : decode x.2.1 pc = .ok (.baload, 1)) (hf : h.2.2.2 a = some (.inl (jK ω 1, n, .inl f))) (hin : vp_in i n) (k : jj ω d x (pc + 1) ls (.int (f i.toNatClampNeg) :: st) h Q) : jj ω d x pc ls (.int i :: .ref a :: st) h Q := by
  intro p e R s m args below meth c C H locs cells slots lsm hH hL hc hs hls hlen
  exact va_zald C.1 C.2.1 C.kn (jP1 (hH.1 a _ hf).2) 0 1 rfl rfl hin hd (k p e R s m args below meth c C H locs cells slots lsm hH hL hc hs hls hlen)
theorem jj_lald {a n : Nat} {f : Nat → Int64} {i : Int32} (hd : decode x.2.1 pc = .ok (.laload, 1)) (hf : h.2.2.2 a = some (.inl (jK ω 2, n, .inr (.inl f)))) (hin : vp_in i n) (k : jj ω d x (pc + 1) ls (.long (f i.toNatClampNeg) :: st) h Q) : jj ω d x pc ls (.int i :: .ref a :: st) h Q := by
  intro p e R s m args below meth c C H locs cells slots lsm hH hL hc hs hls hlen
  exact va_lald C.1 C.2.1 C.kn (jP1 (hH.1 a _ hf).2) 0 2 rfl rfl hin hd (k p e R s m args below meth c C H locs cells slots lsm hH hL hc hs hls hlen)
theorem jj_aald {a n v : Nat} {f : Nat → Option Nat} {i : Int32} (hd : decode x.2.1 pc = .ok (.aaload, 1)) (hf : h.2.2.2 a = some (.inl (jK ω 3, n, .inr (.inr (.inr (.inr f)))))) (hin : vp_in i n) (hv : f i.toNatClampNeg = some v) (k : jj ω d x (pc + 1) ls (.ref v :: st) h Q) : jj ω d x pc ls (.int i :: .ref a :: st) h Q := by
  intro p e R s m args below meth c C H locs cells slots lsm hH hL hc hs hls hlen
  exact va_aldq C.1 C.2.1 C.kn (jP1 (hH.1 a _ hf).2) 0 3 rfl rfl hin hd (by rw [hv]; exact (k p e R s m args below meth c C H locs cells slots lsm hH hL hc hs hls hlen))
theorem jj_sld {i : Int32} (hd : decode x.2.1 pc = .ok (.iaload, 1)) (hin : vp_in i (jL ω)) (k : jj ω d x (pc + 1) ls (.int (jx ω i.toNatClampNeg) :: st) h Q) : jj ω d x pc ls (.int i :: .ref (jb ω) :: st) h Q := by
  intro p e R s m args below meth c C H locs cells slots lsm hH hL hc hs hls hlen
  obtain ⟨scr, h1, h2, h3, h4, h5⟩ := C.scr
  have hlt : i.toNatClampNeg < jL ω := Nat.not_le.mp fun q => hin (Or.inr q)
  exact W.iald (v := .int (jx ω i.toNatClampNeg)) C.1 C.2.1 (by rw [hH.2.2.2.1 _ C.bN]; exact h1) h2 h3 (by rw [h4]; exact hin) (h5 _ hlt) rfl rfl hd (k p e R s m args below meth c C H locs cells slots lsm hH hL hc hs hls hlen)
theorem jj_slen (hd : decode x.2.1 pc = .ok (.arraylength, 1)) (k : jj ω d x (pc + 1) ls (.int (nI (jL ω)) :: st) h Q) : jj ω d x pc ls (.ref (jb ω) :: st) h Q := by
  intro p e R s m args below meth c C H locs cells slots lsm hH hL hc hs hls hlen
  obtain ⟨scr, h1, h2, h3, h4, h5⟩ := C.scr
  exact W.alen (n := nI (jL ω)) C.1 C.2.1 (by rw [hH.2.2.2.1 _ C.bN]; exact h1) h2 (by rw [h4] <;> rfl) rfl rfl hd (k p e R s m args below meth c C H locs cells slots lsm hH hL hc hs hls hlen)
theorem jj_lcmp {a b : Int64} (hd : decode x.2.1 pc = .ok (.lcmp, 1)) (k : jj ω d x (pc + 1) ls (.int (lg_cmp a b) :: st) h Q) : jj ω d x pc ls (.long b :: .long a :: st) h Q := by
  intro p e R s m args below meth c C H locs cells slots lsm hH hL hc hs hls hlen
  exact W.lcmp C.1 C.2.1 hd (k p e R s m args below meth c C H locs cells slots lsm hH hL hc hs hls hlen)
theorem jj_iast {a n : Nat} {f : Nat → Int32} {i : Int32} {v : Int32} (hd : decode x.2.1 pc = .ok (.iastore, 1)) (hf : h.2.2.2 a = some (.inl (jK ω 0, n, .inl f))) (hin : vp_in i n) (k : jj ω d x (pc + 1) ls st (jup h a (.inl (jK ω 0, n, .inl (upd f i.toNatClampNeg v)))) Q) : jj ω d x pc ls (.int v :: .int i :: .ref a :: st) h Q := by
  intro p e R s m args below meth c C H locs cells slots lsm hH hL hc hs hls hlen
  obtain ⟨haN, hat⟩ := hH.1 a _ hf
  refine W.iast C.1 C.2.1 hat ((C.kn.2 0 _ rfl).1 n (fun j => .int (f j))) (fun q => by cases q) (by show ¬ (i < 0 ∨ (arrV _ _ _).slots.size ≤ _); rw [arrV_size]; exact hin) rfl rfl hd fun H1 e1 z oq => ?_
  refine k p e R s m args below meth c C H1 _ cells slots lsm (hH.put hf ?_ z oq) (fun y hy => ?_) hc hs hls hlen
  · show H1[a]? = some (vp_cell _ _)
    rw [e1, vp_cell_i, vp_cell_i, arrV_store]
    congr 2
    funext q
    by_cases hq : q = i.toNatClampNeg
    · subst hq
      simp [updV, upd]
      try rfl
    · simp [updV, upd, hq]
  · rcases List.mem_append.mp hy with hy | hy
    · exact hL y hy
    · rw [List.mem_singleton.mp hy]
      exact haN
theorem jj_zast {a n : Nat} {f : Nat → Int32} {i : Int32} {v : Int32} (hd : decode x.2.1 pc = .ok (.bastore, 1)) (hf : h.2.2.2 a = some (.inl (jK ω 1, n, .inl f))) (hin : vp_in i n) (k : jj ω d x (pc + 1) ls st (jup h a (.inl (jK ω 1, n, .inl (upd f i.toNatClampNeg (vp_nar .boolean v))))) Q) : jj ω d x pc ls (.int v :: .int i :: .ref a :: st) h Q := by
  intro p e R s m args below meth c C H locs cells slots lsm hH hL hc hs hls hlen
  obtain ⟨haN, hat⟩ := hH.1 a _ hf
  refine W.zast C.1 C.2.1 hat ((C.kn.2 1 _ rfl).1 n (fun j => .int (f j))) (fun q => by cases q) (by show ¬ (i < 0 ∨ (arrV _ _ _).slots.size ≤ _); rw [arrV_size]; exact hin) rfl rfl hd fun H1 e1 z oq => ?_
  refine k p e R s m args below meth c C H1 _ cells slots lsm (hH.put hf ?_ z oq) (fun y hy => ?_) hc hs hls hlen
  · show H1[a]? = some (vp_cell _ _)
    rw [e1, vp_cell_i, vp_cell_i, arrV_store]
    congr 2
    funext q
    by_cases hq : q = i.toNatClampNeg
    · subst hq
      simp [updV, upd, vp_nar]
      try rfl
    · simp [updV, upd, vp_nar, hq]
  · rcases List.mem_append.mp hy with hy | hy
    · exact hL y hy
    · rw [List.mem_singleton.mp hy]
      exact haN
theorem jj_last {a n : Nat} {f : Nat → Int64} {i : Int32} {v : Int64} (hd : decode x.2.1 pc = .ok (.lastore, 1)) (hf : h.2.2.2 a = some (.inl (jK ω 2, n, .inr (.inl f)))) (hin : vp_in i n) (k : jj ω d x (pc + 1) ls st (jup h a (.inl (jK ω 2, n, .inr (.inl (vp_updL f i.toNatClampNeg v))))) Q) : jj ω d x pc ls (.long v :: .int i :: .ref a :: st) h Q := by
  intro p e R s m args below meth c C H locs cells slots lsm hH hL hc hs hls hlen
  obtain ⟨haN, hat⟩ := hH.1 a _ hf
  refine W.last C.1 C.2.1 hat ((C.kn.2 2 _ rfl).1 n (fun j => .long (f j))) (fun q => by cases q) (by show ¬ (i < 0 ∨ (arrV _ _ _).slots.size ≤ _); rw [arrV_size]; exact hin) rfl rfl hd fun H1 e1 z oq => ?_
  refine k p e R s m args below meth c C H1 _ cells slots lsm (hH.put hf ?_ z oq) (fun y hy => ?_) hc hs hls hlen
  · show H1[a]? = some (vp_cell _ _)
    rw [e1, vp_cell_l, vp_cell_l, arrV_store]
    congr 2
    funext q
    by_cases hq : q = i.toNatClampNeg
    · subst hq
      simp [updV, vp_updL]
      try rfl
    · simp [updV, vp_updL, hq]
  · rcases List.mem_append.mp hy with hy | hy
    · exact hL y hy
    · rw [List.mem_singleton.mp hy]
      exact haN
theorem jj_aast {a n ci v : Nat} {q : vw_C} {ty : Nat → FieldType} {vs : List Value} {f : Nat → Option Nat} {i : Int32} (hd : decode x.2.1 pc = .ok (.aastore, 1)) (cl : jCl ci q ty) (hq1 : q.1 = jRL) (hf : h.2.2.2 a = some (.inl (jK ω 3, n, .inr (.inr (.inr (.inr f)))))) (hfv : h.2.2.2 v = some (.inr (ci, vs))) (hin : vp_in i n) (k : jj ω d x (pc + 1) ls st (jup h a (.inl (jK ω 3, n, .inr (.inr (.inr (.inr (va_up f i.toNatClampNeg (some v)))))))) Q) : jj ω d x pc ls (.ref v :: .int i :: .ref a :: st) h Q := by
  intro p e R s m args below meth c C H locs cells slots lsm hH hL hc hs hls hlen
  obtain ⟨haN, hat⟩ := hH.1 a _ hf
  obtain ⟨C0, T0, N0⟩ := q
  have hlt : i.toNatClampNeg < n := Nat.not_le.mp fun q => hin (Or.inr q)
  have h0 : ¬ i < 0 := fun q => hin (Or.inl q)
  obtain ⟨r', hr', cellV, g1, g2, g3, -⟩ := (hH.1 v _ hfv).2
  have hcls := (C.kn.1 ci _ cl.1).2
  obtain ⟨kA, comp, k1, k2, k3, -⟩ := (C.kn.2 3 _ rfl).2
  have hq1 : C0 = jRL := hq1
  subst hq1
  have hcomp : comp = (jD ω).1 ci := Option.some.inj (k3.symm.trans hcls.1)
  subst hcomp
  obtain ⟨kC, hkC, -⟩ := hcls.2
  refine W.aast C.1 C.2.1 hat (fun q h => by cases h) (fun h => by cases h) k1 k2 rfl hkC ⟨h0, by show _ < (arrV _ _ _).slots.size; rw [arrV_size]; exact hlt⟩ g1 (fun q h => by rw [g3] at h; cases h) (by rw [g2]; exact hkC) (by rw [g2]; exact va_assign hcls) rfl rfl hd fun H1 e1 z oq => ?_
  refine k p e R s m args below meth c C H1 _ cells slots lsm (hH.put hf ?_ z oq) (fun y hy => ?_) hc hs hls hlen
  · show H1[a]? = some (vp_cell _ _)
    rw [e1, vp_cell_q, vp_cell_q, arrV_store]
    congr 2
    funext q
    by_cases hq : q = i.toNatClampNeg
    · subst hq
      simp [updV, va_up, va_rf]
    · simp [updV, va_up, hq]
  · rcases List.mem_append.mp hy with hy | hy
    · exact hL y hy
    · rw [List.mem_singleton.mp hy]
      exact haN
theorem jj_newaI {n : Int32} (N : Nat) (hd : decode x.2.1 pc = .ok (.newarray .int, 2)) (hw : Cond.arrayClass .int ∈ jWS) (hn : ¬ n < 0) (hN : n.toNatClampNeg = N) (hb : N ≤ 1000) (hj : h.2.1 = 0) (hcm : h.1 + 1 ≤ jCM) (hsm : h.2.2.1 + N ≤ jSM)
    (kk : jj ω d x (pc + 2) ls (.ref (jN ω + h.1) :: st) (h.1 + 1, h.2.1, h.2.2.1 + N, va_up h.2.2.2 (jN ω + h.1) (some (.inl (jK ω 0, N, .inl (fun _ => 0))))) Q) : jj ω d x pc ls (.int n :: st) h Q := by
  intro p e R s m args below meth c C H locs cells slots lsm hH hL hc hs hls hlen
  have hz : H.size = jN ω + h.1 := hH.2.1 hj
  refine va_newaK (atype := .int) C.1 C.2.1 (C.wds _ hw) rfl hd rfl hn hN (by show N * 4 ≤ _; omega) (by omega) (by omega) hz fun H1 cA e1 z1 o1 hAr hNm => ?_
  have hcA : cA = jK ω 0 := Option.some.inj (hNm.symm.trans (C.kn.2 0 _ rfl).2)
  subst hcA
  have h9 : va_at (jD ω) vwCl (jN ω + h.1, .inl (jK ω 0, N, .inl (fun _ => 0))) H1 := by
    show H1[_]? = some (vp_cell _ _)
    rw [vp_cell_i]
    exact e1
  exact kk p e R s m args below meth c C H1 locs (cells + 1) (slots + N) lsm (hH.push (n := N) hj h9 (by rw [z1, hz]) (fun y hy => o1 y (by omega)) hcm hsm) hL (by dsimp only; omega) (by dsimp only; omega) hls hlen
theorem jj_newaZ {n : Int32} (N : Nat) (hd : decode x.2.1 pc = .ok (.newarray .boolean, 2)) (hw : Cond.arrayClass .boolean ∈ jWS) (hn : ¬ n < 0) (hN : n.toNatClampNeg = N) (hb : N ≤ 1000) (hj : h.2.1 = 0) (hcm : h.1 + 1 ≤ jCM) (hsm : h.2.2.1 + N ≤ jSM)
    (kk : jj ω d x (pc + 2) ls (.ref (jN ω + h.1) :: st) (h.1 + 1, h.2.1, h.2.2.1 + N, va_up h.2.2.2 (jN ω + h.1) (some (.inl (jK ω 1, N, .inl (fun _ => 0))))) Q) : jj ω d x pc ls (.int n :: st) h Q := by
  intro p e R s m args below meth c C H locs cells slots lsm hH hL hc hs hls hlen
  have hz : H.size = jN ω + h.1 := hH.2.1 hj
  refine va_newaK (atype := .boolean) C.1 C.2.1 (C.wds _ hw) rfl hd rfl hn hN (by show N * 1 ≤ _; omega) (by omega) (by omega) hz fun H1 cA e1 z1 o1 hAr hNm => ?_
  have hcA : cA = jK ω 1 := Option.some.inj (hNm.symm.trans (C.kn.2 1 _ rfl).2)
  subst hcA
  have h9 : va_at (jD ω) vwCl (jN ω + h.1, .inl (jK ω 1, N, .inl (fun _ => 0))) H1 := by
    show H1[_]? = some (vp_cell _ _)
    rw [vp_cell_i]
    exact e1
  exact kk p e R s m args below meth c C H1 locs (cells + 1) (slots + N) lsm (hH.push (n := N) hj h9 (by rw [z1, hz]) (fun y hy => o1 y (by omega)) hcm hsm) hL (by dsimp only; omega) (by dsimp only; omega) hls hlen
theorem jj_newaJ {n : Int32} (N : Nat) (hd : decode x.2.1 pc = .ok (.newarray .long, 2)) (hw : Cond.arrayClass .long ∈ jWS) (hn : ¬ n < 0) (hN : n.toNatClampNeg = N) (hb : N ≤ 1000) (hj : h.2.1 = 0) (hcm : h.1 + 1 ≤ jCM) (hsm : h.2.2.1 + N ≤ jSM)
    (kk : jj ω d x (pc + 2) ls (.ref (jN ω + h.1) :: st) (h.1 + 1, h.2.1, h.2.2.1 + N, va_up h.2.2.2 (jN ω + h.1) (some (.inl (jK ω 2, N, .inr (.inl (fun _ => 0)))))) Q) : jj ω d x pc ls (.int n :: st) h Q := by
  intro p e R s m args below meth c C H locs cells slots lsm hH hL hc hs hls hlen
  have hz : H.size = jN ω + h.1 := hH.2.1 hj
  refine va_newaK (atype := .long) C.1 C.2.1 (C.wds _ hw) rfl hd rfl hn hN (by show N * 8 ≤ _; omega) (by omega) (by omega) hz fun H1 cA e1 z1 o1 hAr hNm => ?_
  have hcA : cA = jK ω 2 := Option.some.inj (hNm.symm.trans (C.kn.2 2 _ rfl).2)
  subst hcA
  have h9 : va_at (jD ω) vwCl (jN ω + h.1, .inl (jK ω 2, N, .inr (.inl (fun _ => 0)))) H1 := by
    show H1[_]? = some (vp_cell _ _)
    rw [vp_cell_l]
    exact e1
  exact kk p e R s m args below meth c C H1 locs (cells + 1) (slots + N) lsm (hH.push (n := N) hj h9 (by rw [z1, hz]) (fun y hy => o1 y (by omega)) hcm hsm) hL (by dsimp only; omega) (by dsimp only; omega) hls hlen
theorem jj_newaL {n : Int32} {idx : Nat} (N : Nat) (hd : decode x.2.1 pc = .ok (.anewarray idx, 3)) (hw : Cond.classLink x.1.cls idx jRL ∈ jWS) (ho : Cond.arrayOver (.object jRL) ∈ jWS) (hn : ¬ n < 0) (hN : n.toNatClampNeg = N) (hb : N ≤ 1000) (hj : h.2.1 = 0) (hcm : h.1 + 1 ≤ jCM) (hsm : h.2.2.1 + N ≤ jSM)
    (kk : jj ω d x (pc + 3) ls (.ref (jN ω + h.1) :: st) (h.1 + 1, h.2.1, h.2.2.1 + N, va_up h.2.2.2 (jN ω + h.1) (some (.inl (jK ω 3, N, .inr (.inr (.inr (.inr (fun _ => none)))))))) Q) : jj ω d x pc ls (.int n :: st) h Q := by
  intro p e R s m args below meth c C H locs cells slots lsm hH hL hc hs hls hlen
  have hz : H.size = jN ω + h.1 := hH.2.1 hj
  subst hN
  refine W.anew C.1 C.2.1 C.own (C.wds _ hw) (C.wds _ ho) rfl hd rfl hn (by omega) (by omega) (by omega) fun cA kA comp f1 f2 f3 f4 => ?_
  obtain ⟨kA', comp', k1, k2, k3, k4⟩ := (C.kn.2 3 _ rfl).2
  have hcA : cA = jK ω 3 := Option.some.inj (f1.symm.trans k4)
  subst hcA
  generalize hH1 : H.push ({ cls := jK ω 3, slots := Array.replicate n.toNatClampNeg .null, vm := .none } : Cell) = H1
  have z1 : H1.size = H.size + 1 := by rw [← hH1, Array.size_push]
  have e1 : H1[H.size]? = some (arrV (jK ω 3) n.toNatClampNeg (fun _ => .null)) := by rw [← hH1, Array.getElem?_push_size, ← arrV_new]
  have o1 : ∀ q : Nat, q < H.size → H1[q]? = H[q]? := fun q hq => by rw [← hH1, Array.getElem?_push, if_neg (Nat.ne_of_lt hq)]
  have h9 : va_at (jD ω) vwCl (jN ω + h.1, .inl (jK ω 3, n.toNatClampNeg, .inr (.inr (.inr (.inr (fun _ => none)))))) H1 := by
    show H1[_]? = some (vp_cell _ _)
    rw [vp_cell_q, ← hz]
    exact e1
  refine W.eq (g2 := F0 m (pc + 3) lsm (.ref (jN ω + h.1) :: st)) (by rw [← hz]) ?_
  exact kk p e R s m args below meth c C H1 locs (cells + 1) (slots + n.toNatClampNeg) lsm (hH.push (n := n.toNatClampNeg) hj h9 z1 o1 hcm hsm) hL (by dsimp only; omega) (by dsimp only; omega) hls hlen
theorem jW_mono {p : Program} {l : Launch} {e : Env} {R : Room} {s : State} {m : MethodId} {args : Array Value} {below : List Frame} {meth : Method} {c : Code} {H : Heap} {locs : List Loc} {cells slots : Nat} {P1 P2 : State → Prop} {g : JFrame} (k : W p l e R s m args below meth c H locs cells slots P1 g) (hP : ∀ t, P1 t → P2 t) : W p l e R s m args below meth c H locs cells slots P2 g :=
  fun T hT X => (k T hT X).imp fun t ht => ⟨ht.1, hP t ht.2⟩
theorem jMQ {ω : jw} {R : Room} {s : State} {below : List Frame} {args : Array Value} {H : Heap} {cells slots : Nat} {v : Option Value} (hH : jHR ω h H) (hc : cells + jCM ≤ R.cells + (h.1 + h.2.1)) (hs : slots + jSM ≤ R.slots + h.2.2.1) (hq : Q (.inl v) h) (t : State) (ht : MQ below (fun _ _ o t => o = .returned v ∧ t.heap = H) args s cells slots (fun q => jN ω ≤ q) t) : jEnd ω R s below Q t := by
  obtain ⟨o, a1, a2, ⟨a3, a4⟩, L, ⟨-, a5, a6⟩, a7⟩ := ht
  exact ⟨o, .inl v, h, L, cells, slots, a1, a2, a3, by rw [a4]; exact hH, hq, a5, a6, a7, hc, hs⟩
theorem jj_iret {v : Int32} {ty : FieldType} (hd : decode x.2.1 pc = .ok (.ireturn, 1)) (hr : x.2.2.2.1 = some ty) (hn : narrow ty (.int v) = .int v) (hq : Q (.inl (some (.int v))) h) : jj ω d x pc ls [.int v] h Q := by
  intro p e R s m args below meth c C H locs cells slots lsm hH hL hc hs hls hlen
  have hlk : meth.locks = false := C.2.2.2.2.1
  exact jW_mono (W.zret (Qc := fun _ _ o t => o = .returned (some (.int v)) ∧ t.heap = H) (free := fun q => jN ω ≤ q) C.1 C.2.1 (C.2.2.2.1.trans hr) hn (fun t ht _ => ⟨rfl, ht⟩) hL hd hlk) (jMQ hH hc hs hq)
theorem jj_vret (hd : decode x.2.1 pc = .ok (.return_, 1)) (hr : x.2.2.2.1 = none) (hq : Q (.inl none) h) : jj ω d x pc ls [] h Q := by
  intro p e R s m args below meth c C H locs cells slots lsm hH hL hc hs hls hlen
  have hlk : meth.locks = false := C.2.2.2.2.1
  exact jW_mono (W.vret (Qc := fun _ _ o t => o = .returned none ∧ t.heap = H) (free := fun q => jN ω ≤ q) C.1 C.2.1 (C.2.2.2.1.trans hr) (fun t ht _ => ⟨rfl, ht⟩) hL hd hlk) (jMQ hH hc hs hq)
theorem jj_obj {idx a : Nat} (hd : decode x.2.1 pc = .ok (.invokespecial idx, 3)) (hl : Cond.methodLink x.1.cls idx objectInit ∈ jWS) (hi : Cond.instanceMethod objectInit ∈ jWS) (hcd : Cond.code objectInit ⟨#[0xb1]⟩ 1 none ∈ jWS) (hst : st.length ≤ 20) (k : jj ω d x (pc + 3) ls st h Q) : jj ω d x pc ls (.ref a :: st) h Q := by
  intro p e R s m args below meth c C H locs cells slots lsm hH hL hc hs hls hlen
  have hcat : ∀ st : List Value, (st.map fun v => v.category).sum ≤ 2 * st.length := fun st => by
    induction st with
    | nil => simp
    | cons v w ih => rcases lv_cat v with hv | hv <;> simp [hv] <;> omega
  have h2 := hcat st
  have h3 := C.loc
  have h4 := C.frm
  have hsz : lsm.size = c.maxLocals := by
    obtain ⟨lv, hv, -⟩ := hls
    rw [hv.1, hlen, C.2.2.1]
  exact W.objInit C.1 C.2.1 C.own (C.wds _ hl) (C.wds _ hi) (C.wds _ hcd) rfl hsz rfl hd (by omega) (by show 2 * 0 + _ + 12 ≤ _; omega) (k p e R s m args below meth c C H locs cells slots lsm hH hL hc hs hls hlen)
end JH
