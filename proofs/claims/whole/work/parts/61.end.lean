/-! THE END: from the Statement's start to the law's walk (the frame of it is the skeleton's, with stack traces off). -/
theorem e_arr {args : Array Value} {s : State} {ty : FieldType} (h : (Cond.arrayClass ty).before args s = true) : ∃ c : ClassId, ArrOfT s c ty ∧ s.vm.findClass ("[" ++ ty.toString) = some c := by
  obtain ⟨cA, kA, comp, h1, h2, h3⟩ := Cond.arrayClass_spec h
  exact ⟨cA, fun n z => ⟨fun k h => (by cases h), kA, h2, comp, h3⟩, h1⟩
theorem e_arrL {args : Array Value} {s : State} (h : (Cond.arrayOver (.object jRL)).before args s = true) : ∃ c : ClassId, ArrOfT s c (.object jRL) ∧ va_RA s c (.object jRL) := by
  obtain ⟨comp, c, k, h1, -, h2, h3, h4⟩ := Cond.arrayOver_spec h
  exact ⟨c, fun n z => ⟨fun k h => (by cases h), k, h2, comp, h3⟩, k, comp, h2, h3, h1, h4⟩
theorem e_K {args : Array Value} {s : State} (h : ∀ w ∈ jWS, w.before args s = true) : ∃ (D : va_G) (K : Nat → ClassId), va_K D vwCl [(K 0, .int), (K 1, .boolean), (K 2, .long), (K 3, .object jRL)] s := by
  obtain ⟨c0, i0, h0⟩ := u_known h clBO.2.1 (h _ clBO.2.2.2.2.2.1)
  obtain ⟨c1, i1, h1⟩ := u_known h clLk.2.1 (h _ clLk.2.2.2.2.2.1)
  obtain ⟨c2, i2, h2⟩ := u_known h clRw.2.1 (h _ clRw.2.2.2.2.2.1)
  obtain ⟨c3, i3, h3⟩ := u_known h clSy.2.1 (h _ clSy.2.2.2.2.2.1)
  obtain ⟨c4, i4, h4⟩ := u_known h clRl.2.1 (h _ clRl.2.2.2.2.2.1)
  obtain ⟨c5, i5, h5⟩ := u_known h clSp.2.1 (h _ clSp.2.2.2.2.2.1)
  obtain ⟨c6, i6, h6⟩ := u_known h clJr.2.1 (h _ clJr.2.2.2.2.2.1)
  obtain ⟨c7, i7, h7⟩ := u_known h clMd.2.1 (h _ clMd.2.2.2.2.2.1)
  obtain ⟨a0, p0, q0⟩ := e_arr (h _ acI)
  obtain ⟨a1, p1, q1⟩ := e_arr (h _ acZ)
  obtain ⟨a2, p2, q2⟩ := e_arr (h _ acJ)
  obtain ⟨a3, p3, q3⟩ := e_arrL (h _ acL)
  refine ⟨(fun k => match k with | 0 => c0 | 1 => c1 | 2 => c2 | 3 => c3 | 4 => c4 | 5 => c5 | 6 => c6 | _ => c7, fun k => match k with | 0 => i0 | 1 => i1 | 2 => i2 | 3 => i3 | 4 => i4 | 5 => i5 | 6 => i6 | _ => i7), fun k => match k with | 0 => a0 | 1 => a1 | 2 => a2 | _ => a3, fun c q hq => ?_, fun k q hk => ?_⟩
  · match c, hq with
    | 0, hq => obtain rfl : qBO = q := Option.some.inj hq; exact h0
    | 1, hq => obtain rfl : qLk = q := Option.some.inj hq; exact h1
    | 2, hq => obtain rfl : qRw = q := Option.some.inj hq; exact h2
    | 3, hq => obtain rfl : qSy = q := Option.some.inj hq; exact h3
    | 4, hq => obtain rfl : qRl = q := Option.some.inj hq; exact h4
    | 5, hq => obtain rfl : qSp = q := Option.some.inj hq; exact h5
    | 6, hq => obtain rfl : qJr = q := Option.some.inj hq; exact h6
    | 7, hq => obtain rfl : qMd = q := Option.some.inj hq; exact h7
    | n + 8, hq => exact absurd (show (none : Option vw_C) = some q from hq) (fun h => by cases h)
  · match k, hk with
    | 0, hk => obtain rfl : (a0, FieldType.int) = q := Option.some.inj hk; exact ⟨p0, q0⟩
    | 1, hk => obtain rfl : (a1, FieldType.boolean) = q := Option.some.inj hk; exact ⟨p1, q1⟩
    | 2, hk => obtain rfl : (a2, FieldType.long) = q := Option.some.inj hk; exact ⟨p2, q2⟩
    | 3, hk => obtain rfl : (a3, FieldType.object jRL) = q := Option.some.inj hk; exact ⟨p3, q3⟩
    | n + 4, hk => exact absurd (show (none : Option (ClassId × FieldType)) = some q from hk) (fun h => by cases h)
def lw_P (b : Addr) (xs : List Int32) (args : Array Value) (s : State) : Prop := args = #[.ref b] ∧ s.IntsAt b xs ∧ xs.length ≤ 3072 ∧ ((Jvm.Cond.and given_1 narrow_1).before args s = true ∧ rest_1_c.before args s = true)
def lw_Q (_ : Array Value) (s : State) (o : Outcome) (t : State) : Prop := o = .returned (some (.int 1)) ∧ Framed s o t [] jCM jSM
def lw_Z (below : List Frame) (a : Array Value) (s : State) : State → Prop := fun t => ∃ o, t.status = .running ∧ Ended t below o ∧ lw_Q a s o t
/-- the words of the start: the tables', the premises', the rest's -/
def lw_all : List Cond := lw_tbl ++ (flatC (Jvm.Cond.and given_1 narrow_1) ++ flatC rest_1_c)
theorem e_lU : Cond.laysStatic Bundle.tN "UNASSIGNED_STACK" Bundle.steD ∈ lw_all := by decide +kernel
theorem e_lS : Cond.laysStatic Bundle.tN "SUPPRESSED_SENTINEL" Bundle.listD ∈ lw_all := by decide +kernel
theorem e_in : Cond.initialized Bundle.tN ∈ lw_all := by decide +kernel
theorem e_rU : Cond.isRef (.static Bundle.tN "UNASSIGNED_STACK" Bundle.steD) ∈ lw_all := by decide +kernel
theorem e_rS : Cond.isRef (.static Bundle.tN "SUPPRESSED_SENTINEL" Bundle.listD) ∈ lw_all := by decide +kernel
theorem e_nc : ∀ a ∈ [0, 1, 2, 3], ∀ b ∈ [0, 1, 2, 3], a ≠ b → Cond.not (.castable (jE a) (jE b)) ∈ lw_all := by decide +kernel
theorem e_HR (ω : jw) (h : (jH ω).size = jN ω) : jHR ω (pst ω ([] ++ []) 0) (jH ω) := by
  refine ⟨fun a e he => ?_, fun _ => h, Nat.le_of_eq h.symm, fun q _ => rfl, Nat.zero_le _, Nat.zero_le _⟩
  have he : (if jN ω ≤ a then ([] : List va_E)[a - jN ω]? else none) = some e := he
  split at he
  · exact (nilAt he).elim
  · cases he
/-- the law's walk from its entry -/
theorem whole_start {p : Program} {e : Env} {s : State} {m : MethodId} {below : List Frame} {meth : Method} {c : Code} {l : Launch} (hl : l.stackTraces = false) {b L : Nat} {xs : Nat → Int32} (hL : L ≤ 3072)
    (c1 : p.tables.exec = Jvm.exec) (c2 : c.code = code) (c3 : meth.sig.returnType = ret) (c4 : c.maxLocals = 7) (c5 : s.vm.findClass x.cls = some m.cls) (c6 : ∀ w ∈ lw_all, w.before #[Value.ref b] s = true) (c7 : va_X b L xs s s.heap) (c8 : b < s.heap.size) (c9 : meth.locks = false) (c10 : meth.name = x.name) (c11 : c.exceptionTable = #[]) :
    W p l e room_1 s m #[Value.ref b] below meth c s.heap [] 0 0 (lw_Z below #[Value.ref b] s) (entryFrame m #[Value.ref b] 7) := by
  have hws : ∀ w ∈ jWS, w.before #[Value.ref b] s = true := fun w hw => c6 w (List.mem_append_left _ (List.mem_filter.mp hw).1)
  obtain ⟨D, K, hK⟩ := e_K hws
  have hA : ∀ a : Nat, a < s.heap.size → ¬ s.heap.size ≤ a := fun a h => Nat.not_le.mpr h
  have hw0 : jW0 (l, s.heap.size, s.heap, D, K, b, L, xs) s := ⟨Nat.le_refl _, fun q _ => rfl, rfl, vx_Zqof (c6 _ e_lU) (c6 _ e_in) (c6 _ e_rU) hA, vx_Zqof (c6 _ e_lS) (c6 _ e_in) (c6 _ e_rS) hA, fun a ha b' hb hab => va_Nc.of (c6 _ (e_nc a ha b' hb hab))⟩
  have hC : jC (l, s.heap.size, s.heap, D, K, b, L, xs) (0 + 15) mLw_law p e room_1 s m #[Value.ref b] meth c := ⟨c1, c2, c4, c3, c9, c10, by rw [c11]; rfl, c5, hws, hK, c7, c8, by decide +kernel, by decide +kernel, hl, hw0⟩
  have k := law_start (ω := (l, s.heap.size, s.heap, D, K, b, L, xs)) (d := 0) (Q := fun r _ => r = .inl (some (.int 1))) (by show L < 5000; omega) (fun _ => rfl)
  have k2 := k p e room_1 s m below meth c hC (e_HR (l, s.heap.size, s.heap, D, K, b, L, xs) rfl) (Nat.le_add_right _ _) (Nat.le_add_right _ _)
  refine jW_mono k2 (fun t ht => ?_)
  obtain ⟨o, r, h', L', k', n', a1, a2, a3, a4, a5, a6, a7, a8, a9, a10⟩ := ht
  have a5 : r = .inl (some (.int 1)) := a5
  subst a5
  have a3 : o = .returned (some (.int 1)) := a3
  subst a3
  have b1 : h'.1 + h'.2.1 ≤ jCM := a4.2.2.2.2.1
  have b2 : h'.2.2.1 ≤ jSM := a4.2.2.2.2.2
  have a9 : k' + jCM ≤ jCM + (h'.1 + h'.2.1) := a9
  have a10 : n' + jSM ≤ jSM + h'.2.2.1 := a10
  exact ⟨_, a1, a2, rfl, ⟨_, rfl⟩, a6, a7.weaken (fun y hy hlt => absurd hlt (Nat.not_lt.mpr (a8 y hy))) (by omega) (by omega)⟩
set_option maxHeartbeats 4000000 in
theorem lw_walk (l : Launch) (hl : l.stackTraces = false) (b : Addr) (xs : List Int32) : MetFree l x (headSpec (Jvm.Cond.code x code maxLocals ret :: tables_1) room_1) (lw_P b xs) (fun _ _ _ _ _ => True) lw_Q := by
  refine MetFree.of_bodyS (code := code) (maxLocals := maxLocals) (ret := ret) (by decide) ?_ ?_
  · intro args s m h hn
    obtain ⟨meth, c, h1, h2, h3, h4, h5, h6, -, -⟩ := Cond.code_spec hn (atoms_spec (ws := Jvm.Cond.code x code maxLocals ret :: tables_1) h _ List.mem_cons_self)
    exact ⟨meth, c, h1, h2, h3, h4, h5, h6⟩
  · intro p e s m args below meth c s₁ B hml0 hP _
    obtain ⟨rfl, hx, hbd, hgv, hrs⟩ := hP
    obtain ⟨scr, harrAt, hlist, hof, hsmall⟩ := hx
    obtain ⟨hcb, hkn, -, -⟩ := State.arrayAt?_spec harrAt
    have hown : s.vm.findClass x.cls = some m.cls := findClass_of_methodNamed B.named
    have hts0 : ∀ c ∈ (Jvm.Cond.code x code maxLocals ret :: tables_1), c.before #[Value.ref b] s = true := atoms_spec (ws := Jvm.Cond.code x code maxLocals ret :: tables_1) B.pre
    have hts : ∀ w ∈ lw_tbl, w.before #[Value.ref b] s = true := k2_hts_sels lw_privs (fun w hw => hts0 w (List.mem_cons_of_mem _ hw)) lw_privs_ok
    have hall : ∀ w ∈ lw_all, w.before #[Value.ref b] s = true := fun w hw => (List.mem_append.mp hw).elim (hts w) (fun h => (List.mem_append.mp h).elim (flat_of_before _ hgv w) (flat_of_before _ hrs w))
    have hml : c.maxLocals = 7 := B.maxLocals_eq (hts0 _ List.mem_cons_self)
    have X₀ : Stand p l e room_1 s m #[Value.ref b] below meth c s₁ [] 0 0 := Stand.of_body B
    have hex : c.exceptionTable = #[] := by
      obtain ⟨meth', c', g1, g2, -, -, -, -, g7, -⟩ := Cond.code_spec B.named (hts0 _ List.mem_cons_self)
      obtain rfl : meth' = meth := Option.some.inj (g1.symm.trans B.method)
      obtain rfl : c' = c := Option.some.inj (g2.symm.trans X₀.code)
      simpa using g7
    have hh0 : s₁.heap = s.heap := by rw [B.state]; rfl
    have hsz : scr.slots.size = xs.length := by rw [← Array.length_toList, hlist, List.length_map]
    have hval : ∀ j : Nat, j < xs.length → scr.slots[j]? = some (.int (xs.getD j 0)) := fun j hj => by
      rw [← Array.getElem?_toList, hlist]
      simp [hj]
    have hbl : b < s.heap.size := (Array.getElem?_eq_some_iff.mp hcb).1
    have hX : va_X b xs.length (fun j => xs.getD j 0) s s.heap := ⟨scr, hcb, hof, hkn, hsz, hval⟩
    have K : W p l e room_1 s m #[Value.ref b] below meth c s₁.heap [] 0 0 (lw_Z below #[Value.ref b] s) (entryFrame m #[Value.ref b] 7) := by
      rw [hh0]
      exact whole_start hl hbd B.exec B.bytes B.returns hml hown hall hX hbl B.notSynchronized (name_of_methodNamed B.named B.method).1 hex
    obtain ⟨t, a1, o, b1, b2, b3⟩ := K s₁ rfl X₀
    exact ⟨t, o, a1, b1, b2, b3⟩
theorem lw_pre_spec {args : Array Value} {s : State} (h : (Jvm.Cond.and given_1 narrow_1).before args s = true) (hr : rest_1_c.before args s = true) : ∃ (b : Addr) (xs : List Int32), lw_P b xs args s := by
  have hs := flat_of_before _ h
  have hq := flat_of_before _ hr
  have hc : (Cond.count 1).before args s = true := hs _ (by decide +kernel)
  have harr : (Cond.arrayOf (.arg 0) .int).before args s = true := hs _ (by decide +kernel)
  have hle : (Cond.le (.length (.arg 0)) (.int 3072)).before args s = true := hs _ (by decide +kernel)
  have hlen : (Cond.isInt (.length (.arg 0))).before args s = true := hq _ (by decide +kernel)
  have hall : (Cond.all (.arg 0) (.isInt (.elem (.arg 0) (.index 0)))).before args s = true := hq _ (by decide +kernel)
  obtain ⟨b, xs, hb, hx⟩ := State.ints_of_pre rfl harr hlen hall
  have hsm : xs.length < 2 ^ 31 := hx.choose_spec.2.2.2
  have hev : (Term.length (.arg 0)).eval args s none [] s = some (.int xs.length.toInt32) := hx.length_eval hb
  have hv := Cond.le_ints hev (show (Term.int 3072).eval args s none [] s = some (.int 3072) from rfl)
  have hd : xs.length.toInt32 ≤ 3072 := by
    simpa [Cond.before, Cond.holds, hv] using hle
  have hN : xs.length ≤ 3072 := (Int32.ofNat_le_ofNat hsm (by decide)).mp (show Int32.ofNat xs.length ≤ Int32.ofNat 3072 from hd)
  exact ⟨b, xs, Cond.one_arg hc (show args[0]? = some (.ref b) from hb), hx, hN, h, hr⟩
theorem lw_comes (l : Launch) (hl : l.stackTraces = false) : Comes l x (Jvm.Cond.code x code maxLocals ret :: tables_1) room_1 (fun tb e args s => Calls_1 tb e args s ∧ rest_1 tb e args s ∧ Pre_1 tb e args s)
    (fun _ _ args s o t => lw_Q args s o t) := by
  intro p e ha hc hk s m args below hf hfit hheap happ hpre
  obtain ⟨b, xs, hP⟩ := lw_pre_spec hpre.2.2 hpre.2.1
  obtain ⟨k, o, h1, h2, h3, hQ⟩ := lw_walk l hl b xs p e ha hc hk s m args below hf ((Spec.applies_iff_loose hf).mp happ).1 hP trivial
  exact ⟨k, o, h1, h2, h3, hQ⟩
theorem lw_frame {s t : State} {o : Outcome} {args : Array Value} (h : Framed s o t [] jCM jSM) :
    Framed s o t (fieldLocs frame_1_writes args s ++ arrayLocs frame_1_arrays args s ++ staticLocs frame_1_statics s) 653699 7135006 := h
theorem lw_flags {l : Launch} (h : l.flags = flags0) : l.stackTraces = false := by
  unfold Launch.stackTraces
  rw [h]
  decide +kernel
theorem lw_limb (L : Cond) (hL : ∀ (args : Array Value) (s t : State), L.after args s (.returned (some (.int 1))) t = true) :
    ArmFor flags0 classFile x code maxLocals ret World_1 tables_1 room_1 Calls_1 rest_1 Pre_1
      (fun tb e a s o t => postC L tb e a s o t ∧ Framed s o t (fieldLocs frame_1_writes a s ++ arrayLocs frame_1_arrays a s ++ staticLocs frame_1_statics s) 653699 7135006) := by
  intro l hfl _ _ p e ha hc hk s m args below hf hfit hheap happ hpre
  obtain ⟨k, o, h1, h2, h3, rfl, hF⟩ := lw_comes l (lw_flags hfl) p e ha hc hk s m args below hf hfit hheap happ hpre
  exact ⟨k, _, h1, h2, h3, hL args s _, lw_frame hF⟩
theorem i_vc : Claimed_1_1 ∧ Claimed_1_2 := ⟨lw_limb limb_1_1 (fun args s t => by simp [limb_1_1, Cond.after, Cond.holds, Cond.value]), lw_limb limb_1_2 (fun args s t => Cond.after_iff.mpr (by
  first | (rw [show limb_1_2 = Cond.eq .result (.int 1) from rfl, Cond.eq_ints (x := 1) (y := 1) rfl rfl]; simp; done) | (simp [limb_1_2, Cond.value, Term.eval]; done)))⟩
