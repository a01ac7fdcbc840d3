def iN (x : Int32) : Nat := x.toInt.toNat
theorem iN_nI {k : Nat} (hk : k < 2 ^ 31) : iN (nI k) = k := by unfold iN; rw [nI_toInt hk]; rfl
def RlOk (σ : Sg) (p : Nat) (y : Rel) : Prop := (∃ w, w < Zs σ p ∧ y.2.1 = nI w) ∧ (y.1 = 0 ∨ (y.1 = 1 ∨ y.1 = 2) ∧ ∃ s, s < (Zy σ p).length ∧ y.2.2.1 = nI s)
def SyOk (σ : Sg) (p : Nat) (y : Sym) : Prop := y.2.1 = -1 ∨ ∃ w, w < Zs σ p ∧ y.2.1 = nI w
/-- what the memory holds is in its bounds -/
def Wm (σ : Sg) : Prop := (∀ p, p < 6 → Zs σ p ≤ 8) ∧ (∀ p b, p < 6 → Zb σ p = some b → b + Zs σ p ≤ 32 ∧ 1 ≤ Zs σ p) ∧ Apart σ ∧ (∀ p, p < 6 → ∀ y ∈ Zr σ p, RlOk σ p y) ∧ (∀ p, p < 6 → ∀ y ∈ Zy σ p, SyOk σ p y)
theorem Wm.wb {σ : Sg} (h : Wm σ) : Wb σ := fun p b hp hb => by have := h.2.1 p b hp hb; omega
theorem Wm.st {σ : Sg} (h : Wm σ) (v : Int32) : Wm (zSt σ v) := h
theorem Wm.use {σ : Sg} (h : Wm σ) (p q : Nat) : Wm (zUse σ p q) := h
theorem Wm.wd {σ : Sg} (h : Wm σ) (a : Nat) (v : Int32) : Wm (zWd σ a v) := h
theorem rsF_cases (σ : Sg) (p : Nat) (y : Sym) : ∃ v, (rsF σ p y).2 = zSt σ v ∨ ∃ q, (rsF σ p y).2 = zUse (zSt σ v) p q := by
  unfold rsF
  cases (luF σ p y.1 (Sp σ)).1 with
  | none => exact ⟨_, Or.inl rfl⟩
  | some q =>
    refine ⟨(luF σ p y.1 (Sp σ)).2, ?_⟩
    by_cases h : q = p
    · exact Or.inl (if_pos h)
    · exact Or.inr ⟨q, if_neg h⟩
theorem Wm.rs {σ : Sg} (h : Wm σ) (p : Nat) (y : Sym) : Wm (rsF σ p y).2 := by
  obtain ⟨v, e | ⟨q, e⟩⟩ := rsF_cases σ p y
  · rw [e]; exact h
  · rw [e]; exact h
theorem rsF_Zr (σ : Sg) (p : Nat) (y : Sym) : Zr (rsF σ p y).2 = Zr σ := by
  obtain ⟨v, e | ⟨q, e⟩⟩ := rsF_cases σ p y
  · rw [e]; rfl
  · rw [e]; rfl
theorem rsF_Zb (σ : Sg) (p : Nat) (y : Sym) : Zb (rsF σ p y).2 = Zb σ := by
  obtain ⟨v, e | ⟨q, e⟩⟩ := rsF_cases σ p y
  · rw [e]; rfl
  · rw [e]; rfl
theorem CS_nw {M M' : Nat → Nat → Int32} {σ : Sg} (hC : CS M σ) (hA : ∀ k i, k ≠ 0 ∨ i ≠ 6 → M' k i = M k i) : CS M' σ := by
  obtain ⟨c1, c2, c3, c4, c5, ⟨l0, c6⟩, c7⟩ := hC
  exact ⟨fun q hq => (c1 q hq).eqs (fun k i a b => hA _ _ (Or.inl (by omega))) rfl rfl rfl rfl rfl rfl rfl rfl, c2.eqs (fun i => hA _ _ (Or.inl (by omega))) (fun i => hA _ _ (Or.inl (by omega))) rfl rfl rfl, c3.eqs (fun i => hA _ _ (Or.inl (by omega))) (fun i => hA _ _ (Or.inl (by omega))), c4.eqs (fun i => hA _ _ (Or.inl (by omega))) (fun i => hA _ _ (Or.inl (by omega))), c5.eqs (fun i => hA _ _ (Or.inl (by omega))) (fun i => hA _ _ (Or.inl (by omega))), ⟨l0, c6.eqs (fun i => hA _ _ (Or.inl (by omega))) (fun i => hA _ _ (Or.inl (by omega)))⟩, by rw [hA _ _ (Or.inr (by omega))]; exact c7⟩
theorem Wm.load {σ : Sg} (h : Wm σ) {p b : Nat} {l : List Nat} (hp : p < 6) (hb : Zb σ p = none) (hw : 1 ≤ Zs σ p) (hfr : fr (tkn σ) b (Zs σ p)) : Wm (zLoad σ p b l) := by
  obtain ⟨h1, h2, h3, h4, h5⟩ := h
  refine ⟨h1, fun q b' hq hb' => ?_, fun q r a hq hr hne i1 i2 => ?_, h4, h5⟩
  · by_cases hqp : q = p
    · subst hqp
      have hb2 : va_up (Zb σ) q (some b) q = some b' := hb'
      rw [va_up_self] at hb2
      cases hb2
      exact ⟨hfr.1, hw⟩
    · have hb2 : va_up (Zb σ) p (some b) q = some b' := hb'
      rw [va_up_ne _ _ hqp] at hb2
      exact h2 q b' hq hb2
  · rw [inIm_load] at i1 i2
    have hx : ∀ z, z < 6 → inIm σ a z = true → (decide (b ≤ a) && decide (a < b + Zs σ p)) = true → False := fun z hz i3 i4 => by
      rw [Bool.and_eq_true, decide_eq_true_eq, decide_eq_true_eq] at i4
      have := hfr.2 a i4.1 i4.2
      rw [tkn_iff.mpr ⟨z, hz, inIm_iff.mp i3⟩] at this
      cases this
    by_cases hqp : q = p
    · rw [if_pos hqp] at i1
      rw [if_neg (fun e => hne (hqp.trans e.symm))] at i2
      exact hx r hr i2 i1
    · rw [if_neg hqp] at i1
      by_cases hrp : r = p
      · rw [if_pos hrp] at i2
        exact hx q hq i1 i2
      · rw [if_neg hrp] at i2
        exact h3 q r a hq hr hne i1 i2
theorem Wm.out {σ : Sg} (h : Wm σ) (p : Nat) : Wm (zOut σ p) := by
  obtain ⟨h1, h2, h3, h4, h5⟩ := h
  refine ⟨h1, fun q b' hq hb' => ?_, fun q r a hq hr hne i1 i2 => ?_, h4, h5⟩
  · have hb2 : va_up (Zb σ) p none q = some b' := hb'
    by_cases hqp : q = p
    · subst hqp; rw [va_up_self] at hb2; cases hb2
    · rw [va_up_ne _ _ hqp] at hb2
      exact h2 q b' hq hb2
  · rw [inIm_out] at i1 i2
    by_cases hqp : q = p
    · rw [if_pos hqp] at i1; cases i1
    · rw [if_neg hqp] at i1
      by_cases hrp : r = p
      · rw [if_pos hrp] at i2; cases i2
      · rw [if_neg hrp] at i2
        exact h3 q r a hq hr hne i1 i2
noncomputable def lb (tk : Nat → Bool) (w : Nat) : Option Nat := (List.range 33).find? (fun b => @decide (fr tk b w) (Classical.propDecidable _))
theorem lb_some {tk : Nat → Bool} {b w : Nat} (h : fr tk b w) (hl : ∀ b', b' < b → ¬ fr tk b' w) : lb tk w = some b := by
  unfold lb
  rw [List.find?_eq_some_iff_append]
  have hb : b < 33 := by have := h.1; omega
  refine ⟨@decide_eq_true _ (Classical.propDecidable _) h, List.range b, (List.range' (b + 1) (32 - b)), ?_, fun a ha => ?_⟩
  · apply List.ext_getElem
    · simp; omega
    · intro i h1 h2
      simp only [List.getElem_range, List.getElem_append, List.length_range]
      split
      · rfl
      · rename_i hi
        rw [List.getElem_cons]
        split
        · omega
        · simp only [List.getElem_range']; omega
  · have := hl a (List.mem_range.mp ha)
    simp [this]
theorem lb_none {tk : Nat → Bool} {w : Nat} (h : ∀ b, ¬ fr tk b w) : lb tk w = none := by
  unfold lb
  rw [List.find?_eq_none]
  intro b _
  simp [h b]
theorem lb_fr {tk : Nat → Bool} {b w : Nat} (h : lb tk w = some b) : fr tk b w := by
  have := List.find?_some h
  simpa using this
/-- the closure is loaded: all of it?, the state, the newcomers -/
noncomputable def ldF (l : List Nat) : List Nat → Sg → List Nat → Bool × Sg × List Nat
  | [], σ, nw => (true, σ, nw)
  | p :: t, σ, nw => if Zb σ p = none then (match lb (tkn σ) (Zs σ p) with | none => (false, σ, nw) | some b => ldF l t (zLoad σ p b l) (nw ++ [p])) else ldF l t σ nw
def NwIs (M : Nat → Nat → Int32) (nw : List Nat) : Prop := ∀ i, i < 32 → bt (M 0 6) i = decide (i ∈ nw)
theorem NwIs.add {M M' : Nat → Nat → Int32} {nw : List Nat} {p : Nat} (h : NwIs M nw) (hp : p < 32) (he : M' 0 6 = M 0 6 ||| ((1 : Int32) <<< (nI p &&& 31))) : NwIs M' (nw ++ [p]) := fun i hi => by
  rw [he, bt_or1 hp hi, h i hi]
  simp
set_option maxRecDepth 100000 in
set_option maxHeartbeats 4000000 in
theorem c_loadClosure_l {ω : jw} {d : Nat} {J sl : Nat} {Q : jr → jh → Prop} {M0 : Nat → Nat → Int32} {l : List Nat} (hnd : l.Nodup) :
    ∀ (n i : Nat) (σ : Sg) (nw : List Nat) (M : Nat → Nat → Int32) (c2 : Option Value), l.length - i < n → i ≤ l.length → CS M σ → Wm σ → RowIs M 11 l → (∀ p ∈ l, 1 ≤ Zs σ p) → NwIs M nw → Cl M0 M → (∀ M', CS M' (ldF l (l.drop i) σ nw).2.1 → RowIs M' 11 l → NwIs M' (ldF l (l.drop i) σ nw).2.2 → Cl M0 M' → Q (.inl (some (.int (b2i (ldF l (l.drop i) σ nw).1)))) (jst ω M' J sl)) →
    jj ω (d + 4) mBO_loadClosure 7 [some (.ref (jN ω + 0)), some (.int (nI i)), c2] [] (jst ω M J sl) Q := by
  intro n
  induction n with
  | zero => intro i σ nw M c2 hn; omega
  | succ n ih =>
    intro i σ nw M c2 hn hi hC hW hR hz hN hCl hq
    have hl6 := hR.2.1
    refine jj_il1 dBO_loadClosure_7 ?_
    refine jj_al0 dBO_loadClosure_8 ?_
    refine mr_get _ dBO_loadClosure_9 clBO lkBO_39 (s0 _) rfl ?_
    refine mr_get _ dBO_loadClosure_12 clRw lkBO_74 (s11 _) rfl ?_
    refine jj_icmp_ge 56 dBO_loadClosure_15 (by decide) (fun q1 => ?_) (fun q1 => ?_)
    · refine jj_iconst 1 dBO_loadClosure_56 (by decide) ?_
      exact jj_iret dBO_loadClosure_57 rfl rfl (by rw [List.drop_eq_nil_of_le (le_le hR.1 q1 (by omega) (by omega))] at hq; exact hq M hC hR hN hCl)
    · have hi2 : i < l.length := nle_lt hR.1 q1 (by omega) (by omega)
      obtain ⟨p, e1, e2, e3⟩ := hR.at hi2
      rw [List.drop_eq_getElem_cons hi2, show l[i] = p from (List.getElem?_eq_some_iff.mp e1).2] at hq
      have hpm : p ∈ l := List.mem_of_getElem? e1
      refine jj_al0 dBO_loadClosure_18 ?_
      refine mr_get _ dBO_loadClosure_19 clBO lkBO_39 (s0 _) rfl ?_
      refine mr_get _ dBO_loadClosure_22 clRw lkBO_203 (s11 _) rfl ?_
      refine jj_il1 dBO_loadClosure_25 ?_
      refine mr_iald dBO_loadClosure_26 (s12 _) (by omega) (by decide) ?_
      rw [e3]
      refine jj_is2 dBO_loadClosure_27 ?_
      refine jj_al0 dBO_loadClosure_28 ?_
      refine mr_get _ dBO_loadClosure_29 clBO lkBO_11 (s0 _) rfl ?_
      refine jj_il2 dBO_loadClosure_32 ?_
      refine mr_aald dBO_loadClosure_33 (e2) ?_
      refine mv0 dBO_loadClosure_34 clLk cvBO_57 (sL0 e2 _) (Nat.le_of_ble_eq_true rfl) ?_
      refine jwp_le (c_isLoaded (d := 0) e2 (fun hld => jk_i ?_) (fun hld => jk_i ?_)) (Nat.zero_le _)
      · have hbn : ¬ Zb σ p = none := fun h => hld ((hC.ld hW.wb e2).mpr h)
        refine jj_if_ne 50 dBO_loadClosure_37 (by decide) (fun _ => ?_) (fun h => absurd h (by decide))
        refine jj_ii1 (nI (i + 1)) dBO_loadClosure_50 (inc1 i) ?_
        refine jj_goto 7 dBO_loadClosure_53 (by decide) ?_
        exact ih (i + 1) σ nw M _ (by omega) (by omega) hC hW hR hz hN hCl (by rw [ldF, if_neg hbn] at hq; exact hq)
      · have hbn : Zb σ p = none := (hC.ld hW.wb e2).mp hld
        refine jj_if_ne 50 dBO_loadClosure_37 (by decide) (fun h => absurd h (by decide)) (fun _ => ?_)
        refine jj_al0 dBO_loadClosure_40 ?_
        refine jj_il2 dBO_loadClosure_41 ?_
        refine mv1 dBO_loadClosure_42 clBO cvBO_217 (s0 _) (Nat.le_of_ble_eq_true rfl) ?_
        refine c_load hC e2 hR hnd hbn (hz p hpm) (hW.1 p e2) (fun b M1 hfr hlst hC1 hR1 hN1 hCl1 => jk_i ?_) (fun hno => jk_i ?_)
        · refine jj_if_ne 50 dBO_loadClosure_45 (by decide) (fun _ => ?_) (fun h => absurd h (by decide))
          refine jj_ii1 (nI (i + 1)) dBO_loadClosure_50 (inc1 i) ?_
          refine jj_goto 7 dBO_loadClosure_53 (by decide) ?_
          exact ih (i + 1) _ _ M1 _ (by omega) (by omega) hC1 (hW.load e2 hbn (hz p hpm) hfr) hR1 hz (hN.add (by omega) hN1) (hCl.trans hCl1) (by rw [ldF, if_pos hbn, lb_some hfr hlst] at hq; exact hq)
        · refine jj_if_ne 50 dBO_loadClosure_45 (by decide) (fun h => absurd h (by decide)) (fun _ => ?_)
          refine jj_iconst 0 dBO_loadClosure_48 (by decide) ?_
          exact jj_iret dBO_loadClosure_49 rfl rfl (by rw [ldF, if_pos hbn, lb_none hno] at hq; exact hq M hC hR hN hCl)
set_option maxRecDepth 100000 in
set_option maxHeartbeats 4000000 in
theorem c_loadClosure {ω : jw} {d : Nat} {M : Nat → Nat → Int32} {J sl : Nat} {Q : jr → jh → Prop} {σ : Sg} {l : List Nat} (hnd : l.Nodup) (hC : CS M σ) (hW : Wm σ) (hR : RowIs M 11 l) (hz : ∀ p ∈ l, 1 ≤ Zs σ p) (hq : ∀ M', CS M' (ldF l l σ []).2.1 → RowIs M' 11 l → NwIs M' (ldF l l σ []).2.2 → Cl M M' → Q (.inl (some (.int (b2i (ldF l l σ []).1)))) (jst ω M' J sl)) : jwp ω (d + 4) mBO_loadClosure [.ref (jN ω + 0)] (jst ω M J sl) Q := by
  refine jwp_of (by simp [Value.category]) (Nat.le_of_ble_eq_true rfl) (ls := [some (.ref (jN ω + 0)), none, none]) rfl ?_
  refine jj_al0 dBO_loadClosure_0 ?_
  refine jj_iconst 0 dBO_loadClosure_1 (by decide) ?_
  refine mr_put dBO_loadClosure_2 clBO lkBO_42 rfl rfl (s0 _) (s0 _) (Nat.le_of_ble_eq_true rfl) rfl ?_
  refine jj_iconst 0 dBO_loadClosure_5 (by decide) ?_
  refine jj_is1 dBO_loadClosure_6 ?_
  exact c_loadClosure_l hnd (l.length + 1) 0 σ [] _ _ (by omega) (by omega) (CS_nw hC (fun k i a => mup_ne _ _ a)) hW (hR.eqs (fun i => mup_ne _ _ (Or.inl (by omega))) (fun i => mup_ne _ _ (Or.inl (by omega)))) hz (fun i hi => by rw [mup_at, b_0]; simp) (fun k i a => mup_ne _ _ (Or.inl (by omega))) hq
/-- the newcomers are taken out again, from place i on -/
def toF (nw : List Nat) : Nat → Nat → Sg → Sg
  | 0, _, σ => σ
  | n + 1, i, σ => if i ∈ nw then toF nw n (i + 1) (zOut σ i) else toF nw n (i + 1) σ
set_option maxRecDepth 100000 in
set_option maxHeartbeats 4000000 in
theorem c_takeOutNewcomers_l {ω : jw} {d : Nat} {J sl : Nat} {Q : jr → jh → Prop} {M0 : Nat → Nat → Int32} {nw : List Nat} :
    ∀ (n i : Nat) (σ : Sg) (M : Nat → Nat → Int32), n + i = 6 → CS M σ → Wm σ → NwIs M nw → (∀ p ∈ nw, i ≤ p → ¬ Zb σ p = none) → Cl M0 M → (∀ M', CS M' (toF nw n i σ) → Cl M0 M' → Q (.inl none) (jst ω M' J sl)) →
    jj ω (d + 2) mBO_takeOutNewcomers 2 [some (.ref (jN ω + 0)), some (.int (nI i))] [] (jst ω M J sl) Q := by
  intro n
  induction n with
  | zero =>
    intro i σ M hn hC hW hN hL hCl hq
    have hi : i = 6 := by omega
    subst hi
    refine jj_il1 dBO_takeOutNewcomers_2 ?_
    refine jj_bipush 6 dBO_takeOutNewcomers_3 (by decide) ?_
    refine jj_icmp_ge 30 dBO_takeOutNewcomers_5 (by decide) (fun q1 => ?_) (fun q1 => absurd q1 (by decide))
    exact jj_vret dBO_takeOutNewcomers_30 rfl (hq M hC hCl)
  | succ n ih =>
    intro i σ M hn hC hW hN hL hCl hq
    have hi6 : i < 6 := by omega
    unfold toF at hq
    refine jj_il1 dBO_takeOutNewcomers_2 ?_
    refine jj_bipush 6 dBO_takeOutNewcomers_3 (by decide) ?_
    refine jj_icmp_ge 30 dBO_takeOutNewcomers_5 (by decide) (fun q1 => absurd q1 (fun h => by have := le_le (a := 6) rfl h (by decide) (by omega); omega)) (fun q1 => ?_)
    refine jj_al0 dBO_takeOutNewcomers_8 ?_
    refine mr_get _ dBO_takeOutNewcomers_9 clBO lkBO_42 (s0 _) rfl ?_
    refine jj_il1 dBO_takeOutNewcomers_12 ?_
    refine ms2 dBO_takeOutNewcomers_13 csBO_144 (Nat.le_of_ble_eq_true rfl) ?_
    refine c_isIn _ (p := i) (by omega) (fun hin => jk_i ?_) (fun hin => jk_i ?_)
    · refine jj_if_eq 24 dBO_takeOutNewcomers_16 (by decide) (fun h => absurd h (by decide)) (fun _ => ?_)
      refine jj_al0 dBO_takeOutNewcomers_19 ?_
      refine jj_il1 dBO_takeOutNewcomers_20 ?_
      refine mv1 dBO_takeOutNewcomers_21 clBO cvBO_238 (s0 _) (Nat.le_of_ble_eq_true rfl) ?_
      rw [hN i (by omega), decide_eq_true_eq] at hin
      rw [if_pos hin] at hq
      obtain ⟨b, hb⟩ : ∃ b, Zb σ i = some b := by
        cases hx : Zb σ i with
        | none => exact absurd hx (hL i hin (by omega))
        | some b => exact ⟨b, rfl⟩
      refine c_takeOut hC hi6 hb (hW.2.1 i b hi6 hb).1 hW.2.2.1 (fun M1 hC1 hE1 hCl1 => jk_v ?_)
      refine jj_ii1 (nI (i + 1)) dBO_takeOutNewcomers_24 (inc1 i) ?_
      refine jj_goto 2 dBO_takeOutNewcomers_27 (by decide) ?_
      exact ih (i + 1) _ M1 (by omega) hC1 (hW.out i) (fun k hk => by rw [hE1 0 6 (Or.inl rfl)]; exact hN k hk) (fun p a b => by show ¬ va_up (Zb σ) i none p = none; rw [va_up_ne _ _ (by omega)]; exact hL p a (by omega)) (hCl.trans hCl1) hq
    · refine jj_if_eq 24 dBO_takeOutNewcomers_16 (by decide) (fun _ => ?_) (fun h => absurd h (by decide))
      refine jj_ii1 (nI (i + 1)) dBO_takeOutNewcomers_24 (inc1 i) ?_
      refine jj_goto 2 dBO_takeOutNewcomers_27 (by decide) ?_
      rw [hN i (by omega), decide_eq_false_iff_not] at hin
      rw [if_neg hin] at hq
      exact ih (i + 1) σ M (by omega) hC hW hN (fun p a b => hL p a (by omega)) hCl hq
set_option maxRecDepth 100000 in
set_option maxHeartbeats 4000000 in
theorem c_takeOutNewcomers {ω : jw} {d : Nat} {M : Nat → Nat → Int32} {J sl : Nat} {Q : jr → jh → Prop} {σ : Sg} {nw : List Nat} (hC : CS M σ) (hW : Wm σ) (hN : NwIs M nw) (hL : ∀ p ∈ nw, ¬ Zb σ p = none) (hq : ∀ M', CS M' (toF nw 6 0 σ) → Cl M M' → Q (.inl none) (jst ω M' J sl)) : jwp ω (d + 2) mBO_takeOutNewcomers [.ref (jN ω + 0)] (jst ω M J sl) Q := by
  refine jwp_of (by simp [Value.category]) (Nat.le_of_ble_eq_true rfl) (ls := [some (.ref (jN ω + 0)), none]) rfl ?_
  refine jj_iconst 0 dBO_takeOutNewcomers_0 (by decide) ?_
  refine jj_is1 dBO_takeOutNewcomers_1 ?_
  exact c_takeOutNewcomers_l 6 0 σ M rfl hC hW hN (fun p a b => hL p a) (Cl.refl M) hq
def drG (σ : Sg) (p r : Nat) (lz : Bool) (b : Nat) (y : Rel) (s : Sym) : Bool × Sg :=
  if y.1 = 0 then (true, zWd σ (b + iN y.2.1) (nI b + y.2.2.2)) else if y.1 = 2 ∧ lz = true then (true, zWd σ (b + iN y.2.1) (-1 - nI r)) else if (rsF σ p s).1 = -1 then (false, (rsF σ p s).2) else (true, zWd (rsF σ p s).2 (b + iN y.2.1) (if y.1 = 1 then (rsF σ p s).1 + y.2.2.2 else (rsF σ p s).1))
def syAt (σ : Sg) (p : Nat) (y : Rel) : Sym := (Zy σ p).getD (iN y.2.2.1) (0, 0, false)
def drF (σ : Sg) (p r : Nat) (lz : Bool) : Bool × Sg := drG σ p r lz ((Zb σ p).getD 0) ((Zr σ p).getD r (0, 0, 0, 0)) (syAt σ p ((Zr σ p).getD r (0, 0, 0, 0)))
theorem syAt_get {σ : Sg} {p s : Nat} {y : Rel} (hs : s < (Zy σ p).length) (he : y.2.2.1 = nI s) (h6 : (Zy σ p).length ≤ 6) : (Zy σ p)[s]? = some (syAt σ p y) := by
  unfold syAt
  rw [he, iN_nI (by omega), List.getD_eq_getElem?_getD, List.getElem?_eq_getElem hs]
  rfl
theorem drF_eq {σ : Sg} {p r b : Nat} {lz : Bool} {y : Rel} (hb : Zb σ p = some b) (hr : (Zr σ p)[r]? = some y) : drF σ p r lz = drG σ p r lz b y (syAt σ p y) := by
  unfold drF
  rw [hb, List.getD_eq_getElem?_getD, hr]
  rfl
theorem Kp.trans' {M M1 M2 : Nat → Nat → Int32} (h1 : Kp M M1) {a : Nat} {v : Int32} (h2 : M2 = mup M1 3 a v) : Kp M M2 := by
  subst h2
  exact h1.trans (Kp.up v (by omega) (by omega) (by omega) (by omega))
set_option maxRecDepth 100000 in
set_option maxHeartbeats 4000000 in
theorem c_doRelocation {ω : jw} {d : Nat} {M : Nat → Nat → Int32} {J sl : Nat} {Q : jr → jh → Prop} {σ : Sg} (hC : CS M σ) (hW : Wm σ) {p r b : Nat} (hp : p < 6) (hb : Zb σ p = some b) {y : Rel} (hr : (Zr σ p)[r]? = some y) (lz : Bool) (hq : ∀ M', Kp M M' → CS M' (drF σ p r lz).2 → Q (.inl (some (.int (b2i (drF σ p r lz).1)))) (jst ω M' J sl)) : jwp ω (d + 4) mBO_doRelocation [.ref (jN ω + 0), .int (nI p), .int (nI r), .int (b2i lz)] (jst ω M J sl) Q := by
  have hLk := hC.1 p hp
  have h5 : M (13 + 15 * p) 5 = nI b := by rw [hLk.2.1, hb]; rfl
  obtain ⟨g1, g2, g3, g4⟩ := hLk.2.2.2.2.2.2.1.2.2 r y hr
  have hr6 : r < 6 := by have := (List.getElem?_eq_some_iff.mp hr).1; have := hLk.2.2.2.2.2.2.1.2.1; omega
  have hy6 : (Zy σ p).length ≤ 6 := hLk.2.2.2.2.2.1.2.1
  obtain ⟨⟨w, hw, hwe⟩, hk⟩ := hW.2.2.2.1 p hp y (List.mem_of_getElem? hr)
  have hw8 := hW.1 p hp
  have hbw := (hW.2.1 p b hp hb).1
  rw [drF_eq hb hr] at hq
  unfold drG at hq
  rw [hwe, iN_nI (by omega)] at hq
  refine jwp_of (by simp [Value.category]) (Nat.le_of_ble_eq_true rfl) (ls := [some (.ref (jN ω + 0)), some (.int (nI p)), some (.int (nI r)), some (.int (b2i lz)), none, none, none, none, none]) rfl ?_
  refine jj_al0 dBO_doRelocation_0 ?_
  refine mr_get _ dBO_doRelocation_1 clBO lkBO_11 (s0 _) rfl ?_
  refine jj_il1 dBO_doRelocation_4 ?_
  refine mr_aald dBO_doRelocation_5 (hp) ?_
  refine jj_as4 dBO_doRelocation_6 ?_
  refine jj_al4 dBO_doRelocation_8 ?_
  refine mr_get _ dBO_doRelocation_10 clLk lkBO_102 (sL0 hp _) rfl ?_
  refine jj_as5 dBO_doRelocation_13 ?_
  refine jj_al5 dBO_doRelocation_15 ?_
  refine mr_get _ dBO_doRelocation_17 clRl lkBO_165 (sL8 hp _) rfl ?_
  refine jj_il2 dBO_doRelocation_20 ?_
  refine mr_iald dBO_doRelocation_21 (sL9 hp _) (hr6) (by decide) ?_
  rw [g1]
  refine jj_is6 dBO_doRelocation_22 ?_
  refine jj_al4 dBO_doRelocation_24 ?_
  refine mr_get _ dBO_doRelocation_26 clLk lkBO_172 (sL0 hp _) rfl ?_
  rw [h5]
  refine jj_al5 dBO_doRelocation_29 ?_
  refine mr_get _ dBO_doRelocation_31 clRl lkBO_175 (sL8 hp _) rfl ?_
  refine jj_il2 dBO_doRelocation_34 ?_
  refine mr_iald dBO_doRelocation_35 (sL10 hp _) (hr6) (by decide) ?_
  rw [g2, hwe]
  refine jj_iadd dBO_doRelocation_36 ?_
  rw [nI_add]
  refine jj_is7 dBO_doRelocation_37 ?_
  refine jj_il6 dBO_doRelocation_39 ?_
  refine jj_if_ne 69 dBO_doRelocation_41 (by decide) (fun q1 => ?_) (fun q1 => ?_)
  · rw [if_neg q1] at hq
    refine jj_il6 dBO_doRelocation_69 ?_
    refine jj_iconst 2 dBO_doRelocation_71 (by decide) ?_
    refine jj_icmp_ne 95 dBO_doRelocation_72 (by decide) (fun q2 => ?_) (fun q2 => ?_)
    · rw [if_neg (fun h => q2 h.1)] at hq
      obtain ⟨_, s, hs, hse⟩ := hk.resolve_left q1
      refine jj_al0 dBO_doRelocation_95 ?_
      refine jj_il1 dBO_doRelocation_96 ?_
      refine jj_al5 dBO_doRelocation_97 ?_
      refine mr_get _ dBO_doRelocation_99 clRl lkBO_184 (sL8 hp _) rfl ?_
      refine jj_il2 dBO_doRelocation_102 ?_
      refine mr_iald dBO_doRelocation_103 (sL11 hp _) (hr6) (by decide) ?_
      rw [g3, hse]
      refine mv2 dBO_doRelocation_104 clBO cvBO_186 (s0 _) (Nat.le_of_ble_eq_true rfl) ?_
      refine c_resolve hC hW.wb hp (syAt_get hs hse hy6) (fun M1 hO1 hC1 => jk_i ?_)
      refine jj_is8 dBO_doRelocation_107 ?_
      refine jj_il8 dBO_doRelocation_109 ?_
      refine jj_iconst (-1) dBO_doRelocation_111 (by decide) ?_
      refine jj_icmp_ne 117 dBO_doRelocation_112 (by decide) (fun q4 => ?_) (fun q4 => ?_)
      · rw [if_neg q4] at hq
        refine jj_al0 dBO_doRelocation_117 ?_
        refine mr_get _ dBO_doRelocation_118 clBO lkBO_18 (s0 _) rfl ?_
        refine mr_get _ dBO_doRelocation_121 clSp lkBO_178 (s2 _) rfl ?_
        refine jj_il7 dBO_doRelocation_124 ?_
        refine jj_il6 dBO_doRelocation_126 ?_
        refine jj_iconst 1 dBO_doRelocation_128 (by decide) ?_
        refine jj_icmp_ne 145 dBO_doRelocation_129 (by decide) (fun q5 => ?_) (fun q5 => ?_)
        · rw [if_neg q5] at hq
          refine jj_il8 dBO_doRelocation_145 ?_
          refine mr_iast dBO_doRelocation_147 (s3) (by omega) (by decide) ?_
          refine jj_iconst 1 dBO_doRelocation_148 (by decide) ?_
          exact jj_iret dBO_doRelocation_149 rfl rfl (hq _ (hO1.trans (Kp.up _ (by omega) (by omega) (by omega) (by omega))) (CS_wd hC1))
        · rw [if_pos q5] at hq
          refine jj_il8 dBO_doRelocation_132 ?_
          refine jj_al5 dBO_doRelocation_134 ?_
          refine mr_get _ dBO_doRelocation_136 clRl lkBO_245 (sL8 hp _) rfl ?_
          refine jj_il2 dBO_doRelocation_139 ?_
          refine mr_iald dBO_doRelocation_140 (sL12 hp _) (hr6) (by decide) ?_
          rw [(hC1.1 p hp).2.2.2.2.2.2.1.2.2 r y (by rw [rsF_Zr]; exact hr) |>.2.2.2]
          refine jj_iadd dBO_doRelocation_141 ?_
          refine jj_goto 147 dBO_doRelocation_142 (by decide) ?_
          refine mr_iast dBO_doRelocation_147 (s3) (by omega) (by decide) ?_
          refine jj_iconst 1 dBO_doRelocation_148 (by decide) ?_
          exact jj_iret dBO_doRelocation_149 rfl rfl (hq _ (hO1.trans (Kp.up _ (by omega) (by omega) (by omega) (by omega))) (CS_wd hC1))
      · refine jj_iconst 0 dBO_doRelocation_115 (by decide) ?_
        exact jj_iret dBO_doRelocation_116 rfl rfl (by rw [if_pos q4] at hq; exact hq M1 hO1 hC1)
    · refine jj_il3 dBO_doRelocation_75 ?_
      refine jj_if_eq 95 dBO_doRelocation_76 (by decide) (fun q3 => ?_) (fun q3 => ?_)
      · have hlz : lz = false := by cases lz; rfl; exact absurd q3 (by decide)
        rw [if_neg (fun h => by rw [hlz] at h; cases h.2)] at hq
        obtain ⟨_, s, hs, hse⟩ := hk.resolve_left q1
        refine jj_al0 dBO_doRelocation_95 ?_
        refine jj_il1 dBO_doRelocation_96 ?_
        refine jj_al5 dBO_doRelocation_97 ?_
        refine mr_get _ dBO_doRelocation_99 clRl lkBO_184 (sL8 hp _) rfl ?_
        refine jj_il2 dBO_doRelocation_102 ?_
        refine mr_iald dBO_doRelocation_103 (sL11 hp _) (hr6) (by decide) ?_
        rw [g3, hse]
        refine mv2 dBO_doRelocation_104 clBO cvBO_186 (s0 _) (Nat.le_of_ble_eq_true rfl) ?_
        refine c_resolve hC hW.wb hp (syAt_get hs hse hy6) (fun M1 hO1 hC1 => jk_i ?_)
        refine jj_is8 dBO_doRelocation_107 ?_
        refine jj_il8 dBO_doRelocation_109 ?_
        refine jj_iconst (-1) dBO_doRelocation_111 (by decide) ?_
        refine jj_icmp_ne 117 dBO_doRelocation_112 (by decide) (fun q4 => ?_) (fun q4 => ?_)
        · rw [if_neg q4] at hq
          refine jj_al0 dBO_doRelocation_117 ?_
          refine mr_get _ dBO_doRelocation_118 clBO lkBO_18 (s0 _) rfl ?_
          refine mr_get _ dBO_doRelocation_121 clSp lkBO_178 (s2 _) rfl ?_
          refine jj_il7 dBO_doRelocation_124 ?_
          refine jj_il6 dBO_doRelocation_126 ?_
          refine jj_iconst 1 dBO_doRelocation_128 (by decide) ?_
          refine jj_icmp_ne 145 dBO_doRelocation_129 (by decide) (fun q5 => ?_) (fun q5 => ?_)
          · rw [if_neg q5] at hq
            refine jj_il8 dBO_doRelocation_145 ?_
            refine mr_iast dBO_doRelocation_147 (s3) (by omega) (by decide) ?_
            refine jj_iconst 1 dBO_doRelocation_148 (by decide) ?_
            exact jj_iret dBO_doRelocation_149 rfl rfl (hq _ (hO1.trans (Kp.up _ (by omega) (by omega) (by omega) (by omega))) (CS_wd hC1))
          · rw [if_pos q5] at hq
            refine jj_il8 dBO_doRelocation_132 ?_
            refine jj_al5 dBO_doRelocation_134 ?_
            refine mr_get _ dBO_doRelocation_136 clRl lkBO_245 (sL8 hp _) rfl ?_
            refine jj_il2 dBO_doRelocation_139 ?_
            refine mr_iald dBO_doRelocation_140 (sL12 hp _) (hr6) (by decide) ?_
            rw [(hC1.1 p hp).2.2.2.2.2.2.1.2.2 r y (by rw [rsF_Zr]; exact hr) |>.2.2.2]
            refine jj_iadd dBO_doRelocation_141 ?_
            refine jj_goto 147 dBO_doRelocation_142 (by decide) ?_
            refine mr_iast dBO_doRelocation_147 (s3) (by omega) (by decide) ?_
            refine jj_iconst 1 dBO_doRelocation_148 (by decide) ?_
            exact jj_iret dBO_doRelocation_149 rfl rfl (hq _ (hO1.trans (Kp.up _ (by omega) (by omega) (by omega) (by omega))) (CS_wd hC1))
        · refine jj_iconst 0 dBO_doRelocation_115 (by decide) ?_
          exact jj_iret dBO_doRelocation_116 rfl rfl (by rw [if_pos q4] at hq; exact hq M1 hO1 hC1)
      · have hlz : lz = true := by cases lz; exact absurd rfl q3; rfl
        rw [if_pos ⟨q2, hlz⟩] at hq
        refine jj_al0 dBO_doRelocation_79 ?_
        refine mr_get _ dBO_doRelocation_80 clBO lkBO_18 (s0 _) rfl ?_
        refine mr_get _ dBO_doRelocation_83 clSp lkBO_178 (s2 _) rfl ?_
        refine jj_il7 dBO_doRelocation_86 ?_
        refine jj_il2 dBO_doRelocation_88 ?_
        refine ms1 dBO_doRelocation_89 csBO_181 (Nat.le_of_ble_eq_true rfl) ?_
        refine c_unboundSlot (nI r) (jk_i ?_)
        refine mr_iast dBO_doRelocation_92 (s3) (by omega) (by decide) ?_
        refine jj_iconst 1 dBO_doRelocation_93 (by decide) ?_
        exact jj_iret dBO_doRelocation_94 rfl rfl (hq _ (Kp.up _ (by omega) (by omega) (by omega) (by omega)) (CS_wd hC))
  · refine jj_al0 dBO_doRelocation_44 ?_
    refine mr_get _ dBO_doRelocation_45 clBO lkBO_18 (s0 _) rfl ?_
    refine mr_get _ dBO_doRelocation_48 clSp lkBO_178 (s2 _) rfl ?_
    refine jj_il7 dBO_doRelocation_51 ?_
    refine jj_al4 dBO_doRelocation_53 ?_
    refine mr_get _ dBO_doRelocation_55 clLk lkBO_172 (sL0 hp _) rfl ?_
    rw [h5]
    refine jj_al5 dBO_doRelocation_58 ?_
    refine mr_get _ dBO_doRelocation_60 clRl lkBO_245 (sL8 hp _) rfl ?_
    refine jj_il2 dBO_doRelocation_63 ?_
    refine mr_iald dBO_doRelocation_64 (sL12 hp _) (hr6) (by decide) ?_
    rw [g4]
    refine jj_iadd dBO_doRelocation_65 ?_
    refine mr_iast dBO_doRelocation_66 (s3) (by omega) (by decide) ?_
    refine jj_iconst 1 dBO_doRelocation_67 (by decide) ?_
    exact jj_iret dBO_doRelocation_68 rfl rfl (by rw [if_pos q1] at hq; exact hq _ (Kp.up _ (by omega) (by omega) (by omega) (by omega)) (CS_wd hC))
