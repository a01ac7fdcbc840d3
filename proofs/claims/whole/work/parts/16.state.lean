/-! THE STATE that both sides hold: size, needs, symbols, relocations, base (none: not loaded), group, uses, opens of each object; the space's words; the global row; those that have begun, in order; the events; the steps. -/
abbrev Sg : Type := (Nat → Nat) × (Nat → List Nat) × (Nat → List Sym) × (Nat → List Rel) × (Nat → Option Nat) × (Nat → List Nat) × (Nat → Nat → Bool) × (Nat → Nat) × (Nat → Int32) × List Nat × List Nat × List Int32 × Int32
abbrev Zs (σ : Sg) : Nat → Nat := σ.1
abbrev Zn (σ : Sg) : Nat → List Nat := σ.2.1
abbrev Zy (σ : Sg) : Nat → List Sym := σ.2.2.1
abbrev Zr (σ : Sg) : Nat → List Rel := σ.2.2.2.1
abbrev Zb (σ : Sg) : Nat → Option Nat := σ.2.2.2.2.1
abbrev Zg (σ : Sg) : Nat → List Nat := σ.2.2.2.2.2.1
abbrev Zu (σ : Sg) : Nat → Nat → Bool := σ.2.2.2.2.2.2.1
abbrev Zo (σ : Sg) : Nat → Nat := σ.2.2.2.2.2.2.2.1
abbrev Zw (σ : Sg) : Nat → Int32 := σ.2.2.2.2.2.2.2.2.1
abbrev Gl (σ : Sg) : List Nat := σ.2.2.2.2.2.2.2.2.2.1
abbrev Bg (σ : Sg) : List Nat := σ.2.2.2.2.2.2.2.2.2.2.1
abbrev Ev (σ : Sg) : List Int32 := σ.2.2.2.2.2.2.2.2.2.2.2.1
abbrev Sp (σ : Sg) : Int32 := σ.2.2.2.2.2.2.2.2.2.2.2.2
def bI : Option Nat → Int32
  | none => -1
  | some b => nI b
theorem nI_ne_m1 {b : Nat} (hb : b < 2 ^ 31) : ¬ nI b = -1 := fun h => by
  have h1 := nI_toInt hb
  rw [h] at h1
  have h2 : (-1 : Int32).toInt = -1 := by decide
  omega
theorem bI_none {x : Option Nat} (hx : ∀ b, x = some b → b < 2 ^ 31) : bI x = -1 ↔ x = none := by
  cases x with
  | none => exact ⟨fun _ => rfl, fun _ => rfl⟩
  | some b => exact ⟨fun h => absurd h (nI_ne_m1 (hx b rfl)), fun h => by cases h⟩
/-- address a lies in the image of object p -/
def inIm (σ : Sg) (a p : Nat) : Bool := match Zb σ p with
  | some b => decide (b ≤ a) && decide (a < b + Zs σ p)
  | none => false
theorem inIm_iff {σ : Sg} {a p : Nat} : inIm σ a p = true ↔ ∃ b, Zb σ p = some b ∧ b ≤ a ∧ a < b + Zs σ p := by
  unfold inIm
  cases h : Zb σ p with
  | none => simp
  | some b => simp
def tkn (σ : Sg) (a : Nat) : Bool := (List.range 6).any (inIm σ a)
theorem tkn_iff {σ : Sg} {a : Nat} : tkn σ a = true ↔ ∃ p, p < 6 ∧ ∃ b, Zb σ p = some b ∧ b ≤ a ∧ a < b + Zs σ p := by
  unfold tkn
  rw [List.any_eq_true]
  constructor
  · rintro ⟨p, hp, h⟩
    exact ⟨p, List.mem_range.mp hp, inIm_iff.mp h⟩
  · rintro ⟨p, hp, h⟩
    exact ⟨p, List.mem_range.mpr hp, inIm_iff.mpr h⟩
def JrIs (M : Nat → Nat → Int32) (ev : List Int32) : Prop := M 5 1 = nI (ev.length % 40) ∧ M 5 2 = nI ev.length ∧ ∀ (j : Nat) (e : Int32), ev[j]? = some e → ev.length ≤ j + 40 → M 6 (j % 40) = e
def SpIs (M : Nat → Nat → Int32) (σ : Sg) : Prop := ∀ a, a < 32 → M 3 a = Zw σ a ∧ M 4 a = b2i (tkn σ a)
def LkIs (M : Nat → Nat → Int32) (σ : Sg) (p : Nat) : Prop := M (13 + 15 * p) 4 = nI (Zs σ p) ∧ M (13 + 15 * p) 5 = bI (Zb σ p) ∧ M (13 + 15 * p) 6 = nI (Zo σ p) ∧ (∀ i, i < 32 → bt (M (13 + 15 * p) 7) i = Zu σ p i) ∧
  RowIs M (13 + 15 * p + 1) (Zn σ p) ∧ SymIs M p (Zy σ p) ∧ RelIs M p (Zr σ p) ∧ RowIs M (13 + 15 * p + 13) (Zg σ p)
/-- the memory's lower part holds σ -/
def CS (M : Nat → Nat → Int32) (σ : Sg) : Prop := (∀ p, p < 6 → LkIs M σ p) ∧ SpIs M σ ∧ JrIs M (Ev σ) ∧ RowIs M 7 (Gl σ) ∧ RowIs M 9 (Bg σ) ∧ (∃ l, RowIs M 11 l) ∧ M 0 7 = Sp σ
theorem RowIs.eqs {M M' : Nat → Nat → Int32} {k : Nat} {l : List Nat} (h : RowIs M k l) (h1 : ∀ i, M' k i = M k i) (h2 : ∀ i, M' (k + 1) i = M (k + 1) i) : RowIs M' k l :=
  ⟨by rw [h1]; exact h.1, h.2.1, h.2.2.1, fun i p hp => by rw [h2]; exact h.2.2.2 i p hp⟩
theorem SymIs.eqs {M M' : Nat → Nat → Int32} {p : Nat} {S : List Sym} (h : SymIs M p S) (he : ∀ k i, 13 + 15 * p + 3 ≤ k → k ≤ 13 + 15 * p + 7 → M' k i = M k i) : SymIs M' p S :=
  ⟨by rw [he _ _ (by omega) (by omega)]; exact h.1, h.2.1, fun i s hs => by
    rw [he _ _ (by omega) (by omega), he _ _ (by omega) (by omega), he _ _ (by omega) (by omega), he _ _ (by omega) (by omega)]
    exact h.2.2 i s hs⟩
theorem RelIs.eqs {M M' : Nat → Nat → Int32} {p : Nat} {S : List Rel} (h : RelIs M p S) (he : ∀ k i, 13 + 15 * p + 8 ≤ k → k ≤ 13 + 15 * p + 12 → M' k i = M k i) : RelIs M' p S :=
  ⟨by rw [he _ _ (by omega) (by omega)]; exact h.1, h.2.1, fun i s hs => by
    rw [he _ _ (by omega) (by omega), he _ _ (by omega) (by omega), he _ _ (by omega) (by omega), he _ _ (by omega) (by omega)]
    exact h.2.2 i s hs⟩
theorem LkIs.eqs {M M' : Nat → Nat → Int32} {σ σ' : Sg} {p : Nat} (h : LkIs M σ p) (he : ∀ k i, 13 + 15 * p ≤ k → k ≤ 13 + 15 * p + 14 → M' k i = M k i)
    (e1 : Zs σ' p = Zs σ p) (e2 : Zb σ' p = Zb σ p) (e3 : Zo σ' p = Zo σ p) (e4 : Zu σ' p = Zu σ p) (e5 : Zn σ' p = Zn σ p) (e6 : Zy σ' p = Zy σ p) (e7 : Zr σ' p = Zr σ p) (e8 : Zg σ' p = Zg σ p) : LkIs M' σ' p := by
  obtain ⟨h1, h2, h3, h4, h5, h6, h7, h8⟩ := h
  refine ⟨?_, ?_, ?_, ?_, ?_, ?_, ?_, ?_⟩
  · rw [he _ _ (by omega) (by omega), e1]; exact h1
  · rw [he _ _ (by omega) (by omega), e2]; exact h2
  · rw [he _ _ (by omega) (by omega), e3]; exact h3
  · intro i hi; rw [he _ _ (by omega) (by omega), e4]; exact h4 i hi
  · rw [e5]; exact h5.eqs (fun i => he _ _ (by omega) (by omega)) (fun i => he _ _ (by omega) (by omega))
  · rw [e6]; exact h6.eqs (fun k i a b => he _ _ (by omega) (by omega))
  · rw [e7]; exact h7.eqs (fun k i a b => he _ _ (by omega) (by omega))
  · rw [e8]; exact h8.eqs (fun i => he _ _ (by omega) (by omega)) (fun i => he _ _ (by omega) (by omega))
theorem JrIs.eqs {M M' : Nat → Nat → Int32} {ev : List Int32} (h : JrIs M ev) (h1 : ∀ i, M' 5 i = M 5 i) (h2 : ∀ i, M' 6 i = M 6 i) : JrIs M' ev :=
  ⟨by rw [h1]; exact h.1, by rw [h1]; exact h.2.1, fun j e he hl => by rw [h2]; exact h.2.2 j e he hl⟩
theorem SpIs.eqs {M M' : Nat → Nat → Int32} {σ σ' : Sg} (h : SpIs M σ) (h1 : ∀ i, M' 3 i = M 3 i) (h2 : ∀ i, M' 4 i = M 4 i) (e1 : Zw σ' = Zw σ) (e2 : Zb σ' = Zb σ) (e3 : Zs σ' = Zs σ) : SpIs M' σ' := fun a ha => by
  obtain ⟨g1, g2⟩ := h a ha
  refine ⟨by rw [h1, e1]; exact g1, ?_⟩
  rw [h2, g2]
  unfold tkn inIm
  rw [e2, e3]
set_option maxRecDepth 100000 in
set_option maxHeartbeats 4000000 in
theorem c_note_j {ω : jw} {d : Nat} {M : Nat → Nat → Int32} {J sl : Nat} {Q : jr → jh → Prop} {ev : List Int32} (hJr : JrIs M ev) (hev : ev.length < 2 ^ 30) (e : Int32) (hq : ∀ M', Off M M' (fun k => k = 5 ∨ k = 6) → JrIs M' (ev ++ [e]) → Q (.inl none) (jst ω M' J sl)) : jwp ω d mJr_note [.ref (jN ω + 5), .int e] (jst ω M J sl) Q := by
  obtain ⟨h1, h2, h3⟩ := hJr
  refine c_note (ev.length % 40) (by omega) h1 e (hq _ ((((Off.refl M _).up _ (Or.inr rfl)).up _ (Or.inl rfl)).up _ (Or.inl rfl)) ⟨?_, ?_, fun j e2 he hl => ?_⟩)
  · rw [mup_ne _ _ (Or.inr (by omega)), mup_at]
    simp only [List.length_append, List.length_cons, List.length_nil]
    congr 1
    omega
  · rw [mup_at, h2]
    simp only [List.length_append, List.length_cons, List.length_nil]
    exact nI_1 _
  · rw [mup_ne _ _ (Or.inl (by omega)), mup_ne _ _ (Or.inl (by omega))]
    simp only [List.length_append, List.length_cons, List.length_nil] at hl
    rcases get_snoc he with ⟨hj, he⟩ | ⟨hj, rfl⟩
    · rw [mup_ne _ _ (Or.inr (by omega))]
      exact h3 j e2 he (by omega)
    · rw [hj, mup_at]
/-- the closure, filled breadth first -/
def closF (nd : Nat → List Nat) : Nat → Nat → List Nat → List Nat
  | 0, _, l => l
  | n + 1, k, l => if k < 6 ∧ k < l.length then closF nd n (k + 1) ((nd (l.getD k 0)).foldl rput l) else l
def clos (nd : Nat → List Nat) (o : Nat) : List Nat := closF nd 7 0 [o]
theorem off11 {M M' : Nat → Nat → Int32} (h : OffRow M M' 11) {k i : Nat} (hk : 13 ≤ k) : M' k i = M k i := h k i (by omega) (by omega)
set_option maxRecDepth 100000 in
set_option maxHeartbeats 4000000 in
theorem c_fillClosure_l {ω : jw} {d : Nat} {J sl : Nat} {Q : jr → jh → Prop} {M0 : Nat → Nat → Int32} (nd : Nat → List Nat) (hN : ∀ p, p < 6 → RowIs M0 (13 + 15 * p + 1) (nd p)) {L : List Nat} (o1 : Option Value) (hq : ∀ M', OffRow M0 M' 11 → RowIs M' 11 L → Q (.inl none) (jst ω M' J sl)) :
    ∀ (n k : Nat) (l : List Nat) (M : Nat → Nat → Int32), 6 - k < n → k ≤ 6 → OffRow M0 M 11 → RowIs M 11 l → closF nd n k l = L → jj ω (d + 3) mBO_fillClosure 18 [some (.ref (jN ω + 0)), o1, some (.int (nI k))] [] (jst ω M J sl) Q := by
  intro n
  induction n with
  | zero => intro k l M hn; omega
  | succ n ih =>
    intro k l M hn hk hO hR hL
    have hl6 := hR.2.1
    refine jj_il2 dBO_fillClosure_18 ?_
    refine jj_bipush 6 dBO_fillClosure_19 (by decide) ?_
    refine jj_icmp_ge 65 dBO_fillClosure_21 (by decide) (fun q1 => ?_) (fun q1 => ?_)
    · exact jj_vret dBO_fillClosure_65 rfl (hq M hO (by rw [← hL, closF, if_neg (by have := le_le (a := 6) rfl q1 (by decide) (by omega); omega)]; exact hR))
    · have hk2 : k < 6 := nle_lt (a := 6) rfl q1 (by decide) (by omega)
      refine jj_il2 dBO_fillClosure_24 ?_
      refine jj_al0 dBO_fillClosure_25 ?_
      refine mr_get _ dBO_fillClosure_26 clBO lkBO_39 (s0 _) rfl ?_
      refine mr_get _ dBO_fillClosure_29 clRw lkBO_74 (s11 _) rfl ?_
      refine jj_icmp_ge 65 dBO_fillClosure_32 (by decide) (fun q2 => ?_) (fun q2 => ?_)
      · exact jj_vret dBO_fillClosure_65 rfl (hq M hO (by rw [← hL, closF, if_neg (by have := le_le hR.1 q2 (by omega) (by omega); omega)]; exact hR))
      · have hk3 : k < l.length := nle_lt hR.1 q2 (by omega) (by omega)
        obtain ⟨p, e1, e2, e3⟩ := hR.at hk3
        refine jj_al0 dBO_fillClosure_35 ?_
        refine mr_get _ dBO_fillClosure_36 clBO lkBO_39 (s0 _) rfl ?_
        refine jj_al0 dBO_fillClosure_39 ?_
        refine mr_get _ dBO_fillClosure_40 clBO lkBO_11 (s0 _) rfl ?_
        refine jj_al0 dBO_fillClosure_43 ?_
        refine mr_get _ dBO_fillClosure_44 clBO lkBO_39 (s0 _) rfl ?_
        refine mr_get _ dBO_fillClosure_47 clRw lkBO_203 (s11 _) rfl ?_
        refine jj_il2 dBO_fillClosure_50 ?_
        refine mr_iald dBO_fillClosure_51 (s12 _) (by omega) (by decide) ?_
        rw [e3]
        refine mr_aald dBO_fillClosure_52 (e2) ?_
        refine mr_get _ dBO_fillClosure_53 clLk lkBO_67 (sL0 (by assumption) _) rfl ?_
        refine mv1 dBO_fillClosure_56 clRw cvBO_124 (s11 _) (Nat.le_of_ble_eq_true rfl) ?_
        refine c_putAll row11 (rowN e2) ⟨by omega, by omega, by omega⟩ hR ((hN p e2).off hO (by omega) (by omega) (by omega)) (fun M' hO2 hR2 => jk_v ?_)
        refine jj_ii2 (nI (k + 1)) dBO_fillClosure_59 (inc1 k) ?_
        refine jj_goto 18 dBO_fillClosure_62 (by decide) ?_
        exact ih (k + 1) _ M' (by omega) (by omega) (hO.trans hO2) hR2 (by rw [← hL, closF, if_pos ⟨hk2, hk3⟩, List.getD_eq_getElem?_getD, e1]; rfl)
set_option maxRecDepth 100000 in
set_option maxHeartbeats 4000000 in
theorem c_fillClosure {ω : jw} {d : Nat} {M : Nat → Nat → Int32} {J sl : Nat} {Q : jr → jh → Prop} (nd : Nat → List Nat) (hN : ∀ p, p < 6 → RowIs M (13 + 15 * p + 1) (nd p)) {l0 : List Nat} (hR : RowIs M 11 l0) {p : Nat} (hp : p < 6) (hq : ∀ M', OffRow M M' 11 → RowIs M' 11 (clos nd p) → Q (.inl none) (jst ω M' J sl)) : jwp ω (d + 3) mBO_fillClosure [.ref (jN ω + 0), .int (nI p)] (jst ω M J sl) Q := by
  refine jwp_of (by simp [Value.category]) (Nat.le_of_ble_eq_true rfl) (ls := [some (.ref (jN ω + 0)), some (.int (nI p)), none]) rfl ?_
  refine jj_al0 dBO_fillClosure_0 ?_
  refine mr_get _ dBO_fillClosure_1 clBO lkBO_39 (s0 _) rfl ?_
  refine jj_iconst 0 dBO_fillClosure_4 (by decide) ?_
  refine mv1 dBO_fillClosure_5 clRw cvBO_132 (s11 _) (Nat.le_of_ble_eq_true rfl) ?_
  refine jwp_up (c_cutTo_r (n := 0) row11 (by decide) hR (fun M1 hO1 hR1 => jk_v ?_))
  refine jj_al0 dBO_fillClosure_8 ?_
  refine mr_get _ dBO_fillClosure_9 clBO lkBO_39 (s0 _) rfl ?_
  refine jj_il1 dBO_fillClosure_12 ?_
  refine mv1 dBO_fillClosure_13 clRw cvBO_81 (s11 _) (Nat.le_of_ble_eq_true rfl) ?_
  refine jwp_up (c_put row11 p hp hR1 (fun M2 hO2 hR2 => jk_v ?_))
  refine jj_iconst 0 dBO_fillClosure_16 (by decide) ?_
  refine jj_is2 dBO_fillClosure_17 ?_
  exact c_fillClosure_l nd (fun q hq2 => (hN q hq2).off hO1 (by omega) (by omega) (by omega) |>.off hO2 (by omega) (by omega) (by omega)) _ (fun M' a b => hq M' ((hO1.trans hO2).trans a) b) 7 0 [p] M2 (by omega) (by omega) (OffRow.refl _ _) (by
    have e : rput (l0.take 0) p = [p] := by simp [rput]
    rw [e] at hR2
    exact hR2) rfl
set_option maxRecDepth 100000 in
set_option maxHeartbeats 4000000 in
theorem c_closureHasImages_l {ω : jw} {d : Nat} {M : Nat → Nat → Int32} {J sl : Nat} {Q : jr → jh → Prop} (sz : Nat → Nat) (hz : ∀ p, p < 6 → M (13 + 15 * p) 4 = nI (sz p) ∧ sz p < 2 ^ 31) {l : List Nat} (hR : RowIs M 11 l) (ht : (∀ p ∈ l, ¬ sz p = 0) → Q (.inl (some (.int 1))) (jst ω M J sl)) (hf : (∃ p ∈ l, sz p = 0) → Q (.inl (some (.int 0))) (jst ω M J sl)) :
    ∀ n i : Nat, l.length - i < n → i ≤ l.length → (∀ j q : Nat, j < i → l[j]? = some q → ¬ sz q = 0) → jj ω d mBO_closureHasImages 2 [some (.ref (jN ω + 0)), some (.int (nI i))] [] (jst ω M J sl) Q := by
  have hl6 := hR.2.1
  intro n
  induction n with
  | zero => intro i hn; omega
  | succ n ih =>
    intro i hn hi hall
    refine jj_il1 dBO_closureHasImages_2 ?_
    refine jj_al0 dBO_closureHasImages_3 ?_
    refine mr_get _ dBO_closureHasImages_4 clBO lkBO_39 (s0 _) rfl ?_
    refine mr_get _ dBO_closureHasImages_7 clRw lkBO_74 (s11 _) rfl ?_
    refine jj_icmp_ge 41 dBO_closureHasImages_10 (by decide) (fun q1 => ?_) (fun q1 => ?_)
    · refine jj_iconst 1 dBO_closureHasImages_41 (by decide) ?_
      exact jj_iret dBO_closureHasImages_42 rfl rfl (ht (fun p hm => by obtain ⟨j, hj⟩ := List.getElem?_of_mem hm; exact hall j p (by have := (List.getElem?_eq_some_iff.mp hj).1; have := le_le hR.1 q1 (by omega) (by omega); omega) hj))
    · have hi2 : i < l.length := nle_lt hR.1 q1 (by omega) (by omega)
      obtain ⟨p, e1, e2, e3⟩ := hR.at hi2
      refine jj_al0 dBO_closureHasImages_13 ?_
      refine mr_get _ dBO_closureHasImages_14 clBO lkBO_11 (s0 _) rfl ?_
      refine jj_al0 dBO_closureHasImages_17 ?_
      refine mr_get _ dBO_closureHasImages_18 clBO lkBO_39 (s0 _) rfl ?_
      refine mr_get _ dBO_closureHasImages_21 clRw lkBO_203 (s11 _) rfl ?_
      refine jj_il1 dBO_closureHasImages_24 ?_
      refine mr_iald dBO_closureHasImages_25 (s12 _) (by omega) (by decide) ?_
      rw [e3]
      refine mr_aald dBO_closureHasImages_26 (e2) ?_
      refine mr_get _ dBO_closureHasImages_27 clLk lkBO_212 (sL0 e2 _) rfl ?_
      rw [(hz p e2).1]
      refine jj_if_ne 35 dBO_closureHasImages_30 (by decide) (fun q2 => ?_) (fun q2 => ?_)
      · refine jj_ii1 (nI (i + 1)) dBO_closureHasImages_35 (inc1 i) ?_
        refine jj_goto 2 dBO_closureHasImages_38 (by decide) ?_
        exact ih (i + 1) (by omega) (by omega) (fun j q hj hq => by
          by_cases hji : j < i
          · exact hall j q hji hq
          · have : j = i := by omega
            subst this
            cases e1.symm.trans hq
            exact fun h0 => q2 (by rw [h0]; rfl))
      · refine jj_iconst 0 dBO_closureHasImages_33 (by decide) ?_
        exact jj_iret dBO_closureHasImages_34 rfl rfl (hf ⟨p, List.mem_of_getElem? e1, (nI_eq (hz p e2).2 (by decide)).mp (q2.trans nI_0.symm)⟩)
set_option maxRecDepth 100000 in
set_option maxHeartbeats 4000000 in
theorem c_closureHasImages {ω : jw} {d : Nat} {M : Nat → Nat → Int32} {J sl : Nat} {Q : jr → jh → Prop} (sz : Nat → Nat) (hz : ∀ p, p < 6 → M (13 + 15 * p) 4 = nI (sz p) ∧ sz p < 2 ^ 31) {l : List Nat} (hR : RowIs M 11 l) (ht : (∀ p ∈ l, ¬ sz p = 0) → Q (.inl (some (.int 1))) (jst ω M J sl)) (hf : (∃ p ∈ l, sz p = 0) → Q (.inl (some (.int 0))) (jst ω M J sl)) : jwp ω d mBO_closureHasImages [.ref (jN ω + 0)] (jst ω M J sl) Q := by
  refine jwp_of (by simp [Value.category]) (Nat.le_of_ble_eq_true rfl) (ls := [some (.ref (jN ω + 0)), none]) rfl ?_
  refine jj_iconst 0 dBO_closureHasImages_0 (by decide) ?_
  refine jj_is1 dBO_closureHasImages_1 ?_
  exact c_closureHasImages_l sz hz hR ht hf (l.length + 1) 0 (by omega) (by omega) (fun j q hj => by omega)
