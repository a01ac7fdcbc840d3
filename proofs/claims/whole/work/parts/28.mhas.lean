def MP (ω : jw) (J sl : Nat) (M : Nat → Nat → Int32) (Q : jr → jh → Prop) (tc : jr → Nat) (z : jr × Sg) : Prop := ∀ M' v, MS M' z.2 → Lo M M' → M' 103 0 = nI (tc z.1) → (∀ w, z.1 = rI w → v = w) → Q (rI v) (jst ω M' J sl)
def MPv (ω : jw) (J sl : Nat) (M : Nat → Nat → Int32) (Q : jr → jh → Prop) (tc : jr → Nat) (z : jr × Sg) : Prop := ∀ M', MS M' z.2 → Lo M M' → M' 103 0 = nI (tc z.1) → Q (.inl none) (jst ω M' J sl)
def tcA : jr → Nat
  | .inl _ => 0
  | .inr k => k + 1
theorem MS_df {M M' : Nat → Nat → Int32} {σ σ' : Sg} (h : MS M σ) (hE : ∀ k i, k < 104 ∨ 115 < k → M' k i = M k i) (hD : ∀ p, p < 6 → MDf M' σ' p) (hT : ∀ a, tkn σ' a = tkn σ a) (e : σ'.2.2.2.2 = σ.2.2.2.2) : MS M' σ' := by
  obtain ⟨c1, c2, c3, c4, c5, c6, c7, c8⟩ := h
  have eb : Zb σ' = Zb σ := congrArg (fun x => x.1) e
  have eg : Zg σ' = Zg σ := congrArg (fun x => x.2.1) e
  have eu : Zu σ' = Zu σ := congrArg (fun x => x.2.2.1) e
  have eo : Zo σ' = Zo σ := congrArg (fun x => x.2.2.2.1) e
  have ew : Zw σ' = Zw σ := congrArg (fun x => x.2.2.2.2.1) e
  have el : Gl σ' = Gl σ := congrArg (fun x => x.2.2.2.2.2.1) e
  have eB : Bg σ' = Bg σ := congrArg (fun x => x.2.2.2.2.2.2.1) e
  have ee : Ev σ' = Ev σ := congrArg (fun x => x.2.2.2.2.2.2.2.1) e
  have es : Sp σ' = Sp σ := congrArg (fun x => x.2.2.2.2.2.2.2.2) e
  exact ⟨hD, fun p hp => (c2 p hp).eqs (fun k i a b => hE _ _ (by omega)) (by rw [eb]) (by rw [eg]) (by rw [eu]), fun p hp => by rw [hE _ _ (by omega), eo]; exact c3 p hp, c4.eqs (fun i => hE _ _ (by omega)) eB ee, by rw [el]; exact c5.eqs (hE _ _ (by omega)) (fun i => hE _ _ (by omega)), c6.eqs (fun i => hE _ _ (by omega)) (fun a ha => by rw [← hT]; exact ha) ew, by rw [ee]; exact c7.eqs (hE _ _ (by omega)) (fun i => hE _ _ (by omega)), by rw [hE _ _ (by omega), es]; exact c8⟩
theorem tkn_img {σ : Sg} {p w : Nat} (hb : Zb σ p = none) (a : Nat) : tkn (zImg σ p w) a = tkn σ a := by
  have h : ∀ q, inIm (zImg σ p w) a q = inIm σ a q := fun q => by
    unfold inIm
    show (match Zb σ q with | some b => decide (b ≤ a) && decide (a < b + va_up (Zs σ) p w q) | none => false) = _
    by_cases hq : q = p
    · subst hq; rw [hb]
    · rw [va_up_ne _ _ hq]; cases Zb σ q <;> rfl
  unfold tkn
  congr 1
  funext q
  exact h q
theorem isSome_iff {M : Nat → Nat → Int32} {σ : Sg} (hS : MS M σ) {p : Nat} (hp : p < 6) : M 116 p = 0 ↔ Zb σ p = none := by
  rw [(hS.2.1 p hp).1]
  cases Zb σ p with
  | none => exact ⟨fun _ => rfl, fun _ => rfl⟩
  | some b => exact ⟨fun h => absurd h (show ¬ b2i true = 0 by decide), fun h => by cases h⟩
theorem Zs0 {M : Nat → Nat → Int32} {σ : Sg} (hS : MS M σ) (hW : Wm σ) {p : Nat} (hp : p < 6) : M 104 p = 0 ↔ Zs σ p = 0 := by
  rw [(hS.1 p hp).2.2.2.1, ← nI_0]
  exact nI_eq (by have := hW.1 p hp; omega) (by decide)
set_option maxRecDepth 100000 in
set_option maxHeartbeats 4000000 in
theorem c_fixed {ω : jw} {d : Nat} {M : Nat → Nat → Int32} {J sl : Nat} {Q : jr → jh → Prop} {σ : Sg} (hS : MS M σ) (hW : Wm σ) {p : Nat} (hp : p < 6) (ht : fixd σ p → Q (.inl (some (.int 1))) (jst ω M J sl)) (hf : ¬ fixd σ p → Q (.inl (some (.int 0))) (jst ω M J sl)) : jwp ω d mMd_fixed [.ref (jN ω + 103), .int (nI p)] (jst ω M J sl) Q := by
  refine jwp_of (by simp [Value.category]) (Nat.le_of_ble_eq_true rfl) (ls := [some (.ref (jN ω + 103)), some (.int (nI p))]) rfl ?_
  refine jj_al0 dMd_fixed_0 ?_
  refine mr_get _ dMd_fixed_1 clMd lkMd_7 (s103 _) rfl ?_
  refine jj_il1 dMd_fixed_4 ?_
  refine mr_iald dMd_fixed_5 (s104 _) (hp) (by decide) ?_
  refine jj_if_eq 18 dMd_fixed_6 (by decide) (fun q1 => ?_) (fun q1 => ?_)
  · refine jj_iconst 1 dMd_fixed_18 (by decide) ?_
    refine jj_goto 23 dMd_fixed_19 (by decide) ?_
    exact jj_iret dMd_fixed_23 rfl rfl (ht (Or.inl ((Zs0 hS hW hp).mp q1)))
  · refine jj_al0 dMd_fixed_9 ?_
    refine mr_get _ dMd_fixed_10 clMd lkMd_47 (s103 _) rfl ?_
    refine jj_il1 dMd_fixed_13 ?_
    refine mr_zald dMd_fixed_14 (s116 _) (hp) (by decide) ?_
    refine jj_if_eq 22 dMd_fixed_15 (by decide) (fun q2 => ?_) (fun q2 => ?_)
    · refine jj_iconst 0 dMd_fixed_22 (by decide) ?_
      exact jj_iret dMd_fixed_23 rfl rfl (hf (fun h => h.elim (fun g => q1 ((Zs0 hS hW hp).mpr g)) (fun g => g ((isSome_iff hS hp).mp q2))))
    · refine jj_iconst 1 dMd_fixed_18 (by decide) ?_
      refine jj_goto 23 dMd_fixed_19 (by decide) ?_
      exact jj_iret dMd_fixed_23 rfl rfl (ht (Or.inr (fun g => q2 ((isSome_iff hS hp).mpr g))))
set_option maxRecDepth 100000 in
set_option maxHeartbeats 4000000 in
theorem c_isWord {ω : jw} {d : Nat} {M : Nat → Nat → Int32} {J sl : Nat} {Q : jr → jh → Prop} {σ : Sg} (hS : MS M σ) {p : Nat} (hp : p < 6) (w : Int32) (ht : ¬ (w < 0 ∨ nI (Zs σ p) ≤ w) → Q (.inl (some (.int 1))) (jst ω M J sl)) (hf : (w < 0 ∨ nI (Zs σ p) ≤ w) → Q (.inl (some (.int 0))) (jst ω M J sl)) : jwp ω d mMd_isWord [.ref (jN ω + 103), .int (nI p), .int w] (jst ω M J sl) Q := by
  refine jwp_of (by simp [Value.category]) (Nat.le_of_ble_eq_true rfl) (ls := [some (.ref (jN ω + 103)), some (.int (nI p)), some (.int w)]) rfl ?_
  refine jj_il2 dMd_isWord_0 ?_
  refine jj_if_lt 18 dMd_isWord_1 (by decide) (fun q1 => ?_) (fun q1 => ?_)
  · refine jj_iconst 0 dMd_isWord_18 (by decide) ?_
    exact jj_iret dMd_isWord_19 rfl rfl (hf (Or.inl q1))
  · refine jj_il2 dMd_isWord_4 ?_
    refine jj_al0 dMd_isWord_5 ?_
    refine mr_get _ dMd_isWord_6 clMd lkMd_7 (s103 _) rfl ?_
    refine jj_il1 dMd_isWord_9 ?_
    refine mr_iald dMd_isWord_10 (s104 _) (hp) (by decide) ?_
    rw [(hS.1 p hp).2.2.2.1]
    refine jj_icmp_ge 18 dMd_isWord_11 (by decide) (fun q2 => ?_) (fun q2 => ?_)
    · refine jj_iconst 0 dMd_isWord_18 (by decide) ?_
      exact jj_iret dMd_isWord_19 rfl rfl (hf (Or.inr q2))
    · refine jj_iconst 1 dMd_isWord_14 (by decide) ?_
      refine jj_goto 19 dMd_isWord_15 (by decide) ?_
      exact jj_iret dMd_isWord_19 rfl rfl (ht (fun h => h.elim q1 q2))
set_option maxRecDepth 100000 in
set_option maxHeartbeats 4000000 in
theorem c_hasNeed_l {ω : jw} {d : Nat} {M : Nat → Nat → Int32} {J sl : Nat} {Q : jr → jh → Prop} {σ : Sg} (hS : MS M σ) {p : Nat} (hp : p < 6) {m : Nat} (hm : m < 6) (hN6 : ∀ x ∈ Zn σ p, x < 6) (ht : (m ∈ Zn σ p) → Q (.inl (some (.int 1))) (jst ω M J sl)) (hf : ¬ (m ∈ Zn σ p) → Q (.inl (some (.int 0))) (jst ω M J sl)) :
    ∀ (n i : Nat) (b : Bool), n + i = (Zn σ p).length → (b = true ↔ ∃ z ∈ (Zn σ p).take i, z = m) → jj ω d mMd_hasNeed 5 [some (.ref (jN ω + 103)), some (.int (nI p)), some (.int (nI m)), some (.int (b2i b)), some (.int (nI i))] [] (jst ω M J sl) Q := by
  have hl := (hS.1 p hp).1
  intro n
  induction n with
  | zero =>
    intro i b hn hb
    have hi : i = (Zn σ p).length := by omega
    subst hi
    rw [List.take_length] at hb
    refine jj_il4 dMd_hasNeed_5 ?_
    refine jj_al0 dMd_hasNeed_7 ?_
    refine mr_get _ dMd_hasNeed_8 clMd lkMd_16 (s103 _) rfl ?_
    refine jj_il1 dMd_hasNeed_11 ?_
    refine mr_iald dMd_hasNeed_12 (s106 _) (hp) (by decide) ?_
    rw [(hS.1 p hp).2.2.2.2.1]
    refine jj_icmp_ge 47 dMd_hasNeed_13 (by decide) (fun q1 => ?_) (fun q1 => absurd q1 (fun h => h (Int32.le_refl _)))
    refine jj_il3 dMd_hasNeed_47 ?_
    exact jj_iret dMd_hasNeed_48 rfl (by cases b <;> rfl) (by cases b; exact hf (fun h => by have := hb.mpr (⟨_, h, rfl⟩); cases this); exact ht (by obtain ⟨z, h1, h2⟩ := hb.mp rfl; subst h2; exact h1))
  | succ n ih =>
    intro i b hn hb
    have hi : i < (Zn σ p).length := by omega
    obtain ⟨x, hx⟩ : ∃ x, (Zn σ p)[i]? = some x := ⟨_, List.getElem?_eq_getElem hi⟩
    have hT : (Zn σ p).take (i + 1) = (Zn σ p).take i ++ [x] := by rw [List.take_add_one, hx]; rfl
    have k40 : ∀ (c : Bool), (c = true ↔ ∃ z ∈ (Zn σ p).take (i + 1), z = m) → jj ω d mMd_hasNeed 40 [some (.ref (jN ω + 103)), some (.int (nI p)), some (.int (nI m)), some (.int (b2i b)), some (.int (nI i))] [.int (b2i c)] (jst ω M J sl) Q := by
      intro c hc
      refine jj_is3 dMd_hasNeed_40 ?_
      refine jj_ii4 (nI (i + 1)) dMd_hasNeed_41 (inc1 i) ?_
      refine jj_goto 5 dMd_hasNeed_44 (by decide) ?_
      exact ih (i + 1) c (by omega) hc
    refine jj_il4 dMd_hasNeed_5 ?_
    refine jj_al0 dMd_hasNeed_7 ?_
    refine mr_get _ dMd_hasNeed_8 clMd lkMd_16 (s103 _) rfl ?_
    refine jj_il1 dMd_hasNeed_11 ?_
    refine mr_iald dMd_hasNeed_12 (s106 _) (hp) (by decide) ?_
    rw [(hS.1 p hp).2.2.2.2.1]
    refine jj_icmp_ge 47 dMd_hasNeed_13 (by decide) (fun q1 => absurd q1 (fun h => by have := le_le rfl h (by omega) (by omega); omega)) (fun q1 => ?_)
    refine jj_il3 dMd_hasNeed_16 ?_
    refine jj_if_ne 35 dMd_hasNeed_17 (by decide) (fun q1 => ?_) (fun q1 => ?_)
    · refine jj_iconst 1 dMd_hasNeed_35 (by decide) ?_
      refine jj_goto 40 dMd_hasNeed_36 (by decide) ?_
      exact k40 true ⟨fun _ => (hb.mp (b2i_t q1)).imp (fun z h => ⟨by rw [hT]; exact List.mem_append.mpr (Or.inl h.1), h.2⟩), fun _ => rfl⟩
    · refine jj_al0 dMd_hasNeed_20 ?_
      refine mr_get _ dMd_hasNeed_21 clMd lkMd_13 (s103 _) rfl ?_
      refine jj_iconst 3 dMd_hasNeed_24 (by decide) ?_
      refine jj_il1 dMd_hasNeed_25 ?_
      refine jj_imul dMd_hasNeed_26 ?_
      rw [show (3 : Int32) * nI p = nI (3 * p) from nI_mul 3 p]
      refine jj_il4 dMd_hasNeed_27 ?_
      refine jj_iadd dMd_hasNeed_29 ?_
      rw [nI_add]
      refine mr_iald dMd_hasNeed_30 (s105 _) (by omega) (by decide) ?_
      rw [((hS.1 p hp).2.2.2.2.2.1 i x hx)]
      refine jj_il2 dMd_hasNeed_31 ?_
      refine jj_icmp_ne 39 dMd_hasNeed_32 (by decide) (fun q2 => ?_) (fun q2 => ?_)
      · refine jj_iconst 0 dMd_hasNeed_39 (by decide) ?_
        exact k40 false ⟨fun h => (by cases h), fun h => by obtain ⟨z, h1, h2⟩ := h; rw [hT] at h1; rcases List.mem_append.mp h1 with h1 | h1; exact absurd (hb.mpr ⟨z, h1, h2⟩) (by rw [b2i_f q1]; decide); rw [List.mem_singleton] at h1; subst h1; exact absurd ((nI6 (hN6 _ (List.mem_of_getElem? hx)) hm).mpr h2) q2⟩
      · refine jj_iconst 1 dMd_hasNeed_35 (by decide) ?_
        refine jj_goto 40 dMd_hasNeed_36 (by decide) ?_
        exact k40 true ⟨fun _ => ⟨x, by rw [hT]; simp, (nI6 (hN6 _ (List.mem_of_getElem? hx)) hm).mp q2⟩, fun _ => rfl⟩
set_option maxRecDepth 100000 in
set_option maxHeartbeats 4000000 in
theorem c_hasNeed {ω : jw} {d : Nat} {M : Nat → Nat → Int32} {J sl : Nat} {Q : jr → jh → Prop} {σ : Sg} (hS : MS M σ) {p : Nat} (hp : p < 6) {m : Nat} (hm : m < 6) (hN6 : ∀ x ∈ Zn σ p, x < 6) (ht : (m ∈ Zn σ p) → Q (.inl (some (.int 1))) (jst ω M J sl)) (hf : ¬ (m ∈ Zn σ p) → Q (.inl (some (.int 0))) (jst ω M J sl)) : jwp ω d mMd_hasNeed [.ref (jN ω + 103), .int (nI p), .int (nI m)] (jst ω M J sl) Q := by
  refine jwp_of (by simp [Value.category]) (Nat.le_of_ble_eq_true rfl) (ls := [some (.ref (jN ω + 103)), some (.int (nI p)), some (.int (nI m)), none, none]) rfl ?_
  refine jj_iconst 0 dMd_hasNeed_0 (by decide) ?_
  refine jj_is3 dMd_hasNeed_1 ?_
  refine jj_iconst 0 dMd_hasNeed_2 (by decide) ?_
  refine jj_is4 dMd_hasNeed_3 ?_
  exact c_hasNeed_l hS hp hm hN6 ht hf (Zn σ p).length 0 false (by omega) ⟨fun h => (by cases h), fun h => (by obtain ⟨z, h1, _⟩ := h; simp at h1)⟩
set_option maxRecDepth 100000 in
set_option maxHeartbeats 4000000 in
theorem c_hasName_l {ω : jw} {d : Nat} {M : Nat → Nat → Int32} {J sl : Nat} {Q : jr → jh → Prop} {σ : Sg} (hS : MS M σ) {p : Nat} (hp : p < 6) (nm : Int32) (ht : (∃ z ∈ Zy σ p, z.1 = nm) → Q (.inl (some (.int 1))) (jst ω M J sl)) (hf : ¬ (∃ z ∈ Zy σ p, z.1 = nm) → Q (.inl (some (.int 0))) (jst ω M J sl)) :
    ∀ (n i : Nat) (b : Bool), n + i = (Zy σ p).length → (b = true ↔ ∃ z ∈ (Zy σ p).take i, z.1 = nm) → jj ω d mMd_hasName 5 [some (.ref (jN ω + 103)), some (.int (nI p)), some (.int nm), some (.int (b2i b)), some (.int (nI i))] [] (jst ω M J sl) Q := by
  have hl := (hS.1 p hp).2.1
  intro n
  induction n with
  | zero =>
    intro i b hn hb
    have hi : i = (Zy σ p).length := by omega
    subst hi
    rw [List.take_length] at hb
    refine jj_il4 dMd_hasName_5 ?_
    refine jj_al0 dMd_hasName_7 ?_
    refine mr_get _ dMd_hasName_8 clMd lkMd_29 (s103 _) rfl ?_
    refine jj_il1 dMd_hasName_11 ?_
    refine mr_iald dMd_hasName_12 (s110 _) (hp) (by decide) ?_
    rw [(hS.1 p hp).2.2.2.2.2.2.1]
    refine jj_icmp_ge 48 dMd_hasName_13 (by decide) (fun q1 => ?_) (fun q1 => absurd q1 (fun h => h (Int32.le_refl _)))
    refine jj_il3 dMd_hasName_48 ?_
    exact jj_iret dMd_hasName_49 rfl (by cases b <;> rfl) (by cases b; exact hf (fun h => by have := hb.mpr (h); cases this); exact ht (by obtain ⟨z, h1, h2⟩ := hb.mp rfl; exact ⟨z, h1, h2⟩))
  | succ n ih =>
    intro i b hn hb
    have hi : i < (Zy σ p).length := by omega
    obtain ⟨x, hx⟩ : ∃ x, (Zy σ p)[i]? = some x := ⟨_, List.getElem?_eq_getElem hi⟩
    have hT : (Zy σ p).take (i + 1) = (Zy σ p).take i ++ [x] := by rw [List.take_add_one, hx]; rfl
    have k41 : ∀ (c : Bool), (c = true ↔ ∃ z ∈ (Zy σ p).take (i + 1), z.1 = nm) → jj ω d mMd_hasName 41 [some (.ref (jN ω + 103)), some (.int (nI p)), some (.int nm), some (.int (b2i b)), some (.int (nI i))] [.int (b2i c)] (jst ω M J sl) Q := by
      intro c hc
      refine jj_is3 dMd_hasName_41 ?_
      refine jj_ii4 (nI (i + 1)) dMd_hasName_42 (inc1 i) ?_
      refine jj_goto 5 dMd_hasName_45 (by decide) ?_
      exact ih (i + 1) c (by omega) hc
    refine jj_il4 dMd_hasName_5 ?_
    refine jj_al0 dMd_hasName_7 ?_
    refine mr_get _ dMd_hasName_8 clMd lkMd_29 (s103 _) rfl ?_
    refine jj_il1 dMd_hasName_11 ?_
    refine mr_iald dMd_hasName_12 (s110 _) (hp) (by decide) ?_
    rw [(hS.1 p hp).2.2.2.2.2.2.1]
    refine jj_icmp_ge 48 dMd_hasName_13 (by decide) (fun q1 => absurd q1 (fun h => by have := le_le rfl h (by omega) (by omega); omega)) (fun q1 => ?_)
    refine jj_il3 dMd_hasName_16 ?_
    refine jj_if_ne 36 dMd_hasName_17 (by decide) (fun q1 => ?_) (fun q1 => ?_)
    · refine jj_iconst 1 dMd_hasName_36 (by decide) ?_
      refine jj_goto 41 dMd_hasName_37 (by decide) ?_
      exact k41 true ⟨fun _ => (hb.mp (b2i_t q1)).imp (fun z h => ⟨by rw [hT]; exact List.mem_append.mpr (Or.inl h.1), h.2⟩), fun _ => rfl⟩
    · refine jj_al0 dMd_hasName_20 ?_
      refine mr_get _ dMd_hasName_21 clMd lkMd_19 (s103 _) rfl ?_
      refine jj_bipush 6 dMd_hasName_24 (by decide) ?_
      refine jj_il1 dMd_hasName_26 ?_
      refine jj_imul dMd_hasName_27 ?_
      rw [show (6 : Int32) * nI p = nI (6 * p) from nI_mul 6 p]
      refine jj_il4 dMd_hasName_28 ?_
      refine jj_iadd dMd_hasName_30 ?_
      rw [nI_add]
      refine mr_iald dMd_hasName_31 (s107 _) (by omega) (by decide) ?_
      rw [((hS.1 p hp).2.2.2.2.2.2.2.1 i x hx).1]
      refine jj_il2 dMd_hasName_32 ?_
      refine jj_icmp_ne 40 dMd_hasName_33 (by decide) (fun q2 => ?_) (fun q2 => ?_)
      · refine jj_iconst 0 dMd_hasName_40 (by decide) ?_
        exact k41 false ⟨fun h => (by cases h), fun h => by obtain ⟨z, h1, h2⟩ := h; rw [hT] at h1; rcases List.mem_append.mp h1 with h1 | h1; exact absurd (hb.mpr ⟨z, h1, h2⟩) (by rw [b2i_f q1]; decide); rw [List.mem_singleton] at h1; subst h1; exact absurd h2 q2⟩
      · refine jj_iconst 1 dMd_hasName_36 (by decide) ?_
        refine jj_goto 41 dMd_hasName_37 (by decide) ?_
        exact k41 true ⟨fun _ => ⟨x, by rw [hT]; simp, q2⟩, fun _ => rfl⟩
set_option maxRecDepth 100000 in
set_option maxHeartbeats 4000000 in
theorem c_hasName {ω : jw} {d : Nat} {M : Nat → Nat → Int32} {J sl : Nat} {Q : jr → jh → Prop} {σ : Sg} (hS : MS M σ) {p : Nat} (hp : p < 6) (nm : Int32) (ht : (∃ z ∈ Zy σ p, z.1 = nm) → Q (.inl (some (.int 1))) (jst ω M J sl)) (hf : ¬ (∃ z ∈ Zy σ p, z.1 = nm) → Q (.inl (some (.int 0))) (jst ω M J sl)) : jwp ω d mMd_hasName [.ref (jN ω + 103), .int (nI p), .int nm] (jst ω M J sl) Q := by
  refine jwp_of (by simp [Value.category]) (Nat.le_of_ble_eq_true rfl) (ls := [some (.ref (jN ω + 103)), some (.int (nI p)), some (.int nm), none, none]) rfl ?_
  refine jj_iconst 0 dMd_hasName_0 (by decide) ?_
  refine jj_is3 dMd_hasName_1 ?_
  refine jj_iconst 0 dMd_hasName_2 (by decide) ?_
  refine jj_is4 dMd_hasName_3 ?_
  exact c_hasName_l hS hp nm ht hf (Zy σ p).length 0 false (by omega) ⟨fun h => (by cases h), fun h => (by obtain ⟨z, h1, _⟩ := h; simp at h1)⟩
