abbrev edge (σ : Sg) (p q : Nat) : Prop := q ∈ Zn σ p ∨ Zu σ p q = true
def KpIs (M : Nat → Nat → Int32) (K : Nat → Bool) : Prop := ∀ p, p < 6 → M 130 p = b2i (K p)
/-- kept cells alone -/
def Kc (M M' : Nat → Nat → Int32) : Prop := ∀ k i, k ≠ 130 → M' k i = M k i
theorem Kc.refl (M : Nat → Nat → Int32) : Kc M M := fun _ _ _ => rfl
theorem Kc.trans {M M1 M2 : Nat → Nat → Int32} (h1 : Kc M M1) (h2 : Kc M1 M2) : Kc M M2 := fun k i a => (h2 k i a).trans (h1 k i a)
theorem Kc.up {M M1 : Nat → Nat → Int32} (h : Kc M M1) {i : Nat} (v : Int32) : Kc M (mup M1 130 i v) := fun k j a => by rw [mup_ne _ _ (Or.inl a)]; exact h k j a
theorem Kc.hd {M M' : Nat → Nat → Int32} (h : Kc M M') : Hd M M' := ⟨fun k i a b => h k i (by omega), h _ _ (by omega), h _ _ (by omega), h _ _ (by omega)⟩
theorem kbF_iff (σ : Sg) (K : Nat → Bool) (j i : Nat) : kbF σ K j i = true ↔ K i = true ∨ ∃ p, p < j ∧ K p = true ∧ edge σ p i := by
  unfold kbF
  rw [Bool.or_eq_true, List.any_eq_true]
  constructor
  · rintro (h | ⟨p, hp, h⟩)
    · exact Or.inl h
    · rw [Bool.and_eq_true, Bool.or_eq_true, decide_eq_true_eq] at h
      exact Or.inr ⟨p, List.mem_range.mp hp, h.1, h.2⟩
  · rintro (h | ⟨p, hp, h1, h2⟩)
    · exact Or.inl h
    · exact Or.inr ⟨p, List.mem_range.mpr hp, by rw [Bool.and_eq_true, Bool.or_eq_true, decide_eq_true_eq]; exact ⟨h1, h2⟩⟩
theorem kpF_mono (σ : Sg) (n i : Nat) (h : kpF σ n i = true) : kpF σ (n + 1) i = true := (kbF_iff σ _ 6 i).mpr (Or.inl h)
/-- the sweep under way: p and q come next in round r -/
def KInv (σ : Sg) (r p q : Nat) (K : Nat → Bool) : Prop := (∀ i, i < 6 → kpF σ r i = true → K i = true) ∧ (∀ i, i < 6 → K i = true → kpF σ 5 i = true) ∧ (∀ p' i, p' < p → i < 6 → kpF σ r p' = true → edge σ p' i → K i = true) ∧ (∀ i, i < q → i < 6 → kpF σ r p = true → edge σ p i → K i = true)
set_option maxRecDepth 100000 in
set_option maxHeartbeats 4000000 in
theorem c_kept_in {ω : jw} {d : Nat} {J sl : Nat} {Q : jr → jh → Prop} {M0 : Nat → Nat → Int32} {σ : Sg} (hS0 : MS M0 σ) (hN6 : ∀ p, p < 6 → ∀ x ∈ Zn σ p, x < 6) (hKL : ∀ p, p < 6 → kpF σ 5 p = true → ¬ Zb σ p = none) (hcl : ∀ p q, p < 6 → q < 6 → kpF σ 5 p = true → edge σ p q → kpF σ 5 q = true) {r p : Nat} (hp : p < 6)
    (hk : ∀ M' K c3, Kc M0 M' → KpIs M' K → KInv σ r (p + 1) 0 K → jj ω (d + 1) mMd_findKept 116 [some (.ref (jN ω + 103)), some (.int (nI r)), some (.int (nI p)), c3] [] (jst ω M' J sl) Q) :
    ∀ (n q : Nat) (K : Nat → Bool) (M : Nat → Nat → Int32), n + q = 6 → Kc M0 M → KpIs M K → KInv σ r p q K → jj ω (d + 1) mMd_findKept 52 [some (.ref (jN ω + 103)), some (.int (nI r)), some (.int (nI p)), some (.int (nI q))] [] (jst ω M J sl) Q := by
  have hend : ∀ K, KInv σ r p 6 K → KInv σ r (p + 1) 0 K := fun K h => ⟨h.1, h.2.1, fun p' i hp' hi a b => by
    by_cases e : p' = p
    · subst e; exact h.2.2.2 i hi hi a b
    · exact h.2.2.1 p' i (by omega) hi a b, fun i hi => by omega⟩
  intro n
  induction n with
  | zero =>
    intro q K M hn hC hKs hI
    have hi : q = 6 := by omega
    subst hi
    refine jj_il3 dMd_findKept_52 ?_
    refine jj_bipush 6 dMd_findKept_53 (by decide) ?_
    refine jj_icmp_ge 116 dMd_findKept_55 (by decide) (fun q1 => ?_) (fun q1 => absurd q1 (by decide))
    exact hk M K _ hC hKs (hend K hI)
  | succ n ih =>
    intro q K M hn hC hKs hI
    have hq6 : q < 6 := by omega
    have hS := hS0.hd hC.hd
    have k109 : ∀ (b : Bool), K p = true → (b = true ↔ K q = true ∨ edge σ p q) → jj ω (d + 1) mMd_findKept 109 [some (.ref (jN ω + 103)), some (.int (nI r)), some (.int (nI p)), some (.int (nI q))] [.int (b2i b), .int (nI q), .ref (jN ω + 130)] (jst ω M J sl) Q := by
      intro b hKp hb
      refine mr_zast dMd_findKept_109 (s130) (by cases b; exact Or.inl rfl; exact Or.inr rfl) (hq6) (by decide) ?_
      refine jj_ii3 (nI (q + 1)) dMd_findKept_110 (inc1 q) ?_
      refine jj_goto 52 dMd_findKept_113 (by decide) ?_
      refine ih (q + 1) (va_up K q b) _ (by omega) (hC.up _) (fun z hz => ?_) ⟨fun i hi a => ?_, fun i hi a => ?_, fun p' i hp' hi a c => ?_, fun i hi hi6 a c => ?_⟩
      · by_cases e : z = q
        · subst e; rw [mup_at, va_up_self]
        · rw [mup_ne _ _ (by omega), va_up_ne _ _ e]; exact hKs z hz
      · have h := hI.1 i hi a
        by_cases e : i = q
        · subst e; rw [va_up_self]; exact hb.mpr (Or.inl h)
        · rw [va_up_ne _ _ e]; exact h
      · by_cases e : i = q
        · subst e
          rw [va_up_self] at a
          exact (hb.mp a).elim (hI.2.1 i hi) (hcl p i hp hi (hI.2.1 p hp hKp))
        · rw [va_up_ne _ _ e] at a; exact hI.2.1 i hi a
      · have h := hI.2.2.1 p' i hp' hi a c
        by_cases e : i = q
        · subst e; rw [va_up_self]; exact hb.mpr (Or.inl h)
        · rw [va_up_ne _ _ e]; exact h
      · by_cases e : i = q
        · subst e; rw [va_up_self]; exact hb.mpr (Or.inr c)
        · rw [va_up_ne _ _ e]; exact hI.2.2.2 i (by omega) hi6 a c
    refine jj_il3 dMd_findKept_52 ?_
    refine jj_bipush 6 dMd_findKept_53 (by decide) ?_
    refine jj_icmp_ge 116 dMd_findKept_55 (by decide) (fun q1 => absurd q1 (fun h => by have := le_le (a := 6) rfl h (by decide) (by omega); omega)) (fun q1 => ?_)
    refine jj_al0 dMd_findKept_58 ?_
    refine mr_get _ dMd_findKept_59 clMd lkMd_89 (s103 _) rfl ?_
    refine jj_il2 dMd_findKept_62 ?_
    refine mr_zald dMd_findKept_63 (s130 _) (hp) (by decide) ?_
    rw [hKs p hp]
    refine jj_if_eq 116 dMd_findKept_64 (by decide) (fun q1 => ?_) (fun q1 => ?_)
    · exact hk M K _ hC hKs (hend K ⟨hI.1, hI.2.1, hI.2.2.1, fun i _ hi6 a _ => by have := hI.1 p hp a; rw [b2i_f q1] at this; cases this⟩)
    · have hKp := b2i_t q1
      obtain ⟨b0, hb0⟩ : ∃ b, Zb σ p = some b := by
        cases hx : Zb σ p with
        | none => exact absurd hx (hKL p hp (hI.2.1 p hp hKp))
        | some b => exact ⟨b, rfl⟩
      refine jj_al0 dMd_findKept_67 ?_
      refine mr_get _ dMd_findKept_68 clMd lkMd_89 (s103 _) rfl ?_
      refine jj_il3 dMd_findKept_71 ?_
      refine jj_al0 dMd_findKept_72 ?_
      refine mr_get _ dMd_findKept_73 clMd lkMd_89 (s103 _) rfl ?_
      refine jj_il3 dMd_findKept_76 ?_
      refine mr_zald dMd_findKept_77 (s130 _) (hq6) (by decide) ?_
      rw [hKs q hq6]
      refine jj_if_ne 104 dMd_findKept_78 (by decide) (fun q2 => ?_) (fun q2 => ?_)
      · refine jj_iconst 1 dMd_findKept_104 (by decide) ?_
        refine jj_goto 109 dMd_findKept_105 (by decide) ?_
        exact k109 true hKp ⟨fun _ => Or.inl (b2i_t q2), fun _ => rfl⟩
      · refine jj_al0 dMd_findKept_81 ?_
        refine jj_il2 dMd_findKept_82 ?_
        refine jj_il3 dMd_findKept_83 ?_
        refine mv2 dMd_findKept_84 clMd cvMd_107 (s103 _) (Nat.le_of_ble_eq_true rfl) ?_
        refine c_hasNeed hS hp hq6 (hN6 p hp) (fun hx => jk_i ?_) (fun hx => jk_i ?_)
        · refine jj_if_ne 104 dMd_findKept_87 (by decide) (fun _ => ?_) (fun h => absurd h (by decide))
          refine jj_iconst 1 dMd_findKept_104 (by decide) ?_
          refine jj_goto 109 dMd_findKept_105 (by decide) ?_
          exact k109 true hKp ⟨fun _ => Or.inr (Or.inl hx), fun _ => rfl⟩
        · refine jj_if_ne 104 dMd_findKept_87 (by decide) (fun h => absurd h (by decide)) (fun _ => ?_)
          refine jj_al0 dMd_findKept_90 ?_
          refine mr_get _ dMd_findKept_91 clMd lkMd_59 (s103 _) rfl ?_
          refine jj_bipush 6 dMd_findKept_94 (by decide) ?_
          refine jj_il2 dMd_findKept_96 ?_
          refine jj_imul dMd_findKept_97 ?_
          rw [show (6 : Int32) * nI p = nI (6 * p) from nI_mul 6 p]
          refine jj_il3 dMd_findKept_98 ?_
          refine jj_iadd dMd_findKept_99 ?_
          rw [nI_add]
          refine mr_zald dMd_findKept_100 (s120 _) (by omega) (by decide) ?_
          rw [((hS.2.1 p hp).2 b0 hb0).2.2.2.2 q hq6]
          refine jj_if_eq 108 dMd_findKept_101 (by decide) (fun q3 => ?_) (fun q3 => ?_)
          · refine jj_iconst 0 dMd_findKept_108 (by decide) ?_
            exact k109 false hKp ⟨fun h => (by cases h), fun h => h.elim (fun g => by rw [b2i_f q2] at g; exact g) (fun g => g.elim (fun g => absurd g hx) (fun g => by rw [b2i_f q3] at g; exact g))⟩
          · refine jj_iconst 1 dMd_findKept_104 (by decide) ?_
            refine jj_goto 109 dMd_findKept_105 (by decide) ?_
            exact k109 true hKp ⟨fun _ => Or.inr (Or.inr (b2i_t q3)), fun _ => rfl⟩
set_option maxRecDepth 100000 in
set_option maxHeartbeats 4000000 in
theorem c_kept_mid {ω : jw} {d : Nat} {J sl : Nat} {Q : jr → jh → Prop} {M0 : Nat → Nat → Int32} {σ : Sg} (hS0 : MS M0 σ) (hN6 : ∀ p, p < 6 → ∀ x ∈ Zn σ p, x < 6) (hKL : ∀ p, p < 6 → kpF σ 5 p = true → ¬ Zb σ p = none) (hcl : ∀ p q, p < 6 → q < 6 → kpF σ 5 p = true → edge σ p q → kpF σ 5 q = true) {r : Nat}
    (hk : ∀ M' K c2 c3, Kc M0 M' → KpIs M' K → KInv σ (r + 1) 0 0 K → jj ω (d + 1) mMd_findKept 122 [some (.ref (jN ω + 103)), some (.int (nI r)), c2, c3] [] (jst ω M' J sl) Q) :
    ∀ (n p : Nat) (K : Nat → Bool) (M : Nat → Nat → Int32) (c3 : Option Value), n + p = 6 → Kc M0 M → KpIs M K → KInv σ r p 0 K → jj ω (d + 1) mMd_findKept 44 [some (.ref (jN ω + 103)), some (.int (nI r)), some (.int (nI p)), c3] [] (jst ω M J sl) Q := by
  intro n
  induction n with
  | zero =>
    intro p K M c3 hn hC hKs hI
    have hi : p = 6 := by omega
    subst hi
    refine jj_il2 dMd_findKept_44 ?_
    refine jj_bipush 6 dMd_findKept_45 (by decide) ?_
    refine jj_icmp_ge 122 dMd_findKept_47 (by decide) (fun q1 => ?_) (fun q1 => absurd q1 (by decide))
    refine hk M K _ _ hC hKs ⟨fun i hi a => ?_, hI.2.1, fun p' i hp' => by omega, fun i hi => by omega⟩
    rcases (kbF_iff σ (kpF σ r) 6 i).mp a with h | ⟨p, hp, h1, h2⟩
    · exact hI.1 i hi h
    · exact hI.2.2.1 p i hp hi h1 h2
  | succ n ih =>
    intro p K M c3 hn hC hKs hI
    have hp6 : p < 6 := by omega
    refine jj_il2 dMd_findKept_44 ?_
    refine jj_bipush 6 dMd_findKept_45 (by decide) ?_
    refine jj_icmp_ge 122 dMd_findKept_47 (by decide) (fun q1 => absurd q1 (fun h => by have := le_le (a := 6) rfl h (by decide) (by omega); omega)) (fun q1 => ?_)
    refine jj_iconst 0 dMd_findKept_50 (by decide) ?_
    refine jj_is3 dMd_findKept_51 ?_
    refine c_kept_in hS0 hN6 hKL hcl hp6 (fun M1 K1 c3 a1 a2 a3 => ?_) 6 0 K M rfl hC hKs hI
    refine jj_ii2 (nI (p + 1)) dMd_findKept_116 (inc1 p) ?_
    refine jj_goto 44 dMd_findKept_119 (by decide) ?_
    exact ih (p + 1) K1 M1 _ (by omega) a1 a2 a3
set_option maxRecDepth 100000 in
set_option maxHeartbeats 4000000 in
theorem c_kept_out {ω : jw} {d : Nat} {J sl : Nat} {Q : jr → jh → Prop} {M0 : Nat → Nat → Int32} {σ : Sg} (hS0 : MS M0 σ) (hN6 : ∀ p, p < 6 → ∀ x ∈ Zn σ p, x < 6) (hKL : ∀ p, p < 6 → kpF σ 5 p = true → ¬ Zb σ p = none) (hcl : ∀ p q, p < 6 → q < 6 → kpF σ 5 p = true → edge σ p q → kpF σ 5 q = true)
    (hq : ∀ M', Kc M0 M' → KpIs M' (kpF σ 5) → Q (.inl none) (jst ω M' J sl)) :
    ∀ (n r : Nat) (K : Nat → Bool) (M : Nat → Nat → Int32) (c2 c3 : Option Value), n + r = 6 → Kc M0 M → KpIs M K → KInv σ r 0 0 K → jj ω (d + 1) mMd_findKept 36 [some (.ref (jN ω + 103)), some (.int (nI r)), c2, c3] [] (jst ω M J sl) Q := by
  intro n
  induction n with
  | zero =>
    intro r K M c2 c3 hn hC hKs hI
    have hi : r = 6 := by omega
    subst hi
    refine jj_il1 dMd_findKept_36 ?_
    refine jj_bipush 6 dMd_findKept_37 (by decide) ?_
    refine jj_icmp_ge 128 dMd_findKept_39 (by decide) (fun q1 => ?_) (fun q1 => absurd q1 (by decide))
    exact jj_vret dMd_findKept_128 rfl (hq M hC (fun p hp => by
      rw [hKs p hp]
      congr 1
      rw [Bool.eq_iff_iff]
      exact ⟨hI.2.1 p hp, fun h => hI.1 p hp (kpF_mono σ 5 p h)⟩))
  | succ n ih =>
    intro r K M c2 c3 hn hC hKs hI
    refine jj_il1 dMd_findKept_36 ?_
    refine jj_bipush 6 dMd_findKept_37 (by decide) ?_
    refine jj_icmp_ge 128 dMd_findKept_39 (by decide) (fun q1 => absurd q1 (fun h => by have := le_le (a := 6) rfl h (by decide) (by omega); omega)) (fun q1 => ?_)
    refine jj_iconst 0 dMd_findKept_42 (by decide) ?_
    refine jj_is2 dMd_findKept_43 ?_
    refine c_kept_mid hS0 hN6 hKL hcl (fun M1 K1 c2 c3 a1 a2 a3 => ?_) 6 0 K M _ rfl hC hKs hI
    refine jj_ii1 (nI (r + 1)) dMd_findKept_122 (inc1 r) ?_
    refine jj_goto 36 dMd_findKept_125 (by decide) ?_
    exact ih (r + 1) K1 M1 _ _ (by omega) a1 a2 a3
set_option maxRecDepth 100000 in
set_option maxHeartbeats 4000000 in
theorem c_kept_0 {ω : jw} {d : Nat} {J sl : Nat} {Q : jr → jh → Prop} {M0 : Nat → Nat → Int32} {σ : Sg} (hS0 : MS M0 σ) (hN6 : ∀ p, p < 6 → ∀ x ∈ Zn σ p, x < 6) (hKL : ∀ p, p < 6 → kpF σ 5 p = true → ¬ Zb σ p = none) (hcl : ∀ p q, p < 6 → q < 6 → kpF σ 5 p = true → edge σ p q → kpF σ 5 q = true) (hZo : ∀ p, p < 6 → Zo σ p < 2 ^ 31)
    (hq : ∀ M', Kc M0 M' → KpIs M' (kpF σ 5) → Q (.inl none) (jst ω M' J sl)) :
    ∀ (n i : Nat) (M : Nat → Nat → Int32), n + i = 6 → Kc M0 M → (∀ p, p < i → M 130 p = b2i (k0F σ 6 p)) → jj ω (d + 1) mMd_findKept 2 [some (.ref (jN ω + 103)), some (.int (nI i)), none, none] [] (jst ω M J sl) Q := by
  intro n
  induction n with
  | zero =>
    intro i M hn hC hKs
    have hi : i = 6 := by omega
    subst hi
    refine jj_il1 dMd_findKept_2 ?_
    refine jj_bipush 6 dMd_findKept_3 (by decide) ?_
    refine jj_icmp_ge 34 dMd_findKept_5 (by decide) (fun q1 => ?_) (fun q1 => absurd q1 (by decide))
    refine jj_iconst 0 dMd_findKept_34 (by decide) ?_
    refine jj_is1 dMd_findKept_35 ?_
    refine c_kept_out hS0 hN6 hKL hcl hq 6 0 (k0F σ 6) M _ _ rfl hC hKs ⟨fun i hi a => a, fun i hi a => ?_, fun p' i hp' => by omega, fun i hi => by omega⟩
    exact kpF_mono σ 4 i (kpF_mono σ 3 i (kpF_mono σ 2 i (kpF_mono σ 1 i (kpF_mono σ 0 i a))))
  | succ n ih =>
    intro i M hn hC hKs
    have hi6 : i < 6 := by omega
    have hz := hZo i hi6
    refine jj_il1 dMd_findKept_2 ?_
    refine jj_bipush 6 dMd_findKept_3 (by decide) ?_
    refine jj_icmp_ge 34 dMd_findKept_5 (by decide) (fun q1 => absurd q1 (fun h => by have := le_le (a := 6) rfl h (by decide) (by omega); omega)) (fun q1 => ?_)
    refine jj_al0 dMd_findKept_8 ?_
    refine mr_get _ dMd_findKept_9 clMd lkMd_89 (s103 _) rfl ?_
    refine jj_il1 dMd_findKept_12 ?_
    refine jj_al0 dMd_findKept_13 ?_
    refine mr_get _ dMd_findKept_14 clMd lkMd_62 (s103 _) rfl ?_
    refine jj_il1 dMd_findKept_17 ?_
    refine mr_iald dMd_findKept_18 (s121 _) (hi6) (by decide) ?_
    rw [hC _ _ (by omega), hS0.2.2.1 i hi6]
    refine jj_if_le 26 dMd_findKept_19 (by decide) (fun q1 => ?_) (fun q1 => ?_)
    · refine jj_iconst 0 dMd_findKept_26 (by decide) ?_
      refine mr_zast dMd_findKept_27 (s130) (by first | exact Or.inl rfl | exact Or.inr rfl) (hi6) (by decide) ?_
      refine jj_ii1 (nI (i + 1)) dMd_findKept_28 (inc1 i) ?_
      refine jj_goto 2 dMd_findKept_31 (by decide) ?_
      refine ih (i + 1) _ (by omega) (hC.up _) (fun p hp => ?_)
      by_cases hpi : p = i
      · subst hpi
        rw [mup_at]
        unfold k0F
        have h0 : Zo σ p = 0 := Nat.le_zero.mp (le_le (a := Zo σ p) (b := 0) rfl q1 hz (by decide))
        rw [show decide (¬ Zo σ p = 0) = false from decide_eq_false (fun h => h h0), Bool.and_false]; rfl
      · rw [mup_ne _ _ (by omega)]; exact hKs p (by omega)
    · refine jj_iconst 1 dMd_findKept_22 (by decide) ?_
      refine jj_goto 27 dMd_findKept_23 (by decide) ?_
      refine mr_zast dMd_findKept_27 (s130) (by first | exact Or.inl rfl | exact Or.inr rfl) (hi6) (by decide) ?_
      refine jj_ii1 (nI (i + 1)) dMd_findKept_28 (inc1 i) ?_
      refine jj_goto 2 dMd_findKept_31 (by decide) ?_
      refine ih (i + 1) _ (by omega) (hC.up _) (fun p hp => ?_)
      by_cases hpi : p = i
      · subst hpi
        rw [mup_at]
        unfold k0F
        have h0 : ¬ Zo σ p = 0 := fun h => q1 (by rw [h]; decide)
        rw [decide_eq_true h0, decide_eq_true hi6]; rfl
      · rw [mup_ne _ _ (by omega)]; exact hKs p (by omega)
set_option maxRecDepth 100000 in
set_option maxHeartbeats 4000000 in
theorem c_findKept {ω : jw} {d : Nat} {M : Nat → Nat → Int32} {J sl : Nat} {Q : jr → jh → Prop} {σ : Sg} (hS0 : MS M σ) (hN6 : ∀ p, p < 6 → ∀ x ∈ Zn σ p, x < 6) (hKL : ∀ p, p < 6 → kpF σ 5 p = true → ¬ Zb σ p = none) (hcl : ∀ p q, p < 6 → q < 6 → kpF σ 5 p = true → edge σ p q → kpF σ 5 q = true) (hZo : ∀ p, p < 6 → Zo σ p < 2 ^ 31) (hq : ∀ M', Kc M M' → KpIs M' (kpF σ 5) → Q (.inl none) (jst ω M' J sl)) : jwp ω (d + 1) mMd_findKept [.ref (jN ω + 103)] (jst ω M J sl) Q := by
  refine jwp_of (by simp [Value.category]) (Nat.le_of_ble_eq_true rfl) (ls := [some (.ref (jN ω + 103)), none, none, none]) rfl ?_
  refine jj_iconst 0 dMd_findKept_0 (by decide) ?_
  refine jj_is1 dMd_findKept_1 ?_
  exact c_kept_0 hS0 hN6 hKL hcl hZo hq 6 0 M rfl (Kc.refl M) (fun p hp => by omega)
def endC (σ : Sg) (K : Nat → Bool) (p : Nat) : Prop := ¬ Zb σ p = none ∧ K p = false
def bestIs (σ : Sg) (K : Nat → Bool) (bn : Nat → Nat) (i : Nat) (v : Int32) : Prop := (v = -1 ∧ ∀ p, p < i → ¬ endC σ K p) ∨ ∃ b, b < i ∧ v = nI b ∧ endC σ K b ∧ ∀ p, p < i → endC σ K p → bn p ≤ bn b
set_option maxRecDepth 100000 in
set_option maxHeartbeats 4000000 in
theorem c_latest_l {ω : jw} {d : Nat} {M : Nat → Nat → Int32} {J sl : Nat} {Q : jr → jh → Prop} {σ : Sg} {K : Nat → Bool} {bn : Nat → Nat} (hL : ∀ p, p < 6 → M 116 p = b2i (Zb σ p).isSome) (hK : KpIs M K) (hbn : ∀ p, p < 6 → ¬ Zb σ p = none → M 122 p = nI (bn p) ∧ bn p < 2 ^ 31)
    (ht : ∀ b, b < 6 → endC σ K b → (∀ p, p < 6 → endC σ K p → bn p ≤ bn b) → Q (.inl (some (.int (nI b)))) (jst ω M J sl)) (hf : (∀ p, p < 6 → ¬ endC σ K p) → Q (.inl (some (.int (-1)))) (jst ω M J sl)) :
    ∀ (n i : Nat) (v : Int32) (c3 : Option Value), n + i = 6 → bestIs σ K bn i v → jj ω d mMd_latest 4 [some (.ref (jN ω + 103)), some (.int v), some (.int (nI i)), c3] [] (jst ω M J sl) Q := by
  intro n
  induction n with
  | zero =>
    intro i v c3 hn hb
    have hi : i = 6 := by omega
    subst hi
    refine jj_il2 dMd_latest_4 ?_
    refine jj_bipush 6 dMd_latest_5 (by decide) ?_
    refine jj_icmp_ge 69 dMd_latest_7 (by decide) (fun q1 => ?_) (fun q1 => absurd q1 (by decide))
    refine jj_il1 dMd_latest_69 ?_
    exact jj_iret dMd_latest_70 rfl rfl (by rcases hb with ⟨rfl, h⟩ | ⟨b, h1, rfl, h2, h3⟩; exact hf h; exact ht b h1 h2 h3)
  | succ n ih =>
    intro i v c3 hn hb
    have hi6 : i < 6 := by omega
    have hLi : M 116 i = 0 ↔ Zb σ i = none := by
      rw [hL i hi6]
      cases Zb σ i with
      | none => exact ⟨fun _ => rfl, fun _ => rfl⟩
      | some b => exact ⟨fun h => absurd h (show ¬ b2i true = 0 by decide), fun h => by cases h⟩
    have hkeep : ¬ endC σ K i → bestIs σ K bn (i + 1) v := fun hno => by
      rcases hb with ⟨e, h⟩ | ⟨b, h1, e, h2, h3⟩
      · exact Or.inl ⟨e, fun p hp => by by_cases h9 : p = i; rw [h9]; exact hno; exact h p (by omega)⟩
      · exact Or.inr ⟨b, by omega, e, h2, fun p hp hc => by by_cases h9 : p = i; exact absurd (h9 ▸ hc) hno; exact h3 p (by omega) hc⟩
    have k62 : ∀ w : Int32, bestIs σ K bn (i + 1) w → ∀ c3 : Option Value, jj ω d mMd_latest 62 [some (.ref (jN ω + 103)), some (.int v), some (.int (nI i)), c3] [.int w] (jst ω M J sl) Q := by
      intro w hw c3
      refine jj_is1 dMd_latest_62 ?_
      refine jj_ii2 (nI (i + 1)) dMd_latest_63 (inc1 i) ?_
      refine jj_goto 4 dMd_latest_66 (by decide) ?_
      exact ih (i + 1) w _ (by omega) hw
    refine jj_il2 dMd_latest_4 ?_
    refine jj_bipush 6 dMd_latest_5 (by decide) ?_
    refine jj_icmp_ge 69 dMd_latest_7 (by decide) (fun q1 => absurd q1 (fun h => by have := le_le (a := 6) rfl h (by decide) (by omega); omega)) (fun q1 => ?_)
    refine jj_al0 dMd_latest_10 ?_
    refine mr_get _ dMd_latest_11 clMd lkMd_47 (s103 _) rfl ?_
    refine jj_il2 dMd_latest_14 ?_
    refine mr_zald dMd_latest_15 (s116 _) (hi6) (by decide) ?_
    refine jj_if_eq 32 dMd_latest_16 (by decide) (fun q1 => ?_) (fun q1 => ?_)
    · refine jj_iconst 0 dMd_latest_32 (by decide) ?_
      refine jj_is3 dMd_latest_33 ?_
      refine jj_il3 dMd_latest_34 ?_
      refine jj_if_eq 61 dMd_latest_35 (by decide) (fun _ => ?_) (fun h => absurd h (by decide))
      refine jj_il1 dMd_latest_61 ?_
      exact k62 v (hkeep (fun h => h.1 (hLi.mp q1))) _
    · refine jj_al0 dMd_latest_19 ?_
      refine mr_get _ dMd_latest_20 clMd lkMd_89 (s103 _) rfl ?_
      refine jj_il2 dMd_latest_23 ?_
      refine mr_zald dMd_latest_24 (s130 _) (hi6) (by decide) ?_
      rw [hK i hi6]
      refine jj_if_ne 32 dMd_latest_25 (by decide) (fun q2 => ?_) (fun q2 => ?_)
      · refine jj_iconst 0 dMd_latest_32 (by decide) ?_
        refine jj_is3 dMd_latest_33 ?_
        refine jj_il3 dMd_latest_34 ?_
        refine jj_if_eq 61 dMd_latest_35 (by decide) (fun _ => ?_) (fun h => absurd h (by decide))
        refine jj_il1 dMd_latest_61 ?_
        exact k62 v (hkeep (fun h => q2 (by rw [h.2]; rfl))) _
      · refine jj_iconst 1 dMd_latest_28 (by decide) ?_
        refine jj_goto 33 dMd_latest_29 (by decide) ?_
        refine jj_is3 dMd_latest_33 ?_
        refine jj_il3 dMd_latest_34 ?_
        refine jj_if_eq 61 dMd_latest_35 (by decide) (fun h => absurd h (by decide)) (fun _ => ?_)
        have hCi : endC σ K i := ⟨fun h => q1 (hLi.mpr h), b2i_f q2⟩
        refine jj_il1 dMd_latest_38 ?_
        refine jj_if_lt 57 dMd_latest_39 (by decide) (fun q3 => ?_) (fun q3 => ?_)
        · refine jj_il2 dMd_latest_57 ?_
          refine jj_goto 62 dMd_latest_58 (by decide) ?_
          exact k62 (nI i) (Or.inr ⟨i, by omega, rfl, hCi, fun p hp hc => by by_cases h9 : p = i; rw [h9]; exact Nat.le_refl _; exact absurd hc ((hb.resolve_right (fun h => by obtain ⟨b, h1, h2, _⟩ := h; rw [h2] at q3; exact nI_nn b (by omega) q3)).2 p (by omega))⟩) _
        · obtain ⟨b, hbi, rfl, hb2, hb3⟩ := hb.resolve_left (fun h => q3 (by rw [h.1]; decide))
          have hb6 : b < 6 := by omega
          obtain ⟨e1, e2⟩ := hbn i hi6 hCi.1
          obtain ⟨e3, e4⟩ := hbn b hb6 hb2.1
          refine jj_al0 dMd_latest_42 ?_
          refine mr_get _ dMd_latest_43 clMd lkMd_65 (s103 _) rfl ?_
          refine jj_il2 dMd_latest_46 ?_
          refine mr_iald dMd_latest_47 (s122 _) (hi6) (by decide) ?_
          rw [e1]
          refine jj_al0 dMd_latest_48 ?_
          refine mr_get _ dMd_latest_49 clMd lkMd_65 (s103 _) rfl ?_
          refine jj_il1 dMd_latest_52 ?_
          refine mr_iald dMd_latest_53 (s122 _) (hb6) (by decide) ?_
          rw [e3]
          refine jj_icmp_le 61 dMd_latest_54 (by decide) (fun q4 => ?_) (fun q4 => ?_)
          · refine jj_il1 dMd_latest_61 ?_
            exact k62 (nI b) (Or.inr ⟨b, by omega, rfl, hb2, fun p hp hc => by by_cases h9 : p = i; rw [h9]; exact le_le rfl q4 (by omega) (by omega); exact hb3 p (by omega) hc⟩) _
          · refine jj_il2 dMd_latest_57 ?_
            refine jj_goto 62 dMd_latest_58 (by decide) ?_
            exact k62 (nI i) (Or.inr ⟨i, by omega, rfl, hCi, fun p hp hc => by by_cases h9 : p = i; rw [h9]; exact Nat.le_refl _; have := hb3 p (by omega) hc; have := nle_lt rfl q4 (by omega) (by omega); omega⟩) _
set_option maxRecDepth 100000 in
set_option maxHeartbeats 4000000 in
theorem c_latest {ω : jw} {d : Nat} {M : Nat → Nat → Int32} {J sl : Nat} {Q : jr → jh → Prop} {σ : Sg} {K : Nat → Bool} {bn : Nat → Nat} (hL : ∀ p, p < 6 → M 116 p = b2i (Zb σ p).isSome) (hK : KpIs M K) (hbn : ∀ p, p < 6 → ¬ Zb σ p = none → M 122 p = nI (bn p) ∧ bn p < 2 ^ 31)
    (ht : ∀ b, b < 6 → endC σ K b → (∀ p, p < 6 → endC σ K p → bn p ≤ bn b) → Q (.inl (some (.int (nI b)))) (jst ω M J sl)) (hf : (∀ p, p < 6 → ¬ endC σ K p) → Q (.inl (some (.int (-1)))) (jst ω M J sl)) : jwp ω d mMd_latest [.ref (jN ω + 103)] (jst ω M J sl) Q := by
  refine jwp_of (by simp [Value.category]) (Nat.le_of_ble_eq_true rfl) (ls := [some (.ref (jN ω + 103)), none, none, none]) rfl ?_
  refine jj_iconst (-1) dMd_latest_0 (by decide) ?_
  refine jj_is1 dMd_latest_1 ?_
  refine jj_iconst 0 dMd_latest_2 (by decide) ?_
  refine jj_is2 dMd_latest_3 ?_
  exact c_latest_l hL hK hbn ht hf 6 0 (-1) _ rfl (Or.inl ⟨rfl, fun p hp => by omega⟩)
