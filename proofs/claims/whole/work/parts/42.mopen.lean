abbrev inN (nw : List Nat) (n i p : Nat) : Prop := p ∈ nw ∧ i ≤ p ∧ p < i + n
theorem inN_s {nw : List Nat} {n i p : Nat} : inN nw (n + 1) i p ↔ (i ∈ nw ∧ p = i) ∨ inN nw n (i + 1) p := by
  constructor
  · rintro ⟨h1, h2, h3⟩
    by_cases e : p = i
    · subst e; exact Or.inl ⟨h1, rfl⟩
    · exact Or.inr ⟨h1, by omega, by omega⟩
  · rintro (⟨h1, rfl⟩ | ⟨h1, h2, h3⟩)
    · exact ⟨h1, by omega, by omega⟩
    · exact ⟨h1, by omega, by omega⟩
theorem toF_facts (nw : List Nat) : ∀ (n i : Nat) (σ : Sg), (∃ zb zu zw gl, toF nw n i σ = (Zs σ, Zn σ, Zy σ, Zr σ, zb, Zg σ, zu, Zo σ, zw, gl, Bg σ, Ev σ, Sp σ)) ∧ (∀ p, (inN nw n i p → Zb (toF nw n i σ) p = none) ∧ (¬ inN nw n i p → Zb (toF nw n i σ) p = Zb σ p)) ∧ (∀ p, (inN nw n i p → ∀ q, Zu (toF nw n i σ) p q = false) ∧ (¬ inN nw n i p → Zu (toF nw n i σ) p = Zu σ p)) ∧ (Gl (toF nw n i σ) = (Gl σ).filter (fun z => !decide (inN nw n i z))) ∧ (∀ a, (∀ p, inN nw n i p → inIm σ a p = false) → Zw (toF nw n i σ) a = Zw σ a) ∧ (∀ a p, inN nw n i p → inIm σ a p = true → Zw (toF nw n i σ) a = 0) ∧ (∀ a, Zw σ a = 0 → Zw (toF nw n i σ) a = 0) := by
  intro n
  induction n with
  | zero =>
    intro i σ
    have hno : ∀ p, ¬ inN nw 0 i p := fun p h => by have := h.2; omega
    refine ⟨⟨Zb σ, Zu σ, Zw σ, Gl σ, rfl⟩, fun p => ⟨fun h => absurd h (hno p), fun _ => rfl⟩, fun p => ⟨fun h => absurd h (hno p), fun _ => rfl⟩, ?_, fun a _ => rfl, fun a p h => absurd h (hno p), fun a h => h⟩
    show Gl σ = _
    symm
    rw [List.filter_eq_self]
    intro z _
    rw [decide_eq_false (hno z)]; rfl
  | succ n ih =>
    intro i σ
    unfold toF
    by_cases hi : i ∈ nw
    · rw [if_pos hi]
      obtain ⟨⟨zb, zu, zw, gl, e⟩, h1, h2, h3, h4, h5, h6⟩ := ih (i + 1) (zOut σ i)
      have hni : ¬ inN nw n (i + 1) i := fun h => by have := h.2; omega
      refine ⟨⟨zb, zu, zw, gl, e⟩, fun p => ⟨fun h => ?_, fun h => ?_⟩, fun p => ⟨fun h => ?_, fun h => ?_⟩, ?_, fun a h => ?_, fun a p h hin => ?_, fun a h => ?_⟩
      · rcases inN_s.mp h with ⟨_, rfl⟩ | h
        · rw [(h1 p).2 hni]; exact va_up_self _ _ _
        · exact (h1 p).1 h
      · have hpi : p ≠ i := fun e => h (inN_s.mpr (Or.inl ⟨hi, e⟩))
        rw [(h1 p).2 (fun g => h (inN_s.mpr (Or.inr g)))]; exact va_up_ne _ _ hpi
      · rcases inN_s.mp h with ⟨_, rfl⟩ | h
        · intro q
          rw [(h2 p).2 hni]
          show va_up (Zu σ) p (fun _ => false) p q = false
          rw [va_up_self]
        · exact (h2 p).1 h
      · have hpi : p ≠ i := fun e => h (inN_s.mpr (Or.inl ⟨hi, e⟩))
        rw [(h2 p).2 (fun g => h (inN_s.mpr (Or.inr g)))]; exact va_up_ne _ _ hpi
      · rw [h3]
        show ((Gl σ).filter (fun z => decide (z ≠ i))).filter _ = _
        rw [List.filter_filter]
        congr 1
        funext z
        by_cases hz : z = i
        · subst hz
          rw [decide_eq_true (inN_s.mpr (Or.inl ⟨hi, rfl⟩))]
          simp
        · by_cases hz2 : inN nw n (i + 1) z
          · rw [decide_eq_true hz2, decide_eq_true (inN_s.mpr (Or.inr hz2))]; rfl
          · rw [decide_eq_false hz2, decide_eq_false (fun g => (inN_s.mp g).elim (fun k => hz k.2) hz2)]
            simp [hz]
      · rw [h4 a (fun p hp => by rw [inIm_out]; split; rfl; exact h p (inN_s.mpr (Or.inr hp)))]
        show (if inIm σ a i = true then 0 else Zw σ a) = _
        rw [if_neg (by rw [h i (inN_s.mpr (Or.inl ⟨hi, rfl⟩))]; decide)]
      · rcases inN_s.mp h with ⟨_, rfl⟩ | h
        · refine h6 a ?_
          show (if inIm σ a p = true then 0 else Zw σ a) = _
          rw [if_pos hin]
        · refine h5 a p h ?_
          rw [inIm_out, if_neg (fun e => by have := h.2; omega)]
          exact hin
      · refine h6 a ?_
        show (if inIm σ a i = true then 0 else Zw σ a) = _
        split
        · rfl
        · exact h
    · rw [if_neg hi]
      obtain ⟨e, h1, h2, h3, h4, h5, h6⟩ := ih (i + 1) σ
      have hs : ∀ p, inN nw (n + 1) i p ↔ inN nw n (i + 1) p := fun p => ⟨fun h => (inN_s.mp h).resolve_left (fun g => hi g.1), fun h => inN_s.mpr (Or.inr h)⟩
      refine ⟨e, fun p => ⟨fun h => (h1 p).1 ((hs p).mp h), fun h => (h1 p).2 (fun g => h ((hs p).mpr g))⟩, fun p => ⟨fun h => (h2 p).1 ((hs p).mp h), fun h => (h2 p).2 (fun g => h ((hs p).mpr g))⟩, ?_, fun a h => h4 a (fun p hp => h p ((hs p).mpr hp)), fun a p h => h5 a p ((hs p).mp h), h6⟩
      rw [h3]
      congr 1
      funext z
      congr 1
      exact decide_eq_decide.mpr (hs z).symm
theorem inN60 {nw : List Nat} (h : ∀ p ∈ nw, p < 6) {p : Nat} : inN nw 6 0 p ↔ p ∈ nw := ⟨fun g => g.1, fun g => ⟨g, by omega, by have := h p g; omega⟩⟩
theorem inIm_zb {σ σ' : Sg} {a q : Nat} (e1 : Zb σ' q = Zb σ q) (e2 : Zs σ' = Zs σ) : inIm σ' a q = inIm σ a q := by
  unfold inIm
  rw [e1, e2]
theorem toF_nil (σ : Sg) : toF [] 6 0 σ = σ := rfl
theorem MS_toF {M M' : Nat → Nat → Int32} {σ : Sg} {nw g : List Nat} (h : MS M σ) (h6 : ∀ p ∈ nw, p < 6) (hAp : Apart σ) (hg : ∀ z ∈ g, z ∉ nw) (hG : MGl M' g) (hE : ∀ k i, k ≠ 116 → (k ≠ 103 ∨ i ≠ 21) → M' k i = M k i) (h116 : ∀ p, p < 6 → M' 116 p = if p ∈ nw then 0 else M 116 p) : MS M' (toF nw 6 0 (zGl σ g)) := by
  obtain ⟨c1, c2, c3, c4, c5, c6, c7, c8⟩ := h
  obtain ⟨⟨zb, zu, zw, gl, e⟩, f1, f2, f3, f4, f5, f6'⟩ := toF_facts nw 6 0 (zGl σ g)
  have hgl : Gl (toF nw 6 0 (zGl σ g)) = g := by
    rw [f3]
    show g.filter _ = g
    rw [List.filter_eq_self]
    intro z hz
    rw [decide_eq_false (fun k => hg z hz k.1)]; rfl
  have es : Zs (toF nw 6 0 (zGl σ g)) = Zs σ := by rw [e]; rfl
  have en : Zn (toF nw 6 0 (zGl σ g)) = Zn σ := by rw [e]; rfl
  have ey : Zy (toF nw 6 0 (zGl σ g)) = Zy σ := by rw [e]; rfl
  have er : Zr (toF nw 6 0 (zGl σ g)) = Zr σ := by rw [e]; rfl
  have eg : Zg (toF nw 6 0 (zGl σ g)) = Zg σ := by rw [e]; rfl
  have eo : Zo (toF nw 6 0 (zGl σ g)) = Zo σ := by rw [e]; rfl
  have eb : Bg (toF nw 6 0 (zGl σ g)) = Bg σ := by rw [e]; rfl
  have ee : Ev (toF nw 6 0 (zGl σ g)) = Ev σ := by rw [e]; rfl
  have ep : Sp (toF nw 6 0 (zGl σ g)) = Sp σ := by rw [e]; rfl
  refine ⟨fun r hr => (c1 r hr).eqs (fun k i a b => hE _ _ (by omega) (by omega)) (by rw [es]) (by rw [en]) (by rw [ey]) (by rw [er]), fun r hr => ?_, fun r hr => by rw [hE _ _ (by omega) (by omega), eo]; exact c3 r hr, c4.eqs (fun i => hE _ _ (by omega) (by omega)) eb ee, by rw [hgl]; exact hG, fun a ha ht => ?_, by rw [ee]; exact c7.eqs (hE _ _ (by omega) (by omega)) (fun i => hE _ _ (by omega) (by omega)), by rw [hE _ _ (by omega) (by omega), ep]; exact c8⟩
  · by_cases hrn : r ∈ nw
    · have hz : Zb (toF nw 6 0 (zGl σ g)) r = none := (f1 r).1 ((inN60 h6).mpr hrn)
      unfold MLd
      rw [hz, h116 r hr, if_pos hrn]
      exact ⟨rfl, fun b hb => by cases hb⟩
    · have hni : ¬ inN nw 6 0 r := fun k => hrn k.1
      have hz : Zb (toF nw 6 0 (zGl σ g)) r = Zb σ r := (f1 r).2 hni
      have hu : Zu (toF nw 6 0 (zGl σ g)) r = Zu σ r := (f2 r).2 hni
      obtain ⟨g1, g2⟩ := c2 r hr
      unfold MLd
      rw [hz, hu, eg, h116 r hr, if_neg hrn]
      refine ⟨g1, fun b hb => ?_⟩
      obtain ⟨k1, k2, k3, k4, k5⟩ := g2 b hb
      exact ⟨by rw [hE _ _ (by omega) (by omega)]; exact k1, by rw [hE _ _ (by omega) (by omega)]; exact k2, k3, fun i q hq => by rw [hE _ _ (by omega) (by omega)]; exact k4 i q hq, fun q hq => by rw [hE _ _ (by omega) (by omega)]; exact k5 q hq⟩
  · unfold tkn at ht
    rw [List.any_eq_true] at ht
    obtain ⟨q, hq, hin⟩ := ht
    have hq6 := List.mem_range.mp hq
    have hqn : q ∉ nw := fun k => by
      have hz : Zb (toF nw 6 0 (zGl σ g)) q = none := (f1 q).1 ((inN60 h6).mpr k)
      unfold inIm at hin
      rw [hz] at hin
      cases hin
    have hin2 : inIm σ a q = true := by
      rw [← hin]
      exact (inIm_zb ((f1 q).2 (fun k => hqn k.1)) es).symm
    rw [hE _ _ (by omega) (by omega), f4 a (fun p hp => ?_)]
    · refine c6 a ha ?_
      unfold tkn
      rw [List.any_eq_true]
      exact ⟨q, hq, hin2⟩
    · show inIm σ a p = false
      cases hx : inIm σ a p with
      | false => rfl
      | true => exact (hAp p q a (h6 p hp.1) hq6 (fun e => hqn (e ▸ hp.1)) hx hin2).elim
set_option maxRecDepth 100000 in
set_option maxHeartbeats 4000000 in
theorem c_fresh_l {ω : jw} {d : Nat} {J sl : Nat} {Q : jr → jh → Prop} {M0 : Nat → Nat → Int32} (c1 c2 c3 c4 c6 c7 : Option Value) (hk : ∀ M', (∀ k i, k ≠ 126 → M' k i = M0 k i) → FrIs M' [] → jj ω d mMd_open 60 [some (.ref (jN ω + 103)), c1, c2, c3, c4, some (.int (nI 6)), c6, c7] [] (jst ω M' J sl) Q) :
    ∀ (n i : Nat) (M : Nat → Nat → Int32), n + i = 6 → (∀ k j, k ≠ 126 → M k j = M0 k j) → (∀ p, p < i → M 126 p = 0) → jj ω d mMd_open 39 [some (.ref (jN ω + 103)), c1, c2, c3, c4, some (.int (nI i)), c6, c7] [] (jst ω M J sl) Q := by
  intro n
  induction n with
  | zero =>
    intro i M hn hO hF
    have hi : i = 6 := by omega
    subst hi
    refine jj_il5 dMd_open_39 ?_
    refine jj_bipush 6 dMd_open_41 (by decide) ?_
    refine jj_icmp_ge 60 dMd_open_43 (by decide) (fun q1 => ?_) (fun q1 => absurd q1 (by decide))
    exact hk M hO (fun p hp => by rw [hF p hp]; simp [b2i])
  | succ n ih =>
    intro i M hn hO hF
    have hi6 : i < 6 := by omega
    refine jj_il5 dMd_open_39 ?_
    refine jj_bipush 6 dMd_open_41 (by decide) ?_
    refine jj_icmp_ge 60 dMd_open_43 (by decide) (fun q1 => absurd q1 (fun h => by have := le_le (a := 6) rfl h (by decide) (by omega); omega)) (fun q1 => ?_)
    refine jj_al0 dMd_open_46 ?_
    refine mr_get _ dMd_open_47 clMd lkMd_77 (s103 _) rfl ?_
    refine jj_il5 dMd_open_50 ?_
    refine jj_iconst 0 dMd_open_52 (by decide) ?_
    refine mr_zast dMd_open_53 (s126) (Or.inl rfl) (hi6) (by decide) ?_
    refine jj_ii5 (nI (i + 1)) dMd_open_54 (inc1 i) ?_
    refine jj_goto 39 dMd_open_57 (by decide) ?_
    refine ih (i + 1) _ (by omega) (fun k j a => by rw [mup_ne _ _ (by omega)]; exact hO k j a) (fun p hp => ?_)
    by_cases hpi : p = i
    · subst hpi; exact mup_at _ _ _ _
    · rw [mup_ne _ _ (by omega)]; exact hF p (by omega)
set_option maxRecDepth 100000 in
set_option maxHeartbeats 4000000 in
theorem c_oglob_l {ω : jw} {d : Nat} {J sl : Nat} {Q : jr → jh → Prop} {M0 : Nat → Nat → Int32} {σ : Sg} {l : List Nat} (hl6 : ∀ p ∈ l, p < 6) (hC0 : ClIs M0 l) (c1 c2 c4 c7 : Option Value) {L : List Nat}
    (hk : ∀ M' c6, MS M' (zGl σ L) → (∀ k i, k ≠ 123 → (k ≠ 103 ∨ i ≠ 21) → M' k i = M0 k i) → jj ω (d + 1) mMd_open 148 [some (.ref (jN ω + 103)), c1, c2, some (.int 1), c4, some (.int 1), c6, c7] [] (jst ω M' J sl) Q) :
    ∀ (n i : Nat) (g : List Nat) (M : Nat → Nat → Int32), l.length - i < n → i ≤ l.length → Rw6 g → MS M (zGl σ g) → (∀ k i, k ≠ 123 → (k ≠ 103 ∨ i ≠ 21) → M k i = M0 k i) → (l.drop i).foldl rput g = L → jj ω (d + 1) mMd_open 84 [some (.ref (jN ω + 103)), c1, c2, some (.int 1), c4, some (.int 1), some (.int (nI i)), c7] [] (jst ω M J sl) Q := by
  obtain ⟨h24, hll, h125⟩ := hC0
  intro n
  induction n with
  | zero => intro i g M hn; omega
  | succ n ih =>
    intro i g M hn hi hg hS hO hL
    obtain ⟨g21, gl6, g123⟩ : MGl M g := hS.2.2.2.2.1
    refine jj_il6 dMd_open_84 ?_
    refine jj_al0 dMd_open_86 ?_
    refine mr_get _ dMd_open_87 clMd lkMd_123 (s103 _) rfl ?_
    rw [hO _ _ (by omega) (by omega), h24]
    refine jj_icmp_ge 148 dMd_open_90 (by decide) (fun q1 => ?_) (fun q1 => ?_)
    · rw [List.drop_eq_nil_of_le (le_le rfl q1 (by omega) (by omega))] at hL
      subst hL
      exact hk M _ hS hO
    · have hi2 : i < l.length := nle_lt rfl q1 (by omega) (by omega)
      obtain ⟨q, e1⟩ : ∃ q, l[i]? = some q := ⟨_, List.getElem?_eq_getElem hi2⟩
      have e2 : q < 6 := hl6 q (List.mem_of_getElem? e1)
      have e125 : M 125 i = nI q := by rw [hO _ _ (by omega) (by omega)]; exact h125 i q e1
      rw [List.drop_eq_getElem_cons hi2, show l[i] = q from (List.getElem?_eq_some_iff.mp e1).2, List.foldl_cons] at hL
      refine jj_il5 dMd_open_93 ?_
      refine jj_if_eq 148 dMd_open_95 (by decide) (fun h => absurd h (by decide)) (fun _ => ?_)
      refine jj_il3 dMd_open_98 ?_
      refine jj_if_eq 148 dMd_open_99 (by decide) (fun h => absurd h (by decide)) (fun _ => ?_)
      refine jj_al0 dMd_open_102 ?_
      refine jj_al0 dMd_open_103 ?_
      refine mr_get _ dMd_open_104 clMd lkMd_74 (s103 _) rfl ?_
      refine jj_il6 dMd_open_107 ?_
      refine mr_iald dMd_open_109 (s125 _) (by omega) (by decide) ?_
      rw [e125]
      refine mv1 dMd_open_110 clMd cvMd_173 (s103 _) (Nat.le_of_ble_eq_true rfl) ?_
      refine c_isGlobal ⟨g21, gl6, g123⟩ e2 hg.2 (fun hin => jk_i ?_) (fun hin => jk_i ?_)
      · refine jj_if_ne 142 dMd_open_113 (by decide) (fun _ => ?_) (fun h => absurd h (by decide))
        refine jj_ii6 (nI (i + 1)) dMd_open_142 (inc1 i) ?_
        refine jj_goto 84 dMd_open_145 (by decide) ?_
        rw [rput_no hin] at hL
        exact ih (i + 1) g M (by omega) (by omega) hg hS hO hL
      · refine jj_if_ne 142 dMd_open_113 (by decide) (fun h => absurd h (by decide)) (fun _ => ?_)
        have hl5 : g.length < 6 := Classical.byContradiction (fun h => hin (full_mem hg.1 hg.2 h e2))
        rw [rput_new hl5 hin] at hL
        refine jj_al0 dMd_open_116 ?_
        refine mr_get _ dMd_open_117 clMd lkMd_68 (s103 _) rfl ?_
        refine jj_al0 dMd_open_120 ?_
        refine mr_get _ dMd_open_121 clMd lkMd_133 (s103 _) rfl ?_
        rw [g21]
        refine jj_al0 dMd_open_124 ?_
        refine mr_get _ dMd_open_125 clMd lkMd_74 (s103 _) rfl ?_
        refine jj_il6 dMd_open_128 ?_
        refine mr_iald dMd_open_130 (s125 _) (by omega) (by decide) ?_
        rw [e125]
        refine mr_iast dMd_open_131 (s123) (hl5) (by decide) ?_
        refine jj_al0 dMd_open_132 ?_
        refine jj_dup dMd_open_133 rfl ?_
        refine mr_get _ dMd_open_134 clMd lkMd_133 (s103 _) rfl ?_
        rw [mup_ne _ _ (by omega), g21]
        refine jj_iconst 1 dMd_open_137 (by decide) ?_
        refine jj_iadd dMd_open_138 ?_
        rw [nI_1]
        refine mr_put dMd_open_139 clMd lkMd_133 rfl rfl (s103 _) (s103 _) (Nat.le_of_ble_eq_true rfl) rfl ?_
        refine jj_ii6 (nI (i + 1)) dMd_open_142 (inc1 i) ?_
        refine jj_goto 84 dMd_open_145 (by decide) ?_
        refine ih (i + 1) (g ++ [q]) _ (by omega) (by omega) (by rw [← rput_new hl5 hin]; exact hg.put e2) (MS_gl hS (fun k i a b => by rw [mup_ne _ _ (by omega), mup_ne _ _ (by omega)]) ⟨by rw [mup_at]; simp, by simp; omega, fun j z hz => ?_⟩) (fun k i a b => by rw [mup_ne _ _ (by omega), mup_ne _ _ (by omega)]; exact hO k i a b) hL
        rw [mup_ne _ _ (by omega)]
        rcases get_snoc hz with ⟨hj, hz⟩ | ⟨hj, rfl⟩
        · rw [mup_ne _ _ (by omega)]; exact g123 j z hz
        · rw [hj, mup_at]
set_option maxRecDepth 100000 in
set_option maxHeartbeats 4000000 in
theorem c_count_l {ω : jw} {d : Nat} {J sl : Nat} {Q : jr → jh → Prop} {M0 : Nat → Nat → Int32} {nw : List Nat} {t : Nat} (ht : t < 4) (hT : M0 103 0 = nI t) (hF : FrIs M0 nw) (hld : ∀ p, p < 6 → M0 116 p = 0 ∨ M0 116 p = 1) (c1 c2 c3 c4 c5 : Option Value)
    (hk : ∀ M', (∀ k i, k ≠ 116 → M' k i = M0 k i) → (∀ p, p < 6 → M' 116 p = if ¬ t = 0 ∧ p ∈ nw then 0 else M0 116 p) → jj ω d mMd_open 253 [some (.ref (jN ω + 103)), c1, c2, c3, c4, c5, some (.int (nI (cnt6 nw))), some (.int (nI 6))] [] (jst ω M' J sl) Q) :
    ∀ (n j : Nat) (M : Nat → Nat → Int32), n + j = 6 → (∀ k i, k ≠ 116 → M k i = M0 k i) → (∀ p, p < j → M 116 p = if ¬ t = 0 ∧ p ∈ nw then 0 else M0 116 p) → (∀ p, j ≤ p → p < 6 → M 116 p = M0 116 p) → jj ω d mMd_open 180 [some (.ref (jN ω + 103)), c1, c2, c3, c4, c5, some (.int (nI ((List.range j).filter (fun i => decide (i ∈ nw))).length)), some (.int (nI j))] [] (jst ω M J sl) Q := by
  intro n
  induction n with
  | zero =>
    intro j M hn hO h1 h2
    have hi : j = 6 := by omega
    subst hi
    refine jj_il7 dMd_open_180 ?_
    refine jj_bipush 6 dMd_open_182 (by decide) ?_
    refine jj_icmp_ge 253 dMd_open_184 (by decide) (fun q1 => ?_) (fun q1 => absurd q1 (by decide))
    exact hk M hO h1
  | succ n ih =>
    intro j M hn hO h1 h2
    have hj6 : j < 6 := by omega
    have h01 : ¬ M0 116 j = 0 → M0 116 j = b2i true := fun h => (hld j hj6).resolve_left h
    have hrg : ((List.range (j + 1)).filter (fun i => decide (i ∈ nw))).length = ((List.range j).filter (fun i => decide (i ∈ nw))).length + (if j ∈ nw then 1 else 0) := by
      rw [List.range_succ, List.filter_append, List.length_append]
      by_cases h : j ∈ nw
      · rw [if_pos h, List.filter_cons_of_pos (by simpa using h)]; rfl
      · rw [if_neg h, List.filter_cons_of_neg (by simpa using h)]; rfl
    have k206 : ∀ (m : Nat), m = ((List.range (j + 1)).filter (fun i => decide (i ∈ nw))).length → jj ω d mMd_open 206 [some (.ref (jN ω + 103)), c1, c2, c3, c4, c5, some (.int (nI ((List.range j).filter (fun i => decide (i ∈ nw))).length)), some (.int (nI j))] [.int (nI m)] (jst ω M J sl) Q := by
      intro m hm
      have k246 : ∀ (b : Bool), b2i b = (if ¬ t = 0 ∧ j ∈ nw then 0 else M0 116 j) → jj ω d mMd_open 246 [some (.ref (jN ω + 103)), c1, c2, c3, c4, c5, some (.int (nI m)), some (.int (nI j))] [.int (b2i b), .int (nI j), .ref (jN ω + 116)] (jst ω M J sl) Q := by
        intro b hb
        refine mr_zast dMd_open_246 (s116) (by cases b; exact Or.inl rfl; exact Or.inr rfl) (hj6) (by decide) ?_
        refine jj_ii7 (nI (j + 1)) dMd_open_247 (inc1 j) ?_
        refine jj_goto 180 dMd_open_250 (by decide) ?_
        subst hm
        refine ih (j + 1) _ (by omega) (fun k i a => by rw [mup_ne _ _ (by omega)]; exact hO k i a) (fun p hp => ?_) (fun p hp hp6 => by rw [mup_ne _ _ (by omega)]; exact h2 p (by omega) hp6)
        by_cases e : p = j
        · subst e
          rw [mup_at, hb]
        · rw [mup_ne _ _ (by omega)]; exact h1 p (by omega)
      refine jj_is6 dMd_open_206 ?_
      refine jj_al0 dMd_open_208 ?_
      refine mr_get _ dMd_open_209 clMd lkMd_47 (s103 _) rfl ?_
      refine jj_il7 dMd_open_212 ?_
      refine jj_al0 dMd_open_214 ?_
      refine mr_get _ dMd_open_215 clMd lkMd_47 (s103 _) rfl ?_
      refine jj_il7 dMd_open_218 ?_
      refine mr_zald dMd_open_220 (s116 _) (hj6) (by decide) ?_
      rw [h2 j (Nat.le_refl _) hj6]
      refine jj_if_eq 245 dMd_open_221 (by decide) (fun p1 => ?_) (fun p1 => ?_)
      · refine jj_iconst 0 dMd_open_245 (by decide) ?_
        exact k246 false (by rw [p1]; split <;> rfl)
      · refine jj_al0 dMd_open_224 ?_
        refine mr_get _ dMd_open_225 clMd lkMd_95 (s103 _) rfl ?_
        rw [hO _ _ (by omega), hT]
        refine jj_if_le 241 dMd_open_228 (by decide) (fun p2 => ?_) (fun p2 => ?_)
        · refine jj_iconst 1 dMd_open_241 (by decide) ?_
          refine jj_goto 246 dMd_open_242 (by decide) ?_
          exact k246 true (by rw [if_neg (fun h => h.1 (Nat.le_zero.mp (le_le (a := t) (b := 0) rfl p2 (by omega) (by decide))))]; exact (h01 p1).symm)
        · refine jj_al0 dMd_open_231 ?_
          refine mr_get _ dMd_open_232 clMd lkMd_77 (s103 _) rfl ?_
          refine jj_il7 dMd_open_235 ?_
          refine mr_zald dMd_open_237 (s126 _) (hj6) (by decide) ?_
          rw [hO _ _ (by omega), hF j hj6]
          refine jj_if_ne 245 dMd_open_238 (by decide) (fun p3 => ?_) (fun p3 => ?_)
          · refine jj_iconst 0 dMd_open_245 (by decide) ?_
            exact k246 false (by rw [if_pos ⟨fun h => p2 (by rw [h]; decide), b2it p3⟩]; rfl)
          · refine jj_iconst 1 dMd_open_241 (by decide) ?_
            refine jj_goto 246 dMd_open_242 (by decide) ?_
            exact k246 true (by rw [if_neg (fun h => b2id p3 h.2)]; exact (h01 p1).symm)
    refine jj_il7 dMd_open_180 ?_
    refine jj_bipush 6 dMd_open_182 (by decide) ?_
    refine jj_icmp_ge 253 dMd_open_184 (by decide) (fun q1 => absurd q1 (fun h => by have := le_le (a := 6) rfl h (by decide) (by omega); omega)) (fun q1 => ?_)
    refine jj_al0 dMd_open_187 ?_
    refine mr_get _ dMd_open_188 clMd lkMd_77 (s103 _) rfl ?_
    refine jj_il7 dMd_open_191 ?_
    refine mr_zald dMd_open_193 (s126 _) (hj6) (by decide) ?_
    rw [hO _ _ (by omega), hF j hj6]
    refine jj_if_eq 204 dMd_open_194 (by decide) (fun q1 => ?_) (fun q1 => ?_)
    · refine jj_il6 dMd_open_204 ?_
      exact k206 _ (by rw [hrg, if_neg (b2id q1)]; rfl)
    · refine jj_il6 dMd_open_197 ?_
      refine jj_iconst 1 dMd_open_199 (by decide) ?_
      refine jj_iadd dMd_open_200 ?_
      refine jj_goto 206 dMd_open_201 (by decide) ?_
      rw [nI_1]
      exact k206 _ (by rw [hrg, if_pos (b2it q1)])
