def zLoad (σ : Sg) (p b : Nat) (l : List Nat) : Sg := (Zs σ, Zn σ, Zy σ, Zr σ, va_up (Zb σ) p (some b), va_up (Zg σ) p l, σ.2.2.2.2.2.2)
def zOut (σ : Sg) (p : Nat) : Sg := (Zs σ, Zn σ, Zy σ, Zr σ, va_up (Zb σ) p none, Zg σ, va_up (Zu σ) p (fun _ => false), Zo σ, (fun a => if inIm σ a p = true then 0 else Zw σ a), (Gl σ).filter (fun z => decide (z ≠ p)), Bg σ, Ev σ, Sp σ)
/-- images lie apart -/
def Apart (σ : Sg) : Prop := ∀ p q a, p < 6 → q < 6 → p ≠ q → inIm σ a p = true → inIm σ a q = true → False
theorem inIm_load {σ : Sg} {p b : Nat} {l : List Nat} (a q : Nat) : inIm (zLoad σ p b l) a q = if q = p then (decide (b ≤ a) && decide (a < b + Zs σ p)) else inIm σ a q := by
  unfold inIm
  by_cases h : q = p
  · subst h
    show (match va_up (Zb σ) q (some b) q with | some b => _ | none => _) = _
    rw [va_up_self, if_pos rfl]
    rfl
  · show (match va_up (Zb σ) p (some b) q with | some b => _ | none => _) = _
    rw [va_up_ne _ _ h, if_neg h]
    rfl
theorem inIm_out {σ : Sg} {p : Nat} (a q : Nat) : inIm (zOut σ p) a q = if q = p then false else inIm σ a q := by
  unfold inIm
  by_cases h : q = p
  · subst h
    show (match va_up (Zb σ) q none q with | some b => _ | none => _) = _
    rw [va_up_self, if_pos rfl]
  · show (match va_up (Zb σ) p none q with | some b => _ | none => _) = _
    rw [va_up_ne _ _ h, if_neg h]
    rfl
theorem tkn_load {σ : Sg} {p b : Nat} {l : List Nat} (hp : p < 6) (hb : Zb σ p = none) (a : Nat) : tkn (zLoad σ p b l) a = (tkn σ a || (decide (b ≤ a) && decide (a < b + Zs σ p))) := by
  rw [Bool.eq_iff_iff]
  unfold tkn
  rw [Bool.or_eq_true, List.any_eq_true, List.any_eq_true]
  constructor
  · rintro ⟨q, hq, h⟩
    rw [inIm_load] at h
    by_cases hqp : q = p
    · rw [if_pos hqp] at h; exact Or.inr h
    · rw [if_neg hqp] at h; exact Or.inl ⟨q, hq, h⟩
  · rintro (⟨q, hq, h⟩ | h)
    · have hqp : q ≠ p := fun e => by
        subst e
        unfold inIm at h
        rw [hb] at h
        cases h
      exact ⟨q, hq, by rw [inIm_load, if_neg hqp]; exact h⟩
    · exact ⟨p, List.mem_range.mpr hp, by rw [inIm_load, if_pos rfl]; exact h⟩
theorem tkn_out {σ : Sg} {p : Nat} (hA : Apart σ) (hp : p < 6) (a : Nat) : tkn (zOut σ p) a = (tkn σ a && !inIm σ a p) := by
  rw [Bool.eq_iff_iff]
  unfold tkn
  rw [Bool.and_eq_true, List.any_eq_true, List.any_eq_true]
  constructor
  · rintro ⟨q, hq, h⟩
    rw [inIm_out] at h
    by_cases hqp : q = p
    · rw [if_pos hqp] at h; cases h
    · rw [if_neg hqp] at h
      refine ⟨⟨q, hq, h⟩, ?_⟩
      cases hi : inIm σ a p
      · rfl
      · exact (hA q p a (List.mem_range.mp hq) hp hqp h hi).elim
  · rintro ⟨⟨q, hq, h⟩, h2⟩
    have hqp : q ≠ p := fun e => by subst e; rw [h] at h2; cases h2
    exact ⟨q, hq, by rw [inIm_out, if_neg hqp]; exact h⟩
theorem CS_load {M M' : Nat → Nat → Int32} {σ : Sg} {p b : Nat} {l : List Nat} (hC : CS M σ) (hp : p < 6) (hb : Zb σ p = none)
    (hA : ∀ k i, k ≠ 0 → k ≠ 4 → k ≠ 13 + 15 * p → k ≠ 13 + 15 * p + 13 → k ≠ 13 + 15 * p + 14 → M' k i = M k i) (hB : ∀ i, i ≠ 5 → M' (13 + 15 * p) i = M (13 + 15 * p) i) (h5 : M' (13 + 15 * p) 5 = nI b) (hD : RowIs M' (13 + 15 * p + 13) l) (hE : ∀ a, M' 4 a = if b ≤ a ∧ a < b + Zs σ p then 1 else M 4 a) (hF : ∀ i, i ≠ 6 → M' 0 i = M 0 i) : CS M' (zLoad σ p b l) := by
  obtain ⟨c1, c2, c3, c4, c5, ⟨l0, c6⟩, c7⟩ := hC
  refine ⟨fun q hq => ?_, fun a ha => ?_, c3.eqs (fun i => hA _ _ (by omega) (by omega) (by omega) (by omega) (by omega)) (fun i => hA _ _ (by omega) (by omega) (by omega) (by omega) (by omega)), c4.eqs (fun i => hA _ _ (by omega) (by omega) (by omega) (by omega) (by omega)) (fun i => hA _ _ (by omega) (by omega) (by omega) (by omega) (by omega)), c5.eqs (fun i => hA _ _ (by omega) (by omega) (by omega) (by omega) (by omega)) (fun i => hA _ _ (by omega) (by omega) (by omega) (by omega) (by omega)), ⟨l0, c6.eqs (fun i => hA _ _ (by omega) (by omega) (by omega) (by omega) (by omega)) (fun i => hA _ _ (by omega) (by omega) (by omega) (by omega) (by omega))⟩, by rw [hF 7 (by omega)]; exact c7⟩
  · by_cases hqp : q = p
    · subst hqp
      obtain ⟨h1, h2, h3, h4, h6, h7, h8, h9⟩ := c1 q hq
      refine ⟨by rw [hB 4 (by omega)]; exact h1, ?_, by rw [hB 6 (by omega)]; exact h3, fun i hi => by rw [hB 7 (by omega)]; exact h4 i hi, h6.eqs (fun i => hA _ _ (by omega) (by omega) (by omega) (by omega) (by omega)) (fun i => hA _ _ (by omega) (by omega) (by omega) (by omega) (by omega)), h7.eqs (fun k i a b => hA _ _ (by omega) (by omega) (by omega) (by omega) (by omega)), h8.eqs (fun k i a b => hA _ _ (by omega) (by omega) (by omega) (by omega) (by omega)), ?_⟩
      · rw [h5]
        show _ = bI (va_up (Zb σ) q (some b) q)
        rw [va_up_self]; rfl
      · show RowIs M' _ (va_up (Zg σ) q l q)
        rw [va_up_self]; exact hD
    · exact (c1 q hq).eqs (fun k i a b => hA _ _ (by omega) (by omega) (by omega) (by omega) (by omega)) rfl (va_up_ne _ _ hqp) rfl rfl rfl rfl rfl (va_up_ne _ _ hqp)
  · obtain ⟨g1, g2⟩ := c2 a ha
    refine ⟨by rw [hA _ _ (by omega) (by omega) (by omega) (by omega) (by omega)]; exact g1, ?_⟩
    rw [hE, tkn_load hp hb]
    by_cases h : b ≤ a ∧ a < b + Zs σ p
    · rw [if_pos h, decide_eq_true h.1, decide_eq_true h.2, Bool.and_self, Bool.or_true]; rfl
    · rw [if_neg h, g2]
      have : (decide (b ≤ a) && decide (a < b + Zs σ p)) = false := by
        by_cases h1 : b ≤ a
        · rw [decide_eq_false (fun h2 => h ⟨h1, h2⟩), Bool.and_false]
        · rw [decide_eq_false h1]; rfl
      rw [this, Bool.or_false]
theorem CS_out {M M' : Nat → Nat → Int32} {σ : Sg} {p b : Nat} (hC : CS M σ) (hp : p < 6) (hb : Zb σ p = some b) (hAp : Apart σ)
    (hA : ∀ k i, k ≠ 3 → k ≠ 4 → k ≠ 7 → k ≠ 8 → k ≠ 13 + 15 * p → M' k i = M k i) (hB : ∀ i, i ≠ 5 → i ≠ 7 → M' (13 + 15 * p) i = M (13 + 15 * p) i) (h5 : M' (13 + 15 * p) 5 = -1) (h7 : M' (13 + 15 * p) 7 = 0) (hD : RowIs M' 7 ((Gl σ).filter (fun z => decide (z ≠ p)))) (hE : ∀ k a, (k = 3 ∨ k = 4) → M' k a = if b ≤ a ∧ a < b + Zs σ p then 0 else M k a) : CS M' (zOut σ p) := by
  obtain ⟨c1, c2, c3, c4, c5, ⟨l0, c6⟩, c7⟩ := hC
  refine ⟨fun q hq => ?_, fun a ha => ?_, c3.eqs (fun i => hA _ _ (by omega) (by omega) (by omega) (by omega) (by omega)) (fun i => hA _ _ (by omega) (by omega) (by omega) (by omega) (by omega)), hD, c5.eqs (fun i => hA _ _ (by omega) (by omega) (by omega) (by omega) (by omega)) (fun i => hA _ _ (by omega) (by omega) (by omega) (by omega) (by omega)), ⟨l0, c6.eqs (fun i => hA _ _ (by omega) (by omega) (by omega) (by omega) (by omega)) (fun i => hA _ _ (by omega) (by omega) (by omega) (by omega) (by omega))⟩, by rw [hA _ _ (by omega) (by omega) (by omega) (by omega) (by omega)]; exact c7⟩
  · by_cases hqp : q = p
    · subst hqp
      obtain ⟨h1, h2, h3, h4, h6, h8, h9, h10⟩ := c1 q hq
      refine ⟨by rw [hB 4 (by omega) (by omega)]; exact h1, ?_, by rw [hB 6 (by omega) (by omega)]; exact h3, fun i hi => ?_, h6.eqs (fun i => hA _ _ (by omega) (by omega) (by omega) (by omega) (by omega)) (fun i => hA _ _ (by omega) (by omega) (by omega) (by omega) (by omega)), h8.eqs (fun k i a b => hA _ _ (by omega) (by omega) (by omega) (by omega) (by omega)), h9.eqs (fun k i a b => hA _ _ (by omega) (by omega) (by omega) (by omega) (by omega)), h10.eqs (fun i => hA _ _ (by omega) (by omega) (by omega) (by omega) (by omega)) (fun i => hA _ _ (by omega) (by omega) (by omega) (by omega) (by omega))⟩
      · rw [h5]
        show _ = bI (va_up (Zb σ) q none q)
        rw [va_up_self]; rfl
      · rw [h7, b_0]
        show _ = va_up (Zu σ) q (fun _ => false) q i
        rw [va_up_self]
    · exact (c1 q hq).eqs (fun k i a b => hA _ _ (by omega) (by omega) (by omega) (by omega) (by omega)) rfl (va_up_ne _ _ hqp) rfl (va_up_ne _ _ hqp) rfl rfl rfl rfl
  · obtain ⟨g1, g2⟩ := c2 a ha
    have hin : inIm σ a p = (decide (b ≤ a) && decide (a < b + Zs σ p)) := by unfold inIm; rw [hb]
    rw [hE 3 a (Or.inl rfl), hE 4 a (Or.inr rfl), tkn_out hAp hp]
    show _ = (if inIm σ a p = true then 0 else Zw σ a) ∧ _
    rw [hin]
    by_cases h : b ≤ a ∧ a < b + Zs σ p
    · rw [if_pos h, if_pos h, decide_eq_true h.1, decide_eq_true h.2]
      simp [b2i]
    · have : (decide (b ≤ a) && decide (a < b + Zs σ p)) = false := by
        by_cases h1 : b ≤ a
        · rw [decide_eq_false (fun h2 => h ⟨h1, h2⟩), Bool.and_false]
        · rw [decide_eq_false h1]; rfl
      rw [if_neg h, if_neg h, this]
      simp [g1, g2]
theorem rput_new {l : List Nat} {q : Nat} (h1 : l.length < 6) (h2 : q ∉ l) : rput l q = l ++ [q] := if_pos ⟨h1, h2⟩
theorem fold_self {l : List Nat} : ∀ (m : List Nat), (m ++ l).Nodup → (m ++ l).length ≤ 6 → l.foldl rput m = m ++ l := by
  induction l with
  | nil => intro m _ _; simp
  | cons q l ih =>
    intro m hn hl
    simp only [List.length_append, List.length_cons] at hl
    have hq : q ∉ m := fun hm => by
      rw [List.nodup_append] at hn
      exact hn.2.2 q hm q List.mem_cons_self rfl
    rw [List.foldl_cons, rput_new (by omega) hq, ih (m ++ [q]) (by simpa using hn) (by simp; omega)]
    simp
/-- nothing above the lower part has changed -/
def Cl (M M' : Nat → Nat → Int32) : Prop := ∀ k i, 103 ≤ k → M' k i = M k i
theorem Cl.refl (M : Nat → Nat → Int32) : Cl M M := fun _ _ _ => rfl
theorem Cl.trans {M M1 M2 : Nat → Nat → Int32} (h1 : Cl M M1) (h2 : Cl M1 M2) : Cl M M2 := fun k i a => (h2 k i a).trans (h1 k i a)
theorem fr_lt {tk : Nat → Bool} {b w : Nat} (h : fr tk b w) (hw : 1 ≤ w) : b < 32 := by have := h.1; omega
set_option maxRecDepth 100000 in
set_option maxHeartbeats 4000000 in
theorem c_load {ω : jw} {d : Nat} {M : Nat → Nat → Int32} {J sl : Nat} {Q : jr → jh → Prop} {σ : Sg} {p : Nat} {l : List Nat} (hC : CS M σ) (hp : p < 6) (hR : RowIs M 11 l) (hnd : l.Nodup) (hb : Zb σ p = none) (hw : 1 ≤ Zs σ p) (hw8 : Zs σ p ≤ 8)
    (ht : ∀ b M', fr (tkn σ) b (Zs σ p) → (∀ b', b' < b → ¬ fr (tkn σ) b' (Zs σ p)) → CS M' (zLoad σ p b l) → RowIs M' 11 l → M' 0 6 = M 0 6 ||| ((1 : Int32) <<< (nI p &&& 31)) → Cl M M' → Q (.inl (some (.int 1))) (jst ω M' J sl))
    (hf : (∀ b, ¬ fr (tkn σ) b (Zs σ p)) → Q (.inl (some (.int 0))) (jst ω M J sl)) : jwp ω (d + 3) mBO_load [.ref (jN ω + 0), .int (nI p)] (jst ω M J sl) Q := by
  have hLk := hC.1 p hp
  refine jwp_of (by simp [Value.category]) (Nat.le_of_ble_eq_true rfl) (ls := [some (.ref (jN ω + 0)), some (.int (nI p)), none, none]) rfl ?_
  refine jj_al0 dBO_load_0 ?_
  refine mr_get _ dBO_load_1 clBO lkBO_11 (s0 _) rfl ?_
  refine jj_il1 dBO_load_4 ?_
  refine mr_aald dBO_load_5 (hp) ?_
  refine jj_as2 dBO_load_6 ?_
  refine jj_al0 dBO_load_7 ?_
  refine mr_get _ dBO_load_8 clBO lkBO_18 (s0 _) rfl ?_
  refine jj_al2 dBO_load_11 ?_
  refine mr_get _ dBO_load_12 clLk lkBO_212 (sL0 hp _) rfl ?_
  rw [hLk.1]
  refine mv1 dBO_load_15 clSp cvBO_220 (s2 _) (Nat.le_of_ble_eq_true rfl) ?_
  refine c_leastBase (tkn σ) (fun a ha => (hC.2.1 a ha).2) (Zs σ p) hw (by omega) (fun b hfr hlst => jk_i ?_) (fun hno => jk_i ?_)
  · refine jj_is3 dBO_load_18 ?_
    refine jj_il3 dBO_load_19 ?_
    refine jj_iconst (-1) dBO_load_20 (by decide) ?_
    refine jj_icmp_ne 26 dBO_load_21 (by decide) (fun q1 => ?_) (fun q1 => absurd q1 (nI_ne_m1 (by have := fr_lt hfr hw; omega)))
    refine jj_al0 dBO_load_26 ?_
    refine mr_get _ dBO_load_27 clBO lkBO_18 (s0 _) rfl ?_
    refine jj_il3 dBO_load_30 ?_
    refine jj_al2 dBO_load_31 ?_
    refine mr_get _ dBO_load_32 clLk lkBO_212 (sL0 hp _) rfl ?_
    rw [hLk.1]
    refine mv2 dBO_load_35 clSp cvBO_223 (s2 _) (Nat.le_of_ble_eq_true rfl) ?_
    refine c_take b (Zs σ p) hfr.1 (fun M1 hM1 => jk_v ?_)
    refine jj_al2 dBO_load_38 ?_
    refine jj_il3 dBO_load_39 ?_
    refine mr_put dBO_load_40 clLk lkBO_172 rfl rfl (sL0 hp _) (sL0 hp _) (Nat.le_of_ble_eq_true rfl) rfl ?_
    refine jj_al2 dBO_load_43 ?_
    refine mr_get _ dBO_load_44 clLk lkBO_226 (sL0 hp _) rfl ?_
    refine jj_iconst 0 dBO_load_47 (by decide) ?_
    refine mv1 dBO_load_48 clRw cvBO_132 (sL13 hp _) (Nat.le_of_ble_eq_true rfl) ?_
    have h13 : ∀ k i, 13 + 15 * p + 13 ≤ k → k ≤ 13 + 15 * p + 14 → mup M1 (13 + 15 * p) 5 (nI b) k i = M k i := fun k i a b => by rw [mup_ne _ _ (Or.inl (by omega)), hM1, if_neg (by omega)]
    have hG : RowIs (mup M1 (13 + 15 * p) 5 (nI b)) (13 + 15 * p + 13) (Zg σ p) := hLk.2.2.2.2.2.2.2.eqs (fun i => h13 _ _ (by omega) (by omega)) (fun i => h13 _ _ (by omega) (by omega))
    refine jwp_up (c_cutTo_r (n := 0) (rowG hp) (by decide) hG (fun M2 hO2 hR2 => jk_v ?_))
    refine jj_al2 dBO_load_51 ?_
    refine mr_get _ dBO_load_52 clLk lkBO_226 (sL0 hp _) rfl ?_
    refine jj_al0 dBO_load_55 ?_
    refine mr_get _ dBO_load_56 clBO lkBO_39 (s0 _) rfl ?_
    refine mv1 dBO_load_59 clRw cvBO_124 (sL13 hp _) (Nat.le_of_ble_eq_true rfl) ?_
    have h11 : RowIs M2 11 l := hR.eqs (fun i => by rw [hO2 _ _ (by omega) (by omega), mup_ne _ _ (Or.inl (by omega)), hM1, if_neg (by omega)]) (fun i => by rw [hO2 _ _ (by omega) (by omega), mup_ne _ _ (Or.inl (by omega)), hM1, if_neg (by omega)])
    refine c_putAll (rowG hp) row11 ⟨by omega, by omega, by omega⟩ hR2 h11 (fun M3 hO3 hR3 => jk_v ?_)
    rw [List.take_zero, fold_self [] (by simpa using hnd) (by simpa using hR.2.1), List.nil_append] at hR3
    refine jj_al0 dBO_load_62 ?_
    refine jj_dup dBO_load_63 rfl ?_
    refine mr_get _ dBO_load_64 clBO lkBO_42 (s0 _) rfl ?_
    refine jj_iconst 1 dBO_load_67 (by decide) ?_
    refine jj_il1 dBO_load_68 ?_
    refine jj_ishl dBO_load_69 ?_
    refine jj_ior dBO_load_70 ?_
    refine mr_put dBO_load_71 clBO lkBO_42 rfl rfl (s0 _) (s0 _) (Nat.le_of_ble_eq_true rfl) rfl ?_
    refine jj_iconst 1 dBO_load_74 (by decide) ?_
    exact jj_iret dBO_load_75 rfl rfl (ht b _ hfr hlst (CS_load hC hp hb (fun k i a1 a2 a3 a4 a5 => by rw [mup_ne _ _ (Or.inl a1), hO3 _ _ a4 (by omega), hO2 _ _ a4 (by omega), mup_ne _ _ (Or.inl a3), hM1, if_neg (by omega)]) (fun i a1 => by rw [mup_ne _ _ (Or.inl (by omega)), hO3 _ _ (by omega) (by omega), hO2 _ _ (by omega) (by omega), mup_ne _ _ (Or.inr a1), hM1, if_neg (by omega)]) (by rw [mup_ne _ _ (Or.inl (by omega)), hO3 _ _ (by omega) (by omega), hO2 _ _ (by omega) (by omega), mup_at]) (hR3.eqs (fun i => mup_ne _ _ (Or.inl (by omega))) (fun i => mup_ne _ _ (Or.inl (by omega)))) (fun a => by
      rw [mup_ne _ _ (Or.inl (by omega)), hO3 _ _ (by omega) (by omega), hO2 _ _ (by omega) (by omega), mup_ne _ _ (Or.inl (by omega)), hM1]
      by_cases h9 : b ≤ a ∧ a < b + Zs σ p
      · rw [if_pos ⟨rfl, h9⟩, if_pos h9]
      · rw [if_neg (fun hh => h9 hh.2), if_neg h9]) (fun i a1 => by rw [mup_ne _ _ (Or.inr a1), hO3 _ _ (by omega) (by omega), hO2 _ _ (by omega) (by omega), mup_ne _ _ (Or.inl (by omega)), hM1, if_neg (by omega)])) (h11.eqs (fun i => by rw [mup_ne _ _ (Or.inl (by omega)), hO3 _ _ (by omega) (by omega)]) (fun i => by rw [mup_ne _ _ (Or.inl (by omega)), hO3 _ _ (by omega) (by omega)])) (by rw [mup_at, hO3 _ _ (by omega) (by omega), hO2 _ _ (by omega) (by omega), mup_ne _ _ (Or.inl (by omega)), hM1, if_neg (by omega)]) (fun k i a1 => by rw [mup_ne _ _ (Or.inl (by omega)), hO3 _ _ (by omega) (by omega), hO2 _ _ (by omega) (by omega), mup_ne _ _ (Or.inl (by omega)), hM1, if_neg (by omega)]))
  · refine jj_is3 dBO_load_18 ?_
    refine jj_il3 dBO_load_19 ?_
    refine jj_iconst (-1) dBO_load_20 (by decide) ?_
    refine jj_icmp_ne 26 dBO_load_21 (by decide) (fun h => absurd h (by decide)) (fun _ => ?_)
    refine jj_iconst 0 dBO_load_24 (by decide) ?_
    exact jj_iret dBO_load_25 rfl rfl (hf hno)
set_option maxRecDepth 100000 in
set_option maxHeartbeats 4000000 in
theorem c_takeOut {ω : jw} {d : Nat} {M : Nat → Nat → Int32} {J sl : Nat} {Q : jr → jh → Prop} {σ : Sg} {p b : Nat} (hC : CS M σ) (hp : p < 6) (hb : Zb σ p = some b) (hbw : b + Zs σ p ≤ 32) (hAp : Apart σ) (hq : ∀ M', CS M' (zOut σ p) → (∀ k i, k = 0 ∨ k = 11 ∨ k = 12 → M' k i = M k i) → Cl M M' → Q (.inl none) (jst ω M' J sl)) : jwp ω (d + 1) mBO_takeOut [.ref (jN ω + 0), .int (nI p)] (jst ω M J sl) Q := by
  have hLk := hC.1 p hp
  have hb5 : M (13 + 15 * p) 5 = nI b := by rw [hLk.2.1, hb]; rfl
  refine jwp_of (by simp [Value.category]) (Nat.le_of_ble_eq_true rfl) (ls := [some (.ref (jN ω + 0)), some (.int (nI p)), none]) rfl ?_
  refine jj_al0 dBO_takeOut_0 ?_
  refine mr_get _ dBO_takeOut_1 clBO lkBO_11 (s0 _) rfl ?_
  refine jj_il1 dBO_takeOut_4 ?_
  refine mr_aald dBO_takeOut_5 (hp) ?_
  refine jj_as2 dBO_takeOut_6 ?_
  refine jj_al0 dBO_takeOut_7 ?_
  refine mr_get _ dBO_takeOut_8 clBO lkBO_18 (s0 _) rfl ?_
  refine jj_al2 dBO_takeOut_11 ?_
  refine mr_get _ dBO_takeOut_12 clLk lkBO_172 (sL0 hp _) rfl ?_
  rw [hb5]
  refine jj_al2 dBO_takeOut_15 ?_
  refine mr_get _ dBO_takeOut_16 clLk lkBO_212 (sL0 hp _) rfl ?_
  rw [hLk.1]
  refine mv2 dBO_takeOut_19 clSp cvBO_229 (s2 _) (Nat.le_of_ble_eq_true rfl) ?_
  refine c_giveBack b (Zs σ p) hbw (fun M1 hM1 => jk_v ?_)
  refine jj_al2 dBO_takeOut_22 ?_
  refine jj_iconst (-1) dBO_takeOut_23 (by decide) ?_
  refine mr_put dBO_takeOut_24 clLk lkBO_172 rfl rfl (sL0 hp _) (sL0 hp _) (Nat.le_of_ble_eq_true rfl) rfl ?_
  refine jj_al2 dBO_takeOut_27 ?_
  refine jj_iconst 0 dBO_takeOut_28 (by decide) ?_
  refine mr_put dBO_takeOut_29 clLk lkBO_232 rfl rfl (sL0 hp _) (sL0 hp _) (Nat.le_of_ble_eq_true rfl) rfl ?_
  refine jj_al0 dBO_takeOut_32 ?_
  refine mr_get _ dBO_takeOut_33 clBO lkBO_32 (s0 _) rfl ?_
  refine jj_il1 dBO_takeOut_36 ?_
  refine mv1 dBO_takeOut_37 clRw cvBO_235 (s7 _) (Nat.le_of_ble_eq_true rfl) ?_
  have h7 : ∀ k i, (k = 7 ∨ k = 8) → mup (mup M1 (13 + 15 * p) 5 (-1)) (13 + 15 * p) 7 0 k i = M k i := fun k i hk => by rw [mup_ne _ _ (Or.inl (by omega)), mup_ne _ _ (Or.inl (by omega)), hM1, if_neg (by omega)]
  have hG : RowIs (mup (mup M1 (13 + 15 * p) 5 (-1)) (13 + 15 * p) 7 0) 7 (Gl σ) := hC.2.2.2.1.eqs (fun i => h7 _ _ (Or.inl rfl)) (fun i => h7 _ _ (Or.inr rfl))
  refine c_remove row7 hp hG (fun M2 hO2 hR2 => jk_v ?_)
  exact jj_vret dBO_takeOut_40 rfl (hq M2 (CS_out hC hp hb hAp (fun k i a1 a2 a3 a4 a5 => by rw [hO2 _ _ a3 a4, mup_ne _ _ (Or.inl a5), mup_ne _ _ (Or.inl a5), hM1, if_neg (by omega)]) (fun i a1 a2 => by rw [hO2 _ _ (by omega) (by omega), mup_ne _ _ (Or.inr a2), mup_ne _ _ (Or.inr a1), hM1, if_neg (by omega)]) (by rw [hO2 _ _ (by omega) (by omega), mup_ne _ _ (Or.inr (by omega)), mup_at]) (by rw [hO2 _ _ (by omega) (by omega), mup_at]) hR2 (fun k a hk => by
      rw [hO2 _ _ (by omega) (by omega), mup_ne _ _ (Or.inl (by omega)), mup_ne _ _ (Or.inl (by omega)), hM1]
      by_cases h9 : b ≤ a ∧ a < b + Zs σ p
      · rw [if_pos ⟨hk, h9⟩, if_pos h9]
      · rw [if_neg (fun hh => h9 hh.2), if_neg h9])) (fun k i hk => by rw [hO2 _ _ (by omega) (by omega), mup_ne _ _ (Or.inl (by omega)), mup_ne _ _ (Or.inl (by omega)), hM1, if_neg (by omega)]) (fun k i hk => by rw [hO2 _ _ (by omega) (by omega), mup_ne _ _ (Or.inl (by omega)), mup_ne _ _ (Or.inl (by omega)), hM1, if_neg (by omega)]))
