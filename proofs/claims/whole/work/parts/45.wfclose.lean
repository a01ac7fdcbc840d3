abbrev inE (K : Nat → Bool) (r : List Nat) (p : Nat) : Prop := p ∈ r ∧ K p = false
theorem inIm_end {σ : Sg} {p : Nat} (a q : Nat) : inIm (zEnd σ p) a q = if q = p then false else inIm σ a q := inIm_out (σ := zBj σ ((Bg σ).filter (fun z => decide (z ≠ p))) (Ev σ ++ [-1 - nI p])) a q
theorem enF_facts (K : Nat → Bool) : ∀ (r : List Nat) (σ : Sg), (∃ zb zu zw gl bg ev, enF K r σ = (Zs σ, Zn σ, Zy σ, Zr σ, zb, Zg σ, zu, Zo σ, zw, gl, bg, ev, Sp σ)) ∧ (∀ p, (inE K r p → Zb (enF K r σ) p = none) ∧ (¬ inE K r p → Zb (enF K r σ) p = Zb σ p)) ∧ (∀ p, (inE K r p → ∀ q, Zu (enF K r σ) p q = false) ∧ (¬ inE K r p → Zu (enF K r σ) p = Zu σ p)) ∧ (Gl (enF K r σ) = (Gl σ).filter (fun z => !decide (inE K r z))) ∧ (Bg (enF K r σ) = (Bg σ).filter (fun z => !decide (inE K r z))) ∧ (∀ a p, inE K r p → inIm σ a p = true → Zw (enF K r σ) a = 0) ∧ (∀ a, Zw σ a = 0 → Zw (enF K r σ) a = 0) ∧ (Ev (enF K r σ)).length = (Ev σ).length + (r.filter (fun p => !K p)).length := by
  intro r
  induction r with
  | nil =>
    intro σ
    have hno : ∀ p, ¬ inE K [] p := fun p h => by cases h.1
    refine ⟨⟨Zb σ, Zu σ, Zw σ, Gl σ, Bg σ, Ev σ, rfl⟩, fun p => ⟨fun h => absurd h (hno p), fun _ => rfl⟩, fun p => ⟨fun h => absurd h (hno p), fun _ => rfl⟩, ?_, ?_, fun a p h => absurd h (hno p), fun a h => h, rfl⟩
    · show Gl σ = _
      symm
      rw [List.filter_eq_self]
      intro z _
      rw [decide_eq_false (hno z)]; rfl
    · show Bg σ = _
      symm
      rw [List.filter_eq_self]
      intro z _
      rw [decide_eq_false (hno z)]; rfl
  | cons b r ih =>
    intro σ
    unfold enF
    cases hb : K b with
    | true =>
      rw [if_pos rfl]
      obtain ⟨e, h1, h2, h3, h4, h5, h6, h7⟩ := ih σ
      have hs : ∀ p, inE K (b :: r) p ↔ inE K r p := fun p => ⟨fun h => ⟨(List.mem_cons.mp h.1).resolve_left (fun e => by have h9 := h.2; rw [e, hb] at h9; cases h9), h.2⟩, fun h => ⟨List.mem_cons_of_mem _ h.1, h.2⟩⟩
      have hf : (fun z => !decide (inE K (b :: r) z)) = (fun z => !decide (inE K r z)) := by
        funext z
        congr 1
        exact decide_eq_decide.mpr (hs z)
      rw [hf]
      refine ⟨e, fun p => ⟨fun h => (h1 p).1 ((hs p).mp h), fun h => (h1 p).2 (fun g => h ((hs p).mpr g))⟩, fun p => ⟨fun h => (h2 p).1 ((hs p).mp h), fun h => (h2 p).2 (fun g => h ((hs p).mpr g))⟩, h3, h4, fun a p h => h5 a p ((hs p).mp h), h6, ?_⟩
      rw [List.filter_cons_of_neg (by simp [hb])]
      exact h7
    | false =>
      rw [if_neg (by decide)]
      obtain ⟨⟨zb, zu, zw, gl, bg, ev, e⟩, h1, h2, h3, h4, h5, h6, h7⟩ := ih (zEnd σ b)
      have hs : ∀ p, inE K (b :: r) p ↔ p = b ∨ inE K r p := fun p => by
        constructor
        · rintro ⟨g1, g2⟩
          rcases List.mem_cons.mp g1 with g | g
          · exact Or.inl g
          · exact Or.inr ⟨g, g2⟩
        · rintro (rfl | ⟨g1, g2⟩)
          · exact ⟨List.mem_cons_self, hb⟩
          · exact ⟨List.mem_cons_of_mem _ g1, g2⟩
      have hfl : ∀ l : List Nat, (l.filter (fun z => decide (z ≠ b))).filter (fun z => !decide (inE K r z)) = l.filter (fun z => !decide (inE K (b :: r) z)) := fun l => by
        rw [List.filter_filter]
        congr 1
        funext z
        by_cases hz : z = b
        · rw [decide_eq_true ((hs z).mpr (Or.inl hz))]; simp [hz]
        · by_cases hz2 : inE K r z
          · rw [decide_eq_true hz2, decide_eq_true ((hs z).mpr (Or.inr hz2))]; rfl
          · rw [decide_eq_false hz2, decide_eq_false (fun g => ((hs z).mp g).elim hz hz2)]; simp [hz]
      refine ⟨⟨zb, zu, zw, gl, bg, ev, e⟩, fun p => ⟨fun h => ?_, fun h => ?_⟩, fun p => ⟨fun h => ?_, fun h => ?_⟩, ?_, ?_, fun a p h hin => ?_, fun a h => ?_, ?_⟩
      · by_cases hr : inE K r p
        · exact (h1 p).1 hr
        · rw [(h1 p).2 hr, ((hs p).mp h).resolve_right hr]
          exact va_up_self _ _ _
      · have hpb : p ≠ b := fun e => h ((hs p).mpr (Or.inl e))
        rw [(h1 p).2 (fun g => h ((hs p).mpr (Or.inr g)))]; exact va_up_ne _ _ hpb
      · by_cases hr : inE K r p
        · exact (h2 p).1 hr
        · intro q
          rw [(h2 p).2 hr, ((hs p).mp h).resolve_right hr]
          show va_up (Zu σ) b (fun _ => false) b q = false
          rw [va_up_self]
      · have hpb : p ≠ b := fun e => h ((hs p).mpr (Or.inl e))
        rw [(h2 p).2 (fun g => h ((hs p).mpr (Or.inr g)))]; exact va_up_ne _ _ hpb
      · rw [h3]; exact hfl (Gl σ)
      · rw [h4]; exact hfl (Bg σ)
      · by_cases hpb : p = b
        · subst hpb
          refine h6 a ?_
          show (if inIm σ a p = true then 0 else Zw σ a) = 0
          rw [if_pos hin]
        · refine h5 a p (((hs p).mp h).resolve_left hpb) ?_
          rw [inIm_end, if_neg hpb]; exact hin
      · refine h6 a ?_
        show (if inIm σ a b = true then 0 else Zw σ a) = 0
        split
        · rfl
        · exact h
      · rw [h7, List.filter_cons_of_pos (by simp [hb])]
        show (Ev σ ++ [-1 - nI b]).length + _ = _
        rw [List.length_append]
        simp only [List.length_cons, List.length_nil]
        omega
theorem tkn_ex {σ : Sg} {a : Nat} : tkn σ a = true ↔ ∃ p, p < 6 ∧ inIm σ a p = true := by
  unfold tkn
  rw [List.any_eq_true]
  exact ⟨fun h => by obtain ⟨p, h1, h2⟩ := h; exact ⟨p, List.mem_range.mp h1, h2⟩, fun h => by obtain ⟨p, h1, h2⟩ := h; exact ⟨p, List.mem_range.mpr h1, h2⟩⟩
theorem tkn_no {σ : Sg} {a p : Nat} (h : tkn σ a = false) (hp : p < 6) : inIm σ a p = false := by
  cases hx : inIm σ a p with
  | false => rfl
  | true => rw [tkn_ex.mpr ⟨p, hp, hx⟩] at h; cases h
theorem Wf.close {σ : Sg} (hW : Wf σ) {n : Nat} (hn : n < 6) (hz : ¬ Zo σ n = 0) : Wf (enF (kpF (zOp σ n (Zo σ n - 1)) 5) (Bg σ).reverse (zOp σ n (Zo σ n - 1))) := by
  have hkl := zOp_kl hW hn
  have hW1 : Wf (zOp σ n (Zo σ n - 1)) := hW.op hn (hW.2.2.2.2.2.2.2.2 n hn hz)
  have hkc : ∀ p q, p < 6 → q < 6 → kpF (zOp σ n (Zo σ n - 1)) 5 p = true → edge σ p q → kpF (zOp σ n (Zo σ n - 1)) 5 q = true := kp_closed (zOp σ n (Zo σ n - 1))
  have hk0 : ∀ p, p < 6 → ¬ Zo (zOp σ n (Zo σ n - 1)) p = 0 → kpF (zOp σ n (Zo σ n - 1)) 5 p = true := fun p hp h => by
    refine kpF_mono _ 4 p (kpF_mono _ 3 p (kpF_mono _ 2 p (kpF_mono _ 1 p (kpF_mono _ 0 p ?_))))
    show (decide (p < 6) && decide (¬ Zo (zOp σ n (Zo σ n - 1)) p = 0)) = true
    rw [decide_eq_true hp, decide_eq_true h]; rfl
  generalize hK : kpF (zOp σ n (Zo σ n - 1)) 5 = K at *
  have hkl5 : ∀ p, p < 6 → K p = true → ¬ Zb σ p = none := fun p hp h => hkl 5 p hp (by rw [hK]; exact h)
  obtain ⟨⟨zb, zu, zw, gl, bg, ev, e⟩, f1, f2, f3, f4, f5, f6, _⟩ := enF_facts K (Bg σ).reverse (zOp σ n (Zo σ n - 1))
  generalize hs1 : zOp σ n (Zo σ n - 1) = σ1 at *
  have z1 : Zb σ1 = Zb σ := by rw [← hs1]; rfl
  have z2 : Bg σ1 = Bg σ := by rw [← hs1]; rfl
  have z3 : Zn σ1 = Zn σ := by rw [← hs1]; rfl
  have z4 : Zu σ1 = Zu σ := by rw [← hs1]; rfl
  obtain ⟨⟨m, w1, w1b, w1c⟩, w2, w3, w4, w5, w6, w7, w8, w9⟩ := hW1
  obtain ⟨m1, m2, m3, m4, m5⟩ := m
  have es : Zs (enF K (Bg σ).reverse σ1) = Zs σ1 := by rw [e]
  have en : Zn (enF K (Bg σ).reverse σ1) = Zn σ1 := by rw [e]
  have ey : Zy (enF K (Bg σ).reverse σ1) = Zy σ1 := by rw [e]
  have er : Zr (enF K (Bg σ).reverse σ1) = Zr σ1 := by rw [e]
  have eg : Zg (enF K (Bg σ).reverse σ1) = Zg σ1 := by rw [e]
  have eo : Zo (enF K (Bg σ).reverse σ1) = Zo σ1 := by rw [e]
  have hE : ∀ p, p < 6 → (inE K (Bg σ).reverse p ↔ ¬ Zb σ1 p = none ∧ K p = false) := fun p hp => by
    show p ∈ (Bg σ).reverse ∧ _ ↔ _
    rw [List.mem_reverse, ← z2, w5 p hp]
  have hld : ∀ p, p < 6 → (¬ Zb (enF K (Bg σ).reverse σ1) p = none ↔ K p = true) := fun p hp => by
    by_cases hi : inE K (Bg σ).reverse p
    · rw [(f1 p).1 hi]
      have := ((hE p hp).mp hi).2
      rw [this]; simp
    · rw [(f1 p).2 hi]
      constructor
      · intro h
        cases hKp : K p with
        | true => rfl
        | false => exact absurd ((hE p hp).mpr ⟨h, hKp⟩) hi
      · intro h
        rw [z1]
        exact hkl5 p hp h
  have hsome : ∀ p b, Zb (enF K (Bg σ).reverse σ1) p = some b → Zb σ1 p = some b ∧ ¬ inE K (Bg σ).reverse p := fun p b h => by
    by_cases hi : inE K (Bg σ).reverse p
    · rw [(f1 p).1 hi] at h; cases h
    · rw [(f1 p).2 hi] at h; exact ⟨h, hi⟩
  have hin : ∀ a q, inIm (enF K (Bg σ).reverse σ1) a q = true → inIm σ1 a q = true := fun a q h => by
    obtain ⟨b, h1, h2⟩ := inIm_iff.mp h
    rw [es] at h2
    exact inIm_iff.mpr ⟨b, (hsome q b h1).1, h2⟩
  refine ⟨⟨⟨by rw [es]; exact m1, fun p b hp hb => by rw [es]; exact m2 p b hp (hsome p b hb).1, fun p q a hp hq hne i1 i2 => m3 p q a hp hq hne (hin a p i1) (hin a q i2), fun p hp y hy => ?_, fun p hp y hy => ?_⟩, by rw [ey]; exact w1, by rw [eg]; exact w1b, fun q hq => ?_⟩, ⟨fun a ha ht => ?_, fun p hp hb q hq => ?_⟩, by rw [en]; exact w3, ?_, fun p hp => ?_, ?_, fun p hp hl q hq => ?_, fun p q hp hu => ?_, fun p hp hzo => ?_⟩
  · rw [er] at hy
    have := m4 p hp y hy
    unfold RlOk at this ⊢
    rw [es, ey]; exact this
  · rw [ey] at hy
    have := m5 p hp y hy
    unfold SyOk at this ⊢
    rw [es]; exact this
  · rw [f3, List.mem_filter] at hq
    have h6 := (w1c q hq.1).1
    refine ⟨h6, ?_⟩
    have hni : ¬ inE K (Bg σ).reverse q := fun g => by have h9 := hq.2; rw [decide_eq_true g] at h9; cases h9
    rw [(f1 q).2 hni]
    exact (w1c q hq.1).2
  · cases htk : tkn σ1 a with
    | false => exact f6 a (w2.1 a ha htk)
    | true =>
      obtain ⟨p, hp, hi⟩ := tkn_ex.mp htk
      by_cases hE2 : inE K (Bg σ).reverse p
      · exact f5 a p hE2 hi
      · have := tkn_no ht hp
        rw [inIm_zb ((f1 p).2 hE2) es, hi] at this
        cases this
  · by_cases hi : inE K (Bg σ).reverse p
    · exact (f2 p).1 hi q
    · rw [(f1 p).2 hi] at hb
      rw [(f2 p).2 hi]
      exact w2.2 p hp hb q hq
  · rw [f4, z2]; rw [z2] at w4; exact ⟨w4.1.filter _, fun x hx => w4.2 x (List.mem_filter.mp hx).1⟩
  · rw [f4, List.mem_filter, w5 p hp]
    by_cases hi : inE K (Bg σ).reverse p
    · rw [(f1 p).1 hi, decide_eq_true hi]; simp
    · rw [(f1 p).2 hi, decide_eq_false hi]; simp
  · rw [f3]; exact ⟨w6.1.filter _, fun x hx => w6.2 x (List.mem_filter.mp hx).1⟩
  · rw [en] at hq
    have hq6 := w3 p hp q hq
    have hKp := (hld p hp).mp hl
    exact (hld q hq6).mpr (hkc p q hp hq6 hKp (Or.inl (by rw [← z3]; exact hq)))
  · by_cases hi : inE K (Bg σ).reverse p
    · rw [(f2 p).1 hi q] at hu; cases hu
    · rw [(f2 p).2 hi] at hu
      obtain ⟨hq6, hql⟩ := w8 p q hp hu
      refine ⟨hq6, (hld q hq6).mpr (hkc p q hp hq6 ?_ (Or.inr (by rw [← z4]; exact hu)))⟩
      refine (hld p hp).mp ?_
      rw [(f1 p).2 hi]
      intro hb
      rw [w2.2 p hp hb q hq6] at hu
      cases hu
  · rw [eo] at hzo
    exact (hld p hp).mpr (hk0 p hp hzo)
