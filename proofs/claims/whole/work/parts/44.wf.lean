/-! WHAT HOLDS between calls. -/
def Wf (σ : Sg) : Prop := RvOk σ ∧ W0 σ ∧ (∀ p, p < 6 → ∀ x ∈ Zn σ p, x < 6) ∧ Rw6 (Bg σ) ∧ (∀ p, p < 6 → (p ∈ Bg σ ↔ ¬ Zb σ p = none)) ∧ Rw6 (Gl σ) ∧ (∀ p, p < 6 → ¬ Zb σ p = none → ∀ q ∈ Zn σ p, ¬ Zb σ q = none) ∧ (∀ p q, p < 6 → Zu σ p q = true → q < 6 ∧ ¬ Zb σ q = none) ∧ (∀ p, p < 6 → ¬ Zo σ p = 0 → ¬ Zb σ p = none)
theorem flt_le {K K' : Nat → Bool} : ∀ (l : List Nat), (∀ i ∈ l, K i = true → K' i = true) → (l.filter K).length ≤ (l.filter K').length := by
  intro l
  induction l with
  | nil => intro _; exact Nat.le_refl _
  | cons a t ih =>
    intro h
    have h1 := ih (fun i hi => h i (List.mem_cons_of_mem _ hi))
    by_cases ha : K a = true
    · rw [List.filter_cons_of_pos ha, List.filter_cons_of_pos (h a List.mem_cons_self ha)]
      simp only [List.length_cons]; omega
    · rw [List.filter_cons_of_neg ha]
      by_cases ha' : K' a = true
      · rw [List.filter_cons_of_pos ha']; simp only [List.length_cons]; omega
      · rw [List.filter_cons_of_neg ha']; exact h1
theorem flt_lt {K K' : Nat → Bool} : ∀ (l : List Nat), (∀ i ∈ l, K i = true → K' i = true) → (∃ i ∈ l, K' i = true ∧ ¬ K i = true) → (l.filter K).length < (l.filter K').length := by
  intro l
  induction l with
  | nil => intro _ h; obtain ⟨i, hi, _⟩ := h; cases hi
  | cons a t ih =>
    intro h hex
    have h1 := flt_le t (fun i hi => h i (List.mem_cons_of_mem _ hi))
    obtain ⟨i, hi, hi1, hi2⟩ := hex
    rcases List.mem_cons.mp hi with rfl | hi
    · rw [List.filter_cons_of_neg hi2, List.filter_cons_of_pos hi1]; simp only [List.length_cons]; omega
    · have h2 := ih (fun i hi => h i (List.mem_cons_of_mem _ hi)) ⟨i, hi, hi1, hi2⟩
      by_cases ha : K a = true
      · rw [List.filter_cons_of_pos ha, List.filter_cons_of_pos (h a List.mem_cons_self ha)]
        simp only [List.length_cons]; omega
      · rw [List.filter_cons_of_neg ha]
        by_cases ha' : K' a = true
        · rw [List.filter_cons_of_pos ha']; simp only [List.length_cons]; omega
        · rw [List.filter_cons_of_neg ha']; exact h2
theorem kp_s (σ : Sg) (r i : Nat) : kpF σ (r + 1) i = true ↔ kpF σ r i = true ∨ ∃ p, p < 6 ∧ kpF σ r p = true ∧ edge σ p i := kbF_iff σ (kpF σ r) 6 i
theorem kp_stab (σ : Sg) (r : Nat) (h : ∀ i, i < 6 → kpF σ (r + 1) i = true → kpF σ r i = true) : ∀ i, i < 6 → kpF σ (r + 2) i = true → kpF σ (r + 1) i = true := fun i hi hk => by
  rcases (kp_s σ (r + 1) i).mp hk with h1 | ⟨p, hp, h1, h2⟩
  · exact h1
  · exact (kp_s σ r i).mpr (Or.inr ⟨p, hp, h p hp h1, h2⟩)
theorem kp_five (σ : Sg) : ∀ i, i < 6 → kpF σ 6 i = true → kpF σ 5 i = true := by
  refine Classical.byContradiction (fun h5 => ?_)
  have h4 : ¬ ∀ i, i < 6 → kpF σ 5 i = true → kpF σ 4 i = true := fun h => h5 (kp_stab σ 4 h)
  have h3 : ¬ ∀ i, i < 6 → kpF σ 4 i = true → kpF σ 3 i = true := fun h => h4 (kp_stab σ 3 h)
  have h2 : ¬ ∀ i, i < 6 → kpF σ 3 i = true → kpF σ 2 i = true := fun h => h3 (kp_stab σ 2 h)
  have h1 : ¬ ∀ i, i < 6 → kpF σ 2 i = true → kpF σ 1 i = true := fun h => h2 (kp_stab σ 1 h)
  have h0 : ¬ ∀ i, i < 6 → kpF σ 1 i = true → kpF σ 0 i = true := fun h => h1 (kp_stab σ 0 h)
  have hlt : ∀ r, (¬ ∀ i, i < 6 → kpF σ (r + 1) i = true → kpF σ r i = true) → ((List.range 6).filter (kpF σ r)).length < ((List.range 6).filter (kpF σ (r + 1))).length := fun r h => by
    refine flt_lt _ (fun i _ hi => kpF_mono σ r i hi) ?_
    refine Classical.byContradiction (fun hn => h (fun i hi hk => Classical.byContradiction (fun hk2 => hn ⟨i, List.mem_range.mpr hi, hk, hk2⟩)))
  have a0 : ((List.range 6).filter (kpF σ 0)).length < ((List.range 6).filter (kpF σ 1)).length := hlt 0 h0
  have a1 : ((List.range 6).filter (kpF σ 1)).length < ((List.range 6).filter (kpF σ 2)).length := hlt 1 h1
  have a2 : ((List.range 6).filter (kpF σ 2)).length < ((List.range 6).filter (kpF σ 3)).length := hlt 2 h2
  have a3 : ((List.range 6).filter (kpF σ 3)).length < ((List.range 6).filter (kpF σ 4)).length := hlt 3 h3
  have a4 : ((List.range 6).filter (kpF σ 4)).length < ((List.range 6).filter (kpF σ 5)).length := hlt 4 h4
  have a5 : ((List.range 6).filter (kpF σ 5)).length < ((List.range 6).filter (kpF σ 6)).length := hlt 5 h5
  have a6 : ((List.range 6).filter (kpF σ 6)).length ≤ 6 := Nat.le_trans (List.length_filter_le _ _) (by simp)
  have z : ((List.range 6).filter (kpF σ 0)).length = 0 := by omega
  refine h0 (fun i hi hk => ?_)
  rcases (kp_s σ 0 i).mp hk with h | ⟨p, hp, h, _⟩
  · exact h
  · have hm : p ∈ (List.range 6).filter (kpF σ 0) := List.mem_filter.mpr ⟨List.mem_range.mpr hp, h⟩
    rw [List.eq_nil_of_length_eq_zero z] at hm
    cases hm
theorem kp_closed (σ : Sg) (p q : Nat) (hp : p < 6) (hq : q < 6) (hk : kpF σ 5 p = true) (he : edge σ p q) : kpF σ 5 q = true := kp_five σ q hq ((kp_s σ 5 q).mpr (Or.inr ⟨p, hp, hk, he⟩))
theorem kp_loaded {σ : Sg} (h0 : ∀ p, p < 6 → ¬ Zo σ p = 0 → ¬ Zb σ p = none) (h1 : ∀ p, p < 6 → ¬ Zb σ p = none → ∀ q ∈ Zn σ p, ¬ Zb σ q = none) (h2 : ∀ p q, p < 6 → Zu σ p q = true → q < 6 ∧ ¬ Zb σ q = none) : ∀ r p, p < 6 → kpF σ r p = true → ¬ Zb σ p = none := by
  intro r
  induction r with
  | zero =>
    intro p hp hk
    have hk2 : (decide (p < 6) && decide (¬ Zo σ p = 0)) = true := hk
    rw [Bool.and_eq_true, decide_eq_true_eq, decide_eq_true_eq] at hk2
    exact h0 p hp hk2.2
  | succ r ih =>
    intro p hp hk
    rcases (kp_s σ r p).mp hk with h | ⟨q, hq, h, he⟩
    · exact ih p hp h
    · exact he.elim (fun g => h1 q hq (ih q hq h) p g) (fun g => (h2 q p hq g).2)
theorem zOp_kl {σ : Sg} (hW : Wf σ) {n : Nat} (hn : n < 6) : ∀ r p, p < 6 → kpF (zOp σ n (Zo σ n - 1)) r p = true → ¬ Zb σ p = none := by
  obtain ⟨w1, w2, w3, w4, w5, w6, w7, w8, w9⟩ := hW
  refine kp_loaded (σ := zOp σ n (Zo σ n - 1)) (fun p hp hz => ?_) w7 w8
  have hz2 : ¬ va_up (Zo σ) n (Zo σ n - 1) p = 0 := hz
  by_cases e : p = n
  · subst e
    rw [va_up_self] at hz2
    exact w9 p hp (by omega)
  · rw [va_up_ne _ _ e] at hz2
    exact w9 p hp hz2
theorem Wf.st {σ : Sg} (h : Wf σ) (v : Int32) : Wf (zSt σ v) := h
theorem Wf.op {σ : Sg} (h : Wf σ) {p n : Nat} (hp : p < 6) (hl : ¬ Zb σ p = none) : Wf (zOp σ p n) := by
  obtain ⟨w1, w2, w3, w4, w5, w6, w7, w8, w9⟩ := h
  refine ⟨w1, w2, w3, w4, w5, w6, w7, w8, fun q hq hz => ?_⟩
  by_cases e : q = p
  · rw [e]; exact hl
  · have hz2 : ¬ va_up (Zo σ) p n q = 0 := hz
    rw [va_up_ne _ _ e] at hz2
    exact w9 q hq hz2
theorem Wf.wd {σ : Sg} (h : Wf σ) {a : Nat} {v : Int32} (ht : tkn σ a = true) : Wf (zWd σ a v) := by
  obtain ⟨w1, w2, w3, w4, w5, w6, w7, w8, w9⟩ := h
  refine ⟨w1, ⟨fun z hz hz2 => ?_, w2.2⟩, w3, w4, w5, w6, w7, w8, w9⟩
  show va_up (Zw σ) a v z = 0
  have hz3 : tkn σ z = false := hz2
  have e : z ≠ a := fun e => by rw [e, ht] at hz3; cases hz3
  rw [va_up_ne _ _ e]
  exact w2.1 z hz hz3
theorem Wf.use {σ : Sg} (h : Wf σ) {p q : Nat} (hp : ¬ Zb σ p = none) (hq : q < 6) (hq2 : ¬ Zb σ q = none) : Wf (zUse σ p q) := by
  obtain ⟨w1, w2, w3, w4, w5, w6, w7, w8, w9⟩ := h
  refine ⟨w1, ⟨w2.1, fun r hr hrb z hz => ?_⟩, w3, w4, w5, w6, w7, fun r z hr hz => ?_, w9⟩
  · show va_up (Zu σ) p (va_up (Zu σ p) q true) r z = false
    have e : r ≠ p := fun e => hp (e ▸ hrb)
    rw [va_up_ne _ _ e]
    exact w2.2 r hr hrb z hz
  · have hz2 : va_up (Zu σ) p (va_up (Zu σ p) q true) r z = true := hz
    by_cases e : r = p
    · subst e
      rw [va_up_self] at hz2
      by_cases e2 : z = q
      · rw [e2]; exact ⟨hq, hq2⟩
      · rw [va_up_ne _ _ e2] at hz2; exact w8 r z hr hz2
    · rw [va_up_ne _ _ e] at hz2
      exact w8 r z hr hz2
theorem Wf.rs {σ : Sg} (h : Wf σ) {p : Nat} (hp : p < 6) (hl : ¬ Zb σ p = none) (y : Sym) : Wf (rsF σ p y).2 := by
  cases hx : (luF σ p y.1 (Sp σ)).1 with
  | none =>
    have e : (rsF σ p y).2 = zSt σ (luF σ p y.1 (Sp σ)).2 := by unfold rsF; rw [hx]
    rw [e]; exact h.st _
  | some q =>
    rw [rsF_adF σ p y hx]
    obtain ⟨h1, h2, h3⟩ := luF_lt hx
    have hq6 : q < 6 := h1.elim (fun g => (h.1.2.2.2 q g).1) (h.1.2.2.1 p hp q)
    show Wf (if q = p then _ else _)
    split
    · exact h.st _
    · exact Wf.use (σ := zSt σ (luF σ p y.1 (Sp σ)).2) h hl hq6 h2
theorem Wf.img {σ : Sg} (h : Wf σ) {n w : Nat} (hb : Zb σ n = none) (hw : w ≤ 8) : Wf (zImg σ n w) := by
  obtain ⟨⟨m, w1, w1b, w1c⟩, w2, w3, w4, w5, w6, w7, w8, w9⟩ := h
  obtain ⟨m1, m2, m3, m4, m5⟩ := m
  have hne : ∀ p b, Zb σ p = some b → p ≠ n := fun p b hp e => by rw [e, hb] at hp; cases hp
  have hin : ∀ a q, inIm (zImg σ n w) a q = inIm σ a q := fun a q => by
    unfold inIm
    show (match Zb σ q with | some b => decide (b ≤ a) && decide (a < b + va_up (Zs σ) n w q) | none => false) = _
    cases hz : Zb σ q with
    | none => rfl
    | some b => rw [va_up_ne _ _ (hne q b hz)]
  refine ⟨⟨⟨fun p hp => ?_, fun p b hp hpb => ?_, fun p q a hp hq hne2 i1 i2 => ?_, fun p hp y hy => ?_, fun p hp y hy => ?_⟩, fun p hp => ?_, w1b, w1c⟩, ⟨fun a ha ht => w2.1 a ha (by rw [← tkn_img hb]; exact ht), w2.2⟩, fun p hp x hx => ?_, w4, w5, w6, fun p hp hl q hq => ?_, w8, w9⟩
  · show va_up (Zs σ) n w p ≤ 8
    by_cases e : p = n
    · rw [e, va_up_self]; exact hw
    · rw [va_up_ne _ _ e]; exact m1 p hp
  · show b + va_up (Zs σ) n w p ≤ 32 ∧ 1 ≤ va_up (Zs σ) n w p
    rw [va_up_ne _ _ (hne p b hpb)]; exact m2 p b hp hpb
  · rw [hin] at i1 i2; exact m3 p q a hp hq hne2 i1 i2
  · have hy2 : y ∈ va_up (Zr σ) n [] p := hy
    by_cases e : p = n
    · rw [e, va_up_self] at hy2; cases hy2
    · rw [va_up_ne _ _ e] at hy2
      have := m4 p hp y hy2
      unfold RlOk at this ⊢
      rw [show Zs (zImg σ n w) p = Zs σ p from va_up_ne _ _ e, show Zy (zImg σ n w) p = Zy σ p from va_up_ne _ _ e]
      exact this
  · have hy2 : y ∈ va_up (Zy σ) n [] p := hy
    by_cases e : p = n
    · rw [e, va_up_self] at hy2; cases hy2
    · rw [va_up_ne _ _ e] at hy2
      have := m5 p hp y hy2
      unfold SyOk at this ⊢
      rw [show Zs (zImg σ n w) p = Zs σ p from va_up_ne _ _ e]
      exact this
  · show ((va_up (Zy σ) n [] p).map (·.1)).Nodup
    by_cases e : p = n
    · rw [e, va_up_self]; simp
    · rw [va_up_ne _ _ e]; exact w1 p hp
  · have hx2 : x ∈ va_up (Zn σ) n [] p := hx
    by_cases e : p = n
    · rw [e, va_up_self] at hx2; cases hx2
    · rw [va_up_ne _ _ e] at hx2; exact w3 p hp x hx2
  · have hq2 : q ∈ va_up (Zn σ) n [] p := hq
    by_cases e : p = n
    · rw [e, va_up_self] at hq2; cases hq2
    · rw [va_up_ne _ _ e] at hq2; exact w7 p hp hl q hq2
theorem Wf.need {σ : Sg} (h : Wf σ) {n m : Nat} (hb : Zb σ n = none) (hm : m < 6) : Wf (zNeed σ n m) := by
  obtain ⟨w1, w2, w3, w4, w5, w6, w7, w8, w9⟩ := h
  refine ⟨w1, w2, fun p hp x hx => ?_, w4, w5, w6, fun p hp hl q hq => ?_, w8, w9⟩
  · have hx2 : x ∈ va_up (Zn σ) n (Zn σ n ++ [m]) p := hx
    by_cases e : p = n
    · subst e
      rw [va_up_self] at hx2
      rcases List.mem_append.mp hx2 with g | g
      · exact w3 p hp x g
      · rw [List.mem_singleton] at g; omega
    · rw [va_up_ne _ _ e] at hx2; exact w3 p hp x hx2
  · have hq2 : q ∈ va_up (Zn σ) n (Zn σ n ++ [m]) p := hq
    have e : p ≠ n := fun e => hl (by rw [e]; exact hb)
    rw [va_up_ne _ _ e] at hq2; exact w7 p hp hl q hq2
theorem Wf.sym {σ : Sg} (h : Wf σ) {n : Nat} {y : Sym} (hy : SyOk σ n y) (hno : ¬ ∃ s ∈ Zy σ n, s.1 = y.1) : Wf (zSym σ n y) := by
  obtain ⟨⟨m, w1, w1b, w1c⟩, w2, w3, w4, w5, w6, w7, w8, w9⟩ := h
  obtain ⟨m1, m2, m3, m4, m5⟩ := m
  refine ⟨⟨⟨m1, m2, m3, fun p hp z hz => ?_, fun p hp z hz => ?_⟩, fun p hp => ?_, w1b, w1c⟩, w2, w3, w4, w5, w6, w7, w8, w9⟩
  · have := m4 p hp z hz
    refine ⟨this.1, this.2.imp id (fun g => ⟨g.1, ?_⟩)⟩
    obtain ⟨s, hs, he⟩ := g.2
    refine ⟨s, ?_, he⟩
    show s < (va_up (Zy σ) n (Zy σ n ++ [y]) p).length
    by_cases e : p = n
    · subst e; rw [va_up_self, List.length_append]; omega
    · rw [va_up_ne _ _ e]; exact hs
  · have hz2 : z ∈ va_up (Zy σ) n (Zy σ n ++ [y]) p := hz
    by_cases e : p = n
    · subst e
      rw [va_up_self] at hz2
      rcases List.mem_append.mp hz2 with g | g
      · exact m5 p hp z g
      · rw [List.mem_singleton] at g; rw [g]; exact hy
    · rw [va_up_ne _ _ e] at hz2; exact m5 p hp z hz2
  · show ((va_up (Zy σ) n (Zy σ n ++ [y]) p).map (·.1)).Nodup
    by_cases e : p = n
    · subst e
      rw [va_up_self, List.map_append, List.nodup_append]
      refine ⟨w1 p hp, by simp, fun a ha b hb => ?_⟩
      rw [List.map_cons, List.map_nil, List.mem_singleton] at hb
      obtain ⟨s, hs, rfl⟩ := List.mem_map.mp ha
      exact fun e2 => hno ⟨s, hs, e2.trans hb⟩
    · rw [va_up_ne _ _ e]; exact w1 p hp
theorem Wf.rel {σ : Sg} (h : Wf σ) {n : Nat} {y : Rel} (hy : RlOk σ n y) : Wf (zRel σ n y) := by
  obtain ⟨⟨m, w1, w1b, w1c⟩, w2, w3, w4, w5, w6, w7, w8, w9⟩ := h
  obtain ⟨m1, m2, m3, m4, m5⟩ := m
  refine ⟨⟨⟨m1, m2, m3, fun p hp z hz => ?_, m5⟩, w1, w1b, w1c⟩, w2, w3, w4, w5, w6, w7, w8, w9⟩
  have hz2 : z ∈ va_up (Zr σ) n (Zr σ n ++ [y]) p := hz
  by_cases e : p = n
  · subst e
    rw [va_up_self] at hz2
    rcases List.mem_append.mp hz2 with g | g
    · exact m4 p hp z g
    · rw [List.mem_singleton] at g; rw [g]; exact hy
  · rw [va_up_ne _ _ e] at hz2; exact m4 p hp z hz2
