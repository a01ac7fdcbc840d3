def Wg (σ : Sg) : Prop := RvOk σ ∧ W0 σ ∧ (∀ p q, p < 6 → Zu σ p q = true → q < 6 ∧ ¬ Zb σ q = none)
theorem Wg.st {σ : Sg} (h : Wg σ) (v : Int32) : Wg (zSt σ v) := h
theorem Wg.wd {σ : Sg} (h : Wg σ) {a : Nat} {v : Int32} (ht : tkn σ a = true) : Wg (zWd σ a v) := by
  obtain ⟨w1, w2, w8⟩ := h
  refine ⟨w1, ⟨fun z hz hz2 => ?_, w2.2⟩, w8⟩
  show va_up (Zw σ) a v z = 0
  have hz3 : tkn σ z = false := hz2
  have e : z ≠ a := fun e => by rw [e, ht] at hz3; cases hz3
  rw [va_up_ne _ _ e]
  exact w2.1 z hz hz3
theorem Wg.use {σ : Sg} (h : Wg σ) {p q : Nat} (hp : ¬ Zb σ p = none) (hq : q < 6) (hq2 : ¬ Zb σ q = none) : Wg (zUse σ p q) := by
  obtain ⟨w1, w2, w8⟩ := h
  refine ⟨w1, ⟨w2.1, fun r hr hrb z hz => ?_⟩, fun r z hr hz => ?_⟩
  · show va_up (Zu σ) p (va_up (Zu σ p) q true) r z = false
    have e : r ≠ p := fun e => hp (e ▸ hrb)
    rw [va_up_ne _ _ e]
    exact w2.2 r hr hrb z hz
  · have hz2 : va_up (Zu σ) p (va_up (Zu σ p) q true) r z = true := hz
    by_cases e : r = p
    · subst e
      rw [va_up_self] at hz2
      by_cases e2 : z = q
      · rw [e2]; exact ⟨hq, hq2⟩
      · rw [va_up_ne _ _ e2] at hz2; exact w8 r z hr hz2
    · rw [va_up_ne _ _ e] at hz2
      exact w8 r z hr hz2
theorem Wg.rs {σ : Sg} (h : Wg σ) {p : Nat} (hp : p < 6) (hl : ¬ Zb σ p = none) (y : Sym) : Wg (rsF σ p y).2 := by
  cases hx : (luF σ p y.1 (Sp σ)).1 with
  | none =>
    have e : (rsF σ p y).2 = zSt σ (luF σ p y.1 (Sp σ)).2 := by unfold rsF; rw [hx]
    rw [e]; exact h.st _
  | some q =>
    rw [rsF_adF σ p y hx]
    obtain ⟨h1, h2, h3⟩ := luF_lt hx
    have hq6 : q < 6 := h1.elim (fun g => (h.1.2.2.2 q g).1) (h.1.2.2.1 p hp q)
    show Wg (if q = p then _ else _)
    split
    · exact h.st _
    · exact Wg.use (σ := zSt σ (luF σ p y.1 (Sp σ)).2) h hl hq6 h2
theorem Wg.dr {σ : Sg} (h : Wg σ) {p r b : Nat} (hp : p < 6) (hb : Zb σ p = some b) (hr : r < (Zr σ p).length) (lz : Bool) : Wg (drF σ p r lz).2 := by
  have hm : (Zr σ p).getD r (0, 0, 0, 0) ∈ Zr σ p := by
    rw [List.getD_eq_getElem?_getD, List.getElem?_eq_getElem hr]
    exact List.getElem_mem hr
  obtain ⟨⟨w, hw, hwe⟩, _⟩ := h.1.1.2.2.2.1 p hp _ hm
  have hw8 := h.1.1.1 p hp
  have htk : tkn σ (b + iN ((Zr σ p).getD r (0, 0, 0, 0)).2.1) = true := by
    rw [hwe, iN_nI (by omega)]
    exact tkn_iff.mpr ⟨p, hp, b, hb, by omega, by omega⟩
  unfold drF drG
  rw [hb]
  show Wg (if _ then _ else _ : Bool × Sg).2
  split
  · exact h.wd htk
  · split
    · exact h.wd htk
    · split
      · exact h.rs hp (by rw [hb]; simp) _
      · exact Wg.wd (h.rs hp (by rw [hb]; simp) _) (by rw [(rsF_sm σ p _).tkn]; exact htk)
theorem drF_zu {σ : Sg} {p r z : Nat} {lz : Bool} (hz : z ≠ p) : Zu (drF σ p r lz).2 z = Zu σ z := by
  have hrs : ∀ y, Zu (rsF σ p y).2 z = Zu σ z := fun y => by
    obtain ⟨v, e | ⟨q, e⟩⟩ := rsF_cases σ p y
    · rw [e]; rfl
    · rw [e]; exact va_up_ne _ _ hz
  unfold drF drG
  split
  · rfl
  · split
    · rfl
    · split
      · exact hrs _
      · exact hrs _
theorem Wg.rr (lz : Bool) {p b : Nat} (hp : p < 6) : ∀ (n r : Nat) (σ : Sg), Wg σ → Zb σ p = some b → n + r = (Zr σ p).length → Wg (rrF lz p n r σ).2 ∧ ∀ z, z ≠ p → Zu (rrF lz p n r σ).2 z = Zu σ z := by
  intro n
  induction n with
  | zero => intro r σ h _ _; exact ⟨h, fun z _ => rfl⟩
  | succ n ih =>
    intro r σ h hb hl
    have hd := h.dr hp hb (by omega : r < (Zr σ p).length) lz
    unfold rrF
    split
    · obtain ⟨i1, i2⟩ := ih (r + 1) (drF σ p r lz).2 hd (by rw [(drF_sm σ p r lz).zb]; exact hb) (by rw [(drF_sm σ p r lz).zr]; omega)
      exact ⟨i1, fun z hz => (i2 z hz).trans (drF_zu hz)⟩
    · exact ⟨hd, fun z hz => drF_zu hz⟩
theorem Wg.ra (lz : Bool) {nw : List Nat} : ∀ (l : List Nat) (σ : Sg), (∀ p ∈ l, p < 6) → Wg σ → (∀ p ∈ nw, ¬ Zb σ p = none) → Wg (raF lz nw l σ).2 ∧ ∀ z, z ∉ nw → Zu (raF lz nw l σ).2 z = Zu σ z := by
  intro l
  induction l with
  | nil => intro σ _ h _; exact ⟨h, fun z _ => rfl⟩
  | cons p t ih =>
    intro σ h6 h hL
    unfold raF
    by_cases hp : p ∈ nw
    · rw [if_pos hp]
      obtain ⟨b, hb⟩ : ∃ b, Zb σ p = some b := by
        cases hx : Zb σ p with
        | none => exact absurd hx (hL p hp)
        | some b => exact ⟨b, rfl⟩
      obtain ⟨r1, r2⟩ := Wg.rr lz (h6 p List.mem_cons_self) (Zr σ p).length 0 σ h hb rfl
      split
      · obtain ⟨i1, i2⟩ := ih _ (fun q hq => h6 q (List.mem_cons_of_mem _ hq)) r1 (fun q hq => by rw [(rrF_sm lz p _ _ σ).zb]; exact hL q hq)
        exact ⟨i1, fun z hz => (i2 z hz).trans (r2 z (fun e => hz (e ▸ hp)))⟩
      · exact ⟨r1, fun z hz => r2 z (fun e => hz (e ▸ hp))⟩
    · rw [if_neg hp]
      exact ih σ (fun q hq => h6 q (List.mem_cons_of_mem _ hq)) h hL
theorem ldF_W0 (l : List Nat) : ∀ (t : List Nat) (σ : Sg) (nw : List Nat), (∀ p ∈ t, p < 6) → W0 σ → W0 (ldF l t σ nw).2.1 := by
  intro t
  induction t with
  | nil => intro σ nw _ h; exact h
  | cons p t ih =>
    intro σ nw h6 h
    unfold ldF
    split
    · rename_i hb
      cases lb (tkn σ) (Zs σ p) with
      | none => exact h
      | some b => exact ih _ _ (fun q hq => h6 q (List.mem_cons_of_mem _ hq)) (h.load (h6 p List.mem_cons_self) hb)
    · exact ih _ _ (fun q hq => h6 q (List.mem_cons_of_mem _ hq)) h
theorem closF_min {nd : Nat → List Nat} {P : Nat → Prop} (hP : ∀ x, P x → ∀ q ∈ nd x, P q) : ∀ (n k : Nat) (l : List Nat), (∀ x ∈ l, P x) → ∀ x ∈ closF nd n k l, P x := by
  intro n
  induction n with
  | zero => intro k l h; exact h
  | succ n ih =>
    intro k l h
    unfold closF
    split
    · rename_i hk
      apply ih
      have hg : l.getD k 0 ∈ l := by
        rw [List.getD_eq_getElem?_getD, List.getElem?_eq_getElem hk.2]
        exact List.getElem_mem hk.2
      have hfold : ∀ (m g : List Nat), (∀ x ∈ m, P x) → (∀ x ∈ g, P x) → ∀ x ∈ m.foldl rput g, P x := by
        intro m
        induction m with
        | nil => intro g _ hg; exact hg
        | cons a m ihm =>
          intro g hm hg
          apply ihm
          · exact fun x hx => hm x (List.mem_cons_of_mem _ hx)
          · intro x hx
            unfold rput at hx
            split at hx
            · rcases List.mem_append.mp hx with hx | hx
              · exact hg x hx
              · rw [List.mem_singleton] at hx; rw [hx]; exact hm a List.mem_cons_self
            · exact hg x hx
      exact hfold _ _ (fun x hx => hP _ (h _ hg) x hx) h
    · exact h
theorem clos_min {nd : Nat → List Nat} {P : Nat → Prop} (hP : ∀ x, P x → ∀ q ∈ nd x, P q) {o : Nat} (ho : P o) : ∀ x ∈ clos nd o, P x := closF_min hP 7 0 [o] (fun x hx => by rw [List.mem_singleton] at hx; rw [hx]; exact ho)
theorem dfL_vis {nd : Nat → List Nat} {f : Nat} (ih : ∀ q (x : List Nat × List Nat), q ∈ x.1 → x.1.length ≤ f + 1 → (∀ z ∈ x.1, z ∉ (dfF nd f q x).1 → ∀ w ∈ nd z, w ∉ (dfF nd f q x).1) ∧ q ∉ (dfF nd f q x).1 ∧ (∀ z ∈ x.1, z ∈ (dfF nd f q x).1 ∨ z ∈ (dfF nd f q x).2) ∧ (∀ z ∈ x.2, z ∈ (dfF nd f q x).2)) : ∀ (l : List Nat) (y : List Nat × List Nat), y.1.length ≤ f + 1 → (∀ z ∈ y.1, z ∉ (dfL nd f l y).1 → ∀ w ∈ nd z, w ∉ (dfL nd f l y).1) ∧ (∀ w ∈ l, w ∉ (dfL nd f l y).1) ∧ (∀ z ∈ y.1, z ∈ (dfL nd f l y).1 ∨ z ∈ (dfL nd f l y).2) ∧ (∀ z ∈ y.2, z ∈ (dfL nd f l y).2) := by
  intro l
  induction l with
  | nil => intro y _; exact ⟨fun z hz hn => absurd hz hn, fun w hw => (by cases hw), fun z hz => Or.inl hz, fun z hz => hz⟩
  | cons q l ihl =>
    intro y hy
    rw [dfL_c]
    by_cases hq : q ∈ y.1
    · rw [if_pos hq]
      obtain ⟨a1, a2, a3, a4⟩ := ih q y hq hy
      obtain ⟨s1, s2, s3, s4⟩ := dfF_sub nd f q y hq
      obtain ⟨b1, b2, b3, b4⟩ := ihl (dfF nd f q y) (Nat.le_trans s2 hy)
      obtain ⟨t1, _⟩ := dfL_sub (dfF_sub nd f) l (dfF nd f q y)
      refine ⟨fun z hz hn w hw => ?_, fun w hw => ?_, fun z hz => ?_, fun z hz => b4 z (a4 z hz)⟩
      · by_cases hz2 : z ∈ (dfF nd f q y).1
        · exact b1 z hz2 hn w hw
        · exact fun g => a1 z hz hz2 w hw (t1 w g)
      · rcases List.mem_cons.mp hw with rfl | hw
        · exact fun g => a2 (t1 w g)
        · exact b2 w hw
      · rcases a3 z hz with g | g
        · exact b3 z g
        · exact Or.inr (b4 z g)
    · rw [if_neg hq]
      obtain ⟨b1, b2, b3, b4⟩ := ihl y hy
      obtain ⟨t1, _⟩ := dfL_sub (dfF_sub nd f) l y
      refine ⟨b1, fun w hw => ?_, b3, b4⟩
      rcases List.mem_cons.mp hw with rfl | hw
      · exact fun g => hq (t1 w g)
      · exact b2 w hw
theorem dfF_vis (nd : Nat → List Nat) : ∀ (f q : Nat) (x : List Nat × List Nat), q ∈ x.1 → x.1.length ≤ f + 1 → (∀ z ∈ x.1, z ∉ (dfF nd f q x).1 → ∀ w ∈ nd z, w ∉ (dfF nd f q x).1) ∧ q ∉ (dfF nd f q x).1 ∧ (∀ z ∈ x.1, z ∈ (dfF nd f q x).1 ∨ z ∈ (dfF nd f q x).2) ∧ (∀ z ∈ x.2, z ∈ (dfF nd f q x).2) := by
  have hq9 : ∀ (q : Nat) (l : List Nat), q ∉ l.filter (fun z => decide (z ≠ q)) := fun q l h => by have := (List.mem_filter.mp h).2; simp at this
  intro f
  induction f with
  | zero =>
    intro q x hq hx
    have h0 : x.1.filter (fun z => decide (z ≠ q)) = [] := List.eq_nil_of_length_eq_zero (by have := filt_lt hq; omega)
    refine ⟨fun z hz hn w hw => ?_, hq9 q x.1, fun z hz => ?_, fun z hz => List.mem_append.mpr (Or.inl hz)⟩
    · show w ∉ x.1.filter (fun z => decide (z ≠ q))
      rw [h0]; simp
    · by_cases e : z = q
      · right
        show z ∈ x.2 ++ [q]
        rw [e]; simp
      · left
        exact List.mem_filter.mpr ⟨hz, by simp [e]⟩
  | succ f ih =>
    intro q x hq hx
    rw [dfF_s]
    have hlt := filt_lt hq
    obtain ⟨b1, b2, b3, b4⟩ := dfL_vis ih (nd q) (x.1.filter (fun z => decide (z ≠ q)), x.2) (by show (x.1.filter (fun z => decide (z ≠ q))).length ≤ f + 1; omega)
    obtain ⟨t1, _⟩ := dfL_sub (dfF_sub nd f) (nd q) (x.1.filter (fun z => decide (z ≠ q)), x.2)
    refine ⟨fun z hz hn w hw => ?_, fun g => hq9 q x.1 (t1 q g), fun z hz => ?_, fun z hz => List.mem_append.mpr (Or.inl (b4 z hz))⟩
    · by_cases e : z = q
      · rw [e] at hw; exact b2 w hw
      · exact b1 z (List.mem_filter.mpr ⟨hz, by simp [e]⟩) hn w hw
    · by_cases e : z = q
      · right
        rw [e]; exact List.mem_append.mpr (Or.inr (List.mem_singleton.mpr rfl))
      · exact (b3 z (List.mem_filter.mpr ⟨hz, by simp [e]⟩)).imp id (fun g => List.mem_append.mpr (Or.inl g))
