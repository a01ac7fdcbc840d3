theorem nd_len : ∀ (n : Nat) (l : List Nat), l.Nodup → (∀ x ∈ l, x < n) → l.length ≤ n := by
  intro n
  induction n with
  | zero =>
    intro l _ h
    cases l with
    | nil => exact Nat.le_refl _
    | cons a t => exact absurd (h a List.mem_cons_self) (by omega)
  | succ n ih =>
    intro l hn h
    have h1 := ih (l.erase n) (hn.erase n) (fun x hx => by
      have hx2 := (hn.mem_erase_iff).mp hx
      have := h x hx2.2
      have := hx2.1
      omega)
    have h2 : (l.erase n).length = if n ∈ l then l.length - 1 else l.length := List.length_erase
    split at h2 <;> omega
theorem full_mem {l : List Nat} (hn : l.Nodup) (h : ∀ x ∈ l, x < 6) (hl : ¬ l.length < 6) {p : Nat} (hp : p < 6) : p ∈ l := by
  refine Classical.byContradiction (fun hm => ?_)
  have := nd_len 6 (p :: l) (List.nodup_cons.mpr ⟨hm, hn⟩) (fun x hx => by
    rcases List.mem_cons.mp hx with rfl | hx
    · exact hp
    · exact h x hx)
  simp only [List.length_cons] at this
  omega
/-- a row of objects, each at most once -/
def Rw6 (l : List Nat) : Prop := l.Nodup ∧ ∀ x ∈ l, x < 6
theorem Rw6.len {l : List Nat} (h : Rw6 l) : l.length ≤ 6 := nd_len 6 l h.1 h.2
theorem rput_eq {l : List Nat} (h : Rw6 l) {p : Nat} (hp : p < 6) : rput l p = if p ∈ l then l else l ++ [p] := by
  unfold rput
  by_cases hm : p ∈ l
  · rw [if_neg (fun h => h.2 hm), if_pos hm]
  · rw [if_neg hm, if_pos]
    refine ⟨Classical.byContradiction (fun hl => hm (full_mem h.1 h.2 hl hp)), hm⟩
theorem Rw6.put {l : List Nat} (h : Rw6 l) {p : Nat} (hp : p < 6) : Rw6 (rput l p) := by
  rw [rput_eq h hp]
  split
  · exact h
  · rename_i hm
    refine ⟨?_, fun x hx => ?_⟩
    · rw [List.nodup_append]
      exact ⟨h.1, by simp, fun a ha b hb => by rw [List.mem_singleton] at hb; subst hb; exact fun e => hm (e ▸ ha)⟩
    · rcases List.mem_append.mp hx with hx | hx
      · exact h.2 x hx
      · rw [List.mem_singleton] at hx; omega
theorem mem_rput {l : List Nat} (h : Rw6 l) {p : Nat} (hp : p < 6) (x : Nat) : x ∈ rput l p ↔ x ∈ l ∨ x = p := by
  rw [rput_eq h hp]
  split
  · rename_i hm
    exact ⟨Or.inl, fun h => h.elim id (fun e => e ▸ hm)⟩
  · simp
theorem rput_pre (l : List Nat) (p : Nat) : ∃ t, rput l p = l ++ t := by
  unfold rput
  split
  · exact ⟨_, rfl⟩
  · exact ⟨[], by simp⟩
theorem fold_pre (m : List Nat) : ∀ l : List Nat, ∃ t, m.foldl rput l = l ++ t := by
  induction m with
  | nil => intro l; exact ⟨[], by simp⟩
  | cons a m ih =>
    intro l
    obtain ⟨t1, e1⟩ := rput_pre l a
    obtain ⟨t2, e2⟩ := ih (rput l a)
    exact ⟨t1 ++ t2, by rw [List.foldl_cons, e2, e1, List.append_assoc]⟩
theorem fold_facts (m : List Nat) : ∀ l : List Nat, Rw6 l → (∀ q ∈ m, q < 6) → Rw6 (m.foldl rput l) ∧ ∀ x, x ∈ m.foldl rput l ↔ x ∈ l ∨ x ∈ m := by
  induction m with
  | nil => intro l h _; exact ⟨h, fun x => by simp⟩
  | cons a m ih =>
    intro l h hm
    have ha := hm a List.mem_cons_self
    obtain ⟨h1, h2⟩ := ih (rput l a) (h.put ha) (fun q hq => hm q (List.mem_cons_of_mem _ hq))
    refine ⟨h1, fun x => ?_⟩
    rw [List.foldl_cons, h2, mem_rput h ha, List.mem_cons, or_assoc]
theorem closF_facts {nd : Nat → List Nat} (hnd : ∀ p, p < 6 → ∀ q ∈ nd p, q < 6) : ∀ (n k : Nat) (l : List Nat), Rw6 l → 6 - k < n → k ≤ l.length → (∀ j q, j < k → l[j]? = some q → ∀ z ∈ nd q, z ∈ l) →
    Rw6 (closF nd n k l) ∧ (∀ x ∈ l, x ∈ closF nd n k l) ∧ ∀ x ∈ closF nd n k l, ∀ z ∈ nd x, z ∈ closF nd n k l := by
  intro n
  induction n with
  | zero => intro k l _ h; omega
  | succ n ih =>
    intro k l hl hn hk hc
    have hl6 := hl.len
    unfold closF
    split
    · rename_i hkk
      have hg : l[k]? = some (l.getD k 0) := by rw [List.getD_eq_getElem?_getD, List.getElem?_eq_getElem hkk.2]; rfl
      have hgm : l.getD k 0 ∈ l := List.mem_of_getElem? hg
      have hg6 := hl.2 _ hgm
      obtain ⟨f1, f2⟩ := fold_facts (nd (l.getD k 0)) l hl (hnd _ hg6)
      obtain ⟨t, et⟩ := fold_pre (nd (l.getD k 0)) l
      obtain ⟨i1, i2, i3⟩ := ih (k + 1) ((nd (l.getD k 0)).foldl rput l) f1 (by omega) (by rw [et, List.length_append]; omega) (fun j q hj hq z hz => by
        rw [et, List.getElem?_append_left (by omega)] at hq
        rw [f2]
        by_cases hjk : j = k
        · subst hjk
          rw [hg] at hq
          cases hq
          exact Or.inr hz
        · exact Or.inl (hc j q (by omega) hq z hz))
      exact ⟨i1, fun x hx => i2 x ((f2 x).mpr (Or.inl hx)), i3⟩
    · rename_i hkk
      refine ⟨hl, fun x hx => hx, fun x hx z hz => ?_⟩
      obtain ⟨j, hj⟩ := List.getElem?_of_mem hx
      exact hc j x (by have := (List.getElem?_eq_some_iff.mp hj).1; omega) hj z hz
theorem clos_facts {nd : Nat → List Nat} (hnd : ∀ p, p < 6 → ∀ q ∈ nd p, q < 6) {o : Nat} (ho : o < 6) : Rw6 (clos nd o) ∧ o ∈ clos nd o ∧ ∀ x ∈ clos nd o, ∀ z ∈ nd x, z ∈ clos nd o := by
  obtain ⟨h1, h2, h3⟩ := closF_facts hnd 7 0 [o] ⟨by simp, fun x hx => by rw [List.mem_singleton] at hx; omega⟩ (by omega) (by omega) (fun j q hj => by omega)
  exact ⟨h1, h2 o List.mem_cons_self, h3⟩
/-- all but bases and groups is as it was -/
def Sl (σ σ' : Sg) : Prop := ∃ zb zg, σ' = (Zs σ, Zn σ, Zy σ, Zr σ, zb, zg, σ.2.2.2.2.2.2)
theorem Sl.refl (σ : Sg) : Sl σ σ := ⟨Zb σ, Zg σ, rfl⟩
theorem Sl.trans {σ σ1 σ2 : Sg} (h1 : Sl σ σ1) (h2 : Sl σ1 σ2) : Sl σ σ2 := by
  obtain ⟨u, w, rfl⟩ := h1
  obtain ⟨u2, w2, rfl⟩ := h2
  exact ⟨u2, w2, rfl⟩
theorem ldF_facts (l : List Nat) : ∀ (t : List Nat) (σ : Sg) (nw : List Nat), (∀ p ∈ t, p < 6) → Wm σ → (∀ p ∈ t, 1 ≤ Zs σ p) → Rw6 nw → (∀ p ∈ nw, ¬ Zb σ p = none) →
    Wm (ldF l t σ nw).2.1 ∧ Rw6 (ldF l t σ nw).2.2 ∧ (∀ p ∈ (ldF l t σ nw).2.2, ¬ Zb (ldF l t σ nw).2.1 p = none) ∧ Sl σ (ldF l t σ nw).2.1 ∧
    (∀ p, (p ∈ (ldF l t σ nw).2.2 → p ∈ nw ∨ p ∈ t ∧ Zb σ p = none) ∧ (p ∈ nw → p ∈ (ldF l t σ nw).2.2)) ∧
    (∀ p, p ∉ (ldF l t σ nw).2.2 ∨ ¬ Zb σ p = none → Zb (ldF l t σ nw).2.1 p = Zb σ p ∧ Zg (ldF l t σ nw).2.1 p = Zg σ p) ∧
    (∀ p, p ∈ (ldF l t σ nw).2.2 → Zb σ p = none → Zg (ldF l t σ nw).2.1 p = l) ∧
    ((ldF l t σ nw).1 = true → ∀ p ∈ t, ¬ Zb (ldF l t σ nw).2.1 p = none) := by
  intro t
  induction t with
  | nil => intro σ nw _ hW _ hnw hL; exact ⟨hW, hnw, hL, Sl.refl σ, fun p => ⟨Or.inl, id⟩, fun p _ => ⟨rfl, rfl⟩, fun p hp hb => absurd hb (hL p hp), fun _ p hp => by cases hp⟩
  | cons p t ih =>
    intro σ nw h6 hW hz hnw hL
    have hp := h6 p List.mem_cons_self
    unfold ldF
    by_cases hb : Zb σ p = none
    · rw [if_pos hb]
      cases hlb : lb (tkn σ) (Zs σ p) with
      | none => exact ⟨hW, hnw, hL, Sl.refl σ, fun p => ⟨Or.inl, id⟩, fun p _ => ⟨rfl, rfl⟩, fun p hp hb => absurd hb (hL p hp), fun h => by cases h⟩
      | some b =>
        have hup : ∀ q, q ≠ p → Zb (zLoad σ p b l) q = Zb σ q := fun q hq => va_up_ne _ _ hq
        have hgp : ∀ q, q ≠ p → Zg (zLoad σ p b l) q = Zg σ q := fun q hq => va_up_ne _ _ hq
        have hus : Zb (zLoad σ p b l) p = some b := va_up_self _ _ _
        have hgs : Zg (zLoad σ p b l) p = l := va_up_self _ _ _
        have hpn : p ∉ nw := fun hm => hL p hm hb
        obtain ⟨i1, i2, i3, i4, i5, i6, i7, i8⟩ := ih (zLoad σ p b l) (nw ++ [p]) (fun q hq => h6 q (List.mem_cons_of_mem _ hq)) (hW.load hp hb (hz p List.mem_cons_self) (lb_fr hlb)) (fun q hq => hz q (List.mem_cons_of_mem _ hq)) ⟨by
            rw [List.nodup_append]
            exact ⟨hnw.1, by simp, fun a ha b hb => by rw [List.mem_singleton] at hb; subst hb; exact fun e => hpn (e ▸ ha)⟩, fun x hx => by
            rcases List.mem_append.mp hx with hx | hx
            · exact hnw.2 x hx
            · rw [List.mem_singleton] at hx; omega⟩ (fun q hq => by
          by_cases hqp : q = p
          · rw [hqp, hus]; simp
          · rw [hup q hqp]
            rcases List.mem_append.mp hq with hq | hq
            · exact hL q hq
            · exact absurd (List.mem_singleton.mp hq) hqp)
        have hpm := (i5 p).2 (List.mem_append.mpr (Or.inr (List.mem_singleton.mpr rfl)))
        refine ⟨i1, i2, i3, Sl.trans ⟨_, _, rfl⟩ i4, fun q => ⟨fun hq => ?_, fun hq => (i5 q).2 (List.mem_append.mpr (Or.inl hq))⟩, fun q hq => ?_, fun q hq hqb => ?_, fun hok q hq => ?_⟩
        · rcases (i5 q).1 hq with h | ⟨h1, h2⟩
          · rcases List.mem_append.mp h with h | h
            · exact Or.inl h
            · rw [List.mem_singleton] at h
              exact Or.inr ⟨h ▸ List.mem_cons_self, h ▸ hb⟩
          · by_cases hqp : q = p
            · exact Or.inr ⟨hqp ▸ List.mem_cons_self, hqp ▸ hb⟩
            · rw [hup q hqp] at h2
              exact Or.inr ⟨List.mem_cons_of_mem _ h1, h2⟩
        · have hqp : q ≠ p := fun e => by
            subst e
            exact hq.elim (fun h => h hpm) (fun h => h hb)
          have := i6 q (hq.elim Or.inl (fun h => Or.inr (by rw [hup q hqp]; exact h)))
          rw [hup q hqp, hgp q hqp] at this
          exact this
        · by_cases hqp : q = p
          · subst hqp
            rw [(i6 q (Or.inr (by rw [hus]; simp))).2, hgs]
          · exact i7 q hq (by rw [hup q hqp]; exact hqb)
        · rcases List.mem_cons.mp hq with rfl | hq
          · exact i3 q hpm
          · exact i8 hok q hq
    · rw [if_neg hb]
      obtain ⟨i1, i2, i3, i4, i5, i6, i7, i8⟩ := ih σ nw (fun q hq => h6 q (List.mem_cons_of_mem _ hq)) hW (fun q hq => hz q (List.mem_cons_of_mem _ hq)) hnw hL
      refine ⟨i1, i2, i3, i4, fun q => ⟨fun hq => ((i5 q).1 hq).imp id (fun h => ⟨List.mem_cons_of_mem _ h.1, h.2⟩), (i5 q).2⟩, i6, i7, fun hok q hq => ?_⟩
      rcases List.mem_cons.mp hq with rfl | hq
      · rw [(i6 q (Or.inr hb)).1]; exact hb
      · exact i8 hok q hq
def zGl (σ : Sg) (g : List Nat) : Sg := (Zs σ, Zn σ, Zy σ, Zr σ, Zb σ, Zg σ, Zu σ, Zo σ, Zw σ, g, Bg σ, Ev σ, Sp σ)
theorem CS_gl {M M' : Nat → Nat → Int32} {σ : Sg} {g : List Nat} (hC : CS M σ) (hO : OffRow M M' 7) (hR : RowIs M' 7 g) : CS M' (zGl σ g) := by
  obtain ⟨c1, c2, c3, c4, c5, ⟨l0, c6⟩, c7⟩ := hC
  exact ⟨fun q hq => (c1 q hq).eqs (fun k i a b => hO _ _ (by omega) (by omega)) rfl rfl rfl rfl rfl rfl rfl rfl, c2.eqs (fun i => hO _ _ (by omega) (by omega)) (fun i => hO _ _ (by omega) (by omega)) rfl rfl rfl, c3.eqs (fun i => hO _ _ (by omega) (by omega)) (fun i => hO _ _ (by omega) (by omega)), hR, c5.eqs (fun i => hO _ _ (by omega) (by omega)) (fun i => hO _ _ (by omega) (by omega)), ⟨l0, c6.eqs (fun i => hO _ _ (by omega) (by omega)) (fun i => hO _ _ (by omega) (by omega))⟩, by rw [hO _ _ (by omega) (by omega)]; exact c7⟩
/-- opening: the closure is loaded, made global, relocated, begun -/
noncomputable def opL (σ : Sg) (o : Nat) : Bool × Sg × List Nat := ldF (clos (Zn σ) o) (clos (Zn σ) o) σ []
noncomputable def opG (σ : Sg) (o : Nat) (gl : Bool) : Sg := if gl = true then zGl (opL σ o).2.1 ((clos (Zn σ) o).foldl rput (Gl (opL σ o).2.1)) else (opL σ o).2.1
noncomputable def opR (σ : Sg) (o : Nat) (lz gl : Bool) : Bool × Sg := raF lz (opL σ o).2.2 (clos (Zn σ) o) (opG σ o gl)
noncomputable def opB (σ : Sg) (o : Nat) (lz gl : Bool) : Sg := if o ∈ (opL σ o).2.2 then zBn (opR σ o lz gl).2 (dfF (Zn σ) 5 o ((opL σ o).2.2, [])).2 else (opR σ o lz gl).2
noncomputable def spOpen (σ : Sg) (a : Int32) (lz gl : Bool) : jr × Sg := if oN a then (.inr 0, σ) else if ∃ p ∈ clos (Zn σ) (iN a), Zs σ p = 0 then (.inr 2, σ) else if (opL σ (iN a)).1 = false then (.inr 2, toF (opL σ (iN a)).2.2 6 0 (opL σ (iN a)).2.1) else if (opR σ (iN a) lz gl).1 = false then (.inr 3, toF (opL σ (iN a)).2.2 6 0 (zGl (opR σ (iN a) lz gl).2 ((Gl (opR σ (iN a) lz gl).2).take (Gl σ).length))) else (rI (nI (cnt6 (opL σ (iN a)).2.2)), zOp (opB σ (iN a) lz gl) (iN a) (Zo σ (iN a) + 1))
def spClose (σ : Sg) (a : Int32) : jr × Sg := if oN a then (.inr 0, σ) else if Zo σ (iN a) = 0 then (.inr 2, σ) else (rI (nI ((Bg σ).reverse.filter (fun p => !kpF (zOp σ (iN a) (Zo σ (iN a) - 1)) 5 p)).length), enF (kpF (zOp σ (iN a) (Zo σ (iN a) - 1)) 5) (Bg σ).reverse (zOp σ (iN a) (Zo σ (iN a) - 1)))
theorem Sl.wm_zs {σ σ' : Sg} (h : Sl σ σ') : Zs σ' = Zs σ ∧ Zn σ' = Zn σ ∧ Gl σ' = Gl σ ∧ Ev σ' = Ev σ ∧ Zo σ' = Zo σ ∧ Bg σ' = Bg σ := by obtain ⟨u, w, rfl⟩ := h; exact ⟨rfl, rfl, rfl, rfl, rfl, rfl⟩
theorem Sm.eqs {σ σ' : Sg} (h : Sm σ σ') : Zs σ' = Zs σ ∧ Zn σ' = Zn σ ∧ Gl σ' = Gl σ ∧ Ev σ' = Ev σ ∧ Zo σ' = Zo σ ∧ Bg σ' = Bg σ := by obtain ⟨u, w, s, rfl⟩ := h; exact ⟨rfl, rfl, rfl, rfl, rfl, rfl⟩
theorem nI_pred1 {n : Nat} (h : ¬ n = 0) : nI n - 1 = nI (n - 1) := by
  obtain ⟨m, rfl⟩ := Nat.exists_eq_succ_of_ne_zero h
  have h1 := nI_1 m
  show nI (m + 1) - 1 = nI m
  rw [← h1, Int32.add_sub_cancel]
set_option maxRecDepth 100000 in
set_option maxHeartbeats 4000000 in
theorem k_close {ω : jw} {d : Nat} {M : Nat → Nat → Int32} {J sl : Nat} {Q : jr → jh → Prop} {σ : Sg} (hC : CS M σ) (hW : Wm σ) (hJ : J < 1000) (hsl : sl < 1000000) (hZo : ∀ p, p < 6 → Zo σ p < 2 ^ 30) (hnd : (Bg σ).Nodup) (hL : ∀ p ∈ Bg σ, ¬ Zb σ p = none) (hE : (Ev σ).length + 6 < 2 ^ 30) (a : Int32) (hq : CP ω J sl M Q (spClose σ a)) : jwp ω (d + 4) mBO_close [.ref (jN ω + 0), .int a] (jst ω M J sl) Q := by
  refine jwp_of (by simp [Value.category]) (Nat.le_of_ble_eq_true rfl) (ls := [some (.ref (jN ω + 0)), some (.int a)]) rfl ?_
  refine jj_il1 dBO_close_0 ?_
  refine ms1 dBO_close_1 csBO_50 (Nat.le_of_ble_eq_true rfl) ?_
  refine c_checkObject a hJ hsl (fun n hn he => jk_v ?_) (fun hno => jk_x rfl (by rw [spClose, if_pos hno] at hq; exact hq M hC (Cl.refl M)))
  subst he
  rw [spClose, if_neg (isObj_no hn), iN6 hn] at hq
  refine jj_al0 dBO_close_4 ?_
  refine mr_get _ dBO_close_5 clBO lkBO_11 (s0 _) rfl ?_
  refine jj_il1 dBO_close_8 ?_
  refine mr_aald dBO_close_9 (hn) ?_
  refine mr_get _ dBO_close_10 clLk lkBO_152 (sL0 hn _) rfl ?_
  rw [(hC.1 n hn).2.2.1]
  refine jj_if_ne 24 dBO_close_13 (by decide) (fun q1 => ?_) (fun q1 => ?_)
  · have hz : ¬ Zo σ n = 0 := fun h => q1 (by rw [h]; rfl)
    rw [if_neg hz] at hq
    refine jj_al0 dBO_close_24 ?_
    refine mr_get _ dBO_close_25 clBO lkBO_11 (s0 _) rfl ?_
    refine jj_il1 dBO_close_28 ?_
    refine mr_aald dBO_close_29 (hn) ?_
    refine jj_dup dBO_close_30 rfl ?_
    refine mr_get _ dBO_close_31 clLk lkBO_152 (sL0 hn _) rfl ?_
    rw [(hC.1 n hn).2.2.1]
    refine jj_iconst 1 dBO_close_34 (by decide) ?_
    refine jj_isub dBO_close_35 ?_
    refine mr_put dBO_close_36 clLk lkBO_152 rfl rfl (sL0 hn _) (sL0 hn _) (Nat.le_of_ble_eq_true rfl) rfl ?_
    refine jj_al0 dBO_close_39 ?_
    refine jj_al0 dBO_close_40 ?_
    refine mv0 dBO_close_41 clBO cvBO_155 (s0 _) (Nat.le_of_ble_eq_true rfl) ?_
    have hC1 : CS (mup M (13 + 15 * n) 6 (nI (Zo σ n) - 1)) (zOp σ n (Zo σ n - 1)) := CS_op hC hn (fun k i a => mup_ne _ _ a) (by rw [mup_at]; exact nI_pred1 hz)
    refine jwp_ups 1 (c_keptOnes hC1 (fun p hp => by
      show va_up (Zo σ) n (Zo σ n - 1) p < 2 ^ 31
      by_cases hpn : p = n
      · rw [hpn, va_up_self]; have := hZo n hn; omega
      · rw [va_up_ne _ _ hpn]; have := hZo p hp; omega) (fun v hv => jk_i ?_))
    refine mv1 dBO_close_44 clBO cvBO_159 (s0 _) (Nat.le_of_ble_eq_true rfl) ?_
    refine jwp_ups 1 (c_endAllBut hv hC1 hW hnd hL hE (fun M2 hC2 hCl2 => jk_i ?_))
    exact jj_iret dBO_close_47 rfl rfl (hq M2 hC2 (Cl.trans (fun k i h => mup_ne _ _ (Or.inl (by omega))) hCl2))
  · exact mr_throw 2 dBO_close_16 dBO_close_19 dBO_close_20 dBO_close_23 rfl thBO_61 (Nat.le_of_ble_eq_true rfl) hJ hsl (by rw [if_pos ((nI_eq (by have := hZo n hn; omega) (by decide)).mp (q1.trans nI_0.symm))] at hq; exact hq M hC (Cl.refl M))
set_option maxRecDepth 100000 in
set_option maxHeartbeats 4000000 in
theorem k_open {ω : jw} {d : Nat} {M : Nat → Nat → Int32} {J sl : Nat} {Q : jr → jh → Prop} {σ : Sg} (hC : CS M σ) (hW : Wm σ) (hJ : J < 1000) (hsl : sl < 1000000) (hZo : ∀ p, p < 6 → Zo σ p < 2 ^ 30) (hE : (Ev σ).length + 6 < 2 ^ 30) (a : Int32) (lz gl : Bool) (hq : CP ω J sl M Q (spOpen σ a lz gl)) : jwp ω (d + 13) mBO_open [.ref (jN ω + 0), .int a, .int (b2i lz), .int (b2i gl)] (jst ω M J sl) Q := by
  refine jwp_of (by simp [Value.category]) (Nat.le_of_ble_eq_true rfl) (ls := [some (.ref (jN ω + 0)), some (.int a), some (.int (b2i lz)), some (.int (b2i gl)), none, none]) rfl ?_
  refine jj_il1 dBO_open_0 ?_
  refine ms1 dBO_open_1 csBO_50 (Nat.le_of_ble_eq_true rfl) ?_
  refine jwp_ups 11 (c_checkObject a hJ hsl (fun n hn he => jk_v ?_) (fun hno => jk_x rfl (by rw [spOpen, if_pos hno] at hq; exact hq M hC (Cl.refl M))))
  subst he
  rw [spOpen, if_neg (isObj_no hn), iN6 hn] at hq
  have hnd : ∀ p, p < 6 → ∀ q ∈ Zn σ p, q < 6 := fun p hp => (hC.1 p hp).2.2.2.2.1.2.2.1
  obtain ⟨hl, hol, hlc⟩ := clos_facts hnd hn
  refine jj_al0 dBO_open_4 ?_
  refine jj_il1 dBO_open_5 ?_
  refine mv1 dBO_open_6 clBO cvBO_112 (s0 _) (Nat.le_of_ble_eq_true rfl) ?_
  obtain ⟨l0, hl0⟩ := hC.2.2.2.2.2.1
  refine jwp_ups 9 (c_fillClosure (Zn σ) (fun p hp => (hC.1 p hp).2.2.2.2.1) hl0 hn (fun M1 hO1 hR1 => jk_v ?_))
  have hC1 := CS_11 hC hO1 hR1
  have hCl1 : Cl M M1 := fun k i h => hO1 _ _ (by omega) (by omega)
  refine jj_al0 dBO_open_9 ?_
  refine mv0 dBO_open_10 clBO cvBO_115 (s0 _) (Nat.le_of_ble_eq_true rfl) ?_
  refine jwp_ups 12 (c_closureHasImages (d := d) (Zs σ) (fun p hp => ⟨(hC1.1 p hp).1, by have := hW.1 p hp; omega⟩) hR1 (fun hall => jk_i ?_) (fun hex => jk_i ?_))
  · refine jj_if_ne 24 dBO_open_13 (by decide) (fun _ => ?_) (fun h => absurd h (by decide))
    refine jj_al0 dBO_open_24 ?_
    refine mv0 dBO_open_25 clBO cvBO_118 (s0 _) (Nat.le_of_ble_eq_true rfl) ?_
    rw [if_neg (fun h => by obtain ⟨p, h1, h2⟩ := h; exact hall p h1 h2)] at hq
    have hz : ∀ p ∈ clos (Zn σ) n, 1 ≤ Zs σ p := fun p hp => by have := hall p hp; omega
    refine jwp_ups 8 (c_loadClosure hl.1 hC1 hW hR1 hz (fun M2 hC2 hR2 hN2 hCl2 => jk_i ?_))
    obtain ⟨i1, i2, i3, i4, i5, i6, i7, i8⟩ := ldF_facts (clos (Zn σ) n) (clos (Zn σ) n) σ [] hl.2 hW hz ⟨by simp, by simp⟩ (by simp)
    have hCl2 := hCl1.trans hCl2
    refine jj_if_ne 43 dBO_open_28 (by decide) (fun q1 => ?_) (fun q1 => ?_)
    · have hok := b2i_t q1
      rw [if_neg (by rw [show (opL σ n).1 = true from hok]; decide)] at hq
      refine jj_al0 dBO_open_43 ?_
      refine mr_get _ dBO_open_44 clBO lkBO_32 (s0 _) rfl ?_
      refine mr_get _ dBO_open_47 clRw lkBO_74 (s7 _) rfl ?_
      rw [hC2.2.2.2.1.1, show (Gl (ldF (clos (Zn σ) n) (clos (Zn σ) n) σ []).2.1) = Gl σ from i4.wm_zs.2.2.1]
      refine jj_is4 dBO_open_50 ?_
      refine jj_il3 dBO_open_52 ?_
      refine jj_if_eq 67 dBO_open_53 (by decide) (fun q2 => ?_) (fun q2 => ?_)
      · have hgl := b2i_f q2
        have hG : opG σ n gl = (opL σ n).2.1 := by unfold opG; rw [if_neg (by rw [hgl]; decide)]
        have hCG : CS M2 (opG σ n gl) := by rw [hG]; exact hC2
        have hWG : Wm (opG σ n gl) := by rw [hG]; exact i1
        have hLG : ∀ p ∈ (opL σ n).2.2, ¬ Zb (opG σ n gl) p = none := by rw [hG]; exact i3
        have hEG : Ev (opG σ n gl) = Ev σ ∧ Zo (opG σ n gl) = Zo σ := by rw [hG]; exact ⟨i4.wm_zs.2.2.2.1, i4.wm_zs.2.2.2.2.1⟩
        have hRG := hR2
        have hNG := hN2
        have hClG := hCl2
        refine jj_al0 dBO_open_67 ?_
        refine jj_il2 dBO_open_68 ?_
        refine mv1 dBO_open_69 clBO cvBO_128 (s0 _) (Nat.le_of_ble_eq_true rfl) ?_
        refine jwp_ups 7 (c_relocateNewcomers lz hCG hWG hRG hNG hLG (fun M4 hC4 hK4 => jk_i ?_))
        have hS4 := raF_sm lz (opL σ n).2.2 (clos (Zn σ) n) (opG σ n gl)
        have hW4 : Wm (opR σ n lz gl).2 := hS4.wm hWG
        have hL4 : ∀ p ∈ (opL σ n).2.2, ¬ Zb (opR σ n lz gl).2 p = none := fun p hp => by
          show ¬ Zb (raF lz (opL σ n).2.2 (clos (Zn σ) n) (opG σ n gl)).2 p = none
          rw [hS4.zb]; exact hLG p hp
        have hN4 : NwIs M4 (opL σ n).2.2 := hK4.nw hNG
        have hCl4 : Cl M M4 := hClG.trans hK4.1
        have hEv4 : Ev (opR σ n lz gl).2 = Ev σ := hS4.eqs.2.2.2.1.trans hEG.1
        have hZo4 : Zo (opR σ n lz gl).2 = Zo σ := hS4.eqs.2.2.2.2.1.trans hEG.2
        have hC4 : CS M4 (opR σ n lz gl).2 := hC4
        have hgl6 := hC.2.2.2.1.2.1
        refine jj_if_ne 96 dBO_open_72 (by decide) (fun q3 => ?_) (fun q3 => ?_)
        · rw [if_neg (by rw [show (opR σ n lz gl).1 = true from b2i_t q3]; decide)] at hq
          refine jj_al0 dBO_open_96 ?_
          refine mr_get _ dBO_open_97 clBO lkBO_42 (s0 _) rfl ?_
          refine ms1 dBO_open_100 csBO_138 (Nat.le_of_ble_eq_true rfl) ?_
          refine jwp_ups 12 (c_bitCount (d := d) _ (jk_i ?_))
          rw [bc_cnt hN4 i2.2]
          refine jj_is5 dBO_open_103 ?_
          refine jj_al0 dBO_open_105 ?_
          refine mr_get _ dBO_open_106 clBO lkBO_42 (s0 _) rfl ?_
          refine jj_il1 dBO_open_109 ?_
          refine ms2 dBO_open_110 csBO_144 (Nat.le_of_ble_eq_true rfl) ?_
          refine jwp_ups 12 (c_isIn (d := d) _ (p := n) (by omega) (fun hin => jk_i ?_) (fun hin => jk_i ?_))
          · rw [hN4 n (by omega), decide_eq_true_eq] at hin
            refine jj_if_eq 122 dBO_open_113 (by decide) (fun h => absurd h (by decide)) (fun _ => ?_)
            refine jj_al0 dBO_open_116 ?_
            refine jj_il1 dBO_open_117 ?_
            refine jj_iconst 1 dBO_open_118 (by decide) ?_
            refine mv2 dBO_open_119 clBO cvBO_148 (s0 _) (Nat.le_of_ble_eq_true rfl) ?_
            refine c_goInto (ω := ω) (J := J) (sl := sl) (σ := (opR σ n lz gl).2) (B := 6) (by rw [hEv4]; omega) 5 (by omega) d _ n ((opL σ n).2.2, []) M4 hn hin (Nat.le_trans (Nat.le_of_eq (Nat.add_zero _)) i2.len) (by
              have h : zBn (opR σ n lz gl).2 [] = (opR σ n lz gl).2 := by simp [zBn, zBj]
              rw [h]; exact hC4) hN4 (fun M5 hC5 hN5 hCl5 => jk_v ?_)
            have hBe : opB σ n lz gl = zBn (opR σ n lz gl).2 (dfF (Zn σ) 5 n ((opL σ n).2.2, [])).2 := by unfold opB; rw [if_pos hin]
            have hZn4 : Zn (opR σ n lz gl).2 = Zn σ := by
              rw [show Zn (opR σ n lz gl).2 = Zn (opG σ n gl) from hS4.eqs.2.1, hG]
              exact i4.wm_zs.2.1
            have hCB : CS M5 (opB σ n lz gl) := by rw [hBe, ← hZn4]; exact hC5
            have hZoB : Zo (opB σ n lz gl) = Zo σ := by rw [hBe]; exact hZo4
            have hClB := hCl4.trans hCl5
            refine jj_al0 dBO_open_122 ?_
            refine mr_get _ dBO_open_123 clBO lkBO_11 (s0 _) rfl ?_
            refine jj_il1 dBO_open_126 ?_
            refine mr_aald dBO_open_127 (hn) ?_
            refine jj_dup dBO_open_128 rfl ?_
            refine mr_get _ dBO_open_129 clLk lkBO_152 (sL0 hn _) rfl ?_
            rw [(hCB.1 n hn).2.2.1, show Zo (opB σ n lz gl) n = Zo σ n by rw [hZoB]]
            refine jj_iconst 1 dBO_open_132 (by decide) ?_
            refine jj_iadd dBO_open_133 ?_
            refine mr_put dBO_open_134 clLk lkBO_152 rfl rfl (sL0 hn _) (sL0 hn _) (Nat.le_of_ble_eq_true rfl) rfl ?_
            refine jj_il5 dBO_open_137 ?_
            exact jj_iret dBO_open_139 rfl rfl (hq _ (CS_op hCB hn (fun k i a => mup_ne _ _ a) (by rw [mup_at]; exact nI_1 _)) (hClB.trans (fun k i h => mup_ne _ _ (Or.inl (by omega)))))
          · rw [hN4 n (by omega), decide_eq_false_iff_not] at hin
            refine jj_if_eq 122 dBO_open_113 (by decide) (fun _ => ?_) (fun h => absurd h (by decide))
            have hBe : opB σ n lz gl = (opR σ n lz gl).2 := by unfold opB; rw [if_neg hin]
            have hCB : CS M4 (opB σ n lz gl) := by rw [hBe]; exact hC4
            have hZoB : Zo (opB σ n lz gl) = Zo σ := by rw [hBe]; exact hZo4
            have hClB := hCl4
            refine jj_al0 dBO_open_122 ?_
            refine mr_get _ dBO_open_123 clBO lkBO_11 (s0 _) rfl ?_
            refine jj_il1 dBO_open_126 ?_
            refine mr_aald dBO_open_127 (hn) ?_
            refine jj_dup dBO_open_128 rfl ?_
            refine mr_get _ dBO_open_129 clLk lkBO_152 (sL0 hn _) rfl ?_
            rw [(hCB.1 n hn).2.2.1, show Zo (opB σ n lz gl) n = Zo σ n by rw [hZoB]]
            refine jj_iconst 1 dBO_open_132 (by decide) ?_
            refine jj_iadd dBO_open_133 ?_
            refine mr_put dBO_open_134 clLk lkBO_152 rfl rfl (sL0 hn _) (sL0 hn _) (Nat.le_of_ble_eq_true rfl) rfl ?_
            refine jj_il5 dBO_open_137 ?_
            exact jj_iret dBO_open_139 rfl rfl (hq _ (CS_op hCB hn (fun k i a => mup_ne _ _ a) (by rw [mup_at]; exact nI_1 _)) (hClB.trans (fun k i h => mup_ne _ _ (Or.inl (by omega)))))
        · refine jj_al0 dBO_open_75 ?_
          refine mr_get _ dBO_open_76 clBO lkBO_32 (s0 _) rfl ?_
          refine jj_il4 dBO_open_79 ?_
          refine mv1 dBO_open_81 clRw cvBO_132 (s7 _) (Nat.le_of_ble_eq_true rfl) ?_
          refine jwp_ups 11 (c_cutTo_r row7 (by omega) hC4.2.2.2.1 (fun M5 hO5 hR5 => jk_v ?_))
          refine jj_al0 dBO_open_84 ?_
          refine mv0 dBO_open_85 clBO cvBO_121 (s0 _) (Nat.le_of_ble_eq_true rfl) ?_
          have hC5 := CS_gl hC4 hO5 hR5
          refine jwp_ups 10 (c_takeOutNewcomers (nw := (opL σ n).2.2) hC5 hW4 (fun i hi => by rw [hO5 _ _ (by omega) (by omega)]; exact hN4 i hi) hL4 (fun M6 hC6 hCl6 => jk_v ?_))
          exact mr_throw 3 dBO_open_88 dBO_open_91 dBO_open_92 dBO_open_95 rfl thBO_135 (Nat.le_of_ble_eq_true rfl) hJ hsl (by rw [if_pos (show (opR σ n lz gl).1 = false from b2i_f q3)] at hq; exact hq M6 hC6 (hCl4.trans (Cl.trans (fun k i h => hO5 _ _ (by omega) (by omega)) hCl6)))
      · refine jj_al0 dBO_open_56 ?_
        refine mr_get _ dBO_open_57 clBO lkBO_32 (s0 _) rfl ?_
        refine jj_al0 dBO_open_60 ?_
        refine mr_get _ dBO_open_61 clBO lkBO_39 (s0 _) rfl ?_
        refine mv1 dBO_open_64 clRw cvBO_124 (s7 _) (Nat.le_of_ble_eq_true rfl) ?_
        refine jwp_ups 10 (c_putAll row7 row11 ⟨by omega, by omega, by omega⟩ hC2.2.2.2.1 hR2 (fun M3 hO3 hR3 => jk_v ?_))
        have hgl := b2i_t q2
        have hG : opG σ n gl = zGl (opL σ n).2.1 ((clos (Zn σ) n).foldl rput (Gl (opL σ n).2.1)) := by unfold opG; rw [if_pos hgl]
        have hCG : CS M3 (opG σ n gl) := by rw [hG]; exact CS_gl hC2 hO3 hR3
        have hWG : Wm (opG σ n gl) := by rw [hG]; exact i1
        have hLG : ∀ p ∈ (opL σ n).2.2, ¬ Zb (opG σ n gl) p = none := by rw [hG]; exact i3
        have hEG : Ev (opG σ n gl) = Ev σ ∧ Zo (opG σ n gl) = Zo σ := by rw [hG]; exact ⟨i4.wm_zs.2.2.2.1, i4.wm_zs.2.2.2.2.1⟩
        have hRG : RowIs M3 11 (clos (Zn σ) n) := hR2.eqs (fun i => hO3 _ _ (by omega) (by omega)) (fun i => hO3 _ _ (by omega) (by omega))
        have hNG : NwIs M3 (opL σ n).2.2 := fun i hi => by rw [hO3 _ _ (by omega) (by omega)]; exact hN2 i hi
        have hClG : Cl M M3 := hCl2.trans (fun k i h => hO3 _ _ (by omega) (by omega))
        refine jj_al0 dBO_open_67 ?_
        refine jj_il2 dBO_open_68 ?_
        refine mv1 dBO_open_69 clBO cvBO_128 (s0 _) (Nat.le_of_ble_eq_true rfl) ?_
        refine jwp_ups 7 (c_relocateNewcomers lz hCG hWG hRG hNG hLG (fun M4 hC4 hK4 => jk_i ?_))
        have hS4 := raF_sm lz (opL σ n).2.2 (clos (Zn σ) n) (opG σ n gl)
        have hW4 : Wm (opR σ n lz gl).2 := hS4.wm hWG
        have hL4 : ∀ p ∈ (opL σ n).2.2, ¬ Zb (opR σ n lz gl).2 p = none := fun p hp => by
          show ¬ Zb (raF lz (opL σ n).2.2 (clos (Zn σ) n) (opG σ n gl)).2 p = none
          rw [hS4.zb]; exact hLG p hp
        have hN4 : NwIs M4 (opL σ n).2.2 := hK4.nw hNG
        have hCl4 : Cl M M4 := hClG.trans hK4.1
        have hEv4 : Ev (opR σ n lz gl).2 = Ev σ := hS4.eqs.2.2.2.1.trans hEG.1
        have hZo4 : Zo (opR σ n lz gl).2 = Zo σ := hS4.eqs.2.2.2.2.1.trans hEG.2
        have hC4 : CS M4 (opR σ n lz gl).2 := hC4
        have hgl6 := hC.2.2.2.1.2.1
        refine jj_if_ne 96 dBO_open_72 (by decide) (fun q3 => ?_) (fun q3 => ?_)
        · rw [if_neg (by rw [show (opR σ n lz gl).1 = true from b2i_t q3]; decide)] at hq
          refine jj_al0 dBO_open_96 ?_
          refine mr_get _ dBO_open_97 clBO lkBO_42 (s0 _) rfl ?_
          refine ms1 dBO_open_100 csBO_138 (Nat.le_of_ble_eq_true rfl) ?_
          refine jwp_ups 12 (c_bitCount (d := d) _ (jk_i ?_))
          rw [bc_cnt hN4 i2.2]
          refine jj_is5 dBO_open_103 ?_
          refine jj_al0 dBO_open_105 ?_
          refine mr_get _ dBO_open_106 clBO lkBO_42 (s0 _) rfl ?_
          refine jj_il1 dBO_open_109 ?_
          refine ms2 dBO_open_110 csBO_144 (Nat.le_of_ble_eq_true rfl) ?_
          refine jwp_ups 12 (c_isIn (d := d) _ (p := n) (by omega) (fun hin => jk_i ?_) (fun hin => jk_i ?_))
          · rw [hN4 n (by omega), decide_eq_true_eq] at hin
            refine jj_if_eq 122 dBO_open_113 (by decide) (fun h => absurd h (by decide)) (fun _ => ?_)
            refine jj_al0 dBO_open_116 ?_
            refine jj_il1 dBO_open_117 ?_
            refine jj_iconst 1 dBO_open_118 (by decide) ?_
            refine mv2 dBO_open_119 clBO cvBO_148 (s0 _) (Nat.le_of_ble_eq_true rfl) ?_
            refine c_goInto (ω := ω) (J := J) (sl := sl) (σ := (opR σ n lz gl).2) (B := 6) (by rw [hEv4]; omega) 5 (by omega) d _ n ((opL σ n).2.2, []) M4 hn hin (Nat.le_trans (Nat.le_of_eq (Nat.add_zero _)) i2.len) (by
              have h : zBn (opR σ n lz gl).2 [] = (opR σ n lz gl).2 := by simp [zBn, zBj]
              rw [h]; exact hC4) hN4 (fun M5 hC5 hN5 hCl5 => jk_v ?_)
            have hBe : opB σ n lz gl = zBn (opR σ n lz gl).2 (dfF (Zn σ) 5 n ((opL σ n).2.2, [])).2 := by unfold opB; rw [if_pos hin]
            have hZn4 : Zn (opR σ n lz gl).2 = Zn σ := by
              rw [show Zn (opR σ n lz gl).2 = Zn (opG σ n gl) from hS4.eqs.2.1, hG]
              exact i4.wm_zs.2.1
            have hCB : CS M5 (opB σ n lz gl) := by rw [hBe, ← hZn4]; exact hC5
            have hZoB : Zo (opB σ n lz gl) = Zo σ := by rw [hBe]; exact hZo4
            have hClB := hCl4.trans hCl5
            refine jj_al0 dBO_open_122 ?_
            refine mr_get _ dBO_open_123 clBO lkBO_11 (s0 _) rfl ?_
            refine jj_il1 dBO_open_126 ?_
            refine mr_aald dBO_open_127 (hn) ?_
            refine jj_dup dBO_open_128 rfl ?_
            refine mr_get _ dBO_open_129 clLk lkBO_152 (sL0 hn _) rfl ?_
            rw [(hCB.1 n hn).2.2.1, show Zo (opB σ n lz gl) n = Zo σ n by rw [hZoB]]
            refine jj_iconst 1 dBO_open_132 (by decide) ?_
            refine jj_iadd dBO_open_133 ?_
            refine mr_put dBO_open_134 clLk lkBO_152 rfl rfl (sL0 hn _) (sL0 hn _) (Nat.le_of_ble_eq_true rfl) rfl ?_
            refine jj_il5 dBO_open_137 ?_
            exact jj_iret dBO_open_139 rfl rfl (hq _ (CS_op hCB hn (fun k i a => mup_ne _ _ a) (by rw [mup_at]; exact nI_1 _)) (hClB.trans (fun k i h => mup_ne _ _ (Or.inl (by omega)))))
          · rw [hN4 n (by omega), decide_eq_false_iff_not] at hin
            refine jj_if_eq 122 dBO_open_113 (by decide) (fun _ => ?_) (fun h => absurd h (by decide))
            have hBe : opB σ n lz gl = (opR σ n lz gl).2 := by unfold opB; rw [if_neg hin]
            have hCB : CS M4 (opB σ n lz gl) := by rw [hBe]; exact hC4
            have hZoB : Zo (opB σ n lz gl) = Zo σ := by rw [hBe]; exact hZo4
            have hClB := hCl4
            refine jj_al0 dBO_open_122 ?_
            refine mr_get _ dBO_open_123 clBO lkBO_11 (s0 _) rfl ?_
            refine jj_il1 dBO_open_126 ?_
            refine mr_aald dBO_open_127 (hn) ?_
            refine jj_dup dBO_open_128 rfl ?_
            refine mr_get _ dBO_open_129 clLk lkBO_152 (sL0 hn _) rfl ?_
            rw [(hCB.1 n hn).2.2.1, show Zo (opB σ n lz gl) n = Zo σ n by rw [hZoB]]
            refine jj_iconst 1 dBO_open_132 (by decide) ?_
            refine jj_iadd dBO_open_133 ?_
            refine mr_put dBO_open_134 clLk lkBO_152 rfl rfl (sL0 hn _) (sL0 hn _) (Nat.le_of_ble_eq_true rfl) rfl ?_
            refine jj_il5 dBO_open_137 ?_
            exact jj_iret dBO_open_139 rfl rfl (hq _ (CS_op hCB hn (fun k i a => mup_ne _ _ a) (by rw [mup_at]; exact nI_1 _)) (hClB.trans (fun k i h => mup_ne _ _ (Or.inl (by omega)))))
        · refine jj_al0 dBO_open_75 ?_
          refine mr_get _ dBO_open_76 clBO lkBO_32 (s0 _) rfl ?_
          refine jj_il4 dBO_open_79 ?_
          refine mv1 dBO_open_81 clRw cvBO_132 (s7 _) (Nat.le_of_ble_eq_true rfl) ?_
          refine jwp_ups 11 (c_cutTo_r row7 (by omega) hC4.2.2.2.1 (fun M5 hO5 hR5 => jk_v ?_))
          refine jj_al0 dBO_open_84 ?_
          refine mv0 dBO_open_85 clBO cvBO_121 (s0 _) (Nat.le_of_ble_eq_true rfl) ?_
          have hC5 := CS_gl hC4 hO5 hR5
          refine jwp_ups 10 (c_takeOutNewcomers (nw := (opL σ n).2.2) hC5 hW4 (fun i hi => by rw [hO5 _ _ (by omega) (by omega)]; exact hN4 i hi) hL4 (fun M6 hC6 hCl6 => jk_v ?_))
          exact mr_throw 3 dBO_open_88 dBO_open_91 dBO_open_92 dBO_open_95 rfl thBO_135 (Nat.le_of_ble_eq_true rfl) hJ hsl (by rw [if_pos (show (opR σ n lz gl).1 = false from b2i_f q3)] at hq; exact hq M6 hC6 (hCl4.trans (Cl.trans (fun k i h => hO5 _ _ (by omega) (by omega)) hCl6)))
    · refine jj_al0 dBO_open_31 ?_
      refine mv0 dBO_open_32 clBO cvBO_121 (s0 _) (Nat.le_of_ble_eq_true rfl) ?_
      refine jwp_ups 10 (c_takeOutNewcomers hC2 i1 hN2 i3 (fun M3 hC3 hCl3 => jk_v ?_))
      exact mr_throw 2 dBO_open_35 dBO_open_38 dBO_open_39 dBO_open_42 rfl thBO_61 (Nat.le_of_ble_eq_true rfl) hJ hsl (by rw [if_pos (show (opL σ n).1 = false from b2i_f q1)] at hq; exact hq M3 hC3 (hCl2.trans hCl3))
  · refine jj_if_ne 24 dBO_open_13 (by decide) (fun h => absurd h (by decide)) (fun _ => ?_)
    exact mr_throw 2 dBO_open_16 dBO_open_19 dBO_open_20 dBO_open_23 rfl thBO_61 (Nat.le_of_ble_eq_true rfl) hJ hsl (by rw [if_pos hex] at hq; exact hq M1 hC1 hCl1)
