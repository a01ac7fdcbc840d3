theorem nle_lt {a b : Nat} {x : Int32} (hx : x = nI a) (h : ¬ x ≤ nI b) (ha : a < 2 ^ 31) (hb : b < 2 ^ 31) : b < a := by
  rw [hx, nI_leI ha hb] at h
  omega
theorem le_le {a b : Nat} {x : Int32} (hx : x = nI a) (h : x ≤ nI b) (ha : a < 2 ^ 31) (hb : b < 2 ^ 31) : a ≤ b := by
  rw [hx, nI_leI ha hb] at h
  exact h
theorem inc1 (i : Nat) : nI i + Int32.ofInt 1 = nI (i + 1) := nI_1 i
/-- the row at k holds the objects l -/
def RowIs (M : Nat → Nat → Int32) (k : Nat) (l : List Nat) : Prop := M k 1 = nI l.length ∧ l.length ≤ 6 ∧ (∀ p ∈ l, p < 6) ∧ ∀ (i p : Nat), l[i]? = some p → M (k + 1) i = nI p
/-- M' is M but for the row at k -/
def OffRow (M M' : Nat → Nat → Int32) (k : Nat) : Prop := ∀ k' i : Nat, k' ≠ k → k' ≠ k + 1 → M' k' i = M k' i
theorem OffRow.refl (M : Nat → Nat → Int32) (k : Nat) : OffRow M M k := fun _ _ _ _ => rfl
theorem OffRow.trans {M M1 M2 : Nat → Nat → Int32} {k : Nat} (h1 : OffRow M M1 k) (h2 : OffRow M1 M2 k) : OffRow M M2 k := fun k' i a b => (h2 k' i a b).trans (h1 k' i a b)
theorem RowIs.off {M M' : Nat → Nat → Int32} {k k2 : Nat} {l : List Nat} (h : RowIs M k l) (ho : OffRow M M' k2) (h1 : k ≠ k2) (h2 : k ≠ k2 + 1) (h3 : k + 1 ≠ k2) : RowIs M' k l :=
  ⟨by rw [ho k 1 h1 h2]; exact h.1, h.2.1, h.2.2.1, fun i p hp => by rw [ho (k + 1) i h3 (by omega)]; exact h.2.2.2 i p hp⟩
theorem RowIs.at {M : Nat → Nat → Int32} {k i : Nat} {l : List Nat} (h : RowIs M k l) (hi : i < l.length) : ∃ p, l[i]? = some p ∧ p < 6 ∧ M (k + 1) i = nI p := by
  obtain ⟨p, hp⟩ : ∃ p, l[i]? = some p := ⟨l[i], List.getElem?_eq_getElem hi⟩
  exact ⟨p, hp, h.2.2.1 p (List.mem_of_getElem? hp), h.2.2.2 i p hp⟩
theorem nI6 {a b : Nat} (ha : a < 6) (hb : b < 6) : nI a = nI b ↔ a = b := nI_eq (by omega) (by omega)
set_option maxRecDepth 100000 in
set_option maxHeartbeats 4000000 in
theorem c_has_l {ω : jw} {d : Nat} {M : Nat → Nat → Int32} {J sl : Nat} {Q : jr → jh → Prop} {k : Nat} {l : List Nat} (hk : isRow k) (p : Nat) (hp : p < 6) (hR : RowIs M k l) (ht : p ∈ l → Q (.inl (some (.int 1))) (jst ω M J sl)) (hf : p ∉ l → Q (.inl (some (.int 0))) (jst ω M J sl)) :
    ∀ n i : Nat, l.length - i < n → i ≤ l.length → (∀ j q : Nat, j < i → l[j]? = some q → q ≠ p) → jj ω d mRw_has 2 [some (.ref (jN ω + k)), some (.int (nI p)), some (.int (nI i))] [] (jst ω M J sl) Q := by
  have hl6 := hR.2.1
  intro n
  induction n with
  | zero => intro i hn; omega
  | succ n ih =>
    intro i hn hi hall
    refine jj_il2 dRw_has_2 ?_
    refine jj_al0 dRw_has_3 ?_
    refine mr_get _ dRw_has_4 clRw lkRw_15 (hk.1 _ _ _) rfl ?_
    refine jj_icmp_ge 28 dRw_has_7 (by decide) (fun q1 => ?_) (fun q1 => ?_)
    · have hi2 : l.length ≤ i := le_le hR.1 q1 (by omega) (by omega)
      refine jj_iconst 0 dRw_has_28 (by decide) ?_
      exact jj_iret dRw_has_29 rfl rfl (hf (fun hm => by obtain ⟨j, hj⟩ := List.getElem?_of_mem hm; exact hall j p (by have := (List.getElem?_eq_some_iff.mp hj).1; omega) hj rfl))
    · have hi2 : i < l.length := nle_lt hR.1 q1 (by omega) (by omega)
      obtain ⟨p2, e1, e2, e3⟩ := hR.at hi2
      refine jj_al0 dRw_has_10 ?_
      refine mr_get _ dRw_has_11 clRw lkRw_9 (hk.1 _ _ _) rfl ?_
      refine jj_il2 dRw_has_14 ?_
      refine mr_iald dRw_has_15 (hk.2 _ _ _) (by omega) (by decide) ?_
      rw [e3]
      refine jj_il1 dRw_has_16 ?_
      refine jj_icmp_ne 22 dRw_has_17 (by decide) (fun q2 => ?_) (fun q2 => ?_)
      · refine jj_ii2 (nI (i + 1)) dRw_has_22 (inc1 i) ?_
        refine jj_goto 2 dRw_has_25 (by decide) ?_
        exact ih (i + 1) (by omega) (by omega) (fun j q hj hq he => by
          by_cases hji : j < i
          · exact hall j q hji hq he
          · have : j = i := by omega
            subst this
            cases e1.symm.trans hq
            exact q2 (by rw [he]))
      · refine jj_iconst 1 dRw_has_20 (by decide) ?_
        exact jj_iret dRw_has_21 rfl rfl (ht (List.mem_of_getElem? (by rw [e1, (nI6 e2 hp).mp q2])))
set_option maxRecDepth 100000 in
set_option maxHeartbeats 4000000 in
theorem c_has {ω : jw} {d : Nat} {M : Nat → Nat → Int32} {J sl : Nat} {Q : jr → jh → Prop} {k : Nat} {l : List Nat} (hk : isRow k) (p : Nat) (hp : p < 6) (hR : RowIs M k l) (ht : p ∈ l → Q (.inl (some (.int 1))) (jst ω M J sl)) (hf : p ∉ l → Q (.inl (some (.int 0))) (jst ω M J sl)) : jwp ω d mRw_has [.ref (jN ω + k), .int (nI p)] (jst ω M J sl) Q := by
  refine jwp_of (by simp [Value.category]) (Nat.le_of_ble_eq_true rfl) (ls := [some (.ref (jN ω + k)), some (.int (nI p)), none]) rfl ?_
  refine jj_iconst 0 dRw_has_0 (by decide) ?_
  refine jj_is2 dRw_has_1 ?_
  exact c_has_l hk p hp hR ht hf (l.length + 1) 0 (by omega) (by omega) (fun j q hj => by omega)
def rput (l : List Nat) (p : Nat) : List Nat := if l.length < 6 ∧ p ∉ l then l ++ [p] else l
theorem rput_put {M : Nat → Nat → Int32} {k p : Nat} {l : List Nat} (hR : RowIs M k l) (hp : p < 6) (hl : l.length < 6) : RowIs (mup (mup M (k + 1) l.length (nI p)) k 1 (nI (l.length + 1))) k (l ++ [p]) := by
  obtain ⟨h1, h2, h3, h4⟩ := hR
  refine ⟨by rw [mup_at]; simp, by simp; omega, fun q hq => ?_, fun i q hq => ?_⟩
  · rcases List.mem_append.mp hq with h | h
    · exact h3 q h
    · rw [List.mem_singleton.mp h]; exact hp
  · rw [mup_ne _ _ (Or.inl (by omega))]
    by_cases hi : i < l.length
    · rw [mup_ne _ _ (Or.inr (by omega))]
      rw [List.getElem?_append_left hi] at hq
      exact h4 i q hq
    · rw [List.getElem?_append_right (by omega)] at hq
      have : i - l.length < 1 := (List.getElem?_eq_some_iff.mp hq).1
      rw [show i - l.length = 0 by omega] at hq
      cases hq
      rw [show i = l.length by omega, mup_at]
theorem off_put (M : Nat → Nat → Int32) (k i : Nat) (v w : Int32) : OffRow M (mup (mup M (k + 1) i v) k 1 w) k := fun k' j h1 h2 => by
  rw [mup_ne _ _ (Or.inl h1), mup_ne _ _ (Or.inl h2)]
set_option maxRecDepth 100000 in
set_option maxHeartbeats 4000000 in
theorem c_put {ω : jw} {d : Nat} {M : Nat → Nat → Int32} {J sl : Nat} {Q : jr → jh → Prop} {k : Nat} {l : List Nat} (hk : isRow k) (p : Nat) (hp : p < 6) (hR : RowIs M k l) (hq : ∀ M', OffRow M M' k → RowIs M' k (rput l p) → Q (.inl none) (jst ω M' J sl)) : jwp ω (d + 1) mRw_put [.ref (jN ω + k), .int (nI p)] (jst ω M J sl) Q := by
  have hl6 := hR.2.1
  refine jwp_of (by simp [Value.category]) (Nat.le_of_ble_eq_true rfl) (ls := [some (.ref (jN ω + k)), some (.int (nI p))]) rfl ?_
  refine jj_al0 dRw_put_0 ?_
  refine mr_get _ dRw_put_1 clRw lkRw_15 (hk.1 _ _ _) rfl ?_
  refine jj_bipush 6 dRw_put_4 (by decide) ?_
  refine jj_icmp_ge 37 dRw_put_6 (by decide) (fun q1 => ?_) (fun q1 => ?_)
  · exact jj_vret dRw_put_37 rfl (hq M (OffRow.refl M k) (by rw [rput, if_neg (fun hh => by have h6 := le_le (a := 6) (b := l.length) rfl (hR.1 ▸ q1) (by decide) (by omega); omega)]; exact hR))
  · have hl : l.length < 6 := by
      rw [hR.1] at q1
      exact Nat.lt_of_not_le (fun hh => q1 (nI_le hh (by omega)))
    refine jj_al0 dRw_put_9 ?_
    refine jj_il1 dRw_put_10 ?_
    refine mv1 dRw_put_11 clRw cvRw_19 (hk.1 _ _ _) (Nat.le_of_ble_eq_true rfl) ?_
    refine c_has hk p hp hR (fun hm => jk_i ?_) (fun hm => jk_i ?_)
    · refine jj_if_ne 37 dRw_put_14 (by decide) (fun _ => ?_) (fun h => absurd h (by decide))
      exact jj_vret dRw_put_37 rfl (hq M (OffRow.refl M k) (by rw [rput, if_neg (fun hh => hh.2 hm)]; exact hR))
    · refine jj_if_ne 37 dRw_put_14 (by decide) (fun h => absurd h (by decide)) (fun _ => ?_)
      refine jj_al0 dRw_put_17 ?_
      refine mr_get _ dRw_put_18 clRw lkRw_9 (hk.1 _ _ _) rfl ?_
      refine jj_al0 dRw_put_21 ?_
      refine mr_get _ dRw_put_22 clRw lkRw_15 (hk.1 _ _ _) rfl ?_
      rw [hR.1]
      refine jj_il1 dRw_put_25 ?_
      refine mr_iast dRw_put_26 (hk.2 _ _) (hl) (by decide) ?_
      refine jj_al0 dRw_put_27 ?_
      refine jj_dup dRw_put_28 rfl ?_
      refine mr_get _ dRw_put_29 clRw lkRw_15 (hk.1 _ _ _) rfl ?_
      rw [mup_ne _ _ (Or.inl (by omega)), hR.1]
      refine jj_iconst 1 dRw_put_32 (by decide) ?_
      refine jj_iadd dRw_put_33 ?_
      rw [show nI l.length + 1 = nI (l.length + 1) from nI_1 _]
      refine mr_put dRw_put_34 clRw lkRw_15 rfl rfl (hk.1 _ _ _) (hk.1 _ _ _) (Nat.le_of_ble_eq_true rfl) rfl ?_
      exact jj_vret dRw_put_37 rfl (hq _ (off_put M k _ _ _) (by rw [rput, if_pos ⟨hl, hm⟩]; exact rput_put hR hp hl))
theorem rput_le {l : List Nat} {p : Nat} (h : l.length ≤ 6) : (rput l p).length ≤ 6 := by
  unfold rput
  split
  · simp; omega
  · exact h
set_option maxRecDepth 100000 in
set_option maxHeartbeats 4000000 in
theorem c_putAll_l {ω : jw} {d : Nat} {J sl : Nat} {Q : jr → jh → Prop} {M0 : Nat → Nat → Int32} {k k2 : Nat} {l2 : List Nat} (hk : isRow k) (hk2 : isRow k2) (hne : k2 ≠ k ∧ k2 ≠ k + 1 ∧ k2 + 1 ≠ k) (hR2 : RowIs M0 k2 l2) {L : List Nat} (hq : ∀ M', OffRow M0 M' k → RowIs M' k L → Q (.inl none) (jst ω M' J sl)) :
    ∀ (n i : Nat) (l : List Nat) (M : Nat → Nat → Int32), l2.length - i < n → i ≤ l2.length → OffRow M0 M k → RowIs M k l → (l2.drop i).foldl rput l = L → jj ω (d + 2) mRw_putAll 2 [some (.ref (jN ω + k)), some (.ref (jN ω + k2)), some (.int (nI i))] [] (jst ω M J sl) Q := by
  have hl6 := hR2.2.1
  intro n
  induction n with
  | zero => intro i l M hn; omega
  | succ n ih =>
    intro i l M hn hi hO hR hL
    have hR2' := hR2.off hO hne.1 hne.2.1 hne.2.2
    refine jj_il2 dRw_putAll_2 ?_
    refine jj_al1 dRw_putAll_3 ?_
    refine mr_get _ dRw_putAll_4 clRw lkRw_15 (hk2.1 _ _ _) rfl ?_
    refine jj_icmp_ge 26 dRw_putAll_7 (by decide) (fun q1 => ?_) (fun q1 => ?_)
    · exact jj_vret dRw_putAll_26 rfl (hq M hO (by rw [← hL, List.drop_eq_nil_of_le (le_le hR2'.1 q1 (by omega) (by omega))]; exact hR))
    · have hi2 : i < l2.length := nle_lt hR2'.1 q1 (by omega) (by omega)
      obtain ⟨p2, e1, e2, e3⟩ := hR2'.at hi2
      refine jj_al0 dRw_putAll_10 ?_
      refine jj_al1 dRw_putAll_11 ?_
      refine mr_get _ dRw_putAll_12 clRw lkRw_9 (hk2.1 _ _ _) rfl ?_
      refine jj_il2 dRw_putAll_15 ?_
      refine mr_iald dRw_putAll_16 (hk2.2 _ _ _) (by omega) (by decide) ?_
      rw [e3]
      refine mv1 dRw_putAll_17 clRw cvRw_23 (hk.1 _ _ _) (Nat.le_of_ble_eq_true rfl) ?_
      refine c_put hk p2 e2 hR (fun M' hO2 hR3 => jk_v ?_)
      refine jj_ii2 (nI (i + 1)) dRw_putAll_20 (inc1 i) ?_
      refine jj_goto 2 dRw_putAll_23 (by decide) ?_
      exact ih (i + 1) (rput l p2) M' (by omega) (by omega) (hO.trans hO2) hR3 (by rw [← hL, List.drop_eq_getElem_cons hi2, List.foldl_cons, show l2[i] = p2 from (List.getElem?_eq_some_iff.mp e1).2])
set_option maxRecDepth 100000 in
set_option maxHeartbeats 4000000 in
theorem c_putAll {ω : jw} {d : Nat} {M : Nat → Nat → Int32} {J sl : Nat} {Q : jr → jh → Prop} {k k2 : Nat} {l l2 : List Nat} (hk : isRow k) (hk2 : isRow k2) (hne : k2 ≠ k ∧ k2 ≠ k + 1 ∧ k2 + 1 ≠ k) (hR : RowIs M k l) (hR2 : RowIs M k2 l2) (hq : ∀ M', OffRow M M' k → RowIs M' k (l2.foldl rput l) → Q (.inl none) (jst ω M' J sl)) : jwp ω (d + 2) mRw_putAll [.ref (jN ω + k), .ref (jN ω + k2)] (jst ω M J sl) Q := by
  refine jwp_of (by simp [Value.category]) (Nat.le_of_ble_eq_true rfl) (ls := [some (.ref (jN ω + k)), some (.ref (jN ω + k2)), none]) rfl ?_
  refine jj_iconst 0 dRw_putAll_0 (by decide) ?_
  refine jj_is2 dRw_putAll_1 ?_
  exact c_putAll_l hk hk2 hne hR2 hq (l2.length + 1) 0 l M (by omega) (by omega) (OffRow.refl M k) hR rfl
set_option maxRecDepth 100000 in
set_option maxHeartbeats 4000000 in
theorem c_cutTo_r {ω : jw} {d : Nat} {M : Nat → Nat → Int32} {J sl : Nat} {Q : jr → jh → Prop} {k n : Nat} {l : List Nat} (hk : isRow k) (hn : n < 2 ^ 31) (hR : RowIs M k l) (hq : ∀ M', OffRow M M' k → RowIs M' k (l.take n) → Q (.inl none) (jst ω M' J sl)) : jwp ω (d + 1) mRw_cutTo [.ref (jN ω + k), .int (nI n)] (jst ω M J sl) Q := by
  obtain ⟨h1, h2, h3, h4⟩ := hR
  refine c_cutTo hk (nI n) (hq _ (fun k' i a b => mup_ne _ _ (Or.inl a)) ⟨?_, by rw [List.length_take]; omega, fun p hp => h3 p (List.mem_of_mem_take hp), fun i p hp => ?_⟩)
  · rw [mup_at, h1, List.length_take]
    by_cases hlt : n < l.length
    · rw [if_pos (nI_lt hlt (by omega)), Nat.min_eq_left (by omega)]
    · rw [if_neg (nI_nlt (by omega) (by omega)), Nat.min_eq_right (by omega)]
  · rw [mup_ne _ _ (Or.inl (by omega))]
    refine h4 i p ?_
    rw [List.getElem?_take] at hp
    split at hp
    · exact hp
    · cases hp
