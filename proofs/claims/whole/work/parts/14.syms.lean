/-- M' is M but for the cells of which S speaks -/
def Off (M M' : Nat → Nat → Int32) (S : Nat → Prop) : Prop := ∀ k i : Nat, ¬ S k → M' k i = M k i
theorem Off.refl (M : Nat → Nat → Int32) (S : Nat → Prop) : Off M M S := fun _ _ _ => rfl
theorem Off.trans {M M1 M2 : Nat → Nat → Int32} {S : Nat → Prop} (h1 : Off M M1 S) (h2 : Off M1 M2 S) : Off M M2 S := fun k i a => (h2 k i a).trans (h1 k i a)
theorem Off.mono {M M' : Nat → Nat → Int32} {S S' : Nat → Prop} (h : Off M M' S) (hs : ∀ k, S k → S' k) : Off M M' S' := fun k i a => h k i (fun b => a (hs k b))
theorem Off.up {M M1 : Nat → Nat → Int32} {S : Nat → Prop} (h : Off M M1 S) {k i : Nat} (v : Int32) (hk : S k) : Off M (mup M1 k i v) S := fun k' j a => by
  rw [mup_ne _ _ (Or.inl (fun e => a (by rw [e]; exact hk)))]
  exact h k' j a
theorem OffRow.off {M M' : Nat → Nat → Int32} {k : Nat} (h : OffRow M M' k) : Off M M' (fun k' => k' = k ∨ k' = k + 1) := fun k' i a => h k' i (fun e => a (Or.inl e)) (fun e => a (Or.inr e))
abbrev Sym : Type := Int32 × Int32 × Bool
abbrev Rel : Type := Int32 × Int32 × Int32 × Int32
/-- the symbols of object o: name, place, weak -/
def SymIs (M : Nat → Nat → Int32) (o : Nat) (S : List Sym) : Prop := M (13 + 15 * o + 3) 4 = nI S.length ∧ S.length ≤ 6 ∧ ∀ (i : Nat) (s : Sym), S[i]? = some s → M (13 + 15 * o + 4) i = s.1 ∧ M (13 + 15 * o + 5) i = chn s.1 ∧ M (13 + 15 * o + 6) i = s.2.1 ∧ M (13 + 15 * o + 7) i = b2i s.2.2
def RelIs (M : Nat → Nat → Int32) (o : Nat) (S : List Rel) : Prop := M (13 + 15 * o + 8) 4 = nI S.length ∧ S.length ≤ 6 ∧ ∀ (i : Nat) (s : Rel), S[i]? = some s → M (13 + 15 * o + 9) i = s.1 ∧ M (13 + 15 * o + 10) i = s.2.1 ∧ M (13 + 15 * o + 11) i = s.2.2.1 ∧ M (13 + 15 * o + 12) i = s.2.2.2
theorem SymIs.at {M : Nat → Nat → Int32} {o i : Nat} {S : List Sym} (h : SymIs M o S) (hi : i < S.length) : ∃ s, S[i]? = some s ∧ M (13 + 15 * o + 4) i = s.1 ∧ M (13 + 15 * o + 5) i = chn s.1 ∧ M (13 + 15 * o + 6) i = s.2.1 ∧ M (13 + 15 * o + 7) i = b2i s.2.2 :=
  ⟨S[i], List.getElem?_eq_getElem hi, h.2.2 i _ (List.getElem?_eq_getElem hi)⟩
theorem RelIs.at {M : Nat → Nat → Int32} {o i : Nat} {S : List Rel} (h : RelIs M o S) (hi : i < S.length) : ∃ s, S[i]? = some s ∧ M (13 + 15 * o + 9) i = s.1 ∧ M (13 + 15 * o + 10) i = s.2.1 ∧ M (13 + 15 * o + 11) i = s.2.2.1 ∧ M (13 + 15 * o + 12) i = s.2.2.2 :=
  ⟨S[i], List.getElem?_eq_getElem hi, h.2.2 i _ (List.getElem?_eq_getElem hi)⟩
theorem get_snoc {α : Type} {S : List α} {x y : α} {i : Nat} (h : (S ++ [x])[i]? = some y) : (i < S.length ∧ S[i]? = some y) ∨ (i = S.length ∧ x = y) := by
  by_cases hi : i < S.length
  · rw [List.getElem?_append_left hi] at h
    exact Or.inl ⟨hi, h⟩
  · rw [List.getElem?_append_right (by omega)] at h
    have h1 : i - S.length < 1 := (List.getElem?_eq_some_iff.mp h).1
    rw [show i - S.length = 0 by omega] at h
    cases h
    exact Or.inr ⟨by omega, rfl⟩
set_option maxRecDepth 100000 in
set_option maxHeartbeats 4000000 in
theorem c_sadd {ω : jw} {d : Nat} {M : Nat → Nat → Int32} {J sl : Nat} {Q : jr → jh → Prop} {o : Nat} (ho : o < 6) {S : List Sym} (hS : SymIs M o S) (hl : S.length < 6) (nm pl fl : Int32) (hq : ∀ M', Off M M' (fun k => 13 + 15 * o + 3 ≤ k ∧ k ≤ 13 + 15 * o + 7) → SymIs M' o (S ++ [(nm, pl, decide (¬ fl = 0) && decide (pl = -1))]) → Q (.inl (some (.int (nI S.length)))) (jst ω M' J sl)) : jwp ω (d + 1) mSy_add [.ref (jN ω + (13 + 15 * o + 3)), .int nm, .int pl, .int fl] (jst ω M J sl) Q := by
  refine jwp_of (by simp [Value.category]) (Nat.le_of_ble_eq_true rfl) (ls := [some (.ref (jN ω + (13 + 15 * o + 3))), some (.int nm), some (.int pl), some (.int fl)]) rfl ?_
  have hE : ∀ wk : Bool, wk = (decide (¬ fl = 0) && decide (pl = -1)) → SymIs (mup (mup (mup (mup (mup M (13 + 15 * o + 4) S.length nm) (13 + 15 * o + 5) S.length (chn nm)) (13 + 15 * o + 6) S.length pl) (13 + 15 * o + 7) S.length (b2i wk)) (13 + 15 * o + 3) 4 (nI (S.length + 1))) o (S ++ [(nm, pl, decide (¬ fl = 0) && decide (pl = -1))]) := by
    intro wk hwk
    refine ⟨by rw [mup_at]; simp, by simp; omega, fun i s hs => ?_⟩
    rcases get_snoc hs with ⟨hi, hs⟩ | ⟨hi, rfl⟩
    · obtain ⟨e1, e2, e3, e4⟩ := hS.2.2 i s hs
      refine ⟨?_, ?_, ?_, ?_⟩
      · rw [mup_ne _ _ (by omega), mup_ne _ _ (by omega), mup_ne _ _ (by omega), mup_ne _ _ (by omega), mup_ne _ _ (by omega)]; exact e1
      · rw [mup_ne _ _ (by omega), mup_ne _ _ (by omega), mup_ne _ _ (by omega), mup_ne _ _ (by omega), mup_ne _ _ (by omega)]; exact e2
      · rw [mup_ne _ _ (by omega), mup_ne _ _ (by omega), mup_ne _ _ (by omega), mup_ne _ _ (by omega), mup_ne _ _ (by omega)]; exact e3
      · rw [mup_ne _ _ (by omega), mup_ne _ _ (by omega), mup_ne _ _ (by omega), mup_ne _ _ (by omega), mup_ne _ _ (by omega)]; exact e4
    · subst hi
      refine ⟨?_, ?_, ?_, ?_⟩
      · rw [mup_ne _ _ (by omega), mup_ne _ _ (by omega), mup_ne _ _ (by omega), mup_ne _ _ (by omega), mup_at]
      · rw [mup_ne _ _ (by omega), mup_ne _ _ (by omega), mup_ne _ _ (by omega), mup_at]
      · rw [mup_ne _ _ (by omega), mup_ne _ _ (by omega), mup_at]
      · rw [mup_ne _ _ (by omega), mup_at, hwk]
  have hF : ∀ wk : Int32, Off M (mup (mup (mup (mup (mup M (13 + 15 * o + 4) S.length nm) (13 + 15 * o + 5) S.length (chn nm)) (13 + 15 * o + 6) S.length pl) (13 + 15 * o + 7) S.length wk) (13 + 15 * o + 3) 4 (nI (S.length + 1))) (fun k => 13 + 15 * o + 3 ≤ k ∧ k ≤ 13 + 15 * o + 7) := fun wk =>
    (((((Off.refl M _).up _ (by omega)).up _ (by omega)).up _ (by omega)).up _ (by omega)).up _ (by omega)
  refine jj_al0 dSy_add_0 ?_
  refine mr_get _ dSy_add_1 clSy lkSy_9 (sL3 ho _) rfl ?_
  refine jj_al0 dSy_add_4 ?_
  refine mr_get _ dSy_add_5 clSy lkSy_25 (sL3 ho _) rfl ?_
  rw [hS.1]
  refine jj_il1 dSy_add_8 ?_
  refine mr_iast dSy_add_9 (sL4 ho) (hl) (by decide) ?_
  refine jj_al0 dSy_add_10 ?_
  refine mr_get _ dSy_add_11 clSy lkSy_15 (sL3 ho _) rfl ?_
  refine jj_al0 dSy_add_14 ?_
  refine mr_get _ dSy_add_15 clSy lkSy_25 (sL3 ho _) rfl ?_
  rw [mup_ne _ _ (by omega), hS.1]
  refine jj_il1 dSy_add_18 ?_
  refine ms1 dSy_add_19 csSy_29 (Nat.le_of_ble_eq_true rfl) ?_
  refine c_chainOf nm (jk_i ?_)
  refine mr_iast dSy_add_22 (sL5 ho) (hl) (by decide) ?_
  refine jj_al0 dSy_add_23 ?_
  refine mr_get _ dSy_add_24 clSy lkSy_18 (sL3 ho _) rfl ?_
  refine jj_al0 dSy_add_27 ?_
  refine mr_get _ dSy_add_28 clSy lkSy_25 (sL3 ho _) rfl ?_
  rw [mup_ne _ _ (by omega), mup_ne _ _ (by omega), hS.1]
  refine jj_il2 dSy_add_31 ?_
  refine mr_iast dSy_add_32 (sL6 ho) (hl) (by decide) ?_
  refine jj_al0 dSy_add_33 ?_
  refine mr_get _ dSy_add_34 clSy lkSy_21 (sL3 ho _) rfl ?_
  refine jj_al0 dSy_add_37 ?_
  refine mr_get _ dSy_add_38 clSy lkSy_25 (sL3 ho _) rfl ?_
  rw [mup_ne _ _ (by omega), mup_ne _ _ (by omega), mup_ne _ _ (by omega), hS.1]
  refine jj_il3 dSy_add_41 ?_
  refine jj_if_eq 54 dSy_add_42 (by decide) (fun q1 => ?_) (fun q1 => ?_)
  · refine jj_iconst 0 dSy_add_54 (by decide) ?_
    refine mr_zast dSy_add_55 (sL7 ho) (by first | exact Or.inl rfl | exact Or.inr rfl) (hl) (by decide) ?_
    refine jj_al0 dSy_add_56 ?_
    refine jj_dup dSy_add_57 rfl ?_
    refine mr_get _ dSy_add_58 clSy lkSy_25 (sL3 ho _) rfl ?_
    rw [mup_ne _ _ (by omega), mup_ne _ _ (by omega), mup_ne _ _ (by omega), mup_ne _ _ (by omega), hS.1]
    refine jj_iconst 1 dSy_add_61 (by decide) ?_
    refine jj_iadd dSy_add_62 ?_
    rw [show nI S.length + 1 = nI (S.length + 1) from nI_1 _]
    refine mr_put dSy_add_63 clSy lkSy_25 rfl rfl (sL3 ho _) (sL3 ho _) (Nat.le_of_ble_eq_true rfl) rfl ?_
    refine jj_al0 dSy_add_66 ?_
    refine mr_get _ dSy_add_67 clSy lkSy_25 (sL3 ho _) rfl ?_
    rw [mup_at]
    refine jj_iconst 1 dSy_add_70 (by decide) ?_
    refine jj_isub dSy_add_71 ?_
    rw [show nI (S.length + 1) - 1 = nI S.length from nI_pred _]
    exact jj_iret dSy_add_72 rfl rfl (hq _ (hF 0) (hE false (by rw [decide_eq_false (by simpa using q1)]; rfl)))
  · refine jj_il2 dSy_add_45 ?_
    refine jj_iconst (-1) dSy_add_46 (by decide) ?_
    refine jj_icmp_ne 54 dSy_add_47 (by decide) (fun q2 => ?_) (fun q2 => ?_)
    · refine jj_iconst 0 dSy_add_54 (by decide) ?_
      refine mr_zast dSy_add_55 (sL7 ho) (by first | exact Or.inl rfl | exact Or.inr rfl) (hl) (by decide) ?_
      refine jj_al0 dSy_add_56 ?_
      refine jj_dup dSy_add_57 rfl ?_
      refine mr_get _ dSy_add_58 clSy lkSy_25 (sL3 ho _) rfl ?_
      rw [mup_ne _ _ (by omega), mup_ne _ _ (by omega), mup_ne _ _ (by omega), mup_ne _ _ (by omega), hS.1]
      refine jj_iconst 1 dSy_add_61 (by decide) ?_
      refine jj_iadd dSy_add_62 ?_
      rw [show nI S.length + 1 = nI (S.length + 1) from nI_1 _]
      refine mr_put dSy_add_63 clSy lkSy_25 rfl rfl (sL3 ho _) (sL3 ho _) (Nat.le_of_ble_eq_true rfl) rfl ?_
      refine jj_al0 dSy_add_66 ?_
      refine mr_get _ dSy_add_67 clSy lkSy_25 (sL3 ho _) rfl ?_
      rw [mup_at]
      refine jj_iconst 1 dSy_add_70 (by decide) ?_
      refine jj_isub dSy_add_71 ?_
      rw [show nI (S.length + 1) - 1 = nI S.length from nI_pred _]
      exact jj_iret dSy_add_72 rfl rfl (hq _ (hF 0) (hE false (by rw [decide_eq_false q2, Bool.and_false])))
    · refine jj_iconst 1 dSy_add_50 (by decide) ?_
      refine jj_goto 55 dSy_add_51 (by decide) ?_
      refine mr_zast dSy_add_55 (sL7 ho) (by first | exact Or.inl rfl | exact Or.inr rfl) (hl) (by decide) ?_
      refine jj_al0 dSy_add_56 ?_
      refine jj_dup dSy_add_57 rfl ?_
      refine mr_get _ dSy_add_58 clSy lkSy_25 (sL3 ho _) rfl ?_
      rw [mup_ne _ _ (by omega), mup_ne _ _ (by omega), mup_ne _ _ (by omega), mup_ne _ _ (by omega), hS.1]
      refine jj_iconst 1 dSy_add_61 (by decide) ?_
      refine jj_iadd dSy_add_62 ?_
      rw [show nI S.length + 1 = nI (S.length + 1) from nI_1 _]
      refine mr_put dSy_add_63 clSy lkSy_25 rfl rfl (sL3 ho _) (sL3 ho _) (Nat.le_of_ble_eq_true rfl) rfl ?_
      refine jj_al0 dSy_add_66 ?_
      refine mr_get _ dSy_add_67 clSy lkSy_25 (sL3 ho _) rfl ?_
      rw [mup_at]
      refine jj_iconst 1 dSy_add_70 (by decide) ?_
      refine jj_isub dSy_add_71 ?_
      rw [show nI (S.length + 1) - 1 = nI S.length from nI_pred _]
      exact jj_iret dSy_add_72 rfl rfl (hq _ (hF 1) (hE true (by rw [decide_eq_true q1, decide_eq_true q2]; rfl)))
def plcF (nm : Int32) : List Sym → Int32
  | [] => -1
  | s :: t => if s.1 = nm then s.2.1 else plcF nm t
set_option maxRecDepth 100000 in
set_option maxHeartbeats 4000000 in
theorem c_shas_l {ω : jw} {d : Nat} {M : Nat → Nat → Int32} {J sl : Nat} {Q : jr → jh → Prop} {o : Nat} (ho : o < 6) {S : List Sym} (hS : SymIs M o S) (nm : Int32) (ht : (∃ s ∈ S, s.1 = nm) → Q (.inl (some (.int 1))) (jst ω M J sl)) (hf : (∀ s ∈ S, ¬ s.1 = nm) → Q (.inl (some (.int 0))) (jst ω M J sl)) :
    ∀ n i : Nat, S.length - i < n → i ≤ S.length → (∀ (j : Nat) (s : Sym), j < i → S[j]? = some s → ¬ s.1 = nm) → jj ω d mSy_has 2 [some (.ref (jN ω + (13 + 15 * o + 3))), some (.int nm), some (.int (nI i))] [] (jst ω M J sl) Q := by
  have hl6 := hS.2.1
  intro n
  induction n with
  | zero => intro i hn; omega
  | succ n ih =>
    intro i hn hi hall
    refine jj_il2 dSy_has_2 ?_
    refine jj_al0 dSy_has_3 ?_
    refine mr_get _ dSy_has_4 clSy lkSy_25 (sL3 ho _) rfl ?_
    refine jj_icmp_ge 28 dSy_has_7 (by decide) (fun q1 => ?_) (fun q1 => ?_)
    · refine jj_iconst 0 dSy_has_28 (by decide) ?_
      exact jj_iret dSy_has_29 rfl rfl (hf (fun s hs => by obtain ⟨j, hj⟩ := List.getElem?_of_mem hs; exact hall j s (by have := (List.getElem?_eq_some_iff.mp hj).1; have := le_le hS.1 q1 (by omega) (by omega); omega) hj))
    · have hi2 : i < S.length := nle_lt hS.1 q1 (by omega) (by omega)
      obtain ⟨s, e1, e2, e3, e4, e5⟩ := hS.at hi2
      refine jj_al0 dSy_has_10 ?_
      refine mr_get _ dSy_has_11 clSy lkSy_9 (sL3 ho _) rfl ?_
      refine jj_il2 dSy_has_14 ?_
      refine mr_iald dSy_has_15 (sL4 ho _) (by omega) (by decide) ?_
      rw [e2]
      refine jj_il1 dSy_has_16 ?_
      refine jj_icmp_ne 22 dSy_has_17 (by decide) (fun q2 => ?_) (fun q2 => ?_)
      · refine jj_ii2 (nI (i + 1)) dSy_has_22 (inc1 i) ?_
        refine jj_goto 2 dSy_has_25 (by decide) ?_
        exact ih (i + 1) (by omega) (by omega) (fun j s2 hj hs2 => by
          by_cases hji : j < i
          · exact hall j s2 hji hs2
          · have : j = i := by omega
            subst this
            cases e1.symm.trans hs2
            exact q2)
      · refine jj_iconst 1 dSy_has_20 (by decide) ?_
        exact jj_iret dSy_has_21 rfl rfl (ht ⟨s, List.mem_of_getElem? e1, q2⟩)
set_option maxRecDepth 100000 in
set_option maxHeartbeats 4000000 in
theorem c_shas {ω : jw} {d : Nat} {M : Nat → Nat → Int32} {J sl : Nat} {Q : jr → jh → Prop} {o : Nat} (ho : o < 6) {S : List Sym} (hS : SymIs M o S) (nm : Int32) (ht : (∃ s ∈ S, s.1 = nm) → Q (.inl (some (.int 1))) (jst ω M J sl)) (hf : (∀ s ∈ S, ¬ s.1 = nm) → Q (.inl (some (.int 0))) (jst ω M J sl)) : jwp ω d mSy_has [.ref (jN ω + (13 + 15 * o + 3)), .int nm] (jst ω M J sl) Q := by
  refine jwp_of (by simp [Value.category]) (Nat.le_of_ble_eq_true rfl) (ls := [some (.ref (jN ω + (13 + 15 * o + 3))), some (.int nm), none]) rfl ?_
  refine jj_iconst 0 dSy_has_0 (by decide) ?_
  refine jj_is2 dSy_has_1 ?_
  exact c_shas_l ho hS nm ht hf (S.length + 1) 0 (by omega) (by omega) (fun j s hj => by omega)
set_option maxRecDepth 100000 in
set_option maxHeartbeats 4000000 in
theorem c_placeOf_l {ω : jw} {d : Nat} {M : Nat → Nat → Int32} {J sl : Nat} {Q : jr → jh → Prop} {o : Nat} (ho : o < 6) {S : List Sym} (hS : SymIs M o S) (nm : Int32) :
    ∀ n i : Nat, S.length - i < n → i ≤ S.length → Q (.inl (some (.int (plcF nm (S.drop i))))) (jst ω M J sl) → jj ω d mSy_placeOf 2 [some (.ref (jN ω + (13 + 15 * o + 3))), some (.int nm), some (.int (nI i))] [] (jst ω M J sl) Q := by
  have hl6 := hS.2.1
  intro n
  induction n with
  | zero => intro i hn; omega
  | succ n ih =>
    intro i hn hi hq
    refine jj_il2 dSy_placeOf_2 ?_
    refine jj_al0 dSy_placeOf_3 ?_
    refine mr_get _ dSy_placeOf_4 clSy lkSy_25 (sL3 ho _) rfl ?_
    refine jj_icmp_ge 33 dSy_placeOf_7 (by decide) (fun q1 => ?_) (fun q1 => ?_)
    · refine jj_iconst (-1) dSy_placeOf_33 (by decide) ?_
      exact jj_iret dSy_placeOf_34 rfl rfl (by rw [List.drop_eq_nil_of_le (le_le hS.1 q1 (by omega) (by omega))] at hq; exact hq)
    · have hi2 : i < S.length := nle_lt hS.1 q1 (by omega) (by omega)
      obtain ⟨s, e1, e2, e3, e4, e5⟩ := hS.at hi2
      rw [List.drop_eq_getElem_cons hi2, show S[i] = s from (List.getElem?_eq_some_iff.mp e1).2] at hq
      refine jj_al0 dSy_placeOf_10 ?_
      refine mr_get _ dSy_placeOf_11 clSy lkSy_9 (sL3 ho _) rfl ?_
      refine jj_il2 dSy_placeOf_14 ?_
      refine mr_iald dSy_placeOf_15 (sL4 ho _) (by omega) (by decide) ?_
      rw [e2]
      refine jj_il1 dSy_placeOf_16 ?_
      refine jj_icmp_ne 27 dSy_placeOf_17 (by decide) (fun q2 => ?_) (fun q2 => ?_)
      · refine jj_ii2 (nI (i + 1)) dSy_placeOf_27 (inc1 i) ?_
        refine jj_goto 2 dSy_placeOf_30 (by decide) ?_
        exact ih (i + 1) (by omega) (by omega) (by rw [plcF, if_neg q2] at hq; exact hq)
      · refine jj_al0 dSy_placeOf_20 ?_
        refine mr_get _ dSy_placeOf_21 clSy lkSy_18 (sL3 ho _) rfl ?_
        refine jj_il2 dSy_placeOf_24 ?_
        refine mr_iald dSy_placeOf_25 (sL6 ho _) (by omega) (by decide) ?_
        rw [e4]
        exact jj_iret dSy_placeOf_26 rfl rfl (by rw [plcF, if_pos q2] at hq; exact hq)
set_option maxRecDepth 100000 in
set_option maxHeartbeats 4000000 in
theorem c_placeOf {ω : jw} {d : Nat} {M : Nat → Nat → Int32} {J sl : Nat} {Q : jr → jh → Prop} {o : Nat} (ho : o < 6) {S : List Sym} (hS : SymIs M o S) (nm : Int32) (hq : Q (.inl (some (.int (plcF nm S)))) (jst ω M J sl)) : jwp ω d mSy_placeOf [.ref (jN ω + (13 + 15 * o + 3)), .int nm] (jst ω M J sl) Q := by
  refine jwp_of (by simp [Value.category]) (Nat.le_of_ble_eq_true rfl) (ls := [some (.ref (jN ω + (13 + 15 * o + 3))), some (.int nm), none]) rfl ?_
  refine jj_iconst 0 dSy_placeOf_0 (by decide) ?_
  refine jj_is2 dSy_placeOf_1 ?_
  exact c_placeOf_l ho hS nm (S.length + 1) 0 (by omega) (by omega) hq
/-- the steps over the symbols, the latest one first -/
def stpF (nm : Int32) : List Sym → Int32
  | [] => 0
  | s :: t => if chn s.1 = chn nm then (if s.1 = nm ∧ ¬ s.2.1 = -1 then 1 else 1 + stpF nm t) else stpF nm t
theorem m1neg : (nI 0 - 1 : Int32) < 0 := by decide
theorem decI (x : Int32) : x + Int32.ofInt (-1) = x - 1 := by
  rw [Int32.sub_eq_add_neg]
  rfl
theorem tk_rev {α : Type} {S : List α} {j : Nat} {s : α} (h : S[j]? = some s) : (S.take (j + 1)).reverse = s :: (S.take j).reverse := by
  rw [List.take_add_one, h]
  simp
set_option maxRecDepth 100000 in
set_option maxHeartbeats 4000000 in
theorem c_stepsTo_l {ω : jw} {d : Nat} {M : Nat → Nat → Int32} {J sl : Nat} {Q : jr → jh → Prop} {o : Nat} (ho : o < 6) {S : List Sym} (hS : SymIs M o S) (nm : Int32) :
    ∀ (j : Nat) (tk : Int32), j ≤ S.length → Q (.inl (some (.int (tk + stpF nm (S.take j).reverse)))) (jst ω M J sl) → jj ω d mSy_stepsTo 10 [some (.ref (jN ω + (13 + 15 * o + 3))), some (.int nm), some (.int (chn nm)), some (.int tk), some (.int (nI j - 1))] [] (jst ω M J sl) Q := by
  have hl6 := hS.2.1
  intro j
  induction j with
  | zero =>
    intro tk hj hq
    refine jj_il4 dSy_stepsTo_10 ?_
    refine jj_if_lt 59 dSy_stepsTo_12 (by decide) (fun q1 => ?_) (fun q1 => absurd q1 (by decide))
    refine jj_il3 dSy_stepsTo_59 ?_
    exact jj_iret dSy_stepsTo_60 rfl rfl (by simpa [stpF] using hq)
  | succ j ih =>
    intro tk hj hq
    rw [show nI (j + 1) - 1 = nI j from nI_pred j]
    obtain ⟨s, e1, e2, e3, e4, e5⟩ := hS.at (show j < S.length by omega)
    rw [tk_rev e1] at hq
    refine jj_il4 dSy_stepsTo_10 ?_
    refine jj_if_lt 59 dSy_stepsTo_12 (by decide) (fun q1 => absurd q1 (nI_pos (by omega))) (fun q1 => ?_)
    refine jj_al0 dSy_stepsTo_15 ?_
    refine mr_get _ dSy_stepsTo_16 clSy lkSy_15 (sL3 ho _) rfl ?_
    refine jj_il4 dSy_stepsTo_19 ?_
    refine mr_iald dSy_stepsTo_21 (sL5 ho _) (by omega) (by decide) ?_
    rw [e3]
    refine jj_il2 dSy_stepsTo_22 ?_
    refine jj_icmp_ne 53 dSy_stepsTo_23 (by decide) (fun c1 => ?_) (fun c1 => ?_)
    · refine jj_ii4 (nI j - 1) dSy_stepsTo_53 (decI _) ?_
      refine jj_goto 10 dSy_stepsTo_56 (by decide) ?_
      exact ih _ (by omega) (by rw [stpF, if_neg c1] at hq; exact hq)
    · refine jj_ii3 (tk + 1) dSy_stepsTo_26 rfl ?_
      refine jj_al0 dSy_stepsTo_29 ?_
      refine mr_get _ dSy_stepsTo_30 clSy lkSy_9 (sL3 ho _) rfl ?_
      refine jj_il4 dSy_stepsTo_33 ?_
      refine mr_iald dSy_stepsTo_35 (sL4 ho _) (by omega) (by decide) ?_
      rw [e2]
      refine jj_il1 dSy_stepsTo_36 ?_
      refine jj_icmp_ne 53 dSy_stepsTo_37 (by decide) (fun c2 => ?_) (fun c2 => ?_)
      · refine jj_ii4 (nI j - 1) dSy_stepsTo_53 (decI _) ?_
        refine jj_goto 10 dSy_stepsTo_56 (by decide) ?_
        exact ih _ (by omega) (by rw [stpF, if_pos c1, if_neg (fun hh => c2 hh.1), ← Int32.add_assoc] at hq; exact hq)
      · refine jj_al0 dSy_stepsTo_40 ?_
        refine mr_get _ dSy_stepsTo_41 clSy lkSy_18 (sL3 ho _) rfl ?_
        refine jj_il4 dSy_stepsTo_44 ?_
        refine mr_iald dSy_stepsTo_46 (sL6 ho _) (by omega) (by decide) ?_
        rw [e4]
        refine jj_iconst (-1) dSy_stepsTo_47 (by decide) ?_
        refine jj_icmp_eq 53 dSy_stepsTo_48 (by decide) (fun c3 => ?_) (fun c3 => ?_)
        · refine jj_ii4 (nI j - 1) dSy_stepsTo_53 (decI _) ?_
          refine jj_goto 10 dSy_stepsTo_56 (by decide) ?_
          exact ih _ (by omega) (by rw [stpF, if_pos c1, if_neg (fun hh => hh.2 c3), ← Int32.add_assoc] at hq; exact hq)
        · refine jj_il3 dSy_stepsTo_51 ?_
          exact jj_iret dSy_stepsTo_52 rfl rfl (by rw [stpF, if_pos c1, if_pos ⟨c2, c3⟩] at hq; exact hq)
set_option maxRecDepth 100000 in
set_option maxHeartbeats 4000000 in
theorem c_stepsTo {ω : jw} {d : Nat} {M : Nat → Nat → Int32} {J sl : Nat} {Q : jr → jh → Prop} {o : Nat} (ho : o < 6) {S : List Sym} (hS : SymIs M o S) (nm : Int32) (hq : Q (.inl (some (.int (stpF nm S.reverse)))) (jst ω M J sl)) : jwp ω d mSy_stepsTo [.ref (jN ω + (13 + 15 * o + 3)), .int nm, .int (chn nm)] (jst ω M J sl) Q := by
  refine jwp_of (by simp [Value.category]) (Nat.le_of_ble_eq_true rfl) (ls := [some (.ref (jN ω + (13 + 15 * o + 3))), some (.int nm), some (.int (chn nm)), none, none]) rfl ?_
  refine jj_iconst 0 dSy_stepsTo_0 (by decide) ?_
  refine jj_is3 dSy_stepsTo_1 ?_
  refine jj_al0 dSy_stepsTo_2 ?_
  refine mr_get _ dSy_stepsTo_3 clSy lkSy_25 (sL3 ho _) rfl ?_
  rw [hS.1]
  refine jj_iconst 1 dSy_stepsTo_6 (by decide) ?_
  refine jj_isub dSy_stepsTo_7 ?_
  refine jj_is4 dSy_stepsTo_8 ?_
  exact c_stepsTo_l ho hS nm S.length 0 (Nat.le_refl _) (by rw [List.take_length, Int32.zero_add]; exact hq)
set_option maxRecDepth 100000 in
set_option maxHeartbeats 4000000 in
theorem c_radd {ω : jw} {d : Nat} {M : Nat → Nat → Int32} {J sl : Nat} {Q : jr → jh → Prop} {o : Nat} (ho : o < 6) {S : List Rel} (hS : RelIs M o S) (hl : S.length < 6) (a1 a2 a3 a4 : Int32) (hq : ∀ M', Off M M' (fun k => 13 + 15 * o + 8 ≤ k ∧ k ≤ 13 + 15 * o + 12) → RelIs M' o (S ++ [(a1, a2, a3, a4)]) → Q (.inl (some (.int (nI S.length)))) (jst ω M' J sl)) : jwp ω d mRl_add [.ref (jN ω + (13 + 15 * o + 8)), .int a1, .int a2, .int a3, .int a4] (jst ω M J sl) Q := by
  refine jwp_of (by simp [Value.category]) (Nat.le_of_ble_eq_true rfl) (ls := [some (.ref (jN ω + (13 + 15 * o + 8))), some (.int a1), some (.int a2), some (.int a3), some (.int a4)]) rfl ?_
  refine jj_al0 dRl_add_0 ?_
  refine mr_get _ dRl_add_1 clRl lkRl_9 (sL8 ho _) rfl ?_
  refine jj_al0 dRl_add_4 ?_
  refine mr_get _ dRl_add_5 clRl lkRl_24 (sL8 ho _) rfl ?_
  rw [hS.1]
  refine jj_il1 dRl_add_8 ?_
  refine mr_iast dRl_add_9 (sL9 ho) (hl) (by decide) ?_
  refine jj_al0 dRl_add_10 ?_
  refine mr_get _ dRl_add_11 clRl lkRl_15 (sL8 ho _) rfl ?_
  refine jj_al0 dRl_add_14 ?_
  refine mr_get _ dRl_add_15 clRl lkRl_24 (sL8 ho _) rfl ?_
  rw [mup_ne _ _ (by omega), hS.1]
  refine jj_il2 dRl_add_18 ?_
  refine mr_iast dRl_add_19 (sL10 ho) (hl) (by decide) ?_
  refine jj_al0 dRl_add_20 ?_
  refine mr_get _ dRl_add_21 clRl lkRl_18 (sL8 ho _) rfl ?_
  refine jj_al0 dRl_add_24 ?_
  refine mr_get _ dRl_add_25 clRl lkRl_24 (sL8 ho _) rfl ?_
  rw [mup_ne _ _ (by omega), mup_ne _ _ (by omega), hS.1]
  refine jj_il3 dRl_add_28 ?_
  refine mr_iast dRl_add_29 (sL11 ho) (hl) (by decide) ?_
  refine jj_al0 dRl_add_30 ?_
  refine mr_get _ dRl_add_31 clRl lkRl_21 (sL8 ho _) rfl ?_
  refine jj_al0 dRl_add_34 ?_
  refine mr_get _ dRl_add_35 clRl lkRl_24 (sL8 ho _) rfl ?_
  rw [mup_ne _ _ (by omega), mup_ne _ _ (by omega), mup_ne _ _ (by omega), hS.1]
  refine jj_il4 dRl_add_38 ?_
  refine mr_iast dRl_add_40 (sL12 ho) (hl) (by decide) ?_
  refine jj_al0 dRl_add_41 ?_
  refine jj_dup dRl_add_42 rfl ?_
  refine mr_get _ dRl_add_43 clRl lkRl_24 (sL8 ho _) rfl ?_
  rw [mup_ne _ _ (by omega), mup_ne _ _ (by omega), mup_ne _ _ (by omega), mup_ne _ _ (by omega), hS.1]
  refine jj_iconst 1 dRl_add_46 (by decide) ?_
  refine jj_iadd dRl_add_47 ?_
  rw [show nI S.length + 1 = nI (S.length + 1) from nI_1 _]
  refine mr_put dRl_add_48 clRl lkRl_24 rfl rfl (sL8 ho _) (sL8 ho _) (Nat.le_of_ble_eq_true rfl) rfl ?_
  refine jj_al0 dRl_add_51 ?_
  refine mr_get _ dRl_add_52 clRl lkRl_24 (sL8 ho _) rfl ?_
  rw [mup_at]
  refine jj_iconst 1 dRl_add_55 (by decide) ?_
  refine jj_isub dRl_add_56 ?_
  rw [show nI (S.length + 1) - 1 = nI S.length from nI_pred _]
  exact jj_iret dRl_add_57 rfl rfl (hq _ ((((((Off.refl M _).up _ (by omega)).up _ (by omega)).up _ (by omega)).up _ (by omega)).up _ (by omega)) ⟨by rw [mup_at]; simp, by simp; omega, fun i s hs => by
    rcases get_snoc hs with ⟨hi, hs⟩ | ⟨hi, rfl⟩
    · obtain ⟨e1, e2, e3, e4⟩ := hS.2.2 i s hs
      refine ⟨?_, ?_, ?_, ?_⟩
      · rw [mup_ne _ _ (by omega), mup_ne _ _ (by omega), mup_ne _ _ (by omega), mup_ne _ _ (by omega), mup_ne _ _ (by omega)]; exact e1
      · rw [mup_ne _ _ (by omega), mup_ne _ _ (by omega), mup_ne _ _ (by omega), mup_ne _ _ (by omega), mup_ne _ _ (by omega)]; exact e2
      · rw [mup_ne _ _ (by omega), mup_ne _ _ (by omega), mup_ne _ _ (by omega), mup_ne _ _ (by omega), mup_ne _ _ (by omega)]; exact e3
      · rw [mup_ne _ _ (by omega), mup_ne _ _ (by omega), mup_ne _ _ (by omega), mup_ne _ _ (by omega), mup_ne _ _ (by omega)]; exact e4
    · subst hi
      refine ⟨?_, ?_, ?_, ?_⟩
      · rw [mup_ne _ _ (by omega), mup_ne _ _ (by omega), mup_ne _ _ (by omega), mup_ne _ _ (by omega), mup_at]
      · rw [mup_ne _ _ (by omega), mup_ne _ _ (by omega), mup_ne _ _ (by omega), mup_at]
      · rw [mup_ne _ _ (by omega), mup_ne _ _ (by omega), mup_at]
      · rw [mup_ne _ _ (by omega), mup_at]⟩)
