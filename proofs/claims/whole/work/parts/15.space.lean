theorem ixOf (n : Nat) (hn : n < 2 ^ 31) (a : Int32) : (∃ i : Nat, i < n ∧ a = nI i) ∨ (a < 0 ∨ nI n ≤ a) := by
  rcases pk_ix a hn with h | h | h
  · exact Or.inr (Or.inl h)
  · exact Or.inr (Or.inr h)
  · exact Or.inl h
theorem ixIn {n : Nat} (hn : n < 2 ^ 31) {a : Int32} (h0 : ¬ a < 0) (h1 : ¬ nI n ≤ a) : ∃ i : Nat, i < n ∧ a = nI i := by
  rcases ixOf n hn a with h | h | h
  · exact h
  · exact absurd h h0
  · exact absurd h h1
set_option maxRecDepth 100000 in
set_option maxHeartbeats 4000000 in
theorem c_hasImageAt {ω : jw} {d : Nat} {M : Nat → Nat → Int32} {J sl : Nat} {Q : jr → jh → Prop} (a : Int32) (ht : ∀ i : Nat, i < 32 → a = nI i → ¬ M 4 i = 0 → Q (.inl (some (.int 1))) (jst ω M J sl)) (hf : (∀ i : Nat, i < 32 → a = nI i → M 4 i = 0) → Q (.inl (some (.int 0))) (jst ω M J sl)) : jwp ω d mSp_hasImageAt [.ref (jN ω + 2), .int a] (jst ω M J sl) Q := by
  refine jwp_of (by simp [Value.category]) (Nat.le_of_ble_eq_true rfl) (ls := [some (.ref (jN ω + 2)), some (.int a)]) rfl ?_
  refine jj_il1 dSp_hasImageAt_0 ?_
  refine jj_if_lt 23 dSp_hasImageAt_1 (by decide) (fun q1 => ?_) (fun q1 => ?_)
  · refine jj_iconst 0 dSp_hasImageAt_23 (by decide) ?_
    exact jj_iret dSp_hasImageAt_24 rfl rfl (hf (fun i hi he => absurd q1 (by rw [he]; exact nI_pos (by omega))))
  · refine jj_il1 dSp_hasImageAt_4 ?_
    refine jj_bipush 32 dSp_hasImageAt_5 (by decide) ?_
    refine jj_icmp_ge 23 dSp_hasImageAt_7 (by decide) (fun q2 => ?_) (fun q2 => ?_)
    · refine jj_iconst 0 dSp_hasImageAt_23 (by decide) ?_
      exact jj_iret dSp_hasImageAt_24 rfl rfl (hf (fun i hi he => absurd q2 (by rw [he]; exact nI_ge (a := i) (b := 32) hi (by decide))))
    · obtain ⟨i, hi, rfl⟩ := ixIn (n := 32) (by decide) q1 q2
      refine jj_al0 dSp_hasImageAt_10 ?_
      refine mr_get _ dSp_hasImageAt_11 clSp lkSp_15 (s2 _) rfl ?_
      refine jj_il1 dSp_hasImageAt_14 ?_
      refine mr_zald dSp_hasImageAt_15 (s4 _) (hi) (by decide) ?_
      refine jj_if_eq 23 dSp_hasImageAt_16 (by decide) (fun q3 => ?_) (fun q3 => ?_)
      · refine jj_iconst 0 dSp_hasImageAt_23 (by decide) ?_
        exact jj_iret dSp_hasImageAt_24 rfl rfl (hf (fun j hj he => by rw [← (nI_eq (by omega) (by omega)).mp he]; exact q3))
      · refine jj_iconst 1 dSp_hasImageAt_19 (by decide) ?_
        refine jj_goto 24 dSp_hasImageAt_20 (by decide) ?_
        exact jj_iret dSp_hasImageAt_24 rfl rfl (ht i hi rfl q3)
/-- free from b on, w words -/
def fr (tk : Nat → Bool) (b w : Nat) : Prop := b + w ≤ 32 ∧ ∀ a, b ≤ a → a < b + w → tk a = false
theorem b2i_0 (b : Bool) : b2i b = 0 ↔ b = false := by cases b <;> decide
set_option maxRecDepth 100000 in
set_option maxHeartbeats 4000000 in
theorem c_leastBase_l {ω : jw} {d : Nat} {M : Nat → Nat → Int32} {J sl : Nat} {Q : jr → jh → Prop} (tk : Nat → Bool) (hT : ∀ a, a < 32 → M 4 a = b2i (tk a)) (w : Nat) (hw : 1 ≤ w) (hw8 : w ≤ 32) (ht : ∀ b, fr tk b w → (∀ b', b' < b → ¬ fr tk b' w) → Q (.inl (some (.int (nI b)))) (jst ω M J sl)) (hf : (∀ b, ¬ fr tk b w) → Q (.inl (some (.int (-1)))) (jst ω M J sl)) :
    ∀ n a f : Nat, 32 - a < n → a ≤ 32 → f ≤ a → f < w → (∀ t, a - f ≤ t → t < a → tk t = false) → (f = a ∨ tk (a - f - 1) = true) → (∀ b, b + w ≤ a → ¬ fr tk b w) → jj ω d mSp_leastBaseFor 4 [some (.ref (jN ω + 2)), some (.int (nI w)), some (.int (nI f)), some (.int (nI a))] [] (jst ω M J sl) Q := by
  intro n
  induction n with
  | zero => intro a f hn; omega
  | succ n ih =>
    intro a f hn ha hfa hfw h1 h2 h3
    refine jj_il3 dSp_leastBaseFor_4 ?_
    refine jj_bipush 32 dSp_leastBaseFor_5 (by decide) ?_
    refine jj_icmp_ge 44 dSp_leastBaseFor_7 (by decide) (fun q1 => ?_) (fun q1 => ?_)
    · refine jj_iconst (-1) dSp_leastBaseFor_44 (by decide) ?_
      exact jj_iret dSp_leastBaseFor_45 rfl rfl (hf (fun b hfr => h3 b (by have := hfr.1; have := le_le (a := 32) rfl q1 (by decide) (by omega); omega) hfr))
    · have ha2 : a < 32 := nle_lt (a := 32) rfl q1 (by decide) (by omega)
      refine jj_al0 dSp_leastBaseFor_10 ?_
      refine mr_get _ dSp_leastBaseFor_11 clSp lkSp_15 (s2 _) rfl ?_
      refine jj_il3 dSp_leastBaseFor_14 ?_
      refine mr_zald dSp_leastBaseFor_15 (s4 _) (ha2) (by decide) ?_
      rw [hT a ha2]
      refine jj_if_eq 23 dSp_leastBaseFor_16 (by decide) (fun q2 => ?_) (fun q2 => ?_)
      · refine jj_il2 dSp_leastBaseFor_23 ?_
        refine jj_iconst 1 dSp_leastBaseFor_24 (by decide) ?_
        refine jj_iadd dSp_leastBaseFor_25 ?_
        rw [show nI f + 1 = nI (f + 1) from nI_1 f]
        refine jj_is2 dSp_leastBaseFor_26 ?_
        refine jj_il2 dSp_leastBaseFor_27 ?_
        refine jj_il1 dSp_leastBaseFor_28 ?_
        refine jj_icmp_ne 38 dSp_leastBaseFor_29 (by decide) (fun q3 => ?_) (fun q3 => ?_)
        · refine jj_ii3 (nI (a + 1)) dSp_leastBaseFor_38 (inc1 a) ?_
          refine jj_goto 4 dSp_leastBaseFor_41 (by decide) ?_
          have hta : tk a = false := (b2i_0 _).mp q2
          have hne : f + 1 ≠ w := fun hh => q3 (by rw [hh])
          refine ih (a + 1) (f + 1) (by omega) (by omega) (by omega) (by omega) (fun t h4 h5 => ?_) (by rcases h2 with h2 | h2; exact Or.inl (by omega); exact Or.inr (by rw [show a + 1 - (f + 1) - 1 = a - f - 1 by omega]; exact h2)) (fun b hb hfr => ?_)
          · by_cases hta2 : t = a
            · rw [hta2]; exact hta
            · exact h1 t (by omega) (by omega)
          · by_cases hb2 : b + w ≤ a
            · exact h3 b hb2 hfr
            · rcases h2 with h2 | h2
              · omega
              · have := hfr.2 (a - f - 1) (by omega) (by omega)
                rw [h2] at this
                cases this
        · refine jj_il3 dSp_leastBaseFor_32 ?_
          refine jj_iconst 1 dSp_leastBaseFor_33 (by decide) ?_
          refine jj_iadd dSp_leastBaseFor_34 ?_
          refine jj_il1 dSp_leastBaseFor_35 ?_
          refine jj_isub dSp_leastBaseFor_36 ?_
          exact jj_iret dSp_leastBaseFor_37 rfl rfl (by
      have hw3 : f + 1 = w := (nI_eq (by omega) (by omega)).mp q3
      have hta : tk a = false := (b2i_0 _).mp q2
      rw [show nI a + 1 - nI w = nI (a + 1 - w) by rw [nI_1, pk_sub (by omega)]]
      refine ht (a + 1 - w) ⟨by omega, fun t h4 h5 => ?_⟩ (fun b' hb' hfr => h3 b' (by omega) hfr)
      by_cases hta2 : t = a
      · rw [hta2]; exact hta
      · exact h1 t (by omega) (by omega))
      · refine jj_iconst 0 dSp_leastBaseFor_19 (by decide) ?_
        refine jj_goto 26 dSp_leastBaseFor_20 (by decide) ?_
        
        refine jj_is2 dSp_leastBaseFor_26 ?_
        refine jj_il2 dSp_leastBaseFor_27 ?_
        refine jj_il1 dSp_leastBaseFor_28 ?_
        refine jj_icmp_ne 38 dSp_leastBaseFor_29 (by decide) (fun q3 => ?_) (fun q3 => ?_)
        · refine jj_ii3 (nI (a + 1)) dSp_leastBaseFor_38 (inc1 a) ?_
          refine jj_goto 4 dSp_leastBaseFor_41 (by decide) ?_
          refine ih (a + 1) 0 (by omega) (by omega) (by omega) (by omega) (fun t h4 h5 => by omega) (Or.inr ?_) (fun b hb hfr => ?_)
          · cases hta : tk a
            · exact absurd ((b2i_0 _).mpr hta) q2
            · simpa using hta
          · by_cases hb2 : b + w ≤ a
            · exact h3 b hb2 hfr
            · have := hfr.2 a (by omega) (by omega)
              exact q2 ((b2i_0 _).mpr this)
        · refine jj_il3 dSp_leastBaseFor_32 ?_
          refine jj_iconst 1 dSp_leastBaseFor_33 (by decide) ?_
          refine jj_iadd dSp_leastBaseFor_34 ?_
          refine jj_il1 dSp_leastBaseFor_35 ?_
          refine jj_isub dSp_leastBaseFor_36 ?_
          exact jj_iret dSp_leastBaseFor_37 rfl rfl (by
      have hw3 : (0 : Nat) = w := (nI_eq (by omega) (by omega)).mp q3
      omega)
set_option maxRecDepth 100000 in
set_option maxHeartbeats 4000000 in
theorem c_leastBase {ω : jw} {d : Nat} {M : Nat → Nat → Int32} {J sl : Nat} {Q : jr → jh → Prop} (tk : Nat → Bool) (hT : ∀ a, a < 32 → M 4 a = b2i (tk a)) (w : Nat) (hw : 1 ≤ w) (hw8 : w ≤ 32) (ht : ∀ b, fr tk b w → (∀ b', b' < b → ¬ fr tk b' w) → Q (.inl (some (.int (nI b)))) (jst ω M J sl)) (hf : (∀ b, ¬ fr tk b w) → Q (.inl (some (.int (-1)))) (jst ω M J sl)) : jwp ω d mSp_leastBaseFor [.ref (jN ω + 2), .int (nI w)] (jst ω M J sl) Q := by
  refine jwp_of (by simp [Value.category]) (Nat.le_of_ble_eq_true rfl) (ls := [some (.ref (jN ω + 2)), some (.int (nI w)), none, none]) rfl ?_
  refine jj_iconst 0 dSp_leastBaseFor_0 (by decide) ?_
  refine jj_is2 dSp_leastBaseFor_1 ?_
  refine jj_iconst 0 dSp_leastBaseFor_2 (by decide) ?_
  refine jj_is3 dSp_leastBaseFor_3 ?_
  exact c_leastBase_l tk hT w hw hw8 ht hf 33 0 0 (by omega) (by omega) (by omega) (by omega) (fun t h4 h5 => by omega) (Or.inl rfl) (fun b hb hfr => by omega)
set_option maxRecDepth 100000 in
set_option maxHeartbeats 4000000 in
theorem c_take_l {ω : jw} {d : Nat} {J sl : Nat} {Q : jr → jh → Prop} {M0 : Nat → Nat → Int32} (b w : Nat) (hbw : b + w ≤ 32) (hq : ∀ M', (∀ k i, M' k i = if k = 4 ∧ b ≤ i ∧ i < b + w then 1 else M0 k i) → Q (.inl none) (jst ω M' J sl)) :
    ∀ (n a : Nat) (M : Nat → Nat → Int32), b + w - a < n → b ≤ a → a ≤ b + w → (∀ k i, M k i = if k = 4 ∧ b ≤ i ∧ i < a then 1 else M0 k i) → jj ω d mSp_take 2 [some (.ref (jN ω + 2)), some (.int (nI b)), some (.int (nI w)), some (.int (nI a))] [] (jst ω M J sl) Q := by
  intro n
  induction n with
  | zero => intro a M hn; omega
  | succ n ih =>
    intro a M hn hb ha hM
    refine jj_il3 dSp_take_2 ?_
    refine jj_il1 dSp_take_3 ?_
    refine jj_il2 dSp_take_4 ?_
    refine jj_iadd dSp_take_5 ?_
    rw [nI_add b w]
    refine jj_icmp_ge 22 dSp_take_6 (by decide) (fun q1 => ?_) (fun q1 => ?_)
    · exact jj_vret dSp_take_22 rfl (hq M (fun k i => by rw [hM k i, show a = b + w by have := le_le (a := b + w) rfl q1 (by omega) (by omega); omega]))
    · have ha2 : a < b + w := nle_lt (a := b + w) rfl q1 (by omega) (by omega)
      refine jj_al0 dSp_take_9 ?_
      refine mr_get _ dSp_take_10 clSp lkSp_15 (s2 _) rfl ?_
      refine jj_il3 dSp_take_13 ?_
      refine jj_iconst 1 dSp_take_14 (by decide) ?_
      refine mr_zast dSp_take_15 (s4) (by first | exact Or.inl rfl | exact Or.inr rfl) (by omega) (by decide) ?_
      refine jj_ii3 (nI (a + 1)) dSp_take_16 (inc1 a) ?_
      refine jj_goto 2 dSp_take_19 (by decide) ?_
      refine ih (a + 1) _ (by omega) (by omega) (by omega) (fun k i => ?_)
      simp only [mup, hM k i]
      repeat (first | (split <;> first | rfl | omega) | split)
      all_goals first | rfl | omega
set_option maxRecDepth 100000 in
set_option maxHeartbeats 4000000 in
theorem c_take {ω : jw} {d : Nat} {M : Nat → Nat → Int32} {J sl : Nat} {Q : jr → jh → Prop} (b w : Nat) (hbw : b + w ≤ 32) (hq : ∀ M', (∀ k i, M' k i = if k = 4 ∧ b ≤ i ∧ i < b + w then 1 else M k i) → Q (.inl none) (jst ω M' J sl)) : jwp ω d mSp_take [.ref (jN ω + 2), .int (nI b), .int (nI w)] (jst ω M J sl) Q := by
  refine jwp_of (by simp [Value.category]) (Nat.le_of_ble_eq_true rfl) (ls := [some (.ref (jN ω + 2)), some (.int (nI b)), some (.int (nI w)), none]) rfl ?_
  refine jj_il1 dSp_take_0 ?_
  refine jj_is3 dSp_take_1 ?_
  exact c_take_l b w hbw hq (w + 1) b M (by omega) (by omega) (by omega) (fun k i => by rw [if_neg (by omega)])
set_option maxRecDepth 100000 in
set_option maxHeartbeats 4000000 in
theorem c_giveBack_l {ω : jw} {d : Nat} {J sl : Nat} {Q : jr → jh → Prop} {M0 : Nat → Nat → Int32} (b w : Nat) (hbw : b + w ≤ 32) (hq : ∀ M', (∀ k i, M' k i = if (k = 3 ∨ k = 4) ∧ b ≤ i ∧ i < b + w then 0 else M0 k i) → Q (.inl none) (jst ω M' J sl)) :
    ∀ (n a : Nat) (M : Nat → Nat → Int32), b + w - a < n → b ≤ a → a ≤ b + w → (∀ k i, M k i = if (k = 3 ∨ k = 4) ∧ b ≤ i ∧ i < a then 0 else M0 k i) → jj ω d mSp_giveBack 2 [some (.ref (jN ω + 2)), some (.int (nI b)), some (.int (nI w)), some (.int (nI a))] [] (jst ω M J sl) Q := by
  intro n
  induction n with
  | zero => intro a M hn; omega
  | succ n ih =>
    intro a M hn hb ha hM
    refine jj_il3 dSp_giveBack_2 ?_
    refine jj_il1 dSp_giveBack_3 ?_
    refine jj_il2 dSp_giveBack_4 ?_
    refine jj_iadd dSp_giveBack_5 ?_
    rw [nI_add b w]
    refine jj_icmp_ge 29 dSp_giveBack_6 (by decide) (fun q1 => ?_) (fun q1 => ?_)
    · exact jj_vret dSp_giveBack_29 rfl (hq M (fun k i => by rw [hM k i, show a = b + w by have := le_le (a := b + w) rfl q1 (by omega) (by omega); omega]))
    · have ha2 : a < b + w := nle_lt (a := b + w) rfl q1 (by omega) (by omega)
      refine jj_al0 dSp_giveBack_9 ?_
      refine mr_get _ dSp_giveBack_10 clSp lkSp_15 (s2 _) rfl ?_
      refine jj_il3 dSp_giveBack_13 ?_
      refine jj_iconst 0 dSp_giveBack_14 (by decide) ?_
      refine mr_zast dSp_giveBack_15 (s4) (by first | exact Or.inl rfl | exact Or.inr rfl) (by omega) (by decide) ?_
      refine jj_al0 dSp_giveBack_16 ?_
      refine mr_get _ dSp_giveBack_17 clSp lkSp_9 (s2 _) rfl ?_
      refine jj_il3 dSp_giveBack_20 ?_
      refine jj_iconst 0 dSp_giveBack_21 (by decide) ?_
      refine mr_iast dSp_giveBack_22 (s3) (by omega) (by decide) ?_
      refine jj_ii3 (nI (a + 1)) dSp_giveBack_23 (inc1 a) ?_
      refine jj_goto 2 dSp_giveBack_26 (by decide) ?_
      refine ih (a + 1) _ (by omega) (by omega) (by omega) (fun k i => ?_)
      simp only [mup, hM k i]
      repeat (first | (split <;> first | rfl | omega) | split)
      all_goals first | rfl | omega
set_option maxRecDepth 100000 in
set_option maxHeartbeats 4000000 in
theorem c_giveBack {ω : jw} {d : Nat} {M : Nat → Nat → Int32} {J sl : Nat} {Q : jr → jh → Prop} (b w : Nat) (hbw : b + w ≤ 32) (hq : ∀ M', (∀ k i, M' k i = if (k = 3 ∨ k = 4) ∧ b ≤ i ∧ i < b + w then 0 else M k i) → Q (.inl none) (jst ω M' J sl)) : jwp ω d mSp_giveBack [.ref (jN ω + 2), .int (nI b), .int (nI w)] (jst ω M J sl) Q := by
  refine jwp_of (by simp [Value.category]) (Nat.le_of_ble_eq_true rfl) (ls := [some (.ref (jN ω + 2)), some (.int (nI b)), some (.int (nI w)), none]) rfl ?_
  refine jj_il1 dSp_giveBack_0 ?_
  refine jj_is3 dSp_giveBack_1 ?_
  exact c_giveBack_l b w hbw hq (w + 1) b M (by omega) (by omega) (by omega) (fun k i => by rw [if_neg (by omega)])
theorem rem40 (a : Nat) (ha : a < 2 ^ 31) : nI a - nI a / 40 * 40 = nI (a % 40) := pk_rem ha (by decide) (by decide)
set_option maxRecDepth 100000 in
set_option maxHeartbeats 4000000 in
theorem c_note {ω : jw} {d : Nat} {M : Nat → Nat → Int32} {J sl : Nat} {Q : jr → jh → Prop} (nx : Nat) (hx : nx < 40) (h1 : M 5 1 = nI nx) (e : Int32) (hq : Q (.inl none) (jst ω (mup (mup (mup M 6 nx e) 5 1 (nI ((nx + 1) % 40))) 5 2 (M 5 2 + 1)) J sl)) : jwp ω d mJr_note [.ref (jN ω + 5), .int e] (jst ω M J sl) Q := by
  refine jwp_of (by simp [Value.category]) (Nat.le_of_ble_eq_true rfl) (ls := [some (.ref (jN ω + 5)), some (.int e)]) rfl ?_
  refine jj_al0 dJr_note_0 ?_
  refine mr_get _ dJr_note_1 clJr lkJr_9 (s5 _) rfl ?_
  refine jj_al0 dJr_note_4 ?_
  refine mr_get _ dJr_note_5 clJr lkJr_15 (s5 _) rfl ?_
  rw [h1]
  refine jj_il1 dJr_note_8 ?_
  refine mr_iast dJr_note_9 (s6) (hx) (by decide) ?_
  refine jj_al0 dJr_note_10 ?_
  refine jj_al0 dJr_note_11 ?_
  refine mr_get _ dJr_note_12 clJr lkJr_15 (s5 _) rfl ?_
  rw [mup_ne _ _ (by omega), h1]
  refine jj_iconst 1 dJr_note_15 (by decide) ?_
  refine jj_iadd dJr_note_16 ?_
  rw [show nI nx + 1 = nI (nx + 1) from nI_1 _]
  refine jj_bipush 40 dJr_note_17 (by decide) ?_
  refine jj_irem dJr_note_19 (by decide) ?_
  rw [rem40 _ (by omega)]
  refine mr_put dJr_note_20 clJr lkJr_15 rfl rfl (s5 _) (s5 _) (Nat.le_of_ble_eq_true rfl) rfl ?_
  refine jj_al0 dJr_note_23 ?_
  refine jj_dup dJr_note_24 rfl ?_
  refine mr_get _ dJr_note_25 clJr lkJr_19 (s5 _) rfl ?_
  rw [mup_ne _ _ (by omega), mup_ne _ _ (by omega)]
  refine jj_iconst 1 dJr_note_28 (by decide) ?_
  refine jj_iadd dJr_note_29 ?_
  refine mr_put dJr_note_30 clJr lkJr_19 rfl rfl (s5 _) (s5 _) (Nat.le_of_ble_eq_true rfl) rfl ?_
  exact jj_vret dJr_note_33 rfl (hq)
set_option maxRecDepth 100000 in
set_option maxHeartbeats 4000000 in
theorem c_latestBut {ω : jw} {d : Nat} {M : Nat → Nat → Int32} {J sl : Nat} {Q : jr → jh → Prop} (nx k : Nat) (hx : nx < 40) (hk : k < 40) (h1 : M 5 1 = nI nx) (hq : Q (.inl (some (.int (M 6 ((nx + 39 - k) % 40))))) (jst ω M J sl)) : jwp ω d mJr_latestBut [.ref (jN ω + 5), .int (nI k)] (jst ω M J sl) Q := by
  refine jwp_of (by simp [Value.category]) (Nat.le_of_ble_eq_true rfl) (ls := [some (.ref (jN ω + 5)), some (.int (nI k))]) rfl ?_
  refine jj_al0 dJr_latestBut_0 ?_
  refine mr_get _ dJr_latestBut_1 clJr lkJr_9 (s5 _) rfl ?_
  refine jj_al0 dJr_latestBut_4 ?_
  refine mr_get _ dJr_latestBut_5 clJr lkJr_15 (s5 _) rfl ?_
  rw [h1]
  refine jj_bipush 40 dJr_latestBut_8 (by decide) ?_
  refine jj_iadd dJr_latestBut_10 ?_
  refine jj_iconst 1 dJr_latestBut_11 (by decide) ?_
  refine jj_isub dJr_latestBut_12 ?_
  refine jj_il1 dJr_latestBut_13 ?_
  refine jj_isub dJr_latestBut_14 ?_
  rw [show nI nx + 40 - 1 - nI k = nI (nx + 39 - k) by rw [show nI nx + 40 = nI (nx + 40) from nI_add nx 40, show nI (nx + 40) - 1 = nI (nx + 39) from nI_pred (nx + 39), pk_sub (by omega)]]
  refine jj_bipush 40 dJr_latestBut_15 (by decide) ?_
  refine jj_irem dJr_latestBut_17 (by decide) ?_
  rw [rem40 _ (by omega)]
  refine mr_iald dJr_latestBut_18 (s6 _) (by omega) (by decide) ?_
  exact jj_iret dJr_latestBut_19 rfl rfl (hq)
