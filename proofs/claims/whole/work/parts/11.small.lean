set_option maxRecDepth 100000 in
set_option maxHeartbeats 4000000 in
theorem c_min {ω : jw} {d : Nat} {h : jh} {Q : jr → jh → Prop} (a b : Int32) (hq : Q (.inl (some (.int (if b < a then b else a)))) h) : jwp ω d mMa_min [.int a, .int b] h Q := by
  refine jwp_of (by simp [Value.category]) (Nat.le_of_ble_eq_true rfl) (ls := [some (.int a), some (.int b)]) rfl ?_
  refine jj_il0 dMa_min_0 ?_
  refine jj_il1 dMa_min_1 ?_
  refine jj_icmp_gt 9 dMa_min_2 (by decide) (fun q1 => ?_) (fun q1 => ?_)
  · refine jj_il1 dMa_min_9 ?_
    exact jj_iret dMa_min_10 rfl rfl (by first | (rw [if_pos q1] at hq; exact hq) | (rw [if_neg q1] at hq; exact hq))
  · refine jj_il0 dMa_min_5 ?_
    refine jj_goto 10 dMa_min_6 (by decide) ?_
    exact jj_iret dMa_min_10 rfl rfl (by first | (rw [if_pos q1] at hq; exact hq) | (rw [if_neg q1] at hq; exact hq))
theorem isObj (o : Int32) : (∃ n : Nat, n < 6 ∧ o = nI n) ∨ (o < 0 ∨ (6 : Int32) ≤ o) := by
  rcases pk_ix o (n := 6) (by decide) with h | h | h
  · exact Or.inr (Or.inl h)
  · exact Or.inr (Or.inr h)
  · exact Or.inl h
theorem isObj_no {n : Nat} (hn : n < 6) : ¬ (nI n < 0 ∨ (6 : Int32) ≤ nI n) := by
  rintro (h | h)
  · exact nI_pos (by omega) h
  · exact nI_ge (a := n) (b := 6) hn (by decide) h
set_option maxRecDepth 100000 in
set_option maxHeartbeats 4000000 in
theorem c_BO_isObject {ω : jw} {d : Nat} {h : jh} {Q : jr → jh → Prop} (a : Int32) (ht : ∀ n : Nat, n < 6 → a = nI n → Q (.inl (some (.int 1))) h) (hf : (a < 0 ∨ (6 : Int32) ≤ a) → Q (.inl (some (.int 0))) h) : jwp ω d mBO_isObject [.int a] h Q := by
  refine jwp_of (by simp [Value.category]) (Nat.le_of_ble_eq_true rfl) (ls := [some (.int a)]) rfl ?_
  refine jj_il0 dBO_isObject_0 ?_
  refine jj_if_lt 14 dBO_isObject_1 (by decide) (fun q1 => ?_) (fun q1 => ?_)
  · refine jj_iconst 0 dBO_isObject_14 (by decide) ?_
    exact jj_iret dBO_isObject_15 rfl rfl (hf (by first | exact Or.inl q1 | exact Or.inr q2))
  · refine jj_il0 dBO_isObject_4 ?_
    refine jj_bipush 6 dBO_isObject_5 (by decide) ?_
    refine jj_icmp_ge 14 dBO_isObject_7 (by decide) (fun q2 => ?_) (fun q2 => ?_)
    · refine jj_iconst 0 dBO_isObject_14 (by decide) ?_
      exact jj_iret dBO_isObject_15 rfl rfl (hf (by first | exact Or.inl q1 | exact Or.inr q2))
    · refine jj_iconst 1 dBO_isObject_10 (by decide) ?_
      refine jj_goto 15 dBO_isObject_11 (by decide) ?_
      exact jj_iret dBO_isObject_15 rfl rfl (by rcases isObj a with ⟨n, h1, h2⟩ | h1 | h1; exact ht n h1 h2; exact absurd h1 q1; exact absurd h1 q2)
set_option maxRecDepth 100000 in
set_option maxHeartbeats 4000000 in
theorem c_checkObject {ω : jw} {d : Nat} {M : Nat → Nat → Int32} {J sl : Nat} {Q : jr → jh → Prop} (a : Int32) (hJ : J < 1000) (hsl : sl < 1000000) (ht : ∀ n : Nat, n < 6 → a = nI n → Q (.inl none) (jst ω M J sl)) (hf : (a < 0 ∨ (6 : Int32) ≤ a) → Q (.inr 0) (jst ω M (J + 1) (sl + 6))) : jwp ω (d + 1) mBO_checkObject [.int a] (jst ω M J sl) Q := by
  refine jwp_of (by simp [Value.category]) (Nat.le_of_ble_eq_true rfl) (ls := [some (.int a)]) rfl ?_
  refine jj_il0 dBO_checkObject_0 ?_
  refine ms1 dBO_checkObject_1 csBO_200 (Nat.le_of_ble_eq_true rfl) ?_
  refine c_BO_isObject a (fun n hn he => jk_i ?_) (fun hno => jk_i ?_)
  · refine jj_if_ne 15 dBO_checkObject_4 (by decide) (fun _ => ?_) (fun h => absurd h (by decide))
    exact jj_vret dBO_checkObject_15 rfl (ht n hn he)
  · refine jj_if_ne 15 dBO_checkObject_4 (by decide) (fun h => absurd h (by decide)) (fun _ => ?_)
    exact mr_throw 0 dBO_checkObject_7 dBO_checkObject_10 dBO_checkObject_11 dBO_checkObject_14 rfl thBO_162 (Nat.le_of_ble_eq_true rfl) hJ hsl (hf hno)
set_option maxRecDepth 100000 in
set_option maxHeartbeats 4000000 in
theorem c_isLoaded {ω : jw} {d : Nat} {M : Nat → Nat → Int32} {J sl : Nat} {Q : jr → jh → Prop} {o : Nat} (ho : o < 6) (ht : ¬ M (13 + 15 * o) 5 = -1 → Q (.inl (some (.int 1))) (jst ω M J sl)) (hf : M (13 + 15 * o) 5 = -1 → Q (.inl (some (.int 0))) (jst ω M J sl)) : jwp ω d mLk_isLoaded [.ref (jN ω + (13 + 15 * o))] (jst ω M J sl) Q := by
  refine jwp_of (by simp [Value.category]) (Nat.le_of_ble_eq_true rfl) (ls := [some (.ref (jN ω + (13 + 15 * o)))]) rfl ?_
  refine jj_al0 dLk_isLoaded_0 ?_
  refine mr_get _ dLk_isLoaded_1 clLk lkLk_39 (sL0 (by assumption) _) rfl ?_
  refine jj_iconst (-1) dLk_isLoaded_4 (by decide) ?_
  refine jj_icmp_eq 12 dLk_isLoaded_5 (by decide) (fun q1 => ?_) (fun q1 => ?_)
  · refine jj_iconst 0 dLk_isLoaded_12 (by decide) ?_
    exact jj_iret dLk_isLoaded_13 rfl rfl (hf q1)
  · refine jj_iconst 1 dLk_isLoaded_8 (by decide) ?_
    refine jj_goto 13 dLk_isLoaded_9 (by decide) ?_
    exact jj_iret dLk_isLoaded_13 rfl rfl (ht q1)
set_option maxRecDepth 100000 in
set_option maxHeartbeats 4000000 in
theorem c_hasWord {ω : jw} {d : Nat} {M : Nat → Nat → Int32} {J sl : Nat} {Q : jr → jh → Prop} {o : Nat} (ho : o < 6) (w : Int32) (ht : ¬ w < 0 → ¬ M (13 + 15 * o) 4 ≤ w → Q (.inl (some (.int 1))) (jst ω M J sl)) (hf : (w < 0 ∨ M (13 + 15 * o) 4 ≤ w) → Q (.inl (some (.int 0))) (jst ω M J sl)) : jwp ω d mLk_hasWord [.ref (jN ω + (13 + 15 * o)), .int w] (jst ω M J sl) Q := by
  refine jwp_of (by simp [Value.category]) (Nat.le_of_ble_eq_true rfl) (ls := [some (.ref (jN ω + (13 + 15 * o))), some (.int w)]) rfl ?_
  refine jj_il1 dLk_hasWord_0 ?_
  refine jj_if_lt 16 dLk_hasWord_1 (by decide) (fun q1 => ?_) (fun q1 => ?_)
  · refine jj_iconst 0 dLk_hasWord_16 (by decide) ?_
    exact jj_iret dLk_hasWord_17 rfl rfl (hf (by first | exact Or.inl q1 | exact Or.inr q2))
  · refine jj_il1 dLk_hasWord_4 ?_
    refine jj_al0 dLk_hasWord_5 ?_
    refine mr_get _ dLk_hasWord_6 clLk lkLk_35 (sL0 (by assumption) _) rfl ?_
    refine jj_icmp_ge 16 dLk_hasWord_9 (by decide) (fun q2 => ?_) (fun q2 => ?_)
    · refine jj_iconst 0 dLk_hasWord_16 (by decide) ?_
      exact jj_iret dLk_hasWord_17 rfl rfl (hf (by first | exact Or.inl q1 | exact Or.inr q2))
    · refine jj_iconst 1 dLk_hasWord_12 (by decide) ?_
      refine jj_goto 17 dLk_hasWord_13 (by decide) ?_
      exact jj_iret dLk_hasWord_17 rfl rfl (ht q1 q2)
set_option maxRecDepth 100000 in
set_option maxHeartbeats 4000000 in
theorem c_cutTo {ω : jw} {d : Nat} {M : Nat → Nat → Int32} {J sl : Nat} {Q : jr → jh → Prop} {k : Nat} (hk : isRow k) (n : Int32) (hq : Q (.inl none) (jst ω (mup M k 1 (if n < M k 1 then n else M k 1)) J sl)) : jwp ω (d + 1) mRw_cutTo [.ref (jN ω + k), .int n] (jst ω M J sl) Q := by
  refine jwp_of (by simp [Value.category]) (Nat.le_of_ble_eq_true rfl) (ls := [some (.ref (jN ω + k)), some (.int n)]) rfl ?_
  refine jj_al0 dRw_cutTo_0 ?_
  refine jj_al0 dRw_cutTo_1 ?_
  refine mr_get _ dRw_cutTo_2 clRw lkRw_15 (hk.1 _ _ _) rfl ?_
  refine jj_il1 dRw_cutTo_5 ?_
  refine ms2 dRw_cutTo_6 csRw_27 (Nat.le_of_ble_eq_true rfl) ?_
  refine c_min _ _ (jk_i ?_)
  refine mr_put dRw_cutTo_9 clRw lkRw_15 rfl rfl (hk.1 _ _ _) (hk.1 _ _ _) (Nat.le_of_ble_eq_true rfl) rfl ?_
  exact jj_vret dRw_cutTo_12 rfl (hq)
set_option maxRecDepth 100000 in
set_option maxHeartbeats 4000000 in
theorem c_startAnew {ω : jw} {d : Nat} {M : Nat → Nat → Int32} {J sl : Nat} {Q : jr → jh → Prop} {o : Nat} (ho : o < 6) (w : Int32) (hq : Q (.inl none) (jst ω (mup (mup (mup (mup M (13 + 15 * o) 4 w) (13 + 15 * o + 1) 1 (if 0 < M (13 + 15 * o + 1) 1 then 0 else M (13 + 15 * o + 1) 1)) (13 + 15 * o + 3) 4 0) (13 + 15 * o + 8) 4 0) J sl)) : jwp ω (d + 2) mLk_startAnew [.ref (jN ω + (13 + 15 * o)), .int w] (jst ω M J sl) Q := by
  refine jwp_of (by simp [Value.category]) (Nat.le_of_ble_eq_true rfl) (ls := [some (.ref (jN ω + (13 + 15 * o))), some (.int w)]) rfl ?_
  refine jj_al0 dLk_startAnew_0 ?_
  refine jj_il1 dLk_startAnew_1 ?_
  refine mr_put dLk_startAnew_2 clLk lkLk_35 rfl rfl (sL0 (by assumption) _) (sL0 (by assumption) _) (Nat.le_of_ble_eq_true rfl) rfl ?_
  refine jj_al0 dLk_startAnew_5 ?_
  refine mr_get _ dLk_startAnew_6 clLk lkLk_12 (sL0 (by assumption) _) rfl ?_
  refine jj_iconst 0 dLk_startAnew_9 (by decide) ?_
  refine mv1 dLk_startAnew_10 clRw cvLk_48 (sL1 (by assumption) _) (Nat.le_of_ble_eq_true rfl) ?_
  refine c_cutTo (rowN ho) 0 (jk_v ?_)
  rw [mup_ne M w (Or.inl (by omega))]
  refine jj_al0 dLk_startAnew_13 ?_
  refine mr_get _ dLk_startAnew_14 clLk lkLk_21 (sL0 (by assumption) _) rfl ?_
  refine jj_iconst 0 dLk_startAnew_17 (by decide) ?_
  refine mr_put dLk_startAnew_18 clSy lkLk_52 rfl rfl (sL3 (by assumption) _) (sL3 (by assumption) _) (Nat.le_of_ble_eq_true rfl) rfl ?_
  refine jj_al0 dLk_startAnew_21 ?_
  refine mr_get _ dLk_startAnew_22 clLk lkLk_28 (sL0 (by assumption) _) rfl ?_
  refine jj_iconst 0 dLk_startAnew_25 (by decide) ?_
  refine mr_put dLk_startAnew_26 clRl lkLk_55 rfl rfl (sL8 (by assumption) _) (sL8 (by assumption) _) (Nat.le_of_ble_eq_true rfl) rfl ?_
  exact jj_vret dLk_startAnew_29 rfl (hq)
set_option maxRecDepth 100000 in
set_option maxHeartbeats 4000000 in
theorem c_image {ω : jw} {d : Nat} {M : Nat → Nat → Int32} {J sl : Nat} {Q : jr → jh → Prop} (o w : Int32) (hJ : J < 1000) (hsl : sl < 1000000)
    (h0 : (o < 0 ∨ (6 : Int32) ≤ o) → Q (.inr 0) (jst ω M (J + 1) (sl + 6)))
    (h1 : ∀ n : Nat, n < 6 → o = nI n → (w < 1 ∨ ¬ w ≤ 8) → Q (.inr 1) (jst ω M (J + 1) (sl + 6)))
    (h2 : ∀ n : Nat, n < 6 → o = nI n → ¬ w < 1 → w ≤ 8 → ¬ M (13 + 15 * n) 5 = -1 → Q (.inr 2) (jst ω M (J + 1) (sl + 6)))
    (h3 : ∀ n : Nat, n < 6 → o = nI n → ¬ w < 1 → w ≤ 8 → M (13 + 15 * n) 5 = -1 → Q (.inl none) (jst ω (mup (mup (mup (mup M (13 + 15 * n) 4 w) (13 + 15 * n + 1) 1 (if 0 < M (13 + 15 * n + 1) 1 then 0 else M (13 + 15 * n + 1) 1)) (13 + 15 * n + 3) 4 0) (13 + 15 * n + 8) 4 0) J sl)) : jwp ω (d + 3) mBO_image [.ref (jN ω + 0), .int o, .int w] (jst ω M J sl) Q := by
  refine jwp_of (by simp [Value.category]) (Nat.le_of_ble_eq_true rfl) (ls := [some (.ref (jN ω + 0)), some (.int o), some (.int w)]) rfl ?_
  refine jj_il1 dBO_image_0 ?_
  refine ms1 dBO_image_1 csBO_50 (Nat.le_of_ble_eq_true rfl) ?_
  refine c_checkObject o hJ hsl (fun n hn he => jk_v ?_) (fun hno => jk_x rfl (h0 hno))
  subst he
  refine jj_il2 dBO_image_4 ?_
  refine jj_iconst 1 dBO_image_5 (by decide) ?_
  refine jj_icmp_lt 15 dBO_image_6 (by decide) (fun q1 => ?_) (fun q1 => ?_)
  · exact mr_throw 1 dBO_image_15 dBO_image_18 dBO_image_19 dBO_image_22 rfl thBO_54 (Nat.le_of_ble_eq_true rfl) hJ hsl (h1 n hn rfl (by first | exact Or.inl q1 | exact Or.inr q2))
  · refine jj_il2 dBO_image_9 ?_
    refine jj_bipush 8 dBO_image_10 (by decide) ?_
    refine jj_icmp_le 23 dBO_image_12 (by decide) (fun q2 => ?_) (fun q2 => ?_)
    · refine jj_al0 dBO_image_23 ?_
      refine mr_get _ dBO_image_24 clBO lkBO_11 (s0 _) rfl ?_
      refine jj_il1 dBO_image_27 ?_
      refine mr_aald dBO_image_28 (by assumption) ?_
      refine mv0 dBO_image_29 clLk cvBO_57 (sL0 (by assumption) _) (Nat.le_of_ble_eq_true rfl) ?_
      refine c_isLoaded (by assumption) (fun hld => jk_i ?_) (fun hld => jk_i ?_)
      · refine jj_if_eq 43 dBO_image_32 (by decide) (fun h => absurd h (by decide)) (fun _ => ?_)
        exact mr_throw 2 dBO_image_35 dBO_image_38 dBO_image_39 dBO_image_42 rfl thBO_61 (Nat.le_of_ble_eq_true rfl) hJ hsl (h2 n hn rfl q1 q2 hld)
      · refine jj_if_eq 43 dBO_image_32 (by decide) (fun _ => ?_) (fun h => absurd h (by decide))
        refine jj_al0 dBO_image_43 ?_
        refine mr_get _ dBO_image_44 clBO lkBO_11 (s0 _) rfl ?_
        refine jj_il1 dBO_image_47 ?_
        refine mr_aald dBO_image_48 (by assumption) ?_
        refine jj_il2 dBO_image_49 ?_
        refine mv1 dBO_image_50 clLk cvBO_64 (sL0 (by assumption) _) (Nat.le_of_ble_eq_true rfl) ?_
        refine c_startAnew (by assumption) w (jk_v ?_)
        exact jj_vret dBO_image_53 rfl (h3 n hn rfl q1 q2 hld)
    · exact mr_throw 1 dBO_image_15 dBO_image_18 dBO_image_19 dBO_image_22 rfl thBO_54 (Nat.le_of_ble_eq_true rfl) hJ hsl (h1 n hn rfl (by first | exact Or.inl q1 | exact Or.inr q2))
