theorem rm_keep {l : List Nat} {i p q : Nat} (h : l[i]? = some q) (hq : q ≠ p) : (l.take (i + 1)).filter (fun z => decide (z ≠ p)) = (l.take i).filter (fun z => decide (z ≠ p)) ++ [q] := by
  rw [List.take_add_one, h, List.filter_append]
  simp [hq]
theorem rm_drop {l : List Nat} {i p : Nat} (h : l[i]? = some p) : (l.take (i + 1)).filter (fun z => decide (z ≠ p)) = (l.take i).filter (fun z => decide (z ≠ p)) := by
  rw [List.take_add_one, h, List.filter_append]
  simp
set_option maxRecDepth 100000 in
set_option maxHeartbeats 4000000 in
theorem c_remove_l {ω : jw} {d : Nat} {J sl : Nat} {Q : jr → jh → Prop} {M0 : Nat → Nat → Int32} {k p : Nat} {l : List Nat} (hk : isRow k) (hp : p < 6) (hR : RowIs M0 k l) (hq : ∀ M', OffRow M0 M' k → RowIs M' k (l.filter (fun z => decide (z ≠ p))) → Q (.inl none) (jst ω M' J sl)) :
    ∀ (n i : Nat) (M : Nat → Nat → Int32), l.length - i < n → i ≤ l.length → OffRow M0 M k → M k 1 = nI l.length → (∀ t : Nat, i ≤ t → M (k + 1) t = M0 (k + 1) t) → (∀ t q : Nat, ((l.take i).filter (fun z => decide (z ≠ p)))[t]? = some q → M (k + 1) t = nI q) →
    jj ω d mRw_remove 4 [some (.ref (jN ω + k)), some (.int (nI p)), some (.int (nI ((l.take i).filter (fun z => decide (z ≠ p))).length)), some (.int (nI i))] [] (jst ω M J sl) Q := by
  have hl6 := hR.2.1
  intro n
  induction n with
  | zero => intro i M hn; omega
  | succ n ih =>
    intro i M hn hi hO hs hA hB
    have hfl : ((l.take i).filter (fun z => decide (z ≠ p))).length ≤ i := Nat.le_trans (List.length_filter_le _ _) (by rw [List.length_take]; omega)
    refine jj_il3 dRw_remove_4 ?_
    refine jj_al0 dRw_remove_5 ?_
    refine mr_get _ dRw_remove_6 clRw lkRw_15 (hk.1 _ _ _) rfl ?_
    refine jj_icmp_ge 43 dRw_remove_9 (by decide) (fun q1 => ?_) (fun q1 => ?_)
    · have hi2 : i = l.length := by have := le_le hs q1 (by omega) (by omega); omega
      refine jj_al0 dRw_remove_43 ?_
      refine jj_il2 dRw_remove_44 ?_
      refine mr_put dRw_remove_45 clRw lkRw_15 rfl rfl (hk.1 _ _ _) (hk.1 _ _ _) (Nat.le_of_ble_eq_true rfl) rfl ?_
      exact jj_vret dRw_remove_48 rfl (hq _ (fun k' j h1 h2 => by rw [mup_ne _ _ (Or.inl h1)]; exact hO k' j h1 h2) (by
      subst hi2
      rw [List.take_length] at hB hfl ⊢
      refine ⟨mup_at _ _ _ _, by omega, fun q hq => hR.2.2.1 q (List.mem_filter.mp hq).1, fun t q hq => ?_⟩
      rw [mup_ne _ _ (Or.inl (by omega))]
      exact hB t q hq))
    · have hi2 : i < l.length := nle_lt hs q1 (by omega) (by omega)
      obtain ⟨p2, e1, e2, e3⟩ := hR.at hi2
      refine jj_al0 dRw_remove_12 ?_
      refine mr_get _ dRw_remove_13 clRw lkRw_9 (hk.1 _ _ _) rfl ?_
      refine jj_il3 dRw_remove_16 ?_
      refine mr_iald dRw_remove_17 (hk.2 _ _ _) (by omega) (by decide) ?_
      rw [hA i (Nat.le_refl i), e3]
      refine jj_il1 dRw_remove_18 ?_
      refine jj_icmp_eq 37 dRw_remove_19 (by decide) (fun q2 => ?_) (fun q2 => ?_)
      · refine jj_ii3 (nI (i + 1)) dRw_remove_37 (inc1 i) ?_
        refine jj_goto 4 dRw_remove_40 (by decide) ?_
        first
          | (have e9 := rm_keep e1 hne
             have hlen : ((l.take (i + 1)).filter (fun z => decide (z ≠ p))).length = ((l.take i).filter (fun z => decide (z ≠ p))).length + 1 := by rw [e9]; simp
             rw [← hlen]
             refine ih (i + 1) _ (by omega) (by omega) (fun k' j h1 h2 => by rw [mup_ne _ _ (Or.inl h2)]; exact hO k' j h1 h2) (by rw [mup_ne _ _ (Or.inl (by omega))]; exact hs) (fun t ht => by rw [mup_ne _ _ (Or.inr (by omega))]; exact hA t (by omega)) (fun t q hq => ?_)
             rw [e9] at hq
             by_cases ht : t < ((l.take i).filter (fun z => decide (z ≠ p))).length
             · rw [List.getElem?_append_left ht] at hq
               rw [mup_ne _ _ (Or.inr (by omega))]
               exact hB t q hq
             · rw [List.getElem?_append_right (by omega)] at hq
               have h1 : t - ((l.take i).filter (fun z => decide (z ≠ p))).length < 1 := (List.getElem?_eq_some_iff.mp hq).1
               rw [show t - ((l.take i).filter (fun z => decide (z ≠ p))).length = 0 by omega] at hq
               cases hq
               rw [show t = ((l.take i).filter (fun z => decide (z ≠ p))).length by omega, mup_at])
          | (have e8 : p2 = p := (nI6 e2 hp).mp q2
             have e9 := rm_drop (p := p) (e8 ▸ e1)
             rw [← e9]
             exact ih (i + 1) M (by omega) (by omega) hO hs (fun t ht => hA t (by omega)) (by rw [e9]; exact hB))
      · have hne : p2 ≠ p := fun hh => q2 (by rw [hh])
        refine jj_al0 dRw_remove_22 ?_
        refine mr_get _ dRw_remove_23 clRw lkRw_9 (hk.1 _ _ _) rfl ?_
        refine jj_il2 dRw_remove_26 ?_
        refine jj_al0 dRw_remove_27 ?_
        refine mr_get _ dRw_remove_28 clRw lkRw_9 (hk.1 _ _ _) rfl ?_
        refine jj_il3 dRw_remove_31 ?_
        refine mr_iald dRw_remove_32 (hk.2 _ _ _) (by omega) (by decide) ?_
        rw [hA i (Nat.le_refl i), e3]
        refine mr_iast dRw_remove_33 (hk.2 _ _) (by omega) (by decide) ?_
        refine jj_ii2 (nI (((l.take i).filter (fun z => decide (z ≠ p))).length + 1)) dRw_remove_34 (inc1 _) ?_
        refine jj_ii3 (nI (i + 1)) dRw_remove_37 (inc1 i) ?_
        refine jj_goto 4 dRw_remove_40 (by decide) ?_
        first
          | (have e9 := rm_keep e1 hne
             have hlen : ((l.take (i + 1)).filter (fun z => decide (z ≠ p))).length = ((l.take i).filter (fun z => decide (z ≠ p))).length + 1 := by rw [e9]; simp
             rw [← hlen]
             refine ih (i + 1) _ (by omega) (by omega) (fun k' j h1 h2 => by rw [mup_ne _ _ (Or.inl h2)]; exact hO k' j h1 h2) (by rw [mup_ne _ _ (Or.inl (by omega))]; exact hs) (fun t ht => by rw [mup_ne _ _ (Or.inr (by omega))]; exact hA t (by omega)) (fun t q hq => ?_)
             rw [e9] at hq
             by_cases ht : t < ((l.take i).filter (fun z => decide (z ≠ p))).length
             · rw [List.getElem?_append_left ht] at hq
               rw [mup_ne _ _ (Or.inr (by omega))]
               exact hB t q hq
             · rw [List.getElem?_append_right (by omega)] at hq
               have h1 : t - ((l.take i).filter (fun z => decide (z ≠ p))).length < 1 := (List.getElem?_eq_some_iff.mp hq).1
               rw [show t - ((l.take i).filter (fun z => decide (z ≠ p))).length = 0 by omega] at hq
               cases hq
               rw [show t = ((l.take i).filter (fun z => decide (z ≠ p))).length by omega, mup_at])
          | (have e8 : p2 = p := (nI6 e2 hp).mp q2
             have e9 := rm_drop (p := p) (e8 ▸ e1)
             rw [← e9]
             exact ih (i + 1) M (by omega) (by omega) hO hs (fun t ht => hA t (by omega)) (by rw [e9]; exact hB))
set_option maxRecDepth 100000 in
set_option maxHeartbeats 4000000 in
theorem c_remove {ω : jw} {d : Nat} {M : Nat → Nat → Int32} {J sl : Nat} {Q : jr → jh → Prop} {k p : Nat} {l : List Nat} (hk : isRow k) (hp : p < 6) (hR : RowIs M k l) (hq : ∀ M', OffRow M M' k → RowIs M' k (l.filter (fun z => decide (z ≠ p))) → Q (.inl none) (jst ω M' J sl)) : jwp ω d mRw_remove [.ref (jN ω + k), .int (nI p)] (jst ω M J sl) Q := by
  refine jwp_of (by simp [Value.category]) (Nat.le_of_ble_eq_true rfl) (ls := [some (.ref (jN ω + k)), some (.int (nI p)), none, none]) rfl ?_
  refine jj_iconst 0 dRw_remove_0 (by decide) ?_
  refine jj_is2 dRw_remove_1 ?_
  refine jj_iconst 0 dRw_remove_2 (by decide) ?_
  refine jj_is3 dRw_remove_3 ?_
  exact c_remove_l hk hp hR hq (l.length + 1) 0 M (by omega) (by omega) (OffRow.refl M k) hR.1 (fun t _ => rfl) (fun t q hq => by simp at hq)
/-- the int that holds the objects of l as bits -/
def setOf (l : List Nat) : Int32 := l.foldl (fun s p => s ||| ((1 : Int32) <<< (nI p &&& 31))) 0
theorem bt_one {p : Nat} (hp : p < 32) {i : Nat} (hi : i < 32) : bt ((1 : Int32) <<< (nI p &&& 31)) i = decide (i = p) := by
  rw [b_shl p hp _ hi]
  have h1 : ∀ j, j < 32 → bt 1 j = decide (j = 0) := by decide +kernel
  rw [h1 _ (by omega)]
  by_cases h : i = p
  · subst h; simp
  · by_cases h2 : p ≤ i
    · rw [decide_eq_true h2, decide_eq_false (by omega), decide_eq_false h]; rfl
    · rw [decide_eq_false h2, decide_eq_false h]; rfl
theorem bt_set (l : List Nat) (hl : ∀ p ∈ l, p < 32) : ∀ (s : Int32) (i : Nat), i < 32 → bt (l.foldl (fun s p => s ||| ((1 : Int32) <<< (nI p &&& 31))) s) i = (bt s i || decide (i ∈ l)) := by
  induction l with
  | nil => intro s i hi; simp
  | cons q l ih =>
    intro s i hi
    rw [List.foldl_cons, ih (fun p hp => hl p (List.mem_cons_of_mem _ hp)) _ i hi, b_or, bt_one (hl q List.mem_cons_self) hi]
    by_cases h : i = q
    · subst h; simp
    · simp [h]
theorem bt_setOf {l : List Nat} (hl : ∀ p ∈ l, p < 32) {i : Nat} (hi : i < 32) : bt (setOf l) i = decide (i ∈ l) := by
  unfold setOf
  rw [bt_set l hl 0 i hi, b_0]; rfl
set_option maxRecDepth 100000 in
set_option maxHeartbeats 4000000 in
theorem c_asSet_l {ω : jw} {d : Nat} {M : Nat → Nat → Int32} {J sl : Nat} {Q : jr → jh → Prop} {k : Nat} {l : List Nat} (hk : isRow k) (hR : RowIs M k l) (hq : Q (.inl (some (.int (setOf l)))) (jst ω M J sl)) :
    ∀ n i : Nat, l.length - i < n → i ≤ l.length → jj ω d mRw_asSet 4 [some (.ref (jN ω + k)), some (.int (setOf (l.take i))), some (.int (nI i))] [] (jst ω M J sl) Q := by
  have hl6 := hR.2.1
  intro n
  induction n with
  | zero => intro i hn; omega
  | succ n ih =>
    intro i hn hi
    refine jj_il2 dRw_asSet_4 ?_
    refine jj_al0 dRw_asSet_5 ?_
    refine mr_get _ dRw_asSet_6 clRw lkRw_15 (hk.1 _ _ _) rfl ?_
    refine jj_icmp_ge 29 dRw_asSet_9 (by decide) (fun q1 => ?_) (fun q1 => ?_)
    · refine jj_il1 dRw_asSet_29 ?_
      exact jj_iret dRw_asSet_30 rfl rfl (by rw [List.take_of_length_le (le_le hR.1 q1 (by omega) (by omega))]; exact hq)
    · have hi2 : i < l.length := nle_lt hR.1 q1 (by omega) (by omega)
      obtain ⟨p2, e1, e2, e3⟩ := hR.at hi2
      refine jj_il1 dRw_asSet_12 ?_
      refine jj_iconst 1 dRw_asSet_13 (by decide) ?_
      refine jj_al0 dRw_asSet_14 ?_
      refine mr_get _ dRw_asSet_15 clRw lkRw_9 (hk.1 _ _ _) rfl ?_
      refine jj_il2 dRw_asSet_18 ?_
      refine mr_iald dRw_asSet_19 (hk.2 _ _ _) (by omega) (by decide) ?_
      rw [e3]
      refine jj_ishl dRw_asSet_20 ?_
      refine jj_ior dRw_asSet_21 ?_
      rw [show (setOf (l.take i) ||| ((1 : Int32) <<< (nI p2 &&& 31))) = setOf (l.take (i + 1)) by unfold setOf; rw [List.take_add_one, e1, List.foldl_append]; rfl]
      refine jj_is1 dRw_asSet_22 ?_
      refine jj_ii2 (nI (i + 1)) dRw_asSet_23 (inc1 i) ?_
      refine jj_goto 4 dRw_asSet_26 (by decide) ?_
      exact ih (i + 1) (by omega) (by omega)
set_option maxRecDepth 100000 in
set_option maxHeartbeats 4000000 in
theorem c_asSet {ω : jw} {d : Nat} {M : Nat → Nat → Int32} {J sl : Nat} {Q : jr → jh → Prop} {k : Nat} {l : List Nat} (hk : isRow k) (hR : RowIs M k l) (hq : Q (.inl (some (.int (setOf l)))) (jst ω M J sl)) : jwp ω d mRw_asSet [.ref (jN ω + k)] (jst ω M J sl) Q := by
  refine jwp_of (by simp [Value.category]) (Nat.le_of_ble_eq_true rfl) (ls := [some (.ref (jN ω + k)), none, none]) rfl ?_
  refine jj_iconst 0 dRw_asSet_0 (by decide) ?_
  refine jj_is1 dRw_asSet_1 ?_
  refine jj_iconst 0 dRw_asSet_2 (by decide) ?_
  refine jj_is2 dRw_asSet_3 ?_
  exact c_asSet_l hk hR hq (l.length + 1) 0 (by omega) (by omega)
theorem shr1 {s : Int32} {p : Nat} (hp : p < 32) : (s >>> (nI p &&& 31)) &&& 1 = 0 ↔ bt s p = false := by
  have h1 : ∀ j, j < 32 → bt 1 j = decide (j = 0) := by decide +kernel
  constructor
  · intro h
    have h2 : bt ((s >>> (nI p &&& 31)) &&& 1) 0 = false := by rw [h, b_0]
    rw [b_and, b_sshr p hp _ (by omega), h1 0 (by omega), if_pos (by omega)] at h2
    simpa using h2
  · intro h
    apply b_ext
    intro i hi
    rw [b_and, b_sshr p hp _ hi, h1 i hi, b_0]
    by_cases h0 : i = 0
    · subst h0
      rw [if_pos (by omega)]
      simpa using h
    · simp [h0]
set_option maxRecDepth 100000 in
set_option maxHeartbeats 4000000 in
theorem c_isIn {ω : jw} {d : Nat} {h : jh} {Q : jr → jh → Prop} (s : Int32) {p : Nat} (hp : p < 32) (ht : bt s p = true → Q (.inl (some (.int 1))) h) (hf : bt s p = false → Q (.inl (some (.int 0))) h) : jwp ω d mBO_isIn [.int s, .int (nI p)] h Q := by
  refine jwp_of (by simp [Value.category]) (Nat.le_of_ble_eq_true rfl) (ls := [some (.int s), some (.int (nI p))]) rfl ?_
  refine jj_il0 dBO_isIn_0 ?_
  refine jj_il1 dBO_isIn_1 ?_
  refine jj_ishr dBO_isIn_2 ?_
  refine jj_iconst 1 dBO_isIn_3 (by decide) ?_
  refine jj_iand dBO_isIn_4 ?_
  refine jj_if_eq 12 dBO_isIn_5 (by decide) (fun q1 => ?_) (fun q1 => ?_)
  · refine jj_iconst 0 dBO_isIn_12 (by decide) ?_
    exact jj_iret dBO_isIn_13 rfl rfl (hf ((shr1 hp).mp q1))
  · refine jj_iconst 1 dBO_isIn_8 (by decide) ?_
    refine jj_goto 13 dBO_isIn_9 (by decide) ?_
    exact jj_iret dBO_isIn_13 rfl rfl (ht (by cases hb : bt s p; exact absurd ((shr1 hp).mpr hb) q1; rfl))
set_option maxRecDepth 100000 in
set_option maxHeartbeats 4000000 in
theorem c_unboundSlot {ω : jw} {d : Nat} {h : jh} {Q : jr → jh → Prop} (r : Int32) (hq : Q (.inl (some (.int (-1 - r)))) h) : jwp ω d mBO_unboundSlot [.int r] h Q := by
  refine jwp_of (by simp [Value.category]) (Nat.le_of_ble_eq_true rfl) (ls := [some (.int r)]) rfl ?_
  refine jj_iconst (-1) dBO_unboundSlot_0 (by decide) ?_
  refine jj_il0 dBO_unboundSlot_1 ?_
  refine jj_isub dBO_unboundSlot_2 ?_
  exact jj_iret dBO_unboundSlot_3 rfl rfl (hq)
set_option maxRecDepth 100000 in
set_option maxHeartbeats 4000000 in
theorem c_isLetter {ω : jw} {d : Nat} {h : jh} {Q : jr → jh → Prop} (c : Int32) (ht : ltr c = true → Q (.inl (some (.int 1))) h) (hf : ltr c = false → Q (.inl (some (.int 0))) h) : jwp ω d mBO_isLetter [.int c] h Q := by
  refine jwp_of (by simp [Value.category]) (Nat.le_of_ble_eq_true rfl) (ls := [some (.int c)]) rfl ?_
  refine jj_il0 dBO_isLetter_0 ?_
  refine jj_bipush 97 dBO_isLetter_1 (by decide) ?_
  refine jj_icmp_lt 16 dBO_isLetter_3 (by decide) (fun q1 => ?_) (fun q1 => ?_)
  · refine jj_iconst 0 dBO_isLetter_16 (by decide) ?_
    exact jj_iret dBO_isLetter_17 rfl rfl (hf (by unfold ltr; rw [decide_eq_false (Int32.not_le.mpr q1)]; rfl))
  · refine jj_il0 dBO_isLetter_6 ?_
    refine jj_bipush 122 dBO_isLetter_7 (by decide) ?_
    refine jj_icmp_gt 16 dBO_isLetter_9 (by decide) (fun q2 => ?_) (fun q2 => ?_)
    · refine jj_iconst 0 dBO_isLetter_16 (by decide) ?_
      exact jj_iret dBO_isLetter_17 rfl rfl (hf (by unfold ltr; rw [decide_eq_false (Int32.not_le.mpr q2), Bool.and_false]))
    · refine jj_iconst 1 dBO_isLetter_12 (by decide) ?_
      refine jj_goto 17 dBO_isLetter_13 (by decide) ?_
      exact jj_iret dBO_isLetter_17 rfl rfl (ht (by unfold ltr; rw [decide_eq_true (Int32.not_lt.mp q1), decide_eq_true (Int32.not_lt.mp q2)]; rfl))
def nmR (en : Bool) (x : Int32) (i : Nat) : Bool := nmOk en ((List.range' i (4 - i)).map (by4 x))
theorem nmR_step (en : Bool) (x : Int32) {i : Nat} (hi : i < 4) : nmR en x i = if by4 x i = 0 then nmR true x (i + 1) else if en || !ltr (by4 x i) then false else nmR false x (i + 1) := by
  unfold nmR
  rw [show 4 - i = (4 - (i + 1)) + 1 by omega, List.range'_succ, List.map_cons]
  rfl
theorem nmR_4 (en : Bool) (x : Int32) {i : Nat} (hi : 4 ≤ i) : nmR en x i = true := by
  unfold nmR
  rw [show 4 - i = 0 by omega]
  rfl
theorem nmB_R (x : Int32) : nmB x = (nmR false x 0 && decide (¬ x = 0)) := rfl
def chF (h c : Int32) : Int32 := if c = 0 then h else 16 * h + c
def chR (h x : Int32) (i : Nat) : Int32 := ((List.range' i (4 - i)).map (by4 x)).foldl chF h
theorem chR_step (h x : Int32) {i : Nat} (hi : i < 4) : chR h x i = chR (chF h (by4 x i)) x (i + 1) := by
  unfold chR
  rw [show 4 - i = (4 - (i + 1)) + 1 by omega, List.range'_succ, List.map_cons]
  rfl
theorem chR_4 (h x : Int32) {i : Nat} (hi : 4 ≤ i) : chR h x i = h := by
  unfold chR
  rw [show 4 - i = 0 by omega]
  rfl
/-- the hash of a name, modulo 3 -/
def chn (x : Int32) : Int32 := chR 0 x 0 - chR 0 x 0 / 3 * 3
theorem inc8 (i : Nat) : nI (8 * i) + Int32.ofInt 8 = nI (8 * (i + 1)) := nI_add (8 * i) 8
theorem by4_def (x : Int32) (i : Nat) : ((x.toUInt32 >>> ((nI (8 * i)).toUInt32 &&& Int32.toUInt32 31)).toInt32) &&& 255 = by4 x i := rfl
def b2i (b : Bool) : Int32 := if b then 1 else 0
set_option maxRecDepth 100000 in
set_option maxHeartbeats 4000000 in
theorem c_isName_l {ω : jw} {d : Nat} {h : jh} {Q : jr → jh → Prop} (x : Int32) : ∀ (n i : Nat) (en : Bool) (c3 : Option Value), 4 - i < n → i ≤ 4 → ((nmR en x i && decide (¬ x = 0)) = true → Q (.inl (some (.int 1))) h) → ((nmR en x i && decide (¬ x = 0)) = false → Q (.inl (some (.int 0))) h) →
    jj ω (d + 1) mBO_isName 4 [some (.int x), some (.int (b2i en)), some (.int (nI (8 * i))), c3] [] h Q := by
  intro n
  induction n with
  | zero => intro i en c3 hn; omega
  | succ n ih =>
    intro i en c3 hn hi ht hf
    refine jj_il2 dBO_isName_4 ?_
    refine jj_bipush 32 dBO_isName_5 (by decide) ?_
    refine jj_icmp_ge 51 dBO_isName_7 (by decide) (fun q1 => ?_) (fun q1 => ?_)
    · have hi2 : 4 ≤ i := by have := le_le (a := 32) rfl q1 (by decide) (by omega); omega
      rw [nmR_4 en x hi2] at ht hf
      refine jj_il0 dBO_isName_51 ?_
      refine jj_if_eq 59 dBO_isName_52 (by decide) (fun q5 => ?_) (fun q5 => ?_)
      · refine jj_iconst 0 dBO_isName_59 (by decide) ?_
        exact jj_iret dBO_isName_60 rfl rfl (hf (by rw [decide_eq_false (by simpa using q5)]; rfl))
      · refine jj_iconst 1 dBO_isName_55 (by decide) ?_
        refine jj_goto 60 dBO_isName_56 (by decide) ?_
        exact jj_iret dBO_isName_60 rfl rfl (ht (by rw [decide_eq_true q5]; rfl))
    · have hi2 : i < 4 := by have := nle_lt (a := 32) rfl q1 (by decide) (by omega); omega
      have hst := nmR_step en x hi2
      refine jj_il0 dBO_isName_10 ?_
      refine jj_il2 dBO_isName_11 ?_
      refine jj_iushr dBO_isName_12 ?_
      refine jj_sipush 255 dBO_isName_13 (by decide) ?_
      refine jj_iand dBO_isName_16 ?_
      rw [by4_def]
      refine jj_is3 dBO_isName_17 ?_
      refine jj_il3 dBO_isName_18 ?_
      refine jj_if_eq 35 dBO_isName_19 (by decide) (fun q2 => ?_) (fun q2 => ?_)
      · refine jj_il3 dBO_isName_35 ?_
        refine jj_if_ne 43 dBO_isName_36 (by decide) (fun q4 => ?_) (fun q4 => ?_)
        · refine jj_iconst 0 dBO_isName_43 (by decide) ?_
          refine jj_is1 dBO_isName_44 ?_
          refine jj_ii2 (nI (8 * (i + 1))) dBO_isName_45 (inc8 i) ?_
          refine jj_goto 4 dBO_isName_48 (by decide) ?_
          exact absurd q2 q4
        · refine jj_iconst 1 dBO_isName_39 (by decide) ?_
          refine jj_goto 44 dBO_isName_40 (by decide) ?_
          refine jj_is1 dBO_isName_44 ?_
          refine jj_ii2 (nI (8 * (i + 1))) dBO_isName_45 (inc8 i) ?_
          refine jj_goto 4 dBO_isName_48 (by decide) ?_
          rw [hst, if_pos q2] at ht hf
          exact ih (i + 1) true _ (by omega) (by omega) ht hf
      · refine jj_il1 dBO_isName_22 ?_
        refine jj_if_ne 33 dBO_isName_23 (by decide) (fun q3 => ?_) (fun q3 => ?_)
        · refine jj_iconst 0 dBO_isName_33 (by decide) ?_
          exact jj_iret dBO_isName_34 rfl rfl (hf (by have hen : en = true := by { cases en; exact absurd rfl q3; rfl }; rw [hst, if_neg q2, hen]; rfl))
        · refine jj_il3 dBO_isName_26 ?_
          refine ms1 dBO_isName_27 csBO_214 (Nat.le_of_ble_eq_true rfl) ?_
          refine c_isLetter _ (fun hl => jk_i ?_) (fun hl => jk_i ?_)
          · refine jj_if_ne 35 dBO_isName_30 (by decide) (fun _ => ?_) (fun h => absurd h (by decide))
            refine jj_il3 dBO_isName_35 ?_
            refine jj_if_ne 43 dBO_isName_36 (by decide) (fun q4 => ?_) (fun q4 => ?_)
            · refine jj_iconst 0 dBO_isName_43 (by decide) ?_
              refine jj_is1 dBO_isName_44 ?_
              refine jj_ii2 (nI (8 * (i + 1))) dBO_isName_45 (inc8 i) ?_
              refine jj_goto 4 dBO_isName_48 (by decide) ?_
              have hen : en = false := by
                cases en
                · rfl
                · exact absurd q3 (by decide)
              subst hen
              rw [if_neg q2, hl] at hst
              rw [hst] at ht hf
              exact ih (i + 1) false _ (by omega) (by omega) ht hf
            · refine jj_iconst 1 dBO_isName_39 (by decide) ?_
              refine jj_goto 44 dBO_isName_40 (by decide) ?_
              refine jj_is1 dBO_isName_44 ?_
              refine jj_ii2 (nI (8 * (i + 1))) dBO_isName_45 (inc8 i) ?_
              refine jj_goto 4 dBO_isName_48 (by decide) ?_
              exact absurd q4 q2
          · refine jj_if_ne 35 dBO_isName_30 (by decide) (fun h => absurd h (by decide)) (fun _ => ?_)
            refine jj_iconst 0 dBO_isName_33 (by decide) ?_
            exact jj_iret dBO_isName_34 rfl rfl (hf (by rw [hst, if_neg q2, hl]; cases en <;> rfl))
set_option maxRecDepth 100000 in
set_option maxHeartbeats 4000000 in
theorem c_isName {ω : jw} {d : Nat} {h : jh} {Q : jr → jh → Prop} (x : Int32) (ht : nmB x = true → Q (.inl (some (.int 1))) h) (hf : nmB x = false → Q (.inl (some (.int 0))) h) : jwp ω (d + 1) mBO_isName [.int x] h Q := by
  refine jwp_of (by simp [Value.category]) (Nat.le_of_ble_eq_true rfl) (ls := [some (.int x), none, none, none]) rfl ?_
  refine jj_iconst 0 dBO_isName_0 (by decide) ?_
  refine jj_is1 dBO_isName_1 ?_
  refine jj_iconst 0 dBO_isName_2 (by decide) ?_
  refine jj_is2 dBO_isName_3 ?_
  exact c_isName_l x 5 0 false none (by omega) (by omega) ht hf
set_option maxRecDepth 100000 in
set_option maxHeartbeats 4000000 in
theorem c_chainOf_l {ω : jw} {d : Nat} {h : jh} {Q : jr → jh → Prop} (x : Int32) : ∀ (n i : Nat) (hh : Int32) (c3 : Option Value), 4 - i < n → i ≤ 4 → Q (.inl (some (.int (chR hh x i - chR hh x i / 3 * 3)))) h →
    jj ω d mBO_chainOf 4 [some (.int x), some (.int hh), some (.int (nI (8 * i))), c3] [] h Q := by
  intro n
  induction n with
  | zero => intro i hh c3 hn; omega
  | succ n ih =>
    intro i hh c3 hn hi hq
    refine jj_il2 dBO_chainOf_4 ?_
    refine jj_bipush 32 dBO_chainOf_5 (by decide) ?_
    refine jj_icmp_ge 35 dBO_chainOf_7 (by decide) (fun q1 => ?_) (fun q1 => ?_)
    · have hi2 : 4 ≤ i := by have := le_le (a := 32) rfl q1 (by decide) (by omega); omega
      rw [chR_4 hh x hi2] at hq
      refine jj_il1 dBO_chainOf_35 ?_
      refine jj_iconst 3 dBO_chainOf_36 (by decide) ?_
      refine jj_irem dBO_chainOf_37 (by decide) ?_
      exact jj_iret dBO_chainOf_38 rfl rfl (hq)
    · have hi2 : i < 4 := by have := nle_lt (a := 32) rfl q1 (by decide) (by omega); omega
      rw [chR_step hh x hi2] at hq
      refine jj_il0 dBO_chainOf_10 ?_
      refine jj_il2 dBO_chainOf_11 ?_
      refine jj_iushr dBO_chainOf_12 ?_
      refine jj_sipush 255 dBO_chainOf_13 (by decide) ?_
      refine jj_iand dBO_chainOf_16 ?_
      rw [by4_def]
      refine jj_is3 dBO_chainOf_17 ?_
      refine jj_il3 dBO_chainOf_18 ?_
      refine jj_if_eq 29 dBO_chainOf_19 (by decide) (fun q2 => ?_) (fun q2 => ?_)
      · refine jj_ii2 (nI (8 * (i + 1))) dBO_chainOf_29 (inc8 i) ?_
        refine jj_goto 4 dBO_chainOf_32 (by decide) ?_
        first
          | (rw [show chF hh (by4 x i) = hh from if_pos q2] at hq; exact ih (i + 1) hh _ (by omega) (by omega) hq)
          | (rw [show chF hh (by4 x i) = 16 * hh + by4 x i from if_neg q2] at hq; exact ih (i + 1) _ _ (by omega) (by omega) hq)
      · refine jj_bipush 16 dBO_chainOf_22 (by decide) ?_
        refine jj_il1 dBO_chainOf_24 ?_
        refine jj_imul dBO_chainOf_25 ?_
        refine jj_il3 dBO_chainOf_26 ?_
        refine jj_iadd dBO_chainOf_27 ?_
        refine jj_is1 dBO_chainOf_28 ?_
        refine jj_ii2 (nI (8 * (i + 1))) dBO_chainOf_29 (inc8 i) ?_
        refine jj_goto 4 dBO_chainOf_32 (by decide) ?_
        first
          | (rw [show chF hh (by4 x i) = hh from if_pos q2] at hq; exact ih (i + 1) hh _ (by omega) (by omega) hq)
          | (rw [show chF hh (by4 x i) = 16 * hh + by4 x i from if_neg q2] at hq; exact ih (i + 1) _ _ (by omega) (by omega) hq)
set_option maxRecDepth 100000 in
set_option maxHeartbeats 4000000 in
theorem c_chainOf {ω : jw} {d : Nat} {h : jh} {Q : jr → jh → Prop} (x : Int32) (hq : Q (.inl (some (.int (chn x)))) h) : jwp ω d mBO_chainOf [.int x] h Q := by
  refine jwp_of (by simp [Value.category]) (Nat.le_of_ble_eq_true rfl) (ls := [some (.int x), none, none, none]) rfl ?_
  refine jj_iconst 0 dBO_chainOf_0 (by decide) ?_
  refine jj_is1 dBO_chainOf_1 ?_
  refine jj_iconst 0 dBO_chainOf_2 (by decide) ?_
  refine jj_is2 dBO_chainOf_3 ?_
  exact c_chainOf_l x 5 0 0 none (by omega) (by omega) hq
