theorem and15 (y : Int32) : ∃ c : Nat, c < 16 ∧ y &&& 15 = nI c := by
  have h : ∀ b0 b1 b2 b3 : Bool, ∃ c : Fin 16, ((if b0 then (1 : Int32) else 0) ||| ((if b1 then 2 else 0) ||| ((if b2 then 4 else 0) ||| (if b3 then 8 else 0)))) = nI c.val := by decide +kernel
  obtain ⟨c, hc⟩ := h (bt y 0) (bt y 1) (bt y 2) (bt y 3)
  refine ⟨c.val, c.isLt, ?_⟩
  rw [← hc]
  apply b_ext
  intro i hi
  have e15 : bt 15 i = decide (i < 4) := by
    have : ∀ j : Fin 32, bt 15 j.val = decide (j.val < 4) := by decide +kernel
    exact this ⟨i, hi⟩
  have ew : ∀ b0 b1 b2 b3 : Bool, ∀ j : Fin 32, bt ((if b0 then (1 : Int32) else 0) ||| ((if b1 then 2 else 0) ||| ((if b2 then 4 else 0) ||| (if b3 then 8 else 0)))) j.val = (if j.val = 0 then b0 else if j.val = 1 then b1 else if j.val = 2 then b2 else if j.val = 3 then b3 else false) := by decide +kernel
  rw [b_and, e15, ew _ _ _ _ ⟨i, hi⟩]
  by_cases h0 : i = 0
  · subst h0; simp
  · by_cases h1 : i = 1
    · subst h1; simp
    · by_cases h2 : i = 2
      · subst h2; simp
      · by_cases h3 : i = 3
        · subst h3; simp
        · rw [decide_eq_false (by omega)]
          simp [h0, h1, h2, h3]
theorem inc6 (k : Nat) : nI (6 * k) + Int32.ofInt 6 = nI (6 * (k + 1)) := nI_add (6 * k) 6
set_option maxRecDepth 100000 in
set_option maxHeartbeats 4000000 in
theorem law_loop {ω : jw} {d : Nat} {Q : jr → jh → Prop} (hL : jL ω < 5000) (hq : ∀ h', Q (.inl (some (.int 1))) h') :
    ∀ (n k : Nat) (M : Nat → Nat → Int32) (σ : Sg) (J sl : Nat) (c5 c6 : Option Value), jL ω < n + 6 * k → 6 * k ≤ jL ω + 6 → LI M σ k J sl → jj ω (d + 15) mLw_law 23 [some (.ref (jb ω)), some (.ref (jN ω + 0)), some (.ref (jN ω + 103)), some (.ref (jN ω + 132)), some (.int (nI (6 * k))), c5, c6] [] (jst ω M J sl) Q := by
  have hend : ∀ (k : Nat) (M : Nat → Nat → Int32) (J sl : Nat) (c5 c6 : Option Value), jj ω (d + 15) mLw_law 1008 [some (.ref (jb ω)), some (.ref (jN ω + 0)), some (.ref (jN ω + 103)), some (.ref (jN ω + 132)), some (.int (nI (6 * k))), c5, c6] [] (jst ω M J sl) Q := by
    intro k M J sl c5 c6
    refine jj_iconst 1 dLw_law_1008 (by decide) ?_
    exact jj_iret dLw_law_1009 rfl rfl (hq _)
  have hhead : ∀ (k : Nat) (M : Nat → Nat → Int32) (J sl : Nat) (c5 c6 : Option Value), 6 * k ≤ jL ω + 6 → (6 * k + 6 ≤ jL ω → jj ω (d + 15) mLw_law 33 [some (.ref (jb ω)), some (.ref (jN ω + 0)), some (.ref (jN ω + 103)), some (.ref (jN ω + 132)), some (.int (nI (6 * k))), c5, c6] [] (jst ω M J sl) Q) → jj ω (d + 15) mLw_law 23 [some (.ref (jb ω)), some (.ref (jN ω + 0)), some (.ref (jN ω + 103)), some (.ref (jN ω + 132)), some (.int (nI (6 * k))), c5, c6] [] (jst ω M J sl) Q := by
    intro k M J sl c5 c6 h6 hgo
    refine jj_il4 dLw_law_23 ?_
    refine jj_al0 dLw_law_25 ?_
    refine jj_slen dLw_law_26 ?_
    refine jj_bipush 6 dLw_law_27 (by decide) ?_
    refine jj_isub dLw_law_29 ?_
    refine jj_icmp_gt 1008 dLw_law_30 (by decide) (fun _ => hend k M J sl c5 c6) (fun q => hgo ?_)
    have h1 := Int32.le_iff_toInt_le.mp (Int32.not_lt.mp q)
    by_cases h2 : 6 ≤ jL ω
    · rw [show nI (jL ω) - (6 : Int32) = nI (jL ω - 6) from nI_sub h2, nI_toInt (by omega), nI_toInt (by omega)] at h1
      omega
    · exfalso
      have h3 : jL ω = 0 ∨ jL ω = 1 ∨ jL ω = 2 ∨ jL ω = 3 ∨ jL ω = 4 ∨ jL ω = 5 := by omega
      rw [nI_toInt (by omega)] at h1
      have h4 : (nI (jL ω) - 6).toInt < 0 := by
        rcases h3 with h | h | h | h | h | h <;> rw [h] <;> decide
      omega
  intro n
  induction n with
  | zero =>
    intro k M σ J sl c5 c6 hn h6 hI
    exact hhead k M J sl c5 c6 h6 (fun h => by omega)
  | succ n ih =>
    intro k M σ J sl c5 c6 hn h6 hI
    refine hhead k M J sl c5 c6 h6 (fun hgo => ?_)
    refine jj_al0 dLw_law_33 ?_
    refine jj_il4 dLw_law_34 ?_
    refine sl_ld dLw_law_36 (by omega) (by omega) ?_
    refine jj_bipush 15 dLw_law_37 (by decide) ?_
    refine jj_iand dLw_law_39 ?_
    obtain ⟨c, hc, he⟩ := and15 (jx ω (6 * k))
    rw [he]
    have hk2 : ∀ M2 σ2 J2 sl2 c5 c6, LI M2 σ2 (k + 1) J2 sl2 → jj ω (d + 15) mLw_law 1002 [some (.ref (jb ω)), some (.ref (jN ω + 0)), some (.ref (jN ω + 103)), some (.ref (jN ω + 132)), some (.int (nI (6 * k))), c5, c6] [] (jst ω M2 J2 sl2) Q := by
      intro M2 σ2 J2 sl2 c5 c6 hI2
      refine jj_ii4 (nI (6 * (k + 1))) dLw_law_1002 (inc6 k) ?_
      refine jj_goto 23 dLw_law_1005 (by decide) ?_
      exact ih (k + 1) M2 σ2 J2 sl2 c5 c6 (by omega) (by omega) hI2
    have hcs : c = 0 ∨ c = 1 ∨ c = 2 ∨ c = 3 ∨ c = 4 ∨ c = 5 ∨ c = 6 ∨ c = 7 ∨ c = 8 ∨ c = 9 ∨ c = 10 ∨ c = 11 ∨ c = 12 ∨ c = 13 ∨ c = 14 ∨ c = 15 := by omega
    rcases hcs with rfl | rfl | rfl | rfl | rfl | rfl | rfl | rfl | rfl | rfl | rfl | rfl | rfl | rfl | rfl | rfl
    · refine jj_tableIn (off := 80) 120 dLw_law_40 (by decide) (by decide) (by decide) (by decide) ?_
      exact lc_image hI (by omega) (by omega) (by omega) _ _ hk2
    · refine jj_tableIn (off := 128) 168 dLw_law_40 (by decide) (by decide) (by decide) (by decide) ?_
      exact lc_need hI (by omega) (by omega) (by omega) _ _ hk2
    · refine jj_tableIn (off := 196) 236 dLw_law_40 (by decide) (by decide) (by decide) (by decide) ?_
      exact lc_symbol hI (by omega) (by omega) (by omega) _ _ hk2
    · refine jj_tableIn (off := 304) 344 dLw_law_40 (by decide) (by decide) (by decide) (by decide) ?_
      exact lc_relocation hI (by omega) (by omega) (by omega) _ _ hk2
    · refine jj_tableIn (off := 408) 448 dLw_law_40 (by decide) (by decide) (by decide) (by decide) ?_
      exact lc_open hI (by omega) (by omega) (by omega) _ _ hk2
    · refine jj_tableIn (off := 520) 560 dLw_law_40 (by decide) (by decide) (by decide) (by decide) ?_
      exact lc_close hI (by omega) (by omega) (by omega) _ _ hk2
    · refine jj_tableIn (off := 576) 616 dLw_law_40 (by decide) (by decide) (by decide) (by decide) ?_
      exact lc_call hI (by omega) (by omega) (by omega) _ _ hk2
    · refine jj_tableIn (off := 644) 684 dLw_law_40 (by decide) (by decide) (by decide) (by decide) ?_
      exact lc_find hI (by omega) (by omega) (by omega) _ _ hk2
    · refine jj_tableIn (off := 712) 752 dLw_law_40 (by decide) (by decide) (by decide) (by decide) ?_
      exact lc_word hI (by omega) (by omega) (by omega) _ _ hk2
    · refine jj_tableIn (off := 768) 808 dLw_law_40 (by decide) (by decide) (by decide) (by decide) ?_
      exact lc_store hI (by omega) (by omega) (by omega) _ _ hk2
    · refine jj_tableIn (off := 805) 845 dLw_law_40 (by decide) (by decide) (by decide) (by decide) ?_
      exact lc_base hI (by omega) (by omega) (by omega) _ _ hk2
    · refine jj_tableIn (off := 830) 870 dLw_law_40 (by decide) (by decide) (by decide) (by decide) ?_
      exact lc_opened hI (by omega) (by omega) (by omega) _ _ hk2
    · refine jj_tableIn (off := 855) 895 dLw_law_40 (by decide) (by decide) (by decide) (by decide) ?_
      exact lc_global hI (by omega) (by omega) (by omega) _ _ hk2
    · refine jj_tableIn (off := 880) 920 dLw_law_40 (by decide) (by decide) (by decide) (by decide) ?_
      exact lc_events hI (by omega) (by omega) (by omega) _ _ hk2
    · refine jj_tableIn (off := 893) 933 dLw_law_40 (by decide) (by decide) (by decide) (by decide) ?_
      exact lc_event hI (by omega) (by omega) (by omega) _ _ hk2
    · refine jj_tableIn (off := 949) 989 dLw_law_40 (by decide) (by decide) (by decide) (by decide) ?_
      exact lc_steps hI (by omega) (by omega) (by omega) _ _ hk2
