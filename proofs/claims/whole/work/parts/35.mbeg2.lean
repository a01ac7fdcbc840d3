theorem dfL_nil (nd : Nat → List Nat) (f : Nat) : ∀ (l : List Nat) (x : List Nat × List Nat), x.1 = [] → dfL nd f l x = x := by
  intro l
  induction l with
  | nil => intro x _; rfl
  | cons q l ih =>
    intro x hx
    rw [dfL_c, if_neg (by rw [hx]; simp)]
    exact ih x hx
theorem dfL_stab {nd : Nat → List Nat} {f g : Nat} (ih : ∀ q (x : List Nat × List Nat), q ∈ x.1 → x.1.length ≤ f + 1 → dfF nd (f + 1) q x = dfF nd f q x) : ∀ (l : List Nat) (x : List Nat × List Nat), x.1.length ≤ f + 1 → dfL nd (f + 1) l x = dfL nd f l x := by
  intro l
  induction l with
  | nil => intro x _; rfl
  | cons q l ihl =>
    intro x hx
    rw [dfL_c, dfL_c]
    by_cases hq : q ∈ x.1
    · rw [if_pos hq, if_pos hq, ih q x hq hx]
      exact ihl _ (Nat.le_trans (dfF_sub nd f q x hq).2.1 hx)
    · rw [if_neg hq, if_neg hq]
      exact ihl x hx
theorem dfF_stab (nd : Nat → List Nat) : ∀ (f q : Nat) (x : List Nat × List Nat), q ∈ x.1 → x.1.length ≤ f + 1 → dfF nd (f + 1) q x = dfF nd f q x := by
  intro f
  induction f with
  | zero =>
    intro q x hq hx
    have h0 : x.1.filter (fun z => decide (z ≠ q)) = [] := List.eq_nil_of_length_eq_zero (by have := filt_lt hq; omega)
    rw [dfF_s, dfL_nil nd 0 (nd q) _ h0]
    rfl
  | succ f ih =>
    intro q x hq hx
    rw [dfF_s, dfF_s, dfL_stab (g := 0) ih (nd q) _ (by have := filt_lt hq; show (x.1.filter (fun z => decide (z ≠ q))).length ≤ f + 1; omega)]
set_option maxRecDepth 100000 in
set_option maxHeartbeats 4000000 in
theorem c_beg_see {ω : jw} {d : Nat} {J sl : Nat} {Q : jr → jh → Prop} {M0 : Nat → Nat → Int32} {o : Nat} {nw : List Nat} (hF : FrIs M0 nw) (hk : ∀ M', Hd M0 M' → Fb M0 M' → SnIs M' nw → jj ω d mMd_beginAll 34 [some (.ref (jN ω + 103)), some (.int (nI o)), some (.int (nI 6)), none, none] [] (jst ω M' J sl) Q) :
    ∀ (n i : Nat) (M : Nat → Nat → Int32), n + i = 6 → Hd M0 M → Fb M0 M → (∀ i, M 126 i = M0 126 i) → (∀ p, p < i → M 127 p = b2i (decide (p ∉ nw))) → jj ω d mMd_beginAll 2 [some (.ref (jN ω + 103)), some (.int (nI o)), some (.int (nI i)), none, none] [] (jst ω M J sl) Q := by
  intro n
  induction n with
  | zero =>
    intro i M hn hH hB h126 hE
    have hi : i = 6 := by omega
    subst hi
    refine jj_il2 dMd_beginAll_2 ?_
    refine jj_bipush 6 dMd_beginAll_3 (by decide) ?_
    refine jj_icmp_ge 34 dMd_beginAll_5 (by decide) (fun q1 => ?_) (fun q1 => absurd q1 (by decide))
    exact hk M hH hB hE
  | succ n ih =>
    intro i M hn hH hB h126 hE
    have hi6 : i < 6 := by omega
    refine jj_il2 dMd_beginAll_2 ?_
    refine jj_bipush 6 dMd_beginAll_3 (by decide) ?_
    refine jj_icmp_ge 34 dMd_beginAll_5 (by decide) (fun q1 => absurd q1 (fun h => by have := le_le (a := 6) rfl h (by decide) (by omega); omega)) (fun q1 => ?_)
    refine jj_al0 dMd_beginAll_8 ?_
    refine mr_get _ dMd_beginAll_9 clMd lkMd_80 (s103 _) rfl ?_
    refine jj_il2 dMd_beginAll_12 ?_
    refine jj_al0 dMd_beginAll_13 ?_
    refine mr_get _ dMd_beginAll_14 clMd lkMd_77 (s103 _) rfl ?_
    refine jj_il2 dMd_beginAll_17 ?_
    refine mr_zald dMd_beginAll_18 (s126 _) (hi6) (by decide) ?_
    rw [h126, hF i hi6]
    refine jj_if_ne 26 dMd_beginAll_19 (by decide) (fun q1 => ?_) (fun q1 => ?_)
    · refine jj_iconst 0 dMd_beginAll_26 (by decide) ?_
      refine mr_zast dMd_beginAll_27 (s127) (by first | exact Or.inl rfl | exact Or.inr rfl) (hi6) (by decide) ?_
      refine jj_ii2 (nI (i + 1)) dMd_beginAll_28 (inc1 i) ?_
      refine jj_goto 2 dMd_beginAll_31 (by decide) ?_
      refine ih (i + 1) _ (by omega) (hH.trans (Hd.up M _ (by omega))) (hB.up _ (by omega)) (fun j => by rw [mup_ne _ _ (by omega)]; exact h126 j) (fun p hp => ?_)
      by_cases hpi : p = i
      · subst hpi
        rw [mup_at]
        have hin : p ∈ nw := b2it q1
        rw [show decide (p ∉ nw) = false from decide_eq_false (fun h => h hin)]; rfl
      · rw [mup_ne _ _ (by omega)]; exact hE p (by omega)
    · refine jj_iconst 1 dMd_beginAll_22 (by decide) ?_
      refine jj_goto 27 dMd_beginAll_23 (by decide) ?_
      refine mr_zast dMd_beginAll_27 (s127) (by first | exact Or.inl rfl | exact Or.inr rfl) (hi6) (by decide) ?_
      refine jj_ii2 (nI (i + 1)) dMd_beginAll_28 (inc1 i) ?_
      refine jj_goto 2 dMd_beginAll_31 (by decide) ?_
      refine ih (i + 1) _ (by omega) (hH.trans (Hd.up M _ (by omega))) (hB.up _ (by omega)) (fun j => by rw [mup_ne _ _ (by omega)]; exact h126 j) (fun p hp => ?_)
      by_cases hpi : p = i
      · subst hpi
        rw [mup_at]
        have hin : p ∉ nw := b2id q1
        rw [show decide (p ∉ nw) = true from decide_eq_true hin]; rfl
      · rw [mup_ne _ _ (by omega)]; exact hE p (by omega)
set_option maxRecDepth 100000 in
set_option maxHeartbeats 4000000 in
theorem c_beginAll {ω : jw} {d : Nat} {M : Nat → Nat → Int32} {J sl : Nat} {Q : jr → jh → Prop} {σ : Sg} {o : Nat} {nw : List Nat} (hS : MS M σ) (hF : FrIs M nw) (ho : o < 6) (hn6 : Rw6 nw) (hB6 : Rw6 (Bg σ)) (hN6 : ∀ p, p < 6 → ∀ x ∈ Zn σ p, x < 6) (hEv : (Ev σ).length + 6 < 2 ^ 30) (hdj : ∀ z ∈ nw, z ∉ Bg σ)
    (h1 : o ∈ nw → ∀ M', MS M' (zBn σ (dfF (Zn σ) 5 o (nw, [])).2) → Fb M M' → Q (.inl none) (jst ω M' J sl)) (h0 : o ∉ nw → ∀ M', MS M' σ → Fb M M' → Q (.inl none) (jst ω M' J sl)) : jwp ω (d + 1) mMd_beginAll [.ref (jN ω + 103), .int (nI o)] (jst ω M J sl) Q := by
  refine jwp_of (by simp [Value.category]) (Nat.le_of_ble_eq_true rfl) (ls := [some (.ref (jN ω + 103)), some (.int (nI o)), none, none, none]) rfl ?_
  refine jj_iconst 0 dMd_beginAll_0 (by decide) ?_
  refine jj_is2 dMd_beginAll_1 ?_
  refine c_beg_see hF (fun M1 hH1 hB1 hE1 => ?_) 6 0 M rfl (Hd.refl M) (Fb.refl M) (fun _ => rfl) (fun p hp => by omega)
  refine jj_iconst 0 dMd_beginAll_34 (by decide) ?_
  refine jj_is2 dMd_beginAll_35 ?_
  refine jj_al0 dMd_beginAll_36 ?_
  refine mr_get _ dMd_beginAll_37 clMd lkMd_83 (s103 _) rfl ?_
  refine jj_iconst 0 dMd_beginAll_40 (by decide) ?_
  refine jj_il1 dMd_beginAll_41 ?_
  rw [show (0 : Int32) = nI 0 from rfl]
  refine mr_iast dMd_beginAll_42 (s128) (by decide) (by decide) ?_
  refine jj_al0 dMd_beginAll_43 ?_
  refine mr_get _ dMd_beginAll_44 clMd lkMd_86 (s103 _) rfl ?_
  refine jj_iconst 0 dMd_beginAll_47 (by decide) ?_
  refine jj_iconst 0 dMd_beginAll_48 (by decide) ?_
  refine mr_iast dMd_beginAll_49 (s129) (by decide) (by decide) ?_
  refine jj_al0 dMd_beginAll_50 ?_
  refine mr_get _ dMd_beginAll_51 clMd lkMd_80 (s103 _) rfl ?_
  refine jj_il1 dMd_beginAll_54 ?_
  refine mr_zald dMd_beginAll_55 (s127 _) (ho) (by decide) ?_
  rw [mup_ne _ _ (by omega), mup_ne _ _ (by omega), hE1 o ho]
  refine jj_if_eq 60 dMd_beginAll_56 (by decide) (fun q1 => ?_) (fun q1 => ?_)
  · refine jj_al0 dMd_beginAll_60 ?_
    refine mr_get _ dMd_beginAll_61 clMd lkMd_80 (s103 _) rfl ?_
    refine jj_il1 dMd_beginAll_64 ?_
    refine jj_iconst 1 dMd_beginAll_65 (by decide) ?_
    refine mr_zast dMd_beginAll_66 (s127) (Or.inr rfl) (ho) (by decide) ?_
    have hin : o ∈ nw := Classical.not_not.mp (b2id q1)
    have hlt := filt_lt hin
    have hln := hn6.len
    rw [show (0 : Int32) = nI 0 from rfl]
    refine c_begin_l hB6 hN6 hEv _ 5 ((Zn σ o).length + 1) o 0 0 (nw.filter (fun z => decide (z ≠ o)), []) _ _ _ (by omega) (by omega) (by show (nw.filter (fun z => decide (z ≠ o))).length ≤ 5; omega) (by show (nw.filter (fun z => decide (z ≠ o))).length + 0 + 0 ≤ 5; omega) ho (fun h => by have := (List.mem_filter.mp h).2; simp at this) ⟨hn6.1.filter _, fun z hz => hn6.2 z (List.mem_filter.mp hz).1⟩ (by simp) (by
      have hz : zBn σ [] = σ := by simp [zBn, zBj]
      rw [hz]
      exact hS.hd (hH1.trans ((Hd.up M1 _ (by omega)).trans ((Hd.up _ _ (by omega)).trans (Hd.up _ _ (by omega)))))) (fun z hz => ?_) (by rw [mup_ne _ _ (by omega), mup_ne _ _ (by omega)]; exact mup_at _ _ _ _) (by rw [mup_ne _ _ (by omega)]; exact mup_at _ _ _ _) (fun z hz => ⟨hdj z (List.mem_filter.mp hz).1, by simp⟩) (hdj o hin) (by simp) (fun M2 c3 c4 a1 a2 a3 a4 => ?_)
    · by_cases hzo : z = o
      · subst hzo
        have hzn : z ∉ nw.filter (fun y => decide (y ≠ z)) := fun h => by have := (List.mem_filter.mp h).2; simp at this
        rw [mup_at]
        show (1 : Int32) = b2i (decide (z ∉ nw.filter (fun y => decide (y ≠ z))))
        rw [show decide (z ∉ nw.filter (fun y => decide (y ≠ z))) = true from decide_eq_true hzn]; rfl
      · rw [mup_ne _ _ (by omega), mup_ne _ _ (by omega), mup_ne _ _ (by omega), hE1 z hz]
        congr 1
        simp [List.mem_filter, hzo]
    rw [List.drop_zero] at a1
    have hst : dfF (Zn σ) 5 o (nw, []) = dfF (Zn σ) 6 o (nw, []) := (dfF_stab (Zn σ) 5 o (nw, []) hin hln).symm
    refine jj_il2 dMd_beginAll_67 ?_
    refine jj_if_lt 180 dMd_beginAll_68 (by decide) (fun _ => ?_) (fun h => absurd m1neg h)
    exact jj_vret dMd_beginAll_180 rfl (h1 hin M2 (by rw [hst]; exact a1) (Fb.trans (((hB1.up _ (by omega)).up _ (by omega)).up _ (by omega)) a4))
  · exact jj_vret dMd_beginAll_59 rfl (h0 (b2it q1) _ (hS.hd (hH1.trans ((Hd.up M1 _ (by omega)).trans (Hd.up _ _ (by omega))))) ((hB1.up _ (by omega)).up _ (by omega)))
