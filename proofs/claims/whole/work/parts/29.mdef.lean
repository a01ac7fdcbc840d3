def inR (p k i : Nat) : Prop := (k = 104 ∨ k = 106 ∨ k = 110 ∨ k = 115) ∧ i = p ∨ k = 105 ∧ 3 * p ≤ i ∧ i < 3 * p + 3 ∨ (k = 107 ∨ k = 108 ∨ k = 109 ∨ k = 111 ∨ k = 112 ∨ k = 113 ∨ k = 114) ∧ 6 * p ≤ i ∧ i < 6 * p + 6
theorem getl {α : Type} {l : List α} {i : Nat} {x : α} (h : l[i]? = some x) : i < l.length := (List.getElem?_eq_some_iff.mp h).1
theorem MDf.eqs2 {M M' : Nat → Nat → Int32} {σ σ' : Sg} {p : Nat} (h : MDf M σ p) (hE : ∀ k i, inR p k i → M' k i = M k i) (e1 : Zs σ' p = Zs σ p) (e2 : Zn σ' p = Zn σ p) (e3 : Zy σ' p = Zy σ p) (e4 : Zr σ' p = Zr σ p) : MDf M' σ' p := by
  obtain ⟨h1, h2, h3, h4, h5, h6, h7, h8, h9, h10⟩ := h
  unfold MDf
  rw [e1, e2, e3, e4]
  unfold inR at hE
  refine ⟨h1, h2, h3, by rw [hE _ _ (by omega)]; exact h4, by rw [hE _ _ (by omega)]; exact h5, fun i q hq => by have := getl hq; rw [hE _ _ (by omega)]; exact h6 i q hq, by rw [hE _ _ (by omega)]; exact h7, fun i y hy => by have := getl hy; rw [hE _ _ (by omega), hE _ _ (by omega), hE _ _ (by omega)]; exact h8 i y hy, by rw [hE _ _ (by omega)]; exact h9, fun i y hy => by have := getl hy; rw [hE _ _ (by omega), hE _ _ (by omega), hE _ _ (by omega), hE _ _ (by omega)]; exact h10 i y hy⟩
theorem MS_img {M M' : Nat → Nat → Int32} {σ : Sg} {n : Nat} {w : Int32} (hS : MS M σ) (hn : n < 6) (hb : Zb σ n = none) (hw : nI (iN w) = w) (he : M' = mup (mup (mup (mup M 104 n w) 106 n 0) 110 n 0) 115 n 0) : MS M' (zImg σ n (iN w)) := by
  subst he
  refine MS_df hS (fun k i hk => by rw [mup_ne _ _ (Or.inl (by omega)), mup_ne _ _ (Or.inl (by omega)), mup_ne _ _ (Or.inl (by omega)), mup_ne _ _ (Or.inl (by omega))]) (fun p hp => ?_) (fun a => tkn_img hb a) rfl
  by_cases hpn : p = n
  · subst hpn
    have e1 : Zs (zImg σ p (iN w)) p = iN w := va_up_self _ _ _
    have e2 : Zn (zImg σ p (iN w)) p = [] := va_up_self _ _ _
    have e3 : Zy (zImg σ p (iN w)) p = [] := va_up_self _ _ _
    have e4 : Zr (zImg σ p (iN w)) p = [] := va_up_self _ _ _
    unfold MDf
    rw [e1, e2, e3, e4]
    refine ⟨by simp, by simp, by simp, ?_, ?_, by simp, ?_, by simp, ?_, by simp⟩
    · rw [mup_ne _ _ (Or.inl (by omega)), mup_ne _ _ (Or.inl (by omega)), mup_ne _ _ (Or.inl (by omega)), mup_at, hw]
    · rw [mup_ne _ _ (Or.inl (by omega)), mup_ne _ _ (Or.inl (by omega)), mup_at]; rfl
    · rw [mup_ne _ _ (Or.inl (by omega)), mup_at]; rfl
    · rw [mup_at]; rfl
  · exact (hS.1 p hp).eqs2 (fun k i h => by unfold inR at h; rw [mup_ne _ _ (by omega), mup_ne _ _ (by omega), mup_ne _ _ (by omega), mup_ne _ _ (by omega)]) (va_up_ne _ _ hpn) (va_up_ne _ _ hpn) (va_up_ne _ _ hpn) (va_up_ne _ _ hpn)
theorem MS_need {M M' : Nat → Nat → Int32} {σ : Sg} {n m : Nat} (hS : MS M σ) (hn : n < 6) (h3 : (Zn σ n).length < 3) (he : M' = mup (mup M 105 (3 * n + (Zn σ n).length) (nI m)) 106 n (nI ((Zn σ n).length + 1))) : MS M' (zNeed σ n m) := by
  subst he
  refine MS_df hS (fun k i hk => by rw [mup_ne _ _ (Or.inl (by omega)), mup_ne _ _ (Or.inl (by omega))]) (fun p hp => ?_) (fun a => rfl) rfl
  by_cases hpn : p = n
  · subst hpn
    obtain ⟨h1, h2, h3', h4, h5, h6, h7, h8, h9, h10⟩ := hS.1 p hp
    have e2 : Zn (zNeed σ p m) p = Zn σ p ++ [m] := va_up_self _ _ _
    unfold MDf
    rw [e2]
    refine ⟨by simp; omega, h2, h3', by rw [mup_ne _ _ (by omega), mup_ne _ _ (by omega)]; exact h4, by rw [mup_at]; simp, fun i q hq => ?_, by rw [mup_ne _ _ (by omega), mup_ne _ _ (by omega)]; exact h7, fun i y hy => by rw [mup_ne _ _ (by omega), mup_ne _ _ (by omega), mup_ne _ _ (by omega), mup_ne _ _ (by omega), mup_ne _ _ (by omega), mup_ne _ _ (by omega)]; exact h8 i y hy, by rw [mup_ne _ _ (by omega), mup_ne _ _ (by omega)]; exact h9, fun i y hy => by rw [mup_ne _ _ (by omega), mup_ne _ _ (by omega), mup_ne _ _ (by omega), mup_ne _ _ (by omega), mup_ne _ _ (by omega), mup_ne _ _ (by omega), mup_ne _ _ (by omega), mup_ne _ _ (by omega)]; exact h10 i y hy⟩
    rw [mup_ne _ _ (by omega)]
    rcases get_snoc hq with ⟨hi, hq⟩ | ⟨hi, rfl⟩
    · rw [mup_ne _ _ (by omega)]; exact h6 i q hq
    · rw [hi, mup_at]
  · exact (hS.1 p hp).eqs2 (fun k i h => by unfold inR at h; rw [mup_ne _ _ (by omega), mup_ne _ _ (by omega)]) rfl (va_up_ne _ _ hpn) rfl rfl
theorem MS_sym {M M' : Nat → Nat → Int32} {σ : Sg} {n : Nat} {y : Sym} (hS : MS M σ) (hn : n < 6) (hl : (Zy σ n).length < 6) (he : M' = mup (mup (mup (mup M 107 (6 * n + (Zy σ n).length) y.1) 108 (6 * n + (Zy σ n).length) y.2.1) 109 (6 * n + (Zy σ n).length) (b2i y.2.2)) 110 n (nI ((Zy σ n).length + 1))) : MS M' (zSym σ n y) := by
  subst he
  refine MS_df hS (fun k i hk => by rw [mup_ne _ _ (Or.inl (by omega)), mup_ne _ _ (Or.inl (by omega)), mup_ne _ _ (Or.inl (by omega)), mup_ne _ _ (Or.inl (by omega))]) (fun p hp => ?_) (fun a => rfl) rfl
  by_cases hpn : p = n
  · subst hpn
    obtain ⟨h1, h2, h3', h4, h5, h6, h7, h8, h9, h10⟩ := hS.1 p hp
    have e2 : Zy (zSym σ p y) p = Zy σ p ++ [y] := va_up_self _ _ _
    have hk : ∀ k i, k ≠ 107 → k ≠ 108 → k ≠ 109 → k ≠ 110 → (mup (mup (mup (mup M 107 (6 * p + (Zy σ p).length) y.1) 108 (6 * p + (Zy σ p).length) y.2.1) 109 (6 * p + (Zy σ p).length) (b2i y.2.2)) 110 p (nI ((Zy σ p).length + 1))) k i = M k i := fun k i a b c d => by rw [mup_ne _ _ (by omega), mup_ne _ _ (by omega), mup_ne _ _ (by omega), mup_ne _ _ (by omega)]
    unfold MDf
    rw [e2]
    refine ⟨h1, by simp; omega, h3', by rw [hk _ _ (by omega) (by omega) (by omega) (by omega)]; exact h4, by rw [hk _ _ (by omega) (by omega) (by omega) (by omega)]; exact h5, fun i q hq => by rw [hk _ _ (by omega) (by omega) (by omega) (by omega)]; exact h6 i q hq, by rw [mup_at]; simp, fun i z hz => ?_, by rw [hk _ _ (by omega) (by omega) (by omega) (by omega)]; exact h9, fun i z hz => by rw [hk _ _ (by omega) (by omega) (by omega) (by omega), hk _ _ (by omega) (by omega) (by omega) (by omega), hk _ _ (by omega) (by omega) (by omega) (by omega), hk _ _ (by omega) (by omega) (by omega) (by omega)]; exact h10 i z hz⟩
    rcases get_snoc hz with ⟨hi, hz⟩ | ⟨hi, rfl⟩
    · rw [mup_ne _ _ (by omega), mup_ne _ _ (by omega), mup_ne _ _ (by omega), mup_ne _ _ (by omega), mup_ne _ _ (by omega), mup_ne _ _ (by omega), mup_ne _ _ (by omega), mup_ne _ _ (by omega), mup_ne _ _ (by omega), mup_ne _ _ (by omega), mup_ne _ _ (by omega), mup_ne _ _ (by omega)]
      exact h8 i z hz
    · rw [hi]
      refine ⟨?_, ?_, ?_⟩
      · rw [mup_ne _ _ (by omega), mup_ne _ _ (by omega), mup_ne _ _ (by omega), mup_at]
      · rw [mup_ne _ _ (by omega), mup_ne _ _ (by omega), mup_at]
      · rw [mup_ne _ _ (by omega), mup_at]
  · exact (hS.1 p hp).eqs2 (fun k i h => by unfold inR at h; rw [mup_ne _ _ (by omega), mup_ne _ _ (by omega), mup_ne _ _ (by omega), mup_ne _ _ (by omega)]) rfl rfl (va_up_ne _ _ hpn) rfl
theorem MS_rel {M M' : Nat → Nat → Int32} {σ : Sg} {n : Nat} {y : Rel} (hS : MS M σ) (hn : n < 6) (hl : (Zr σ n).length < 6) (he : M' = mup (mup (mup (mup (mup M 111 (6 * n + (Zr σ n).length) y.1) 112 (6 * n + (Zr σ n).length) y.2.1) 113 (6 * n + (Zr σ n).length) y.2.2.1) 114 (6 * n + (Zr σ n).length) y.2.2.2) 115 n (nI ((Zr σ n).length + 1))) : MS M' (zRel σ n y) := by
  subst he
  refine MS_df hS (fun k i hk => by rw [mup_ne _ _ (Or.inl (by omega)), mup_ne _ _ (Or.inl (by omega)), mup_ne _ _ (Or.inl (by omega)), mup_ne _ _ (Or.inl (by omega)), mup_ne _ _ (Or.inl (by omega))]) (fun p hp => ?_) (fun a => rfl) rfl
  by_cases hpn : p = n
  · subst hpn
    obtain ⟨h1, h2, h3', h4, h5, h6, h7, h8, h9, h10⟩ := hS.1 p hp
    have e2 : Zr (zRel σ p y) p = Zr σ p ++ [y] := va_up_self _ _ _
    have hk : ∀ k i, k < 111 → (mup (mup (mup (mup (mup M 111 (6 * p + (Zr σ p).length) y.1) 112 (6 * p + (Zr σ p).length) y.2.1) 113 (6 * p + (Zr σ p).length) y.2.2.1) 114 (6 * p + (Zr σ p).length) y.2.2.2) 115 p (nI ((Zr σ p).length + 1))) k i = M k i := fun k i a => by rw [mup_ne _ _ (by omega), mup_ne _ _ (by omega), mup_ne _ _ (by omega), mup_ne _ _ (by omega), mup_ne _ _ (by omega)]
    unfold MDf
    rw [e2]
    refine ⟨h1, h2, by simp; omega, by rw [hk _ _ (by omega)]; exact h4, by rw [hk _ _ (by omega)]; exact h5, fun i q hq => by rw [hk _ _ (by omega)]; exact h6 i q hq, by rw [hk _ _ (by omega)]; exact h7, fun i z hz => by rw [hk _ _ (by omega), hk _ _ (by omega), hk _ _ (by omega)]; exact h8 i z hz, by rw [mup_at]; simp, fun i z hz => ?_⟩
    rcases get_snoc hz with ⟨hi, hz⟩ | ⟨hi, rfl⟩
    · have hk2 : ∀ k, k ≠ 115 → (mup (mup (mup (mup (mup M 111 (6 * p + (Zr σ p).length) y.1) 112 (6 * p + (Zr σ p).length) y.2.1) 113 (6 * p + (Zr σ p).length) y.2.2.1) 114 (6 * p + (Zr σ p).length) y.2.2.2) 115 p (nI ((Zr σ p).length + 1))) k (6 * p + i) = M k (6 * p + i) := fun k a => by rw [mup_ne _ _ (by omega), mup_ne _ _ (by omega), mup_ne _ _ (by omega), mup_ne _ _ (by omega), mup_ne _ _ (by omega)]
      rw [hk2 _ (by omega), hk2 _ (by omega), hk2 _ (by omega), hk2 _ (by omega)]
      exact h10 i z hz
    · rw [hi]
      refine ⟨?_, ?_, ?_, ?_⟩
      · rw [mup_ne _ _ (by omega), mup_ne _ _ (by omega), mup_ne _ _ (by omega), mup_ne _ _ (by omega), mup_at]
      · rw [mup_ne _ _ (by omega), mup_ne _ _ (by omega), mup_ne _ _ (by omega), mup_at]
      · rw [mup_ne _ _ (by omega), mup_ne _ _ (by omega), mup_at]
      · rw [mup_ne _ _ (by omega), mup_at]
  · exact (hS.1 p hp).eqs2 (fun k i h => by unfold inR at h; rw [mup_ne _ _ (by omega), mup_ne _ _ (by omega), mup_ne _ _ (by omega), mup_ne _ _ (by omega), mup_ne _ _ (by omega)]) rfl rfl rfl (va_up_ne _ _ hpn)
theorem len_eq {a b : Nat} (hb : b < 2 ^ 31) (h : a ≤ b) : nI a = nI b ↔ ¬ nI a < nI b := by
  rw [nI_eq (by omega) hb]
  constructor
  · intro e h2
    rw [e] at h2
    exact Int32.lt_irrefl h2
  · intro h2
    have := Int32.not_lt.mp h2
    have := le_le rfl this hb (by omega)
    omega
theorem tt3_0 {b1 b2 b3 : Bool} (h : tt3 b1 b2 b3 = 0) : b1 = false ∧ b2 = false ∧ b3 = false := by cases b1 <;> cases b2 <;> cases b3 <;> simp [tt3] at h ⊢
set_option maxRecDepth 100000 in
set_option maxHeartbeats 4000000 in
theorem m_image {ω : jw} {d : Nat} {M : Nat → Nat → Int32} {J sl : Nat} {Q : jr → jh → Prop} {σ : Sg} (hS : MS M σ) (hW : Wm σ) (a w : Int32) (hq : MPv ω J sl M Q tcA (spImage σ a w)) : jwp ω (d + 1) mMd_image [.ref (jN ω + 103), .int a, .int w] (jst ω M J sl) Q := by
  refine jwp_of (by simp [Value.category]) (Nat.le_of_ble_eq_true rfl) (ls := [some (.ref (jN ω + 103)), some (.int (a)), some (.int (w))]) rfl ?_
  by_cases hno : oN a
  · rw [spImage, if_pos hno] at hq
    have k29 : ∀ (c : Bool), (c = true ↔ (w < 1 ∨ ¬ w ≤ 8)) → jj ω (d + 1) mMd_image 29 [some (.ref (jN ω + 103)), some (.int (a)), some (.int (w))] [.int (b2i c), .int 1, .ref (jN ω + 103)] (jst ω M J sl) Q := by
      intro c hc
      refine jj_il1 dMd_image_29 ?_
      refine ms1 dMd_image_30 csMd_99 (Nat.le_of_ble_eq_true rfl) ?_
      refine c_Md_isObject a (fun n hn he => absurd hno (by rw [he]; exact isObj_no hn)) (fun _ => jk_i ?_)
      refine jj_if_eq 49 dMd_image_33 (by decide) (fun _ => ?_) (fun h => absurd h (by decide))
      refine jj_iconst 0 dMd_image_49 (by decide) ?_
      refine mv3 dMd_image_50 clMd cvMd_103 (s103 _) (Nat.le_of_ble_eq_true rfl) ?_
      refine c_refused true c false (fun h0 => absurd h0 (by cases c <;> decide)) (fun h1 => jk_i ?_)
      refine jj_if_eq 57 dMd_image_53 (by decide) (fun h => absurd h (by decide)) (fun _ => ?_)
      exact jj_vret dMd_image_56 rfl (hq _ (hS.hd (Hd.up M _ (by omega))) ((Lo.refl M).up _ (by omega)) (by rw [mup_at]; rfl))
    refine jj_al0 dMd_image_0 ?_
    refine jj_il1 dMd_image_1 ?_
    refine ms1 dMd_image_2 csMd_99 (Nat.le_of_ble_eq_true rfl) ?_
    refine c_Md_isObject a (fun n hn he => absurd hno (by rw [he]; exact isObj_no hn)) (fun _ => jk_i ?_)
    refine jj_if_ne 12 dMd_image_5 (by decide) (fun h => absurd h (by decide)) (fun _ => ?_)
    refine jj_iconst 1 dMd_image_8 (by decide) ?_
    refine jj_goto 13 dMd_image_9 (by decide) ?_
    refine jj_il2 dMd_image_13 ?_
    refine jj_iconst 1 dMd_image_14 (by decide) ?_
    refine jj_icmp_lt 24 dMd_image_15 (by decide) (fun p1 => ?_) (fun p1 => ?_)
    · refine jj_iconst 1 dMd_image_24 (by decide) ?_
      refine jj_goto 29 dMd_image_25 (by decide) ?_
      exact k29 true ⟨fun _ => Or.inl p1, fun _ => rfl⟩
    · refine jj_il2 dMd_image_18 ?_
      refine jj_bipush 8 dMd_image_19 (by decide) ?_
      refine jj_icmp_le 28 dMd_image_21 (by decide) (fun p2 => ?_) (fun p2 => ?_)
      · refine jj_iconst 0 dMd_image_28 (by decide) ?_
        exact k29 false ⟨fun h => (by cases h), fun h => h.elim (fun g => absurd g p1) (fun g => absurd p2 g)⟩
      · refine jj_iconst 1 dMd_image_24 (by decide) ?_
        refine jj_goto 29 dMd_image_25 (by decide) ?_
        exact k29 true ⟨fun _ => Or.inr p2, fun _ => rfl⟩
  · obtain ⟨n, hn, rfl⟩ : ∃ n : Nat, n < 6 ∧ a = nI n := (isObj a).resolve_right hno
    rw [spImage, if_neg hno, iN6 hn] at hq
    have k29 : ∀ (c : Bool), (c = true ↔ (w < 1 ∨ ¬ w ≤ 8)) → jj ω (d + 1) mMd_image 29 [some (.ref (jN ω + 103)), some (.int (nI n)), some (.int (w))] [.int (b2i c), .int 0, .ref (jN ω + 103)] (jst ω M J sl) Q := by
      intro c hc
      have k50 : ∀ (e : Bool), (e = true ↔ ¬ Zb σ n = none) → jj ω (d + 1) mMd_image 50 [some (.ref (jN ω + 103)), some (.int (nI n)), some (.int (w))] [.int (b2i e), .int (b2i c), .int 0, .ref (jN ω + 103)] (jst ω M J sl) Q := by
        intro e he
        refine mv3 dMd_image_50 clMd cvMd_103 (s103 _) (Nat.le_of_ble_eq_true rfl) ?_
        refine c_refused false c e (fun h0 => jk_i ?_) (fun h1 => jk_i ?_)
        · obtain ⟨_, hc0, he0⟩ := tt3_0 h0
          subst hc0
          subst he0
          rw [if_neg (fun h => Bool.noConfusion (hc.mpr h)), if_neg (fun h => Bool.noConfusion (he.mpr h))] at hq
          have hb : Zb σ n = none := Classical.not_not.mp (fun h => Bool.noConfusion (he.mpr h))
          have hS1 := hS.hd (Hd.up M (k := 103) (i := 0) 0 (by omega))
          have hL1 : Lo M (mup M 103 0 0) := (Lo.refl M).up _ (by omega)
          have hT1 := mup_at M 103 0 0
          generalize mup M 103 0 0 = M1 at hS1 hL1 hT1 ⊢
          refine jj_if_eq 57 dMd_image_53 (by decide) (fun _ => ?_) (fun h => absurd h (by decide))
          refine jj_al0 dMd_image_57 ?_
          refine mr_get _ dMd_image_58 clMd lkMd_7 (s103 _) rfl ?_
          refine jj_il1 dMd_image_61 ?_
          refine jj_il2 dMd_image_62 ?_
          refine mr_iast dMd_image_63 (s104) (hn) (by decide) ?_
          refine jj_al0 dMd_image_64 ?_
          refine mr_get _ dMd_image_65 clMd lkMd_16 (s103 _) rfl ?_
          refine jj_il1 dMd_image_68 ?_
          refine jj_iconst 0 dMd_image_69 (by decide) ?_
          refine mr_iast dMd_image_70 (s106) (hn) (by decide) ?_
          refine jj_al0 dMd_image_71 ?_
          refine mr_get _ dMd_image_72 clMd lkMd_29 (s103 _) rfl ?_
          refine jj_il1 dMd_image_75 ?_
          refine jj_iconst 0 dMd_image_76 (by decide) ?_
          refine mr_iast dMd_image_77 (s110) (hn) (by decide) ?_
          refine jj_al0 dMd_image_78 ?_
          refine mr_get _ dMd_image_79 clMd lkMd_44 (s103 _) rfl ?_
          refine jj_il1 dMd_image_82 ?_
          refine jj_iconst 0 dMd_image_83 (by decide) ?_
          refine mr_iast dMd_image_84 (s115) (hn) (by decide) ?_
          exact jj_vret dMd_image_85 rfl (hq _ (MS_img hS1 hn hb (nI_iN (by have a1 : ¬ w.toInt < 1 := fun h => Bool.noConfusion (hc.mpr (Or.inl (Int32.lt_iff_toInt_lt.mpr h))); omega)) rfl) ((((hL1.up _ (by omega)).up _ (by omega)).up _ (by omega)).up _ (by omega)) (by rw [mup_ne _ _ (Or.inl (by omega)), mup_ne _ _ (Or.inl (by omega)), mup_ne _ _ (Or.inl (by omega)), mup_ne _ _ (Or.inl (by omega))]; exact hT1))
        · refine jj_if_eq 57 dMd_image_53 (by decide) (fun h => absurd h (by decide)) (fun _ => ?_)
          exact jj_vret dMd_image_56 rfl (by
  cases c with
  | true => rw [if_pos (hc.mp rfl)] at hq; exact hq _ (hS.hd (Hd.up M _ (by omega))) ((Lo.refl M).up _ (by omega)) (mup_at _ _ _ _)
  | false =>
    cases e with
    | true => rw [if_neg (fun h => Bool.noConfusion (hc.mpr h)), if_pos (he.mp rfl)] at hq; exact hq _ (hS.hd (Hd.up M _ (by omega))) ((Lo.refl M).up _ (by omega)) (mup_at _ _ _ _)
    | false => exact absurd rfl h1)
      refine jj_il1 dMd_image_29 ?_
      refine ms1 dMd_image_30 csMd_99 (Nat.le_of_ble_eq_true rfl) ?_
      refine c_Md_isObject (nI n) (fun _ _ _ => jk_i ?_) (fun h => absurd h (isObj_no hn))
      refine jj_if_eq 49 dMd_image_33 (by decide) (fun h => absurd h (by decide)) (fun _ => ?_)
      refine jj_al0 dMd_image_36 ?_
      refine mr_get _ dMd_image_37 clMd lkMd_47 (s103 _) rfl ?_
      refine jj_il1 dMd_image_40 ?_
      refine mr_zald dMd_image_41 (s116 _) (hn) (by decide) ?_
      refine jj_if_eq 49 dMd_image_42 (by decide) (fun p1 => ?_) (fun p1 => ?_)
      · refine jj_iconst 0 dMd_image_49 (by decide) ?_
        exact k50 false ⟨fun h => (by cases h), fun h => absurd ((isSome_iff hS hn).mp p1) h⟩
      · refine jj_iconst 1 dMd_image_45 (by decide) ?_
        refine jj_goto 50 dMd_image_46 (by decide) ?_
        exact k50 true ⟨fun _ h => p1 ((isSome_iff hS hn).mpr h), fun _ => rfl⟩
    refine jj_al0 dMd_image_0 ?_
    refine jj_il1 dMd_image_1 ?_
    refine ms1 dMd_image_2 csMd_99 (Nat.le_of_ble_eq_true rfl) ?_
    refine c_Md_isObject (nI n) (fun _ _ _ => jk_i ?_) (fun h => absurd h (isObj_no hn))
    refine jj_if_ne 12 dMd_image_5 (by decide) (fun _ => ?_) (fun h => absurd h (by decide))
    refine jj_iconst 0 dMd_image_12 (by decide) ?_
    refine jj_il2 dMd_image_13 ?_
    refine jj_iconst 1 dMd_image_14 (by decide) ?_
    refine jj_icmp_lt 24 dMd_image_15 (by decide) (fun p1 => ?_) (fun p1 => ?_)
    · refine jj_iconst 1 dMd_image_24 (by decide) ?_
      refine jj_goto 29 dMd_image_25 (by decide) ?_
      exact k29 true ⟨fun _ => Or.inl p1, fun _ => rfl⟩
    · refine jj_il2 dMd_image_18 ?_
      refine jj_bipush 8 dMd_image_19 (by decide) ?_
      refine jj_icmp_le 28 dMd_image_21 (by decide) (fun p2 => ?_) (fun p2 => ?_)
      · refine jj_iconst 0 dMd_image_28 (by decide) ?_
        exact k29 false ⟨fun h => (by cases h), fun h => h.elim (fun g => absurd g p1) (fun g => absurd p2 g)⟩
      · refine jj_iconst 1 dMd_image_24 (by decide) ?_
        refine jj_goto 29 dMd_image_25 (by decide) ?_
        exact k29 true ⟨fun _ => Or.inr p2, fun _ => rfl⟩
set_option maxRecDepth 100000 in
set_option maxHeartbeats 4000000 in
theorem m_need {ω : jw} {d : Nat} {M : Nat → Nat → Int32} {J sl : Nat} {Q : jr → jh → Prop} {σ : Sg} (hS : MS M σ) (hW : Wm σ) (hN6 : ∀ n, n < 6 → ∀ x ∈ Zn σ n, x < 6) (a b : Int32) (hq : MP ω J sl M Q tcA (spNeed σ a b)) : jwp ω (d + 1) mMd_need [.ref (jN ω + 103), .int a, .int b] (jst ω M J sl) Q := by
  refine jwp_of (by simp [Value.category]) (Nat.le_of_ble_eq_true rfl) (ls := [some (.ref (jN ω + 103)), some (.int (a)), some (.int (b)), none]) rfl ?_
  by_cases hno : oN a
  · rw [spNeed, if_pos hno] at hq
    refine jj_il1 dMd_need_0 ?_
    refine ms1 dMd_need_1 csMd_99 (Nat.le_of_ble_eq_true rfl) ?_
    refine c_Md_isObject a (fun n hn he => absurd hno (by rw [he]; exact isObj_no hn)) (fun _ => jk_i ?_)
    refine jj_if_eq 18 dMd_need_4 (by decide) (fun _ => ?_) (fun h => absurd h (by decide))
    refine jj_iconst 0 dMd_need_18 (by decide) ?_
    refine jj_is3 dMd_need_19 ?_
    refine jj_al0 dMd_need_20 ?_
    refine jj_il3 dMd_need_21 ?_
    refine jj_if_ne 29 dMd_need_22 (by decide) (fun h => absurd h (by decide)) (fun _ => ?_)
    refine jj_iconst 1 dMd_need_25 (by decide) ?_
    refine jj_goto 30 dMd_need_26 (by decide) ?_
    refine jj_il3 dMd_need_30 ?_
    refine jj_if_eq 52 dMd_need_31 (by decide) (fun _ => ?_) (fun h => absurd h (by decide))
    refine jj_iconst 0 dMd_need_52 (by decide) ?_
    refine jj_il3 dMd_need_53 ?_
    refine jj_if_eq 79 dMd_need_54 (by decide) (fun _ => ?_) (fun h => absurd h (by decide))
    refine jj_iconst 0 dMd_need_79 (by decide) ?_
    refine mv3 dMd_need_80 clMd cvMd_103 (s103 _) (Nat.le_of_ble_eq_true rfl) ?_
    refine c_refused true false false (fun h0 => absurd h0 (by decide)) (fun h1 => jk_i ?_)
    refine jj_if_eq 88 dMd_need_83 (by decide) (fun h => absurd h (by decide)) (fun _ => ?_)
    refine jj_iconst 0 dMd_need_86 (by decide) ?_
    exact jj_iret dMd_need_87 rfl rfl (hq _ 0 (hS.hd (Hd.up M _ (by omega))) ((Lo.refl M).up _ (by omega)) (mup_at _ _ _ _) (fun w h => by cases h))
  · obtain ⟨n, hn, rfl⟩ : ∃ n : Nat, n < 6 ∧ a = nI n := (isObj a).resolve_right hno
    rw [spNeed, if_neg hno] at hq
    have hN6 := hN6 n hn
    by_cases hno : oN b
    · rw [if_pos hno] at hq
      refine jj_il1 dMd_need_0 ?_
      refine ms1 dMd_need_1 csMd_99 (Nat.le_of_ble_eq_true rfl) ?_
      refine c_Md_isObject (nI n) (fun _ _ _ => jk_i ?_) (fun h => absurd h (isObj_no hn))
      refine jj_if_eq 18 dMd_need_4 (by decide) (fun h => absurd h (by decide)) (fun _ => ?_)
      refine jj_il2 dMd_need_7 ?_
      refine ms1 dMd_need_8 csMd_99 (Nat.le_of_ble_eq_true rfl) ?_
      refine c_Md_isObject b (fun n hn he => absurd hno (by rw [he]; exact isObj_no hn)) (fun _ => jk_i ?_)
      refine jj_if_eq 18 dMd_need_11 (by decide) (fun _ => ?_) (fun h => absurd h (by decide))
      refine jj_iconst 0 dMd_need_18 (by decide) ?_
      refine jj_is3 dMd_need_19 ?_
      refine jj_al0 dMd_need_20 ?_
      refine jj_il3 dMd_need_21 ?_
      refine jj_if_ne 29 dMd_need_22 (by decide) (fun h => absurd h (by decide)) (fun _ => ?_)
      refine jj_iconst 1 dMd_need_25 (by decide) ?_
      refine jj_goto 30 dMd_need_26 (by decide) ?_
      refine jj_il3 dMd_need_30 ?_
      refine jj_if_eq 52 dMd_need_31 (by decide) (fun _ => ?_) (fun h => absurd h (by decide))
      refine jj_iconst 0 dMd_need_52 (by decide) ?_
      refine jj_il3 dMd_need_53 ?_
      refine jj_if_eq 79 dMd_need_54 (by decide) (fun _ => ?_) (fun h => absurd h (by decide))
      refine jj_iconst 0 dMd_need_79 (by decide) ?_
      refine mv3 dMd_need_80 clMd cvMd_103 (s103 _) (Nat.le_of_ble_eq_true rfl) ?_
      refine c_refused true false false (fun h0 => absurd h0 (by decide)) (fun h1 => jk_i ?_)
      refine jj_if_eq 88 dMd_need_83 (by decide) (fun h => absurd h (by decide)) (fun _ => ?_)
      refine jj_iconst 0 dMd_need_86 (by decide) ?_
      exact jj_iret dMd_need_87 rfl rfl (hq _ 0 (hS.hd (Hd.up M _ (by omega))) ((Lo.refl M).up _ (by omega)) (mup_at _ _ _ _) (fun w h => by cases h))
    obtain ⟨m, hm, rfl⟩ : ∃ n : Nat, n < 6 ∧ b = nI n := (isObj b).resolve_right hno
    rw [if_neg hno, iN6 hn, iN6 hm] at hq
    have k53 : ∀ (c : Bool), (c = true ↔ (nI n = nI m ∨ m ∈ Zn σ n)) → jj ω (d + 1) mMd_need 53 [some (.ref (jN ω + 103)), some (.int (nI n)), some (.int (nI m)), some (.int 1)] [.int (b2i c), .int 0, .ref (jN ω + 103)] (jst ω M J sl) Q := by
      intro c hc
      have k80 : ∀ (e : Bool), (e = true ↔ (fixd σ n ∨ ¬ nI (Zn σ n).length < 3)) → jj ω (d + 1) mMd_need 80 [some (.ref (jN ω + 103)), some (.int (nI n)), some (.int (nI m)), some (.int 1)] [.int (b2i e), .int (b2i c), .int 0, .ref (jN ω + 103)] (jst ω M J sl) Q := by
        intro e he
        refine mv3 dMd_need_80 clMd cvMd_103 (s103 _) (Nat.le_of_ble_eq_true rfl) ?_
        refine c_refused false c e (fun h0 => jk_i ?_) (fun h1 => jk_i ?_)
        · obtain ⟨_, hc0, he0⟩ := tt3_0 h0
          subst hc0
          subst he0
          rw [if_neg (fun h => Bool.noConfusion (hc.mpr h)), if_neg (fun h => Bool.noConfusion (he.mpr h))] at hq
          have hl3 : (Zn σ n).length < 3 := by
            have h3 := Int32.lt_iff_toInt_lt.mp (Classical.not_not.mp (fun h => Bool.noConfusion (he.mpr (Or.inr h))))
            have hl := (hS.1 n hn).1
            rw [nI_toInt (by omega)] at h3
            have : (3 : Int32).toInt = 3 := by decide
            omega
          have hS1 := hS.hd (Hd.up M (k := 103) (i := 0) 0 (by omega))
          have hL1 : Lo M (mup M 103 0 0) := (Lo.refl M).up _ (by omega)
          have hT1 := mup_at M 103 0 0
          generalize mup M 103 0 0 = M1 at hS1 hL1 hT1 ⊢
          have h106 : M1 106 n = nI (Zn σ n).length := (hS1.1 n hn).2.2.2.2.1
          refine jj_if_eq 88 dMd_need_83 (by decide) (fun _ => ?_) (fun h => absurd h (by decide))
          refine jj_al0 dMd_need_88 ?_
          refine mr_get _ dMd_need_89 clMd lkMd_13 (s103 _) rfl ?_
          refine jj_iconst 3 dMd_need_92 (by decide) ?_
          refine jj_il1 dMd_need_93 ?_
          refine jj_imul dMd_need_94 ?_
          rw [show (3 : Int32) * nI n = nI (3 * n) from nI_mul 3 n]
          refine jj_al0 dMd_need_95 ?_
          refine mr_get _ dMd_need_96 clMd lkMd_16 (s103 _) rfl ?_
          refine jj_il1 dMd_need_99 ?_
          refine mr_iald dMd_need_100 (s106 _) (hn) (by decide) ?_
          rw [h106]
          refine jj_iadd dMd_need_101 ?_
          rw [nI_add]
          refine jj_il2 dMd_need_102 ?_
          refine mr_iast dMd_need_103 (s105) (by omega) (by decide) ?_
          refine jj_al0 dMd_need_104 ?_
          refine mr_get _ dMd_need_105 clMd lkMd_16 (s103 _) rfl ?_
          refine jj_il1 dMd_need_108 ?_
          refine jj_dup2 dMd_need_109 rfl rfl ?_
          refine mr_iald dMd_need_110 (s106 _) (hn) (by decide) ?_
          rw [mup_ne _ _ (Or.inl (by omega)), h106]
          refine jj_iconst 1 dMd_need_111 (by decide) ?_
          refine jj_iadd dMd_need_112 ?_
          rw [nI_1]
          refine mr_iast dMd_need_113 (s106) (hn) (by decide) ?_
          refine jj_al0 dMd_need_114 ?_
          refine mr_get _ dMd_need_115 clMd lkMd_16 (s103 _) rfl ?_
          refine jj_il1 dMd_need_118 ?_
          refine mr_iald dMd_need_119 (s106 _) (hn) (by decide) ?_
          rw [mup_at]
          exact jj_iret dMd_need_120 rfl rfl (hq _ _ (MS_need hS1 hn hl3 rfl) ((hL1.up _ (by omega)).up _ (by omega)) (by rw [mup_ne _ _ (Or.inl (by omega)), mup_ne _ _ (Or.inl (by omega))]; exact hT1) (fun w h => by cases h; rfl))
        · refine jj_if_eq 88 dMd_need_83 (by decide) (fun h => absurd h (by decide)) (fun _ => ?_)
          refine jj_iconst 0 dMd_need_86 (by decide) ?_
          exact jj_iret dMd_need_87 rfl rfl (by
  cases c with
  | true => rw [if_pos (hc.mp rfl)] at hq; exact hq _ 0 (hS.hd (Hd.up M _ (by omega))) ((Lo.refl M).up _ (by omega)) (mup_at _ _ _ _) (fun w h => by cases h)
  | false =>
    cases e with
    | true => rw [if_neg (fun h => Bool.noConfusion (hc.mpr h)), if_pos (he.mp rfl)] at hq; exact hq _ 0 (hS.hd (Hd.up M _ (by omega))) ((Lo.refl M).up _ (by omega)) (mup_at _ _ _ _) (fun w h => by cases h)
    | false => exact absurd rfl h1)
      refine jj_il3 dMd_need_53 ?_
      refine jj_if_eq 79 dMd_need_54 (by decide) (fun h => absurd h (by decide)) (fun _ => ?_)
      refine jj_al0 dMd_need_57 ?_
      refine jj_il1 dMd_need_58 ?_
      refine mv1 dMd_need_59 clMd cvMd_111 (s103 _) (Nat.le_of_ble_eq_true rfl) ?_
      refine c_fixed hS hW hn (fun hx => jk_i ?_) (fun hx => jk_i ?_)
      · refine jj_if_ne 75 dMd_need_62 (by decide) (fun _ => ?_) (fun h => absurd h (by decide))
        refine jj_iconst 1 dMd_need_75 (by decide) ?_
        refine jj_goto 80 dMd_need_76 (by decide) ?_
        exact k80 true ⟨fun _ => Or.inl hx, fun _ => rfl⟩
      · refine jj_if_ne 75 dMd_need_62 (by decide) (fun h => absurd h (by decide)) (fun _ => ?_)
        refine jj_al0 dMd_need_65 ?_
        refine mr_get _ dMd_need_66 clMd lkMd_16 (s103 _) rfl ?_
        refine jj_il1 dMd_need_69 ?_
        refine mr_iald dMd_need_70 (s106 _) (hn) (by decide) ?_
        rw [(hS.1 n hn).2.2.2.2.1]
        refine jj_iconst 3 dMd_need_71 (by decide) ?_
        refine jj_icmp_ne 79 dMd_need_72 (by decide) (fun p1 => ?_) (fun p1 => ?_)
        · refine jj_iconst 0 dMd_need_79 (by decide) ?_
          exact k80 false ⟨fun h => (by cases h), fun h => h.elim (fun g => absurd g hx) (fun g => absurd ((len_eq (b := 3) (by decide) (hS.1 n hn).1).mpr g) p1)⟩
        · refine jj_iconst 1 dMd_need_75 (by decide) ?_
          refine jj_goto 80 dMd_need_76 (by decide) ?_
          exact k80 true ⟨fun _ => Or.inr ((len_eq (b := 3) (by decide) (hS.1 n hn).1).mp p1), fun _ => rfl⟩
    refine jj_il1 dMd_need_0 ?_
    refine ms1 dMd_need_1 csMd_99 (Nat.le_of_ble_eq_true rfl) ?_
    refine c_Md_isObject (nI n) (fun _ _ _ => jk_i ?_) (fun h => absurd h (isObj_no hn))
    refine jj_if_eq 18 dMd_need_4 (by decide) (fun h => absurd h (by decide)) (fun _ => ?_)
    refine jj_il2 dMd_need_7 ?_
    refine ms1 dMd_need_8 csMd_99 (Nat.le_of_ble_eq_true rfl) ?_
    refine c_Md_isObject (nI m) (fun _ _ _ => jk_i ?_) (fun h => absurd h (isObj_no hm))
    refine jj_if_eq 18 dMd_need_11 (by decide) (fun h => absurd h (by decide)) (fun _ => ?_)
    refine jj_iconst 1 dMd_need_14 (by decide) ?_
    refine jj_goto 19 dMd_need_15 (by decide) ?_
    refine jj_is3 dMd_need_19 ?_
    refine jj_al0 dMd_need_20 ?_
    refine jj_il3 dMd_need_21 ?_
    refine jj_if_ne 29 dMd_need_22 (by decide) (fun _ => ?_) (fun h => absurd h (by decide))
    refine jj_iconst 0 dMd_need_29 (by decide) ?_
    refine jj_il3 dMd_need_30 ?_
    refine jj_if_eq 52 dMd_need_31 (by decide) (fun h => absurd h (by decide)) (fun _ => ?_)
    refine jj_il1 dMd_need_34 ?_
    refine jj_il2 dMd_need_35 ?_
    refine jj_icmp_eq 48 dMd_need_36 (by decide) (fun p1 => ?_) (fun p1 => ?_)
    · refine jj_iconst 1 dMd_need_48 (by decide) ?_
      refine jj_goto 53 dMd_need_49 (by decide) ?_
      exact k53 true ⟨fun _ => Or.inl p1, fun _ => rfl⟩
    · refine jj_al0 dMd_need_39 ?_
      refine jj_il1 dMd_need_40 ?_
      refine jj_il2 dMd_need_41 ?_
      refine mv2 dMd_need_42 clMd cvMd_107 (s103 _) (Nat.le_of_ble_eq_true rfl) ?_
      refine c_hasNeed hS hn hm hN6 (fun hx => jk_i ?_) (fun hx => jk_i ?_)
      · refine jj_if_eq 52 dMd_need_45 (by decide) (fun h => absurd h (by decide)) (fun _ => ?_)
        refine jj_iconst 1 dMd_need_48 (by decide) ?_
        refine jj_goto 53 dMd_need_49 (by decide) ?_
        exact k53 true ⟨fun _ => Or.inr hx, fun _ => rfl⟩
      · refine jj_if_eq 52 dMd_need_45 (by decide) (fun _ => ?_) (fun h => absurd h (by decide))
        refine jj_iconst 0 dMd_need_52 (by decide) ?_
        exact k53 false ⟨fun h => (by cases h), fun h => h.elim (fun g => absurd g p1) (fun g => absurd g hx)⟩
set_option maxRecDepth 100000 in
set_option maxHeartbeats 4000000 in
theorem m_symbol {ω : jw} {d : Nat} {M : Nat → Nat → Int32} {J sl : Nat} {Q : jr → jh → Prop} {σ : Sg} (hS : MS M σ) (hW : Wm σ) (a nm w : Int32) (fl : Bool) (hq : MP ω J sl M Q tcA (spSymbol σ a nm w fl)) : jwp ω (d + 1) mMd_symbol [.ref (jN ω + 103), .int a, .int nm, .int w, .int (b2i fl)] (jst ω M J sl) Q := by
  refine jwp_of (by simp [Value.category]) (Nat.le_of_ble_eq_true rfl) (ls := [some (.ref (jN ω + 103)), some (.int (a)), some (.int (nm)), some (.int (w)), some (.int (b2i fl)), none, none]) rfl ?_
  by_cases hno : oN a
  · rw [spSymbol, if_pos hno] at hq
    refine jj_il1 dMd_symbol_0 ?_
    refine ms1 dMd_symbol_1 csMd_99 (Nat.le_of_ble_eq_true rfl) ?_
    refine c_Md_isObject a (fun n hn he => absurd hno (by rw [he]; exact isObj_no hn)) (fun _ => jk_i ?_)
    refine jj_is5 dMd_symbol_4 ?_
    refine jj_al0 dMd_symbol_6 ?_
    refine jj_il5 dMd_symbol_7 ?_
    refine jj_if_ne 16 dMd_symbol_9 (by decide) (fun h => absurd h (by decide)) (fun _ => ?_)
    refine jj_iconst 1 dMd_symbol_12 (by decide) ?_
    refine jj_goto 17 dMd_symbol_13 (by decide) ?_
    refine jj_il5 dMd_symbol_17 ?_
    refine jj_if_eq 56 dMd_symbol_19 (by decide) (fun _ => ?_) (fun h => absurd h (by decide))
    refine jj_iconst 0 dMd_symbol_56 (by decide) ?_
    refine jj_il5 dMd_symbol_57 ?_
    refine jj_if_eq 85 dMd_symbol_59 (by decide) (fun _ => ?_) (fun h => absurd h (by decide))
    refine jj_iconst 0 dMd_symbol_85 (by decide) ?_
    refine mv3 dMd_symbol_86 clMd cvMd_103 (s103 _) (Nat.le_of_ble_eq_true rfl) ?_
    refine c_refused true false false (fun h0 => absurd h0 (by decide)) (fun h1 => jk_i ?_)
    refine jj_if_eq 94 dMd_symbol_89 (by decide) (fun h => absurd h (by decide)) (fun _ => ?_)
    refine jj_iconst 0 dMd_symbol_92 (by decide) ?_
    exact jj_iret dMd_symbol_93 rfl rfl (hq _ 0 (hS.hd (Hd.up M _ (by omega))) ((Lo.refl M).up _ (by omega)) (mup_at _ _ _ _) (fun w h => by cases h))
  · obtain ⟨n, hn, rfl⟩ : ∃ n : Nat, n < 6 ∧ a = nI n := (isObj a).resolve_right hno
    rw [spSymbol, if_neg hno, iN6 hn] at hq
    have k57 : ∀ (c : Bool), (c = true ↔ (nmB nm = false ∨ (∃ s ∈ Zy σ n, s.1 = nm) ∨ (¬ w = -1 ∧ (w < 0 ∨ nI (Zs σ n) ≤ w)))) → jj ω (d + 1) mMd_symbol 57 [some (.ref (jN ω + 103)), some (.int (nI n)), some (.int (nm)), some (.int (w)), some (.int (b2i fl)), some (.int 1), none] [.int (b2i c), .int 0, .ref (jN ω + 103)] (jst ω M J sl) Q := by
      intro c hc
      have k86 : ∀ (e : Bool), (e = true ↔ (fixd σ n ∨ ¬ nI (Zy σ n).length < 6)) → jj ω (d + 1) mMd_symbol 86 [some (.ref (jN ω + 103)), some (.int (nI n)), some (.int (nm)), some (.int (w)), some (.int (b2i fl)), some (.int 1), none] [.int (b2i e), .int (b2i c), .int 0, .ref (jN ω + 103)] (jst ω M J sl) Q := by
        intro e he
        refine mv3 dMd_symbol_86 clMd cvMd_103 (s103 _) (Nat.le_of_ble_eq_true rfl) ?_
        refine c_refused false c e (fun h0 => jk_i ?_) (fun h1 => jk_i ?_)
        · obtain ⟨_, hc0, he0⟩ := tt3_0 h0
          subst hc0
          subst he0
          rw [if_neg (fun h => Bool.noConfusion (hc.mpr h)), if_neg (fun h => Bool.noConfusion (he.mpr h))] at hq
          have hl6 : (Zy σ n).length < 6 := by
            have h3 := Int32.lt_iff_toInt_lt.mp (Classical.not_not.mp (fun h => Bool.noConfusion (he.mpr (Or.inr h))))
            have hl := (hS.1 n hn).2.1
            rw [nI_toInt (by omega)] at h3
            have : (6 : Int32).toInt = 6 := by decide
            omega
          have hS1 := hS.hd (Hd.up M (k := 103) (i := 0) 0 (by omega))
          have hL1 : Lo M (mup M 103 0 0) := (Lo.refl M).up _ (by omega)
          have hT1 := mup_at M 103 0 0
          generalize mup M 103 0 0 = M1 at hS1 hL1 hT1 ⊢
          have h110 : M1 110 n = nI (Zy σ n).length := (hS1.1 n hn).2.2.2.2.2.2.1
          have k144 : ∀ v : Int32, v = b2i (fl && decide (w = -1)) → jj ω (d + 1) mMd_symbol 144 [some (.ref (jN ω + 103)), some (.int (nI n)), some (.int (nm)), some (.int (w)), some (.int (b2i fl)), some (.int 1), some (.int (nI (6 * n + (Zy σ n).length)))] [.int v, .int (nI (6 * n + (Zy σ n).length)), .ref (jN ω + 109)] (jst ω (mup (mup M1 107 (6 * n + (Zy σ n).length) nm) 108 (6 * n + (Zy σ n).length) w) J sl) Q := by
            intro v hv
            subst hv
            refine mr_zast dMd_symbol_144 (s109) (by cases (fl && decide (w = -1)); exact Or.inl rfl; exact Or.inr rfl) (by omega) (by decide) ?_
            refine jj_al0 dMd_symbol_145 ?_
            refine mr_get _ dMd_symbol_146 clMd lkMd_29 (s103 _) rfl ?_
            refine jj_il1 dMd_symbol_149 ?_
            refine jj_dup2 dMd_symbol_150 rfl rfl ?_
            refine mr_iald dMd_symbol_151 (s110 _) (hn) (by decide) ?_
            rw [mup_ne _ _ (Or.inl (by omega)), mup_ne _ _ (Or.inl (by omega)), mup_ne _ _ (Or.inl (by omega)), h110]
            refine jj_iconst 1 dMd_symbol_152 (by decide) ?_
            refine jj_iadd dMd_symbol_153 ?_
            rw [nI_1]
            refine mr_iast dMd_symbol_154 (s110) (hn) (by decide) ?_
            refine jj_al0 dMd_symbol_155 ?_
            refine mr_get _ dMd_symbol_156 clMd lkMd_29 (s103 _) rfl ?_
            refine jj_il1 dMd_symbol_159 ?_
            refine mr_iald dMd_symbol_160 (s110 _) (hn) (by decide) ?_
            rw [mup_at]
            refine jj_iconst 1 dMd_symbol_161 (by decide) ?_
            refine jj_isub dMd_symbol_162 ?_
            rw [nI_pred1 (by omega), Nat.add_sub_cancel]
            exact jj_iret dMd_symbol_163 rfl rfl (hq _ _ (MS_sym (y := (nm, w, fl && decide (w = -1))) hS1 hn hl6 rfl) ((((hL1.up _ (by omega)).up _ (by omega)).up _ (by omega)).up _ (by omega)) (by rw [mup_ne _ _ (Or.inl (by omega)), mup_ne _ _ (Or.inl (by omega)), mup_ne _ _ (Or.inl (by omega)), mup_ne _ _ (Or.inl (by omega))]; exact hT1) (fun w h => by cases h; rfl))
          refine jj_if_eq 94 dMd_symbol_89 (by decide) (fun _ => ?_) (fun h => absurd h (by decide))
          refine jj_bipush 6 dMd_symbol_94 (by decide) ?_
          refine jj_il1 dMd_symbol_96 ?_
          refine jj_imul dMd_symbol_97 ?_
          rw [show (6 : Int32) * nI n = nI (6 * n) from nI_mul 6 n]
          refine jj_al0 dMd_symbol_98 ?_
          refine mr_get _ dMd_symbol_99 clMd lkMd_29 (s103 _) rfl ?_
          refine jj_il1 dMd_symbol_102 ?_
          refine mr_iald dMd_symbol_103 (s110 _) (hn) (by decide) ?_
          rw [h110]
          refine jj_iadd dMd_symbol_104 ?_
          rw [nI_add]
          refine jj_is6 dMd_symbol_105 ?_
          refine jj_al0 dMd_symbol_107 ?_
          refine mr_get _ dMd_symbol_108 clMd lkMd_19 (s103 _) rfl ?_
          refine jj_il6 dMd_symbol_111 ?_
          refine jj_il2 dMd_symbol_113 ?_
          refine mr_iast dMd_symbol_114 (s107) (by omega) (by decide) ?_
          refine jj_al0 dMd_symbol_115 ?_
          refine mr_get _ dMd_symbol_116 clMd lkMd_22 (s103 _) rfl ?_
          refine jj_il6 dMd_symbol_119 ?_
          refine jj_il3 dMd_symbol_121 ?_
          refine mr_iast dMd_symbol_122 (s108) (by omega) (by decide) ?_
          refine jj_al0 dMd_symbol_123 ?_
          refine mr_get _ dMd_symbol_124 clMd lkMd_25 (s103 _) rfl ?_
          refine jj_il6 dMd_symbol_127 ?_
          refine jj_il3 dMd_symbol_129 ?_
          refine jj_iconst (-1) dMd_symbol_130 (by decide) ?_
          refine jj_icmp_ne 143 dMd_symbol_131 (by decide) (fun p1 => ?_) (fun p1 => ?_)
          · refine jj_iconst 0 dMd_symbol_143 (by decide) ?_
            exact k144 _ (by rw [decide_eq_false p1]; cases fl <;> rfl)
          · refine jj_il4 dMd_symbol_134 ?_
            refine jj_if_eq 143 dMd_symbol_136 (by decide) (fun p2 => ?_) (fun p2 => ?_)
            · refine jj_iconst 0 dMd_symbol_143 (by decide) ?_
              exact k144 _ (by rw [b2i_f p2]; rfl)
            · refine jj_iconst 1 dMd_symbol_139 (by decide) ?_
              refine jj_goto 144 dMd_symbol_140 (by decide) ?_
              exact k144 _ (by rw [b2i_t p2, decide_eq_true p1]; rfl)
        · refine jj_if_eq 94 dMd_symbol_89 (by decide) (fun h => absurd h (by decide)) (fun _ => ?_)
          refine jj_iconst 0 dMd_symbol_92 (by decide) ?_
          exact jj_iret dMd_symbol_93 rfl rfl (by
  cases c with
  | true => rw [if_pos (hc.mp rfl)] at hq; exact hq _ 0 (hS.hd (Hd.up M _ (by omega))) ((Lo.refl M).up _ (by omega)) (mup_at _ _ _ _) (fun w h => by cases h)
  | false =>
    cases e with
    | true => rw [if_neg (fun h => Bool.noConfusion (hc.mpr h)), if_pos (he.mp rfl)] at hq; exact hq _ 0 (hS.hd (Hd.up M _ (by omega))) ((Lo.refl M).up _ (by omega)) (mup_at _ _ _ _) (fun w h => by cases h)
    | false => exact absurd rfl h1)
      refine jj_il5 dMd_symbol_57 ?_
      refine jj_if_eq 85 dMd_symbol_59 (by decide) (fun h => absurd h (by decide)) (fun _ => ?_)
      refine jj_al0 dMd_symbol_62 ?_
      refine jj_il1 dMd_symbol_63 ?_
      refine mv1 dMd_symbol_64 clMd cvMd_111 (s103 _) (Nat.le_of_ble_eq_true rfl) ?_
      refine c_fixed hS hW hn (fun hx => jk_i ?_) (fun hx => jk_i ?_)
      · refine jj_if_ne 81 dMd_symbol_67 (by decide) (fun _ => ?_) (fun h => absurd h (by decide))
        refine jj_iconst 1 dMd_symbol_81 (by decide) ?_
        refine jj_goto 86 dMd_symbol_82 (by decide) ?_
        exact k86 true ⟨fun _ => Or.inl hx, fun _ => rfl⟩
      · refine jj_if_ne 81 dMd_symbol_67 (by decide) (fun h => absurd h (by decide)) (fun _ => ?_)
        refine jj_al0 dMd_symbol_70 ?_
        refine mr_get _ dMd_symbol_71 clMd lkMd_29 (s103 _) rfl ?_
        refine jj_il1 dMd_symbol_74 ?_
        refine mr_iald dMd_symbol_75 (s110 _) (hn) (by decide) ?_
        rw [(hS.1 n hn).2.2.2.2.2.2.1]
        refine jj_bipush 6 dMd_symbol_76 (by decide) ?_
        refine jj_icmp_ne 85 dMd_symbol_78 (by decide) (fun p1 => ?_) (fun p1 => ?_)
        · refine jj_iconst 0 dMd_symbol_85 (by decide) ?_
          exact k86 false ⟨fun h => (by cases h), fun h => h.elim (fun g => absurd g hx) (fun g => absurd ((len_eq (b := 6) (by decide) (hS.1 n hn).2.1).mpr g) p1)⟩
        · refine jj_iconst 1 dMd_symbol_81 (by decide) ?_
          refine jj_goto 86 dMd_symbol_82 (by decide) ?_
          exact k86 true ⟨fun _ => Or.inr ((len_eq (b := 6) (by decide) (hS.1 n hn).2.1).mp p1), fun _ => rfl⟩
    refine jj_il1 dMd_symbol_0 ?_
    refine ms1 dMd_symbol_1 csMd_99 (Nat.le_of_ble_eq_true rfl) ?_
    refine c_Md_isObject (nI n) (fun _ _ _ => jk_i ?_) (fun h => absurd h (isObj_no hn))
    refine jj_is5 dMd_symbol_4 ?_
    refine jj_al0 dMd_symbol_6 ?_
    refine jj_il5 dMd_symbol_7 ?_
    refine jj_if_ne 16 dMd_symbol_9 (by decide) (fun _ => ?_) (fun h => absurd h (by decide))
    refine jj_iconst 0 dMd_symbol_16 (by decide) ?_
    refine jj_il5 dMd_symbol_17 ?_
    refine jj_if_eq 56 dMd_symbol_19 (by decide) (fun h => absurd h (by decide)) (fun _ => ?_)
    refine jj_il2 dMd_symbol_22 ?_
    refine ms1 dMd_symbol_23 csMd_114 (Nat.le_of_ble_eq_true rfl) ?_
    refine c_mName nm (fun hnm => jk_i ?_) (fun hnm => jk_i ?_)
    · refine jj_if_eq 52 dMd_symbol_26 (by decide) (fun h => absurd h (by decide)) (fun _ => ?_)
      refine jj_al0 dMd_symbol_29 ?_
      refine jj_il1 dMd_symbol_30 ?_
      refine jj_il2 dMd_symbol_31 ?_
      refine mv2 dMd_symbol_32 clMd cvMd_117 (s103 _) (Nat.le_of_ble_eq_true rfl) ?_
      refine c_hasName hS hn nm (fun hx => jk_i ?_) (fun hx => jk_i ?_)
      · refine jj_if_ne 52 dMd_symbol_35 (by decide) (fun _ => ?_) (fun h => absurd h (by decide))
        refine jj_iconst 1 dMd_symbol_52 (by decide) ?_
        refine jj_goto 57 dMd_symbol_53 (by decide) ?_
        exact k57 true ⟨fun _ => Or.inr (Or.inl hx), fun _ => rfl⟩
      · refine jj_if_ne 52 dMd_symbol_35 (by decide) (fun h => absurd h (by decide)) (fun _ => ?_)
        refine jj_il3 dMd_symbol_38 ?_
        refine jj_iconst (-1) dMd_symbol_39 (by decide) ?_
        refine jj_icmp_eq 56 dMd_symbol_40 (by decide) (fun p1 => ?_) (fun p1 => ?_)
        · refine jj_iconst 0 dMd_symbol_56 (by decide) ?_
          exact k57 false ⟨fun h => (by cases h), fun h => h.elim (fun g => by rw [hnm] at g; cases g) (fun h => h.elim (fun g => absurd g hx) (fun g => absurd p1 g.1))⟩
        · refine jj_al0 dMd_symbol_43 ?_
          refine jj_il1 dMd_symbol_44 ?_
          refine jj_il3 dMd_symbol_45 ?_
          refine mv2 dMd_symbol_46 clMd cvMd_120 (s103 _) (Nat.le_of_ble_eq_true rfl) ?_
          refine c_isWord hS hn w (fun hw => jk_i ?_) (fun hw => jk_i ?_)
          · refine jj_if_ne 56 dMd_symbol_49 (by decide) (fun _ => ?_) (fun h => absurd h (by decide))
            refine jj_iconst 0 dMd_symbol_56 (by decide) ?_
            exact k57 false ⟨fun h => (by cases h), fun h => h.elim (fun g => by rw [hnm] at g; cases g) (fun h => h.elim (fun g => absurd g hx) (fun g => absurd g.2 hw))⟩
          · refine jj_if_ne 56 dMd_symbol_49 (by decide) (fun h => absurd h (by decide)) (fun _ => ?_)
            refine jj_iconst 1 dMd_symbol_52 (by decide) ?_
            refine jj_goto 57 dMd_symbol_53 (by decide) ?_
            exact k57 true ⟨fun _ => Or.inr (Or.inr ⟨p1, hw⟩), fun _ => rfl⟩
    · refine jj_if_eq 52 dMd_symbol_26 (by decide) (fun _ => ?_) (fun h => absurd h (by decide))
      refine jj_iconst 1 dMd_symbol_52 (by decide) ?_
      refine jj_goto 57 dMd_symbol_53 (by decide) ?_
      exact k57 true ⟨fun _ => Or.inl hnm, fun _ => rfl⟩
set_option maxRecDepth 100000 in
set_option maxHeartbeats 4000000 in
theorem spReloc_or (σ : Sg) (n : Nat) (kd w s ad : Int32) (x y z : jr × Sg) : (if (kd < 0 ∨ (2 : Int32) < kd ∨ (w < 0 ∨ nI (Zs σ n) ≤ w)) then x else if (¬ kd = 0 ∧ (s < 0 ∨ ¬ s < nI (Zy σ n).length)) then x else z) = if ((kd < 0 ∨ (2 : Int32) < kd ∨ (w < 0 ∨ nI (Zs σ n) ≤ w)) ∨ (¬ kd = 0 ∧ (s < 0 ∨ ¬ s < nI (Zy σ n).length))) then x else z := by
  by_cases h1 : (kd < 0 ∨ (2 : Int32) < kd ∨ (w < 0 ∨ nI (Zs σ n) ≤ w))
  · rw [if_pos h1, if_pos (Or.inl h1)]
  · rw [if_neg h1]
    by_cases h2 : (¬ kd = 0 ∧ (s < 0 ∨ ¬ s < nI (Zy σ n).length))
    · rw [if_pos h2, if_pos (Or.inr h2)]
    · rw [if_neg h2, if_neg (fun h => h.elim h1 h2)]
set_option maxRecDepth 100000 in
set_option maxHeartbeats 4000000 in
theorem m_relocation {ω : jw} {d : Nat} {M : Nat → Nat → Int32} {J sl : Nat} {Q : jr → jh → Prop} {σ : Sg} (hS : MS M σ) (hW : Wm σ) (a kd w s ad : Int32) (hq : MP ω J sl M Q tcA (spReloc σ a kd w s ad)) : jwp ω (d + 1) mMd_relocation [.ref (jN ω + 103), .int a, .int kd, .int w, .int s, .int ad] (jst ω M J sl) Q := by
  refine jwp_of (by simp [Value.category]) (Nat.le_of_ble_eq_true rfl) (ls := [some (.ref (jN ω + 103)), some (.int (a)), some (.int (kd)), some (.int (w)), some (.int (s)), some (.int (ad)), none, none, none]) rfl ?_
  by_cases hno : oN a
  · rw [spReloc, if_pos hno] at hq
    refine jj_il1 dMd_relocation_0 ?_
    refine ms1 dMd_relocation_1 csMd_99 (Nat.le_of_ble_eq_true rfl) ?_
    refine c_Md_isObject a (fun n hn he => absurd hno (by rw [he]; exact isObj_no hn)) (fun _ => jk_i ?_)
    refine jj_is6 dMd_relocation_4 ?_
    refine jj_il6 dMd_relocation_6 ?_
    refine jj_if_eq 53 dMd_relocation_8 (by decide) (fun _ => ?_) (fun h => absurd h (by decide))
    refine jj_iconst 0 dMd_relocation_53 (by decide) ?_
    refine jj_is7 dMd_relocation_54 ?_
    refine jj_al0 dMd_relocation_56 ?_
    refine jj_il6 dMd_relocation_57 ?_
    refine jj_if_ne 66 dMd_relocation_59 (by decide) (fun h => absurd h (by decide)) (fun _ => ?_)
    refine jj_iconst 1 dMd_relocation_62 (by decide) ?_
    refine jj_goto 67 dMd_relocation_63 (by decide) ?_
    refine jj_il7 dMd_relocation_67 ?_
    refine jj_il6 dMd_relocation_69 ?_
    refine jj_if_eq 97 dMd_relocation_71 (by decide) (fun _ => ?_) (fun h => absurd h (by decide))
    refine jj_iconst 0 dMd_relocation_97 (by decide) ?_
    refine mv3 dMd_relocation_98 clMd cvMd_103 (s103 _) (Nat.le_of_ble_eq_true rfl) ?_
    refine c_refused true false false (fun h0 => absurd h0 (by decide)) (fun h1 => jk_i ?_)
    refine jj_if_eq 106 dMd_relocation_101 (by decide) (fun h => absurd h (by decide)) (fun _ => ?_)
    refine jj_iconst 0 dMd_relocation_104 (by decide) ?_
    exact jj_iret dMd_relocation_105 rfl rfl (hq _ 0 (hS.hd (Hd.up M _ (by omega))) ((Lo.refl M).up _ (by omega)) (mup_at _ _ _ _) (fun w h => by cases h))
  · obtain ⟨n, hn, rfl⟩ : ∃ n : Nat, n < 6 ∧ a = nI n := (isObj a).resolve_right hno
    rw [spReloc, if_neg hno, iN6 hn, spReloc_or σ n kd w s ad _ (.inr 0, σ)] at hq
    have k54 : ∀ (c : Bool), (c = true ↔ ((kd < 0 ∨ (2 : Int32) < kd ∨ (w < 0 ∨ nI (Zs σ n) ≤ w)) ∨ (¬ kd = 0 ∧ (s < 0 ∨ ¬ s < nI (Zy σ n).length)))) → jj ω (d + 1) mMd_relocation 54 [some (.ref (jN ω + 103)), some (.int (nI n)), some (.int (kd)), some (.int (w)), some (.int (s)), some (.int (ad)), some (.int 1), none, none] [.int (b2i c)] (jst ω M J sl) Q := by
      intro c hc
      have k98 : ∀ (e : Bool), (e = true ↔ (fixd σ n ∨ ¬ nI (Zr σ n).length < 6)) → jj ω (d + 1) mMd_relocation 98 [some (.ref (jN ω + 103)), some (.int (nI n)), some (.int (kd)), some (.int (w)), some (.int (s)), some (.int (ad)), some (.int 1), some (.int (b2i c)), none] [.int (b2i e), .int (b2i c), .int 0, .ref (jN ω + 103)] (jst ω M J sl) Q := by
        intro e he
        refine mv3 dMd_relocation_98 clMd cvMd_103 (s103 _) (Nat.le_of_ble_eq_true rfl) ?_
        refine c_refused false c e (fun h0 => jk_i ?_) (fun h1 => jk_i ?_)
        · obtain ⟨_, hc0, he0⟩ := tt3_0 h0
          subst hc0
          subst he0
          rw [if_neg (fun h => Bool.noConfusion (hc.mpr h)), if_neg (fun h => Bool.noConfusion (he.mpr h))] at hq
          have hl6 : (Zr σ n).length < 6 := by
            have h3 := Int32.lt_iff_toInt_lt.mp (Classical.not_not.mp (fun h => Bool.noConfusion (he.mpr (Or.inr h))))
            have hl := (hS.1 n hn).2.2.1
            rw [nI_toInt (by omega)] at h3
            have : (6 : Int32).toInt = 6 := by decide
            omega
          have hS1 := hS.hd (Hd.up M (k := 103) (i := 0) 0 (by omega))
          have hL1 : Lo M (mup M 103 0 0) := (Lo.refl M).up _ (by omega)
          have hT1 := mup_at M 103 0 0
          generalize mup M 103 0 0 = M1 at hS1 hL1 hT1 ⊢
          have h115 : M1 115 n = nI (Zr σ n).length := (hS1.1 n hn).2.2.2.2.2.2.2.2.1
          refine jj_if_eq 106 dMd_relocation_101 (by decide) (fun _ => ?_) (fun h => absurd h (by decide))
          refine jj_bipush 6 dMd_relocation_106 (by decide) ?_
          refine jj_il1 dMd_relocation_108 ?_
          refine jj_imul dMd_relocation_109 ?_
          rw [show (6 : Int32) * nI n = nI (6 * n) from nI_mul 6 n]
          refine jj_al0 dMd_relocation_110 ?_
          refine mr_get _ dMd_relocation_111 clMd lkMd_44 (s103 _) rfl ?_
          refine jj_il1 dMd_relocation_114 ?_
          refine mr_iald dMd_relocation_115 (s115 _) (hn) (by decide) ?_
          rw [h115]
          refine jj_iadd dMd_relocation_116 ?_
          rw [nI_add]
          refine jj_is8 dMd_relocation_117 ?_
          refine jj_al0 dMd_relocation_119 ?_
          refine mr_get _ dMd_relocation_120 clMd lkMd_32 (s103 _) rfl ?_
          refine jj_il8 dMd_relocation_123 ?_
          refine jj_il2 dMd_relocation_125 ?_
          refine mr_iast dMd_relocation_126 (s111) (by omega) (by decide) ?_
          refine jj_al0 dMd_relocation_127 ?_
          refine mr_get _ dMd_relocation_128 clMd lkMd_35 (s103 _) rfl ?_
          refine jj_il8 dMd_relocation_131 ?_
          refine jj_il3 dMd_relocation_133 ?_
          refine mr_iast dMd_relocation_134 (s112) (by omega) (by decide) ?_
          refine jj_al0 dMd_relocation_135 ?_
          refine mr_get _ dMd_relocation_136 clMd lkMd_38 (s103 _) rfl ?_
          refine jj_il8 dMd_relocation_139 ?_
          refine jj_il4 dMd_relocation_141 ?_
          refine mr_iast dMd_relocation_143 (s113) (by omega) (by decide) ?_
          refine jj_al0 dMd_relocation_144 ?_
          refine mr_get _ dMd_relocation_145 clMd lkMd_41 (s103 _) rfl ?_
          refine jj_il8 dMd_relocation_148 ?_
          refine jj_il5 dMd_relocation_150 ?_
          refine mr_iast dMd_relocation_152 (s114) (by omega) (by decide) ?_
          refine jj_al0 dMd_relocation_153 ?_
          refine mr_get _ dMd_relocation_154 clMd lkMd_44 (s103 _) rfl ?_
          refine jj_il1 dMd_relocation_157 ?_
          refine jj_dup2 dMd_relocation_158 rfl rfl ?_
          refine mr_iald dMd_relocation_159 (s115 _) (hn) (by decide) ?_
          rw [mup_ne _ _ (Or.inl (by omega)), mup_ne _ _ (Or.inl (by omega)), mup_ne _ _ (Or.inl (by omega)), mup_ne _ _ (Or.inl (by omega)), h115]
          refine jj_iconst 1 dMd_relocation_160 (by decide) ?_
          refine jj_iadd dMd_relocation_161 ?_
          rw [nI_1]
          refine mr_iast dMd_relocation_162 (s115) (hn) (by decide) ?_
          refine jj_al0 dMd_relocation_163 ?_
          refine mr_get _ dMd_relocation_164 clMd lkMd_44 (s103 _) rfl ?_
          refine jj_il1 dMd_relocation_167 ?_
          refine mr_iald dMd_relocation_168 (s115 _) (hn) (by decide) ?_
          rw [mup_at]
          refine jj_iconst 1 dMd_relocation_169 (by decide) ?_
          refine jj_isub dMd_relocation_170 ?_
          rw [nI_pred1 (by omega), Nat.add_sub_cancel]
          exact jj_iret dMd_relocation_171 rfl rfl (hq _ _ (MS_rel (y := (kd, w, s, ad)) hS1 hn hl6 rfl) (((((hL1.up _ (by omega)).up _ (by omega)).up _ (by omega)).up _ (by omega)).up _ (by omega)) (by rw [mup_ne _ _ (Or.inl (by omega)), mup_ne _ _ (Or.inl (by omega)), mup_ne _ _ (Or.inl (by omega)), mup_ne _ _ (Or.inl (by omega)), mup_ne _ _ (Or.inl (by omega))]; exact hT1) (fun w h => by cases h; rfl))
        · refine jj_if_eq 106 dMd_relocation_101 (by decide) (fun h => absurd h (by decide)) (fun _ => ?_)
          refine jj_iconst 0 dMd_relocation_104 (by decide) ?_
          exact jj_iret dMd_relocation_105 rfl rfl (by
  cases c with
  | true => rw [if_pos (hc.mp rfl)] at hq; exact hq _ 0 (hS.hd (Hd.up M _ (by omega))) ((Lo.refl M).up _ (by omega)) (mup_at _ _ _ _) (fun w h => by cases h)
  | false =>
    cases e with
    | true => rw [if_neg (fun h => Bool.noConfusion (hc.mpr h)), if_pos (he.mp rfl)] at hq; exact hq _ 0 (hS.hd (Hd.up M _ (by omega))) ((Lo.refl M).up _ (by omega)) (mup_at _ _ _ _) (fun w h => by cases h)
    | false => exact absurd rfl h1)
      refine jj_is7 dMd_relocation_54 ?_
      refine jj_al0 dMd_relocation_56 ?_
      refine jj_il6 dMd_relocation_57 ?_
      refine jj_if_ne 66 dMd_relocation_59 (by decide) (fun _ => ?_) (fun h => absurd h (by decide))
      refine jj_iconst 0 dMd_relocation_66 (by decide) ?_
      refine jj_il7 dMd_relocation_67 ?_
      refine jj_il6 dMd_relocation_69 ?_
      refine jj_if_eq 97 dMd_relocation_71 (by decide) (fun h => absurd h (by decide)) (fun _ => ?_)
      refine jj_al0 dMd_relocation_74 ?_
      refine jj_il1 dMd_relocation_75 ?_
      refine mv1 dMd_relocation_76 clMd cvMd_111 (s103 _) (Nat.le_of_ble_eq_true rfl) ?_
      refine c_fixed hS hW hn (fun hx => jk_i ?_) (fun hx => jk_i ?_)
      · refine jj_if_ne 93 dMd_relocation_79 (by decide) (fun _ => ?_) (fun h => absurd h (by decide))
        refine jj_iconst 1 dMd_relocation_93 (by decide) ?_
        refine jj_goto 98 dMd_relocation_94 (by decide) ?_
        exact k98 true ⟨fun _ => Or.inl hx, fun _ => rfl⟩
      · refine jj_if_ne 93 dMd_relocation_79 (by decide) (fun h => absurd h (by decide)) (fun _ => ?_)
        refine jj_al0 dMd_relocation_82 ?_
        refine mr_get _ dMd_relocation_83 clMd lkMd_44 (s103 _) rfl ?_
        refine jj_il1 dMd_relocation_86 ?_
        refine mr_iald dMd_relocation_87 (s115 _) (hn) (by decide) ?_
        rw [(hS.1 n hn).2.2.2.2.2.2.2.2.1]
        refine jj_bipush 6 dMd_relocation_88 (by decide) ?_
        refine jj_icmp_ne 97 dMd_relocation_90 (by decide) (fun p1 => ?_) (fun p1 => ?_)
        · refine jj_iconst 0 dMd_relocation_97 (by decide) ?_
          exact k98 false ⟨fun h => (by cases h), fun h => h.elim (fun g => absurd g hx) (fun g => absurd ((len_eq (b := 6) (by decide) (hS.1 n hn).2.2.1).mpr g) p1)⟩
        · refine jj_iconst 1 dMd_relocation_93 (by decide) ?_
          refine jj_goto 98 dMd_relocation_94 (by decide) ?_
          exact k98 true ⟨fun _ => Or.inr ((len_eq (b := 6) (by decide) (hS.1 n hn).2.2.1).mp p1), fun _ => rfl⟩
    refine jj_il1 dMd_relocation_0 ?_
    refine ms1 dMd_relocation_1 csMd_99 (Nat.le_of_ble_eq_true rfl) ?_
    refine c_Md_isObject (nI n) (fun _ _ _ => jk_i ?_) (fun h => absurd h (isObj_no hn))
    refine jj_is6 dMd_relocation_4 ?_
    refine jj_il6 dMd_relocation_6 ?_
    refine jj_if_eq 53 dMd_relocation_8 (by decide) (fun h => absurd h (by decide)) (fun _ => ?_)
    refine jj_il2 dMd_relocation_11 ?_
    refine jj_if_lt 49 dMd_relocation_12 (by decide) (fun p1 => ?_) (fun p1 => ?_)
    · refine jj_iconst 1 dMd_relocation_49 (by decide) ?_
      refine jj_goto 54 dMd_relocation_50 (by decide) ?_
      exact k54 true ⟨fun _ => Or.inl (Or.inl p1), fun _ => rfl⟩
    · refine jj_il2 dMd_relocation_15 ?_
      refine jj_iconst 2 dMd_relocation_16 (by decide) ?_
      refine jj_icmp_gt 49 dMd_relocation_17 (by decide) (fun p2 => ?_) (fun p2 => ?_)
      · refine jj_iconst 1 dMd_relocation_49 (by decide) ?_
        refine jj_goto 54 dMd_relocation_50 (by decide) ?_
        exact k54 true ⟨fun _ => Or.inl (Or.inr (Or.inl p2)), fun _ => rfl⟩
      · refine jj_al0 dMd_relocation_20 ?_
        refine jj_il1 dMd_relocation_21 ?_
        refine jj_il3 dMd_relocation_22 ?_
        refine mv2 dMd_relocation_23 clMd cvMd_120 (s103 _) (Nat.le_of_ble_eq_true rfl) ?_
        refine c_isWord hS hn w (fun hw => jk_i ?_) (fun hw => jk_i ?_)
        · refine jj_if_eq 49 dMd_relocation_26 (by decide) (fun h => absurd h (by decide)) (fun _ => ?_)
          refine jj_il2 dMd_relocation_29 ?_
          refine jj_if_le 53 dMd_relocation_30 (by decide) (fun p3 => ?_) (fun p3 => ?_)
          · refine jj_iconst 0 dMd_relocation_53 (by decide) ?_
            exact k54 false ⟨fun h => (by cases h), fun h => h.elim (fun g => g.elim (fun g => absurd g p1) (fun g => g.elim (fun g => absurd g p2) (fun g => absurd g hw))) (fun g => absurd (Int32.le_antisymm p3 (Int32.not_lt.mp p1)) g.1)⟩
          · refine jj_il4 dMd_relocation_33 ?_
            refine jj_if_lt 49 dMd_relocation_35 (by decide) (fun p4 => ?_) (fun p4 => ?_)
            · refine jj_iconst 1 dMd_relocation_49 (by decide) ?_
              refine jj_goto 54 dMd_relocation_50 (by decide) ?_
              exact k54 true ⟨fun _ => Or.inr ⟨fun h => p3 (by rw [h]; decide), Or.inl p4⟩, fun _ => rfl⟩
            · refine jj_il4 dMd_relocation_38 ?_
              refine jj_al0 dMd_relocation_40 ?_
              refine mr_get _ dMd_relocation_41 clMd lkMd_29 (s103 _) rfl ?_
              refine jj_il1 dMd_relocation_44 ?_
              refine mr_iald dMd_relocation_45 (s110 _) (hn) (by decide) ?_
              rw [(hS.1 n hn).2.2.2.2.2.2.1]
              refine jj_icmp_lt 53 dMd_relocation_46 (by decide) (fun p5 => ?_) (fun p5 => ?_)
              · refine jj_iconst 0 dMd_relocation_53 (by decide) ?_
                exact k54 false ⟨fun h => (by cases h), fun h => h.elim (fun g => g.elim (fun g => absurd g p1) (fun g => g.elim (fun g => absurd g p2) (fun g => absurd g hw))) (fun g => g.2.elim (fun g => absurd g p4) (fun g => absurd p5 g))⟩
              · refine jj_iconst 1 dMd_relocation_49 (by decide) ?_
                refine jj_goto 54 dMd_relocation_50 (by decide) ?_
                exact k54 true ⟨fun _ => Or.inr ⟨fun h => p3 (by rw [h]; decide), Or.inr p5⟩, fun _ => rfl⟩
        · refine jj_if_eq 49 dMd_relocation_26 (by decide) (fun _ => ?_) (fun h => absurd h (by decide))
          refine jj_iconst 1 dMd_relocation_49 (by decide) ?_
          refine jj_goto 54 dMd_relocation_50 (by decide) ?_
          exact k54 true ⟨fun _ => Or.inl (Or.inr (Or.inr hw)), fun _ => rfl⟩
