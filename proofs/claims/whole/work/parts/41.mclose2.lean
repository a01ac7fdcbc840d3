def G1 (M M' : Nat → Nat → Int32) : Prop := ∀ k i, k ≠ 123 → M' k i = M k i
set_option maxRecDepth 100000 in
set_option maxHeartbeats 4000000 in
theorem c_glob_l {ω : jw} {d : Nat} {J sl : Nat} {Q : jr → jh → Prop} {M0 : Nat → Nat → Int32} {G : List Nat} {ok : Nat → Bool} (hl6 : G.length ≤ 6) (hG6 : ∀ z ∈ G, z < 6) (h21 : M0 103 21 = nI G.length) (hok : ∀ z, z < 6 → M0 116 z = b2i (ok z)) (c1 c2 c3 : Option Value)
    (hk : ∀ M' c5, G1 M0 M' → (∀ (j z : Nat), (G.filter ok)[j]? = some z → M' 123 j = nI z) → jj ω d mMd_close 170 [some (.ref (jN ω + 103)), c1, c2, c3, some (.int (nI (G.filter ok).length)), c5] [] (jst ω M' J sl) Q) :
    ∀ (n k : Nat) (M : Nat → Nat → Int32), G.length - k < n → k ≤ G.length → G1 M0 M → (∀ (j z : Nat), ((G.take k).filter ok)[j]? = some z → M 123 j = nI z) → (∀ (j z : Nat), k ≤ j → G[j]? = some z → M 123 j = nI z) → jj ω d mMd_close 123 [some (.ref (jN ω + 103)), c1, c2, c3, some (.int (nI ((G.take k).filter ok).length)), some (.int (nI k))] [] (jst ω M J sl) Q := by
  intro n
  induction n with
  | zero => intro k M hn; omega
  | succ n ih =>
    intro k M hn hkl hO h1 h2
    have hfl : ((G.take k).filter ok).length ≤ k := Nat.le_trans (List.length_filter_le _ _) (by rw [List.length_take]; omega)
    refine jj_il5 dMd_close_123 ?_
    refine jj_al0 dMd_close_125 ?_
    refine mr_get _ dMd_close_126 clMd lkMd_133 (s103 _) rfl ?_
    rw [hO _ _ (by omega), h21]
    refine jj_icmp_ge 170 dMd_close_129 (by decide) (fun q1 => ?_) (fun q1 => ?_)
    · have hke : k = G.length := by have := le_le rfl q1 (by omega) (by omega); omega
      subst hke
      rw [List.take_length] at h1 ⊢
      exact hk M _ hO h1
    · have hk2 : k < G.length := nle_lt rfl q1 (by omega) (by omega)
      obtain ⟨z, e1⟩ : ∃ z, G[k]? = some z := ⟨_, List.getElem?_eq_getElem hk2⟩
      have hz6 := hG6 z (List.mem_of_getElem? e1)
      have hT : G.take (k + 1) = G.take k ++ [z] := by rw [List.take_add_one, e1]; rfl
      refine jj_al0 dMd_close_132 ?_
      refine mr_get _ dMd_close_133 clMd lkMd_47 (s103 _) rfl ?_
      refine jj_al0 dMd_close_136 ?_
      refine mr_get _ dMd_close_137 clMd lkMd_68 (s103 _) rfl ?_
      refine jj_il5 dMd_close_140 ?_
      refine mr_iald dMd_close_142 (s123 _) (by omega) (by decide) ?_
      rw [h2 k z (Nat.le_refl _) e1]
      refine mr_zald dMd_close_143 (s116 _) (hz6) (by decide) ?_
      rw [hO _ _ (by omega), hok z hz6]
      refine jj_if_eq 164 dMd_close_144 (by decide) (fun q2 => ?_) (fun q2 => ?_)
      · refine jj_ii5 (nI (k + 1)) dMd_close_164 (inc1 k) ?_
        refine jj_goto 123 dMd_close_167 (by decide) ?_
        have hf : (G.take (k + 1)).filter ok = (G.take k).filter ok := by rw [hT, List.filter_append, List.filter_cons_of_neg (by rw [b2i_f q2]; decide)]; simp
        rw [← hf]
        exact ih (k + 1) M (by omega) (by omega) hO (by rw [hf]; exact h1) (fun j x hj hx => h2 j x (by omega) hx)
      · refine jj_al0 dMd_close_147 ?_
        refine mr_get _ dMd_close_148 clMd lkMd_68 (s103 _) rfl ?_
        refine jj_il4 dMd_close_151 ?_
        refine jj_al0 dMd_close_153 ?_
        refine mr_get _ dMd_close_154 clMd lkMd_68 (s103 _) rfl ?_
        refine jj_il5 dMd_close_157 ?_
        refine mr_iald dMd_close_159 (s123 _) (by omega) (by decide) ?_
        rw [h2 k z (Nat.le_refl _) e1]
        refine mr_iast dMd_close_160 (s123) (by omega) (by decide) ?_
        refine jj_ii4 (nI (((G.take k).filter ok).length + 1)) dMd_close_161 (inc1 _) ?_
        refine jj_ii5 (nI (k + 1)) dMd_close_164 (inc1 k) ?_
        refine jj_goto 123 dMd_close_167 (by decide) ?_
        have hf : (G.take (k + 1)).filter ok = (G.take k).filter ok ++ [z] := by rw [hT, List.filter_append, List.filter_cons_of_pos (by rw [b2i_t q2])]; simp
        have hfl2 : ((G.take k).filter ok).length + 1 = ((G.take (k + 1)).filter ok).length := by rw [hf]; simp
        rw [hfl2]
        refine ih (k + 1) _ (by omega) (by omega) (fun k' i a => by rw [mup_ne _ _ (by omega)]; exact hO k' i a) (fun j x hx => ?_) (fun j x hj hx => by rw [mup_ne _ _ (by omega)]; exact h2 j x (by omega) hx)
        rw [hf] at hx
        rcases get_snoc hx with ⟨hj, hx⟩ | ⟨hj, rfl⟩
        · rw [mup_ne _ _ (by omega)]; exact h1 j x hx
        · rw [hj, mup_at]
theorem enF_gl {K : Nat → Bool} {G : List Nat} : ∀ {r : List Nat} {σ : Sg}, Gl σ = G.filter (fun z => (Zb σ z).isSome) → Gl (enF K r σ) = G.filter (fun z => (Zb (enF K r σ) z).isSome) := by
  intro r
  induction r with
  | nil => intro σ h; exact h
  | cons p t ih =>
    intro σ h
    unfold enF
    split
    · exact ih h
    · apply ih
      show (Gl σ).filter (fun z => decide (z ≠ p)) = G.filter (fun z => (va_up (Zb σ) p none z).isSome)
      rw [h, List.filter_filter]
      congr 1
      funext z
      by_cases hz : z = p
      · subst hz; rw [va_up_self]; simp
      · rw [va_up_ne _ _ hz]; simp [hz]
theorem MS_gl {M M' : Nat → Nat → Int32} {σ : Sg} {G g : List Nat} (h : MS M (zGl σ G)) (hE : ∀ k i, k ≠ 123 → (k ≠ 103 ∨ i ≠ 21) → M' k i = M k i) (hG : MGl M' g) : MS M' (zGl σ g) := by
  obtain ⟨c1, c2, c3, c4, c5, c6, c7, c8⟩ := h
  exact ⟨fun p hp => (c1 p hp).eqs (fun k i a b => hE k i (by omega) (by omega)) rfl rfl rfl rfl, fun p hp => (c2 p hp).eqs (fun k i a b => hE k i (by omega) (by omega)) rfl rfl rfl, fun p hp => by rw [hE _ _ (by omega) (by omega)]; exact c3 p hp, c4.eqs (fun i => hE _ _ (by omega) (by omega)) rfl rfl, hG, c6.eqs (fun i => hE _ _ (by omega) (by omega)) (fun a h => h) rfl, c7.eqs (hE _ _ (by omega) (by omega)) (fun i => hE _ _ (by omega) (by omega)), by rw [hE _ _ (by omega) (by omega)]; exact c8⟩
theorem MS_op {M : Nat → Nat → Int32} {σ : Sg} {p n : Nat} (h : MS M σ) (hp : p < 6) : MS (mup M 121 p (nI n)) (zOp σ p n) := by
  obtain ⟨c1, c2, c3, c4, c5, c6, c7, c8⟩ := h
  have hE : ∀ k i, k ≠ 121 → mup M 121 p (nI n) k i = M k i := fun k i a => mup_ne _ _ (Or.inl a)
  refine ⟨fun r hr => (c1 r hr).eqs (fun k i a b => hE _ _ (by omega)) rfl rfl rfl rfl, fun r hr => (c2 r hr).eqs (fun k i a b => hE _ _ (by omega)) rfl rfl rfl, fun r hr => ?_, c4.eqs (fun i => hE _ _ (by omega)) rfl rfl, c5.eqs (hE _ _ (by omega)) (fun i => hE _ _ (by omega)), c6.eqs (fun i => hE _ _ (by omega)) (fun a h => h) rfl, c7.eqs (hE _ _ (by omega)) (fun i => hE _ _ (by omega)), by rw [hE _ _ (by omega)]; exact c8⟩
  show _ = nI (va_up (Zo σ) p n r)
  by_cases e : r = p
  · subst e; rw [mup_at, va_up_self]
  · rw [mup_ne _ _ (Or.inr e), va_up_ne _ _ e]; exact c3 r hr
set_option maxRecDepth 100000 in
set_option maxHeartbeats 4000000 in
theorem m_close {ω : jw} {d : Nat} {M : Nat → Nat → Int32} {J sl : Nat} {Q : jr → jh → Prop} {σ : Sg} (hS : MS M σ) (hW : Wm σ) (hN6 : ∀ p, p < 6 → ∀ x ∈ Zn σ p, x < 6) (hZo : ∀ p, p < 6 → Zo σ p < 2 ^ 30) (hB6 : Rw6 (Bg σ)) (hBz : ∀ p, p < 6 → (p ∈ Bg σ ↔ ¬ Zb σ p = none)) (hGl : ∀ q ∈ Gl σ, q < 6 ∧ ¬ Zb σ q = none) (hE : (Ev σ).length + 6 < 2 ^ 30)
    (hKL : ∀ n, n < 6 → ∀ p, p < 6 → kpF (zOp σ n (Zo σ n - 1)) 5 p = true → ¬ Zb σ p = none) (hcl : ∀ n, n < 6 → ∀ p q, p < 6 → q < 6 → kpF (zOp σ n (Zo σ n - 1)) 5 p = true → edge σ p q → kpF (zOp σ n (Zo σ n - 1)) 5 q = true) (a : Int32) (hq : MP ω J sl M Q tcO (spClose σ a)) : jwp ω (d + 2) mMd_close [.ref (jN ω + 103), .int a] (jst ω M J sl) Q := by
  refine jwp_of (by simp [Value.category]) (Nat.le_of_ble_eq_true rfl) (ls := [some (.ref (jN ω + 103)), some (.int (a)), none, none, none, none]) rfl ?_
  by_cases hno : oN a
  · rw [spClose, if_pos hno] at hq
    refine jj_al0 dMd_close_0 ?_
    refine jj_il1 dMd_close_1 ?_
    refine ms1 dMd_close_2 csMd_99 (Nat.le_of_ble_eq_true rfl) ?_
    refine jwp_le (c_Md_isObject (d := 0) a (fun n hn he => absurd hno (by rw [he]; exact isObj_no hn)) (fun _ => jk_i ?_)) (Nat.zero_le _)
    refine jj_if_ne 12 dMd_close_5 (by decide) (fun h => absurd h (by decide)) (fun _ => ?_)
    refine jj_iconst 1 dMd_close_8 (by decide) ?_
    refine jj_goto 26 dMd_close_9 (by decide) ?_
    refine mr_put dMd_close_26 clMd lkMd_95 rfl rfl (s103 _) (s103 _) (Nat.le_of_ble_eq_true rfl) rfl ?_
    refine jj_al0 dMd_close_29 ?_
    refine mr_get _ dMd_close_30 clMd lkMd_95 (s103 _) rfl ?_
    rw [mup_at]
    refine jj_if_le 38 dMd_close_33 (by decide) (fun q1 => absurd q1 (by decide)) (fun q1 => ?_)
    refine jj_iconst 0 dMd_close_36 (by decide) ?_
    exact jj_iret dMd_close_37 rfl rfl (hq _ 0 (hS.hd (Hd.up M _ (by omega))) ((Lo.refl M).up _ (by omega)) (mup_at _ _ _ _) (fun w h => by cases h))
  obtain ⟨n, hn, rfl⟩ : ∃ n : Nat, n < 6 ∧ a = nI n := (isObj a).resolve_right hno
  rw [spClose, if_neg hno, iN6 hn] at hq
  refine jj_al0 dMd_close_0 ?_
  refine jj_il1 dMd_close_1 ?_
  refine ms1 dMd_close_2 csMd_99 (Nat.le_of_ble_eq_true rfl) ?_
  refine jwp_le (c_Md_isObject (d := 0) (nI n) (fun _ _ _ => jk_i ?_) (fun h => absurd h (isObj_no hn))) (Nat.zero_le _)
  refine jj_if_ne 12 dMd_close_5 (by decide) (fun _ => ?_) (fun h => absurd h (by decide))
  refine jj_al0 dMd_close_12 ?_
  refine mr_get _ dMd_close_13 clMd lkMd_62 (s103 _) rfl ?_
  refine jj_il1 dMd_close_16 ?_
  refine mr_iald dMd_close_17 (s121 _) (hn) (by decide) ?_
  rw [hS.2.2.1 n hn]
  refine jj_if_ne 25 dMd_close_18 (by decide) (fun q1 => ?_) (fun q1 => ?_)
  · refine jj_iconst 0 dMd_close_25 (by decide) ?_
    have hz : ¬ Zo σ n = 0 := fun h => q1 (by rw [h]; rfl)
    rw [if_neg hz] at hq
    refine mr_put dMd_close_26 clMd lkMd_95 rfl rfl (s103 _) (s103 _) (Nat.le_of_ble_eq_true rfl) rfl ?_
    refine jj_al0 dMd_close_29 ?_
    refine mr_get _ dMd_close_30 clMd lkMd_95 (s103 _) rfl ?_
    rw [mup_at]
    refine jj_if_le 38 dMd_close_33 (by decide) (fun q1 => ?_) (fun q1 => absurd q1 (fun h => h (by decide)))
    have hS1 := hS.hd (Hd.up M (k := 103) (i := 0) 0 (by omega))
    have hL1 : Lo M (mup M 103 0 0) := (Lo.refl M).up _ (by omega)
    have hT1 := mup_at M 103 0 0
    generalize mup M 103 0 0 = M1 at hS1 hL1 hT1 ⊢
    refine jj_al0 dMd_close_38 ?_
    refine mr_get _ dMd_close_39 clMd lkMd_62 (s103 _) rfl ?_
    refine jj_il1 dMd_close_42 ?_
    refine jj_dup2 dMd_close_43 rfl rfl ?_
    refine mr_iald dMd_close_44 (s121 _) (hn) (by decide) ?_
    rw [hS1.2.2.1 n hn]
    refine jj_iconst 1 dMd_close_45 (by decide) ?_
    refine jj_isub dMd_close_46 ?_
    rw [nI_pred1 hz]
    refine mr_iast dMd_close_47 (s121) (hn) (by decide) ?_
    refine jj_al0 dMd_close_48 ?_
    refine mv0 dMd_close_49 clMd cvMd_183 (s103 _) (Nat.le_of_ble_eq_true rfl) ?_
    have hSo := MS_op (n := Zo σ n - 1) hS1 hn
    have hLo : Lo M (mup M1 121 n (nI (Zo σ n - 1))) := hL1.up _ (by omega)
    have hTo : mup M1 121 n (nI (Zo σ n - 1)) 103 0 = 0 := by rw [mup_ne _ _ (by omega)]; exact hT1
    generalize mup M1 121 n (nI (Zo σ n - 1)) = M2 at hSo hLo hTo ⊢
    refine c_findKept hSo hN6 (hKL n hn) (hcl n hn) (fun p hp => by
      show va_up (Zo σ) n (Zo σ n - 1) p < 2 ^ 31
      by_cases hpn : p = n
      · rw [hpn, va_up_self]; have := hZo n hn; omega
      · rw [va_up_ne _ _ hpn]; have := hZo p hp; omega) (fun M3 hC3 hK3 => jk_v ?_)
    have hS3 := hSo.hd hC3.hd
    have hL3 : Lo M M3 := hLo.trans (fun k i h => hC3 k i (by omega))
    have hT3 : M3 103 0 = 0 := by rw [hC3 _ _ (by omega)]; exact hTo
    obtain ⟨bn, hbn, hpw⟩ := hS3.2.2.2.1
    have hcont : ∀ v, bestIs (zOp σ n (Zo σ n - 1)) (kpF (zOp σ n (Zo σ n - 1)) 5) bn 6 v → jj ω (d + 2) mMd_close 58 [some (.ref (jN ω + 103)), some (.int (nI n)), some (.int (nI 0)), none, none, none] [.int v] (jst ω M3 J sl) Q := by
      intro v hv
      refine jj_is3 dMd_close_58 ?_
      have hzg : zGl (zOp σ n (Zo σ n - 1)) (Gl σ) = zOp σ n (Zo σ n - 1) := rfl
      refine c_close_l (G := Gl σ) _ ((Bg σ).reverse.length + 1) (Bg σ).reverse (zOp σ n (Zo σ n - 1)) [] 0 M3 v bn _ _ (by omega) (by rw [hzg]; exact hS3) hK3 hW (by simp; rfl) hB6.1 (by simp) hBz hB6.2 (by have := hB6.len; rw [List.length_reverse]; show (Ev σ).length + _ < _; omega) hbn hpw hv (fun M4 v4 c4 c5 hS4 hL4 hT4 => ?_)
      rw [Nat.zero_add]
      have hE4 := enF_gl (K := kpF (zOp σ n (Zo σ n - 1)) 5) (G := Gl σ) (r := (Bg σ).reverse) (σ := zOp σ n (Zo σ n - 1)) (by
        show Gl σ = (Gl σ).filter (fun z => (Zb σ z).isSome)
        symm
        rw [List.filter_eq_self]
        intro z hz
        have := (hGl z hz).2
        cases hx : Zb σ z with
        | none => exact absurd hx this
        | some b => rfl)
      obtain ⟨g21, gl6, g123⟩ := hS4.2.2.2.2.1
      refine jj_iconst 0 dMd_close_117 (by decide) ?_
      refine jj_is4 dMd_close_118 ?_
      refine jj_iconst 0 dMd_close_120 (by decide) ?_
      refine jj_is5 dMd_close_121 ?_
      refine c_glob_l (G := Gl σ) (ok := fun z => (Zb (enF (kpF (zOp σ n (Zo σ n - 1)) 5) (Bg σ).reverse (zOp σ n (Zo σ n - 1))) z).isSome) gl6 (fun z hz => (hGl z hz).1) g21 (fun z hz => (hS4.2.1 z hz).1) _ _ _ (fun M5 c5 hO5 h5 => ?_) ((Gl σ).length + 1) 0 M4 (by omega) (by omega) (fun _ _ _ => rfl) (fun j z hz => by simp at hz) (fun j z _ hz => g123 j z hz)
      rw [← hE4] at h5 ⊢
      refine jj_al0 dMd_close_170 ?_
      refine jj_il4 dMd_close_171 ?_
      refine mr_put dMd_close_173 clMd lkMd_133 rfl rfl (s103 _) (s103 _) (Nat.le_of_ble_eq_true rfl) rfl ?_
      refine jj_il2 dMd_close_176 ?_
      refine jj_iret dMd_close_177 rfl rfl (hq _ _ (MS_gl hS4 (fun k i a b => by rw [mup_ne _ _ (by omega)]; exact hO5 k i a) ⟨mup_at _ _ _ _, ?_, fun i z hz => by rw [mup_ne _ _ (by omega)]; exact h5 i z hz⟩) ((hL3.trans (hL4.trans (fun k i h => hO5 k i (by omega)))).up _ (by omega)) (by rw [mup_ne _ _ (by omega), hO5 _ _ (by omega), hT4]; exact hT3) (fun w h => by cases h; rfl))
      show (Gl (enF (kpF (zOp σ n (Zo σ n - 1)) 5) (Bg σ).reverse (zOp σ n (Zo σ n - 1)))).length ≤ 6
      rw [hE4]
      exact Nat.le_trans (List.length_filter_le _ _) gl6
    refine jj_iconst 0 dMd_close_52 (by decide) ?_
    refine jj_is2 dMd_close_53 ?_
    refine jj_al0 dMd_close_54 ?_
    refine mv0 dMd_close_55 clMd cvMd_186 (s103 _) (Nat.le_of_ble_eq_true rfl) ?_
    refine c_latest (σ := zOp σ n (Zo σ n - 1)) (K := kpF (zOp σ n (Zo σ n - 1)) 5) (bn := bn) (fun p hp => (hS3.2.1 p hp).1) hK3 (fun p hp hz => ⟨(hbn p ((hBz p hp).mpr hz)).1, by have h9 : bn p < (Ev σ).length := (hbn p ((hBz p hp).mpr hz)).2; omega⟩) (fun z h1 h2 h3 => hcont _ (Or.inr ⟨z, h1, rfl, h2, h3⟩)) (fun h => hcont _ (Or.inl ⟨rfl, h⟩))
  · refine jj_iconst 2 dMd_close_21 (by decide) ?_
    refine jj_goto 26 dMd_close_22 (by decide) ?_
    have hz0 : Zo σ n = 0 := (nI_eq (by have := hZo n hn; omega) (by decide)).mp (q1.trans nI_0.symm)
    rw [if_pos hz0] at hq
    refine mr_put dMd_close_26 clMd lkMd_95 rfl rfl (s103 _) (s103 _) (Nat.le_of_ble_eq_true rfl) rfl ?_
    refine jj_al0 dMd_close_29 ?_
    refine mr_get _ dMd_close_30 clMd lkMd_95 (s103 _) rfl ?_
    rw [mup_at]
    refine jj_if_le 38 dMd_close_33 (by decide) (fun q1 => absurd q1 (by decide)) (fun q1 => ?_)
    refine jj_iconst 0 dMd_close_36 (by decide) ?_
    exact jj_iret dMd_close_37 rfl rfl (hq _ 0 (hS.hd (Hd.up M _ (by omega))) ((Lo.refl M).up _ (by omega)) (mup_at _ _ _ _) (fun w h => by cases h))
