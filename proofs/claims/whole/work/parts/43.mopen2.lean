theorem MS_116 {M M' : Nat → Nat → Int32} {σ : Sg} (h : MS M σ) (hE : ∀ k i, k ≠ 116 → M' k i = M k i) (h116 : ∀ p, p < 6 → M' 116 p = M 116 p) : MS M' σ := by
  obtain ⟨c1, c2, c3, c4, c5, c6, c7, c8⟩ := h
  refine ⟨fun p hp => (c1 p hp).eqs (fun k i a b => hE k i (by omega)) rfl rfl rfl rfl, fun p hp => ?_, fun p hp => by rw [hE _ _ (by omega)]; exact c3 p hp, c4.eqs (fun i => hE _ _ (by omega)) rfl rfl, c5.eqs (hE _ _ (by omega)) (fun i => hE _ _ (by omega)), c6.eqs (fun i => hE _ _ (by omega)) (fun a h => h) rfl, c7.eqs (hE _ _ (by omega)) (fun i => hE _ _ (by omega)), by rw [hE _ _ (by omega)]; exact c8⟩
  obtain ⟨g1, g2⟩ := c2 p hp
  refine ⟨by rw [h116 p hp]; exact g1, fun b hb => ?_⟩
  obtain ⟨k1, k2, k3, k4, k5⟩ := g2 b hb
  exact ⟨by rw [hE _ _ (by omega)]; exact k1, by rw [hE _ _ (by omega)]; exact k2, k3, fun i q hq => by rw [hE _ _ (by omega)]; exact k4 i q hq, fun q hq => by rw [hE _ _ (by omega)]; exact k5 q hq⟩
theorem MS.l01 {M : Nat → Nat → Int32} {σ : Sg} (h : MS M σ) {p : Nat} (hp : p < 6) : M 116 p = 0 ∨ M 116 p = 1 := by
  rw [(h.2.1 p hp).1]
  cases (Zb σ p).isSome
  · exact Or.inl rfl
  · exact Or.inr rfl
theorem opG_rv {σ : Sg} (hR : RvOk σ) (hN6 : ∀ p, p < 6 → ∀ x ∈ Zn σ p, x < 6) (hG6 : Rw6 (Gl σ)) {o : Nat} (ho : o < 6) (hz : ∀ p ∈ clos (Zn σ) o, 1 ≤ Zs σ p) (hok : (opL σ o).1 = true) (gl : Bool) : RvOk (opG σ o gl) := by
  obtain ⟨hl, hol, hlc⟩ := clos_facts hN6 ho
  obtain ⟨i1, i2, i3, i4, i5, i6, i7, i8⟩ := ldF_facts (clos (Zn σ) o) (clos (Zn σ) o) σ [] hl.2 hR.1 hz ⟨by simp, by simp⟩ (by simp)
  have hy : Zy (opL σ o).2.1 = Zy σ := by obtain ⟨u, w, e⟩ := i4; show Zy (ldF _ _ _ _).2.1 = _; rw [e]
  have hgl : Gl (opL σ o).2.1 = Gl σ := i4.wm_zs.2.2.1
  have hld : ∀ q, ¬ Zb σ q = none → ¬ Zb (opL σ o).2.1 q = none := fun q hq => by
    show ¬ Zb (ldF _ _ _ _).2.1 q = none
    rw [(i6 q (Or.inr hq)).1]; exact hq
  have hzg : ∀ p, p < 6 → ∀ q ∈ Zg (opL σ o).2.1 p, q < 6 := fun p hp q hq => by
    by_cases hpn : p ∈ (opL σ o).2.2 ∧ Zb σ p = none
    · rw [show Zg (opL σ o).2.1 p = clos (Zn σ) o from i7 p hpn.1 hpn.2] at hq
      exact hl.2 q hq
    · have h := (i6 p (by
        by_cases h1 : p ∈ (opL σ o).2.2
        · exact Or.inr (fun h2 => hpn ⟨h1, h2⟩)
        · exact Or.inl h1)).2
      rw [show Zg (opL σ o).2.1 p = Zg σ p from h] at hq
      exact hR.2.2.1 p hp q hq
  have base : RvOk (opL σ o).2.1 := ⟨i1, fun p hp => by rw [hy]; exact hR.2.1 p hp, hzg, fun q hq => by rw [hgl] at hq; exact ⟨(hR.2.2.2 q hq).1, hld q (hR.2.2.2 q hq).2⟩⟩
  unfold opG
  split
  · refine ⟨base.1, base.2.1, base.2.2.1, fun q hq => ?_⟩
    have hq2 : q ∈ (clos (Zn σ) o).foldl rput (Gl (opL σ o).2.1) := hq
    rw [hgl] at hq2
    rcases ((fold_facts (clos (Zn σ) o) (Gl σ) hG6 hl.2).2 q).mp hq2 with h | h
    · exact ⟨(hR.2.2.2 q h).1, hld q (hR.2.2.2 q h).2⟩
    · exact ⟨hl.2 q h, i8 hok q h⟩
  · exact base
set_option maxRecDepth 100000 in
set_option maxHeartbeats 4000000 in
theorem c_open_fail {ω : jw} {d : Nat} {M : Nat → Nat → Int32} {J sl : Nat} {Q : jr → jh → Prop} {σ : Sg} {nw : List Nat} {b0 t : Nat} (hS : MS M σ) (hn6 : ∀ p ∈ nw, p < 6) (hAp : Apart σ) (hF : FrIs M nw) (ht : t < 4) (ht0 : ¬ t = 0) (hb0 : b0 ≤ (Gl σ).length) (hg : ∀ z ∈ (Gl σ).take b0, z ∉ nw) (c1 c2 c3 c5 c6 c7 : Option Value) (hq : ∀ M', MS M' (toF nw 6 0 (zGl σ ((Gl σ).take b0))) → Lo M M' → M' 103 0 = nI t → Q (.inl (some (.int 0))) (jst ω M' J sl)) : jj ω d mMd_open 171 [some (.ref (jN ω + 103)), c1, c2, c3, some (.int (nI b0)), c5, c6, c7] [.int (nI t), .ref (jN ω + 103)] (jst ω M J sl) Q := by
  have hS1 := hS.hd (Hd.up M (k := 103) (i := 0) (nI t) (by omega))
  have hL1 : Lo M (mup M 103 0 (nI t)) := (Lo.refl M).up _ (by omega)
  have hT1 := mup_at M 103 0 (nI t)
  have hF1 : FrIs (mup M 103 0 (nI t)) nw := fun p hp => by rw [mup_ne _ _ (by omega)]; exact hF p hp
  refine mr_put dMd_open_171 clMd lkMd_95 rfl rfl (s103 _) (s103 _) (Nat.le_of_ble_eq_true rfl) rfl ?_
  refine jj_iconst 0 dMd_open_174 (by decide) ?_
  refine jj_is6 dMd_open_175 ?_
  refine jj_iconst 0 dMd_open_177 (by decide) ?_
  refine jj_is7 dMd_open_178 ?_
  generalize mup M 103 0 (nI t) = M1 at hS1 hL1 hT1 hF1 ⊢
  refine c_count_l ht hT1 hF1 (fun p hp => hS1.l01 hp) _ _ _ _ _ (fun M2 hO2 h2 => ?_) 6 0 M1 rfl (fun _ _ _ => rfl) (fun p hp => by omega) (fun _ _ _ => rfl)
  refine jj_al0 dMd_open_253 ?_
  refine mr_get _ dMd_open_254 clMd lkMd_95 (s103 _) rfl ?_
  rw [hO2 _ _ (by omega), hT1]
  refine jj_if_le 268 dMd_open_257 (by decide) (fun q1 => absurd q1 (fun h => ht0 (Nat.le_zero.mp (le_le (a := t) (b := 0) rfl h (by omega) (by decide))))) (fun q1 => ?_)
  refine jj_al0 dMd_open_260 ?_
  refine jj_il4 dMd_open_261 ?_
  refine mr_put dMd_open_263 clMd lkMd_133 rfl rfl (s103 _) (s103 _) (Nat.le_of_ble_eq_true rfl) rfl ?_
  refine jj_iconst 0 dMd_open_266 (by decide) ?_
  exact jj_iret dMd_open_267 rfl rfl (hq _ (MS_toF hS1 hn6 hAp hg ⟨by rw [mup_at, List.length_take, Nat.min_eq_left hb0], by rw [List.length_take]; have := hS1.2.2.2.2.1.2.1; omega, fun i z hz => by
    rw [mup_ne _ _ (by omega), hO2 _ _ (by omega)]
    have hi := getl hz
    rw [List.length_take] at hi
    rw [List.getElem?_take_of_lt (by omega)] at hz
    exact hS1.2.2.2.2.1.2.2 i z hz⟩ (fun k i a b => by rw [mup_ne _ _ (by omega)]; exact hO2 k i a) (fun p hp => by
    rw [mup_ne _ _ (by omega), h2 p hp]
    by_cases h : p ∈ nw
    · rw [if_pos ⟨ht0, h⟩, if_pos h]
    · rw [if_neg (fun k => h k.2), if_neg h])) ((hL1.trans (fun k i h => hO2 k i (by omega))).up _ (by omega)) (by rw [mup_ne _ _ (by omega), hO2 _ _ (by omega)]; exact hT1))
set_option maxRecDepth 100000 in
set_option maxHeartbeats 4000000 in
theorem m_open {ω : jw} {d : Nat} {M : Nat → Nat → Int32} {J sl : Nat} {Q : jr → jh → Prop} {σ : Sg} (hS : MS M σ) (hR : RvOk σ) (hW0 : W0 σ) (hN6 : ∀ p, p < 6 → ∀ x ∈ Zn σ p, x < 6) (hZo : ∀ p, p < 6 → Zo σ p < 2 ^ 30) (hE : (Ev σ).length + 6 < 2 ^ 30) (hB6 : Rw6 (Bg σ)) (hBz : ∀ p, p < 6 → (p ∈ Bg σ ↔ ¬ Zb σ p = none)) (hG6 : Rw6 (Gl σ)) (a : Int32) (lz gl : Bool) (hq : MP ω J sl M Q tcO (spOpen σ a lz gl)) : jwp ω (d + 8) mMd_open [.ref (jN ω + 103), .int a, .int (b2i lz), .int (b2i gl)] (jst ω M J sl) Q := by
  refine jwp_of (by simp [Value.category]) (Nat.le_of_ble_eq_true rfl) (ls := [some (.ref (jN ω + 103)), some (.int (a)), some (.int (b2i lz)), some (.int (b2i gl)), none, none, none, none]) rfl ?_
  by_cases hno : oN a
  · rw [spOpen, if_pos hno] at hq
    refine jj_al0 dMd_open_0 ?_
    refine jj_il1 dMd_open_1 ?_
    refine ms1 dMd_open_2 csMd_99 (Nat.le_of_ble_eq_true rfl) ?_
    refine jwp_le (c_Md_isObject (d := 0) a (fun n hn he => absurd hno (by rw [he]; exact isObj_no hn)) (fun _ => jk_i ?_)) (Nat.zero_le _)
    refine jj_if_eq 12 dMd_open_5 (by decide) (fun _ => ?_) (fun h => absurd h (by decide))
    refine jj_iconst 1 dMd_open_12 (by decide) ?_
    refine mr_put dMd_open_13 clMd lkMd_95 rfl rfl (s103 _) (s103 _) (Nat.le_of_ble_eq_true rfl) rfl ?_
    refine jj_al0 dMd_open_16 ?_
    refine mr_get _ dMd_open_17 clMd lkMd_95 (s103 _) rfl ?_
    rw [mup_at]
    refine jj_if_le 25 dMd_open_20 (by decide) (fun q1 => absurd q1 (by decide)) (fun q1 => ?_)
    refine jj_iconst 0 dMd_open_23 (by decide) ?_
    exact jj_iret dMd_open_24 rfl rfl (hq _ 0 (hS.hd (Hd.up M _ (by omega))) ((Lo.refl M).up _ (by omega)) (mup_at _ _ _ _) (fun w h => by cases h))
  obtain ⟨n, hn, rfl⟩ : ∃ n : Nat, n < 6 ∧ a = nI n := (isObj a).resolve_right hno
  rw [spOpen, if_neg hno, iN6 hn] at hq
  refine jj_al0 dMd_open_0 ?_
  refine jj_il1 dMd_open_1 ?_
  refine ms1 dMd_open_2 csMd_99 (Nat.le_of_ble_eq_true rfl) ?_
  refine jwp_le (c_Md_isObject (d := 0) (nI n) (fun _ _ _ => jk_i ?_) (fun h => absurd h (isObj_no hn))) (Nat.zero_le _)
  refine jj_if_eq 12 dMd_open_5 (by decide) (fun h => absurd h (by decide)) (fun _ => ?_)
  refine jj_iconst 0 dMd_open_8 (by decide) ?_
  refine jj_goto 13 dMd_open_9 (by decide) ?_
  refine mr_put dMd_open_13 clMd lkMd_95 rfl rfl (s103 _) (s103 _) (Nat.le_of_ble_eq_true rfl) rfl ?_
  refine jj_al0 dMd_open_16 ?_
  refine mr_get _ dMd_open_17 clMd lkMd_95 (s103 _) rfl ?_
  rw [mup_at]
  refine jj_if_le 25 dMd_open_20 (by decide) (fun q1 => ?_) (fun q1 => absurd q1 (fun h => h (by decide)))
  have hS1 := hS.hd (Hd.up M (k := 103) (i := 0) 0 (by omega))
  have hL1 : Lo M (mup M 103 0 0) := (Lo.refl M).up _ (by omega)
  have hT1 := mup_at M 103 0 0
  generalize mup M 103 0 0 = M1 at hS1 hL1 hT1 ⊢
  refine jj_al0 dMd_open_25 ?_
  refine jj_il1 dMd_open_26 ?_
  refine mv1 dMd_open_27 clMd cvMd_163 (s103 _) (Nat.le_of_ble_eq_true rfl) ?_
  obtain ⟨hl, hol, hlc⟩ := clos_facts hN6 hn
  have hcl0 : ¬ nI (clos (Zn σ) n).length ≤ 0 := fun h => by
    have := le_le (a := (clos (Zn σ) n).length) (b := 0) rfl h (by have := hl.len; omega) (by decide)
    have := List.length_pos_of_mem hol
    omega
  refine jwp_le (c_findClosure (d := 0) hS1 hN6 hn (fun M2 hH2 hC2 => jk_v ?_)) (Nat.zero_le _)
  have hS2 := hS1.hd hH2.1
  have hL2 : Lo M M2 := hL1.trans hH2.2.1
  refine jj_al0 dMd_open_30 ?_
  refine mr_get _ dMd_open_31 clMd lkMd_133 (s103 _) rfl ?_
  rw [hS2.2.2.2.2.1.1]
  refine jj_is4 dMd_open_34 ?_
  refine jj_iconst 0 dMd_open_36 (by decide) ?_
  refine jj_is5 dMd_open_37 ?_
  refine c_fresh_l _ _ _ _ _ _ (fun M3 hO3 hF3 => ?_) 6 0 M2 rfl (fun _ _ _ => rfl) (fun p hp => by omega)
  have hS3 : MS M3 σ := hS2.hd ⟨fun k i a b => hO3 k i (by omega), hO3 _ _ (by omega), hO3 _ _ (by omega), hO3 _ _ (by omega)⟩
  have hC3 : ClIs M3 (clos (Zn σ) n) := ⟨by rw [hO3 _ _ (by omega)]; exact hC2.1, hC2.2.1, fun i q hq => by rw [hO3 _ _ (by omega)]; exact hC2.2.2 i q hq⟩
  have hL3 : Lo M M3 := hL2.trans (fun k i h => hO3 k i (by omega))
  refine jj_al0 dMd_open_60 ?_
  refine mv0 dMd_open_61 clMd cvMd_166 (s103 _) (Nat.le_of_ble_eq_true rfl) ?_
  refine jwp_le (c_hasImages (d := 0) hS3 hR.1 hC3 hl.2 (fun hall => jk_i ?_) (fun hex => jk_i ?_)) (Nat.zero_le _)
  · refine jj_if_eq 78 dMd_open_64 (by decide) (fun h => absurd h (by decide)) (fun _ => ?_)
    refine jj_al0 dMd_open_67 ?_
    refine mv0 dMd_open_68 clMd cvMd_170 (s103 _) (Nat.le_of_ble_eq_true rfl) ?_
    rw [if_neg (fun h => by obtain ⟨p, h1, h2⟩ := h; exact hall p h1 h2)] at hq
    have hz : ∀ p ∈ clos (Zn σ) n, 1 ≤ Zs σ p := fun p hp => by have := hall p hp; omega
    obtain ⟨i1, i2, i3, i4, i5, i6, i7, i8⟩ := ldF_facts (clos (Zn σ) n) (clos (Zn σ) n) σ [] hl.2 hR.1 hz ⟨by simp, by simp⟩ (by simp)
    have hnw : ∀ z ∈ (opL σ n).2.2, Zb σ z = none := fun z h => ((i5 z).1 h).elim (fun g => by simp at g) (fun g => g.2)
    have hdis : ∀ z ∈ Gl σ, z ∉ (opL σ n).2.2 := fun z hz h => (hR.2.2.2 z hz).2 (hnw z h)
    refine jwp_ups 6 (c_loadAll (nw := []) hl.2 hS3 hR.1 hW0 hC3 hz hF3 (fun M4 hS4 hC4 hF4 hLf4 => jk_i ?_))
    have hL4 : Lo M M4 := hL3.trans hLf4.1
    have hS4 : MS M4 (opL σ n).2.1 := hS4
    have hF4 : FrIs M4 (opL σ n).2.2 := hF4
    refine jj_if_eq 78 dMd_open_71 (by decide) (fun q1 => ?_) (fun q1 => ?_)
    · refine jj_iconst 0 dMd_open_78 (by decide) ?_
      refine jj_is5 dMd_open_79 ?_
      refine jj_iconst 0 dMd_open_81 (by decide) ?_
      refine jj_is6 dMd_open_82 ?_
      refine jj_il6 dMd_open_84 ?_
      refine jj_al0 dMd_open_86 ?_
      refine mr_get _ dMd_open_87 clMd lkMd_123 (s103 _) rfl ?_
      rw [hC4.1]
      refine jj_icmp_ge 148 dMd_open_90 (by decide) (fun q9 => absurd q9 (hcl0)) (fun q9 => ?_)
      refine jj_il5 dMd_open_93 ?_
      refine jj_if_eq 148 dMd_open_95 (by decide) (fun _ => ?_) (fun h => absurd h (by decide))
      refine jj_al0 dMd_open_148 ?_
      refine jj_il5 dMd_open_149 ?_
      refine jj_if_ne 158 dMd_open_151 (by decide) (fun h => absurd h (by decide)) (fun _ => ?_)
      refine jj_iconst 2 dMd_open_154 (by decide) ?_
      refine jj_goto 171 dMd_open_155 (by decide) ?_
      have hgl4 : Gl (opL σ n).2.1 = Gl σ := i4.wm_zs.2.2.1
      refine c_open_fail (b0 := (Gl σ).length) (t := 2) (nw := (opL σ n).2.2) hS4 i2.2 i1.2.2.1 hF4 (by omega) (by omega) (by rw [hgl4]; exact Nat.le_refl _) (fun z hz => ?_) _ _ _ _ _ _ (fun M5 a1 a2 a3 => ?_)
      · rw [hgl4, List.take_length] at hz
        exact hdis z hz
      rw [hgl4, List.take_length, ← hgl4] at a1
      rw [if_pos (show (opL σ n).1 = false from b2i_f q1)] at hq
      exact hq M5 0 a1 (hL4.trans a2) a3 (fun w h => by cases h)
    · refine jj_iconst 1 dMd_open_74 (by decide) ?_
      refine jj_goto 79 dMd_open_75 (by decide) ?_
      have hok : (opL σ n).1 = true := b2i_t q1
      rw [if_neg (by rw [hok]; decide)] at hq
      have hgl4 : Gl (opL σ n).2.1 = Gl σ := i4.wm_zs.2.2.1
      have k148 : ∀ (M5 : Nat → Nat → Int32) (c6 : Option Value), MS M5 (opG σ n gl) → (∀ k i, k ≠ 123 → (k ≠ 103 ∨ i ≠ 21) → M5 k i = M4 k i) → (∃ tg, Gl (opG σ n gl) = Gl σ ++ tg) → (Zn (opG σ n gl) = Zn σ ∧ Ev (opG σ n gl) = Ev σ ∧ Zo (opG σ n gl) = Zo σ ∧ Bg (opG σ n gl) = Bg σ) → (∀ p ∈ (opL σ n).2.2, ¬ Zb (opG σ n gl) p = none) → jj ω (d + 8) mMd_open 148 [some (.ref (jN ω + 103)), some (.int (nI n)), some (.int (b2i lz)), some (.int (b2i gl)), some (.int (nI (Gl σ).length)), some (.int 1), c6, none] [] (jst ω M5 J sl) Q := by
        intro M5 c6 hSG hO5 hpre hGe hLG
        have hRG : RvOk (opG σ n gl) := opG_rv hR hN6 hG6 hn hz hok gl
        have hCG : ClIs M5 (clos (Zn σ) n) := ⟨by rw [hO5 _ _ (by omega) (by omega)]; exact hC4.1, hC4.2.1, fun i q hq => by rw [hO5 _ _ (by omega) (by omega)]; exact hC4.2.2 i q hq⟩
        have hFG : FrIs M5 (opL σ n).2.2 := fun p hp => by rw [hO5 _ _ (by omega) (by omega)]; exact hF4 p hp
        have hLoG : Lo M M5 := hL4.trans (fun k i h => hO5 k i (by omega) (by omega))
        refine jj_al0 dMd_open_148 ?_
        refine jj_il5 dMd_open_149 ?_
        refine jj_if_ne 158 dMd_open_151 (by decide) (fun _ => ?_) (fun h => absurd h (by decide))
        refine jj_al0 dMd_open_158 ?_
        refine jj_il2 dMd_open_159 ?_
        refine mv1 dMd_open_160 clMd cvMd_176 (s103 _) (Nat.le_of_ble_eq_true rfl) ?_
        refine jwp_ups 2 (c_mrelocateAll lz hSG hRG hCG hl.2 hFG hLG (fun M6 hS6 hK6 => jk_i ?_))
        have hF6 := hK6.fr hFG
        have hS6 : MS M6 (opR σ n lz gl).2 := hS6
        have hL6 : Lo M M6 := hLoG.trans hK6.1
        have hSm : Sm (opG σ n gl) (opR σ n lz gl).2 := raF_sm lz (opL σ n).2.2 (clos (Zn σ) n) (opG σ n gl)
        refine jj_if_ne 170 dMd_open_163 (by decide) (fun q3 => ?_) (fun q3 => ?_)
        · refine jj_iconst 0 dMd_open_170 (by decide) ?_
          rw [show (0 : Int32) = nI 0 from rfl]
          rw [if_neg (by rw [show (opR σ n lz gl).1 = true from b2i_t q3]; decide)] at hq
          refine mr_put dMd_open_171 clMd lkMd_95 rfl rfl (s103 _) (s103 _) (Nat.le_of_ble_eq_true rfl) rfl ?_
          refine jj_iconst 0 dMd_open_174 (by decide) ?_
          refine jj_is6 dMd_open_175 ?_
          refine jj_iconst 0 dMd_open_177 (by decide) ?_
          refine jj_is7 dMd_open_178 ?_
          have hS7 := hS6.hd (Hd.up M6 (k := 103) (i := 0) (nI 0) (by omega))
          have hL7 : Lo M (mup M6 103 0 (nI 0)) := hL6.up _ (by omega)
          have hT7 := mup_at M6 103 0 (nI 0)
          have hF7 : FrIs (mup M6 103 0 (nI 0)) (opL σ n).2.2 := fun p hp => by rw [mup_ne _ _ (by omega)]; exact hF6 p hp
          generalize mup M6 103 0 (nI 0) = M7 at hS7 hL7 hT7 hF7 ⊢
          refine c_count_l (t := 0) (by omega) hT7 hF7 (fun p hp => hS7.l01 hp) _ _ _ _ _ (fun M8 hO8 h8 => ?_) 6 0 M7 rfl (fun _ _ _ => rfl) (fun p hp => by omega) (fun _ _ _ => rfl)
          have hS8 : MS M8 (opR σ n lz gl).2 := MS_116 hS7 hO8 (fun p hp => by rw [h8 p hp, if_neg (fun h => h.1 rfl)])
          have hF8 : FrIs M8 (opL σ n).2.2 := fun p hp => by rw [hO8 _ _ (by omega)]; exact hF7 p hp
          have hL8 : Lo M M8 := hL7.trans (fun k i h => hO8 k i (by omega))
          have hT8 : M8 103 0 = nI 0 := by rw [hO8 _ _ (by omega)]; exact hT7
          have hBgR : Bg (opR σ n lz gl).2 = Bg σ := hSm.eqs.2.2.2.2.2.trans hGe.2.2.2
          have hEvR : Ev (opR σ n lz gl).2 = Ev σ := hSm.eqs.2.2.2.1.trans hGe.2.1
          have hZoR : Zo (opR σ n lz gl).2 = Zo σ := hSm.eqs.2.2.2.2.1.trans hGe.2.2.1
          have hZnR : Zn (opR σ n lz gl).2 = Zn σ := hSm.eqs.2.1.trans hGe.1
          refine jj_al0 dMd_open_253 ?_
          refine mr_get _ dMd_open_254 clMd lkMd_95 (s103 _) rfl ?_
          rw [hT8]
          refine jj_if_le 268 dMd_open_257 (by decide) (fun q1 => ?_) (fun q1 => absurd q1 (fun h => h (by decide)))
          refine jj_al0 dMd_open_268 ?_
          refine jj_il1 dMd_open_269 ?_
          refine mv1 dMd_open_270 clMd cvMd_180 (s103 _) (Nat.le_of_ble_eq_true rfl) ?_
          refine jwp_ups 6 (c_beginAll hS8 hF8 hn i2 (by rw [hBgR]; exact hB6) (by rw [hZnR]; exact hN6) (by rw [hEvR]; exact hE) (fun z hz => by rw [hBgR]; exact fun h => (hBz z (i2.2 z hz)).mp h (hnw z hz)) (fun hin M9 hS9 hB9 => jk_v ?_) (fun hin M9 hS9 hB9 => jk_v ?_))
          · have hBe : opB σ n lz gl = zBn (opR σ n lz gl).2 (dfF (Zn σ) 5 n ((opL σ n).2.2, [])).2 := by unfold opB; rw [if_pos hin]
            rw [hZnR] at hS9
            rw [← hBe] at hS9
            have hZoB : Zo (opB σ n lz gl) n = Zo σ n := by rw [hBe]; show Zo (opR σ n lz gl).2 n = _; rw [hZoR]
            refine jj_al0 dMd_open_273 ?_
            refine mr_get _ dMd_open_274 clMd lkMd_62 (s103 _) rfl ?_
            refine jj_il1 dMd_open_277 ?_
            refine jj_dup2 dMd_open_278 rfl rfl ?_
            refine mr_iald dMd_open_279 (s121 _) hn (by decide) ?_
            rw [hS9.2.2.1 n hn, hZoB]
            refine jj_iconst 1 dMd_open_280 (by decide) ?_
            refine jj_iadd dMd_open_281 ?_
            rw [nI_1]
            refine mr_iast dMd_open_282 s121 hn (by decide) ?_
            refine jj_il6 dMd_open_283 ?_
            exact jj_iret dMd_open_285 rfl rfl (hq _ _ (MS_op hS9 hn) (hL8.trans hB9.1 |>.up _ (by omega)) (by rw [mup_ne _ _ (by omega), hB9.2 0 (by omega)]; exact hT8) (fun w h => by cases h; rfl))
          · have hBe : opB σ n lz gl = (opR σ n lz gl).2 := by unfold opB; rw [if_neg hin]
            rw [← hBe] at hS9
            have hZoB : Zo (opB σ n lz gl) n = Zo σ n := by rw [hBe, hZoR]
            refine jj_al0 dMd_open_273 ?_
            refine mr_get _ dMd_open_274 clMd lkMd_62 (s103 _) rfl ?_
            refine jj_il1 dMd_open_277 ?_
            refine jj_dup2 dMd_open_278 rfl rfl ?_
            refine mr_iald dMd_open_279 (s121 _) hn (by decide) ?_
            rw [hS9.2.2.1 n hn, hZoB]
            refine jj_iconst 1 dMd_open_280 (by decide) ?_
            refine jj_iadd dMd_open_281 ?_
            rw [nI_1]
            refine mr_iast dMd_open_282 s121 hn (by decide) ?_
            refine jj_il6 dMd_open_283 ?_
            exact jj_iret dMd_open_285 rfl rfl (hq _ _ (MS_op hS9 hn) (hL8.trans hB9.1 |>.up _ (by omega)) (by rw [mup_ne _ _ (by omega), hB9.2 0 (by omega)]; exact hT8) (fun w h => by cases h; rfl))
        · refine jj_iconst 3 dMd_open_166 (by decide) ?_
          refine jj_goto 171 dMd_open_167 (by decide) ?_
          rw [if_pos (show (opR σ n lz gl).1 = false from b2i_f q3)] at hq
          have hglR : Gl (opR σ n lz gl).2 = Gl (opG σ n gl) := hSm.eqs.2.2.1
          obtain ⟨tg, htg⟩ : ∃ tg, Gl (opG σ n gl) = Gl σ ++ tg := hpre
          refine c_open_fail (b0 := (Gl σ).length) (t := 3) (nw := (opL σ n).2.2) hS6 i2.2 (hSm.wm hRG.1).2.2.1 hF6 (by omega) (by omega) (by rw [hglR, htg, List.length_append]; omega) (fun z hz => ?_) _ _ _ _ _ _ (fun M7 a1 a2 a3 => ?_)
          · rw [hglR, htg, List.take_left] at hz
            exact hdis z hz
          exact hq M7 0 a1 (hL6.trans a2) a3 (fun w h => by cases h)
      cases gl with
      | true =>
        have hG : opG σ n true = zGl (opL σ n).2.1 ((clos (Zn σ) n).foldl rput (Gl σ)) := by unfold opG; rw [if_pos rfl, hgl4]
        refine jj_is5 dMd_open_79 ?_
        refine jj_iconst 0 dMd_open_81 (by decide) ?_
        refine jj_is6 dMd_open_82 ?_
        refine c_oglob_l (d := d + 7) (σ := (opL σ n).2.1) hl.2 hC4 _ _ _ _ (fun M5 c6 hS5 hO5 => ?_) ((clos (Zn σ) n).length + 1) 0 (Gl σ) M4 (by omega) (by omega) hG6 (by rw [← hgl4]; exact hS4) (fun _ _ _ _ => rfl) rfl
        refine k148 M5 _ ?_ hO5 ?_ ?_ ?_
        · rw [hG]; exact hS5
        · rw [hG]; exact fold_pre _ _
        · rw [hG]; exact ⟨i4.wm_zs.2.1, i4.wm_zs.2.2.2.1, i4.wm_zs.2.2.2.2.1, i4.wm_zs.2.2.2.2.2⟩
        · rw [hG]; exact i3
      | false =>
        have hG : opG σ n false = (opL σ n).2.1 := by unfold opG; rw [if_neg (by decide)]
        refine jj_is5 dMd_open_79 ?_
        refine jj_iconst 0 dMd_open_81 (by decide) ?_
        refine jj_is6 dMd_open_82 ?_
        refine jj_il6 dMd_open_84 ?_
        refine jj_al0 dMd_open_86 ?_
        refine mr_get _ dMd_open_87 clMd lkMd_123 (s103 _) rfl ?_
        rw [hC4.1]
        refine jj_icmp_ge 148 dMd_open_90 (by decide) (fun q1 => absurd q1 (hcl0)) (fun q1 => ?_)
        refine jj_il5 dMd_open_93 ?_
        refine jj_if_eq 148 dMd_open_95 (by decide) (fun h => absurd h (by decide)) (fun _ => ?_)
        refine jj_il3 dMd_open_98 ?_
        refine jj_if_eq 148 dMd_open_99 (by decide) (fun q2 => ?_) (fun q2 => absurd q2 (fun h => h rfl))
        refine k148 M4 _ ?_ (fun _ _ _ _ => rfl) ?_ ?_ ?_
        · rw [hG]; exact hS4
        · rw [hG]; exact ⟨[], by rw [hgl4]; simp⟩
        · rw [hG]; exact ⟨i4.wm_zs.2.1, i4.wm_zs.2.2.2.1, i4.wm_zs.2.2.2.2.1, i4.wm_zs.2.2.2.2.2⟩
        · rw [hG]; exact i3
  · refine jj_if_eq 78 dMd_open_64 (by decide) (fun _ => ?_) (fun h => absurd h (by decide))
    refine jj_iconst 0 dMd_open_78 (by decide) ?_
    refine jj_is5 dMd_open_79 ?_
    refine jj_iconst 0 dMd_open_81 (by decide) ?_
    refine jj_is6 dMd_open_82 ?_
    refine jj_il6 dMd_open_84 ?_
    refine jj_al0 dMd_open_86 ?_
    refine mr_get _ dMd_open_87 clMd lkMd_123 (s103 _) rfl ?_
    rw [hC3.1]
    refine jj_icmp_ge 148 dMd_open_90 (by decide) (fun q9 => absurd q9 (hcl0)) (fun q9 => ?_)
    refine jj_il5 dMd_open_93 ?_
    refine jj_if_eq 148 dMd_open_95 (by decide) (fun _ => ?_) (fun h => absurd h (by decide))
    refine jj_al0 dMd_open_148 ?_
    refine jj_il5 dMd_open_149 ?_
    refine jj_if_ne 158 dMd_open_151 (by decide) (fun h => absurd h (by decide)) (fun _ => ?_)
    refine jj_iconst 2 dMd_open_154 (by decide) ?_
    refine jj_goto 171 dMd_open_155 (by decide) ?_
    refine c_open_fail (b0 := (Gl σ).length) (t := 2) (nw := []) hS3 (by simp) hR.1.2.2.1 hF3 (by omega) (by omega) (Nat.le_refl _) (by simp) _ _ _ _ _ _ (fun M4 a1 a2 a3 => ?_)
    rw [toF_nil, List.take_length] at a1
    rw [if_pos hex] at hq
    exact hq M4 0 a1 (hL3.trans a2) a3 (fun w h => by cases h)
