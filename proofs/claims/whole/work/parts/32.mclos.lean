/-- hidden cells alone (closed among them) -/
def Hq (M M' : Nat → Nat → Int32) : Prop := Hd M M' ∧ Lo M M' ∧ ∀ i, i ≠ 24 → M' 103 i = M 103 i
theorem Hq.refl (M : Nat → Nat → Int32) : Hq M M := ⟨Hd.refl M, Lo.refl M, fun _ _ => rfl⟩
theorem Hq.trans {M M1 M2 : Nat → Nat → Int32} (h1 : Hq M M1) (h2 : Hq M1 M2) : Hq M M2 := ⟨h1.1.trans h2.1, h1.2.1.trans h2.2.1, fun i a => (h2.2.2 i a).trans (h1.2.2 i a)⟩
theorem Hq.up {M M1 : Nat → Nat → Int32} (h : Hq M M1) {k i : Nat} (v : Int32) (hk : (k = 103 ∧ i = 24) ∨ (125 ≤ k ∧ k ≤ 130)) : Hq M (mup M1 k i v) := ⟨h.1.trans (Hd.up M1 v (by omega)), h.2.1.up _ (by omega), fun j a => by rw [mup_ne _ _ (by omega)]; exact h.2.2 j a⟩
def SeIs (M : Nat → Nat → Int32) (l : List Nat) : Prop := ∀ p, p < 6 → M 127 p = b2i (decide (p ∈ l))
theorem rput_no {l : List Nat} {p : Nat} (h : p ∈ l) : rput l p = l := if_neg (fun g => g.2 h)
set_option maxRecDepth 100000 in
set_option maxHeartbeats 4000000 in
theorem c_fcl_in {ω : jw} {d : Nat} {J sl : Nat} {Q : jr → jh → Prop} {M0 : Nat → Nat → Int32} {σ : Sg} (hS0 : MS M0 σ) {o k p : Nat} (hp : p < 6) (hN6 : ∀ x ∈ Zn σ p, x < 6) :
    ∀ (n i : Nat) (l : List Nat) (M : Nat → Nat → Int32) (c5 : Option Value), (Zn σ p).length - i < n → i ≤ (Zn σ p).length → Hq M0 M → Rw6 l → ClIs M l → SeIs M l → (∀ M' c5', Hq M0 M' → Rw6 (((Zn σ p).drop i).foldl rput l) → ClIs M' (((Zn σ p).drop i).foldl rput l) → SeIs M' (((Zn σ p).drop i).foldl rput l) → jj ω d mMd_findClosure 131 [some (.ref (jN ω + 103)), some (.int (nI o)), some (.int (nI k)), some (.int (nI p)), some (.int (nI (Zn σ p).length)), c5'] [] (jst ω M' J sl) Q) →
    jj ω d mMd_findClosure 62 [some (.ref (jN ω + 103)), some (.int (nI o)), some (.int (nI k)), some (.int (nI p)), some (.int (nI i)), c5] [] (jst ω M J sl) Q := by
  intro n
  induction n with
  | zero => intro i l M c5 hn; omega
  | succ n ih =>
    intro i l M c5 hn hi hH hl hC hE hq
    have hS := hS0.hd hH.1
    obtain ⟨hl3, _, _, _, h106, h105, _⟩ := hS.1 p hp
    have hll := hl.len
    refine jj_il4 dMd_findClosure_62 ?_
    refine jj_al0 dMd_findClosure_64 ?_
    refine mr_get _ dMd_findClosure_65 clMd lkMd_16 (s103 _) rfl ?_
    refine jj_il3 dMd_findClosure_68 ?_
    refine mr_iald dMd_findClosure_69 (s106 _) (hp) (by decide) ?_
    rw [h106]
    refine jj_icmp_ge 131 dMd_findClosure_70 (by decide) (fun q1 => ?_) (fun q1 => ?_)
    · rw [List.drop_eq_nil_of_le (le_le rfl q1 (by omega) (by omega))] at hq
      have hie : i = (Zn σ p).length := by have := le_le rfl q1 (by omega) (by omega); omega
      subst hie
      exact hq M _ hH hl hC hE
    · have hi2 : i < (Zn σ p).length := nle_lt rfl q1 (by omega) (by omega)
      obtain ⟨q, e1⟩ : ∃ q, (Zn σ p)[i]? = some q := ⟨_, List.getElem?_eq_getElem hi2⟩
      have e2 : q < 6 := hN6 q (List.mem_of_getElem? e1)
      rw [List.drop_eq_getElem_cons hi2, show (Zn σ p)[i] = q from (List.getElem?_eq_some_iff.mp e1).2] at hq
      refine jj_al0 dMd_findClosure_73 ?_
      refine mr_get _ dMd_findClosure_74 clMd lkMd_13 (s103 _) rfl ?_
      refine jj_iconst 3 dMd_findClosure_77 (by decide) ?_
      refine jj_il3 dMd_findClosure_78 ?_
      refine jj_imul dMd_findClosure_79 ?_
      rw [show (3 : Int32) * nI p = nI (3 * p) from nI_mul 3 p]
      refine jj_il4 dMd_findClosure_80 ?_
      refine jj_iadd dMd_findClosure_82 ?_
      rw [nI_add]
      refine mr_iald dMd_findClosure_83 (s105 _) (by omega) (by decide) ?_
      rw [h105 i q e1]
      refine jj_is5 dMd_findClosure_84 ?_
      refine jj_al0 dMd_findClosure_86 ?_
      refine mr_get _ dMd_findClosure_87 clMd lkMd_80 (s103 _) rfl ?_
      refine jj_il5 dMd_findClosure_90 ?_
      refine mr_zald dMd_findClosure_92 (s127 _) (e2) (by decide) ?_
      rw [hE q e2]
      refine jj_if_ne 125 dMd_findClosure_93 (by decide) (fun q2 => ?_) (fun q2 => ?_)
      · refine jj_ii4 (nI (i + 1)) dMd_findClosure_125 (inc1 i) ?_
        refine jj_goto 62 dMd_findClosure_128 (by decide) ?_
        have hin : q ∈ l := b2it q2
        rw [List.foldl_cons, rput_no hin] at hq
        exact ih (i + 1) l M _ (by omega) (by omega) hH hl hC hE hq
      · have hin : q ∉ l := b2id q2
        have hl5 : l.length < 6 := Classical.byContradiction (fun h => hin (full_mem hl.1 hl.2 h e2))
        have hrp : rput l q = l ++ [q] := rput_new hl5 hin
        rw [List.foldl_cons, hrp] at hq
        refine jj_al0 dMd_findClosure_96 ?_
        refine mr_get _ dMd_findClosure_97 clMd lkMd_80 (s103 _) rfl ?_
        refine jj_il5 dMd_findClosure_100 ?_
        refine jj_iconst 1 dMd_findClosure_102 (by decide) ?_
        refine mr_zast dMd_findClosure_103 (s127) (Or.inr rfl) (e2) (by decide) ?_
        refine jj_al0 dMd_findClosure_104 ?_
        refine mr_get _ dMd_findClosure_105 clMd lkMd_74 (s103 _) rfl ?_
        refine jj_al0 dMd_findClosure_108 ?_
        refine mr_get _ dMd_findClosure_109 clMd lkMd_123 (s103 _) rfl ?_
        rw [mup_ne _ _ (by omega), hC.1]
        refine jj_il5 dMd_findClosure_112 ?_
        refine mr_iast dMd_findClosure_114 (s125) (hl5) (by decide) ?_
        refine jj_al0 dMd_findClosure_115 ?_
        refine jj_dup dMd_findClosure_116 rfl ?_
        refine mr_get _ dMd_findClosure_117 clMd lkMd_123 (s103 _) rfl ?_
        rw [mup_ne _ _ (by omega), mup_ne _ _ (by omega), hC.1]
        refine jj_iconst 1 dMd_findClosure_120 (by decide) ?_
        refine jj_iadd dMd_findClosure_121 ?_
        rw [nI_1]
        refine mr_put dMd_findClosure_122 clMd lkMd_123 rfl rfl (s103 _) (s103 _) (Nat.le_of_ble_eq_true rfl) rfl ?_
        refine jj_ii4 (nI (i + 1)) dMd_findClosure_125 (inc1 i) ?_
        refine jj_goto 62 dMd_findClosure_128 (by decide) ?_
        refine ih (i + 1) (l ++ [q]) _ _ (by omega) (by omega) (((hH.up _ (by omega)).up _ (by omega)).up _ (by omega)) (by rw [← hrp]; exact hl.put e2) ⟨by rw [mup_at]; simp, by simp; omega, fun j z hz => ?_⟩ (fun z hz => ?_) hq
        · rw [mup_ne _ _ (by omega)]
          rcases get_snoc hz with ⟨hj, hz⟩ | ⟨hj, rfl⟩
          · rw [mup_ne _ _ (by omega), mup_ne _ _ (by omega)]; exact hC.2.2 j z hz
          · rw [hj, mup_at]
        · rw [mup_ne _ _ (by omega), mup_ne _ _ (by omega)]
          by_cases hzq : z = q
          · subst hzq
            rw [mup_at, decide_eq_true (by simp)]; rfl
          · rw [mup_ne _ _ (by omega), hE z hz]
            congr 1
            simp [hzq]
set_option maxRecDepth 100000 in
set_option maxHeartbeats 4000000 in
theorem c_fcl_out {ω : jw} {d : Nat} {J sl : Nat} {Q : jr → jh → Prop} {M0 : Nat → Nat → Int32} {σ : Sg} (hS0 : MS M0 σ) {o : Nat} (hN6 : ∀ p, p < 6 → ∀ x ∈ Zn σ p, x < 6) {L : List Nat} (hq : ∀ M', Hq M0 M' → ClIs M' L → Q (.inl none) (jst ω M' J sl)) :
    ∀ (n k : Nat) (l : List Nat) (M : Nat → Nat → Int32) (c3 c4 c5 : Option Value), 6 - k < n → k ≤ l.length → Hq M0 M → Rw6 l → ClIs M l → SeIs M l → closF (Zn σ) n k l = L →
    jj ω d mMd_findClosure 44 [some (.ref (jN ω + 103)), some (.int (nI o)), some (.int (nI k)), c3, c4, c5] [] (jst ω M J sl) Q := by
  intro n
  induction n with
  | zero => intro k l M c3 c4 c5 hn; omega
  | succ n ih =>
    intro k l M c3 c4 c5 hn hk hH hl hC hE hL
    have hll := hl.len
    refine jj_il2 dMd_findClosure_44 ?_
    refine jj_al0 dMd_findClosure_45 ?_
    refine mr_get _ dMd_findClosure_46 clMd lkMd_123 (s103 _) rfl ?_
    rw [hC.1]
    refine jj_icmp_ge 137 dMd_findClosure_49 (by decide) (fun q1 => ?_) (fun q1 => ?_)
    · exact jj_vret dMd_findClosure_137 rfl (hq M hH (by rw [← hL, closF, if_neg (by have := le_le rfl q1 (by omega) (by omega); omega)]; exact hC))
    · have hk2 : k < l.length := nle_lt rfl q1 (by omega) (by omega)
      obtain ⟨p, e1⟩ : ∃ p, l[k]? = some p := ⟨_, List.getElem?_eq_getElem hk2⟩
      have e2 : p < 6 := hl.2 p (List.mem_of_getElem? e1)
      refine jj_al0 dMd_findClosure_52 ?_
      refine mr_get _ dMd_findClosure_53 clMd lkMd_74 (s103 _) rfl ?_
      refine jj_il2 dMd_findClosure_56 ?_
      refine mr_iald dMd_findClosure_57 (s125 _) (by omega) (by decide) ?_
      rw [hC.2.2 k p e1]
      refine jj_is3 dMd_findClosure_58 ?_
      refine jj_iconst 0 dMd_findClosure_59 (by decide) ?_
      refine jj_is4 dMd_findClosure_60 ?_
      refine c_fcl_in hS0 e2 (hN6 p e2) ((Zn σ p).length + 1) 0 l M _ (by omega) (by omega) hH hl hC hE (fun M1 c5 hH1 hl1 hC1 hE1 => ?_)
      rw [List.drop_zero] at hl1 hC1 hE1
      refine jj_ii2 (nI (k + 1)) dMd_findClosure_131 (inc1 k) ?_
      refine jj_goto 44 dMd_findClosure_134 (by decide) ?_
      refine ih (k + 1) _ M1 _ _ _ (by omega) ?_ hH1 hl1 hC1 hE1 (by rw [← hL, closF, if_pos ⟨by omega, hk2⟩, List.getD_eq_getElem?_getD, e1]; rfl)
      obtain ⟨t, et⟩ := fold_pre (Zn σ p) l
      rw [et, List.length_append]
      omega
set_option maxRecDepth 100000 in
set_option maxHeartbeats 4000000 in
theorem c_fcl_see {ω : jw} {d : Nat} {J sl : Nat} {Q : jr → jh → Prop} {M0 : Nat → Nat → Int32} {o : Nat} (ho : o < 6) (hk : ∀ M', Hq M0 M' → SeIs M' [o] → jj ω d mMd_findClosure 30 [some (.ref (jN ω + 103)), some (.int (nI o)), some (.int (nI 6)), none, none, none] [] (jst ω M' J sl) Q) :
    ∀ (n i : Nat) (M : Nat → Nat → Int32), n + i = 6 → Hq M0 M → (∀ p, p < i → M 127 p = b2i (decide (p ∈ [o]))) → jj ω d mMd_findClosure 2 [some (.ref (jN ω + 103)), some (.int (nI o)), some (.int (nI i)), none, none, none] [] (jst ω M J sl) Q := by
  intro n
  induction n with
  | zero =>
    intro i M hn hH hE
    have hi : i = 6 := by omega
    subst hi
    refine jj_il2 dMd_findClosure_2 ?_
    refine jj_bipush 6 dMd_findClosure_3 (by decide) ?_
    refine jj_icmp_ge 30 dMd_findClosure_5 (by decide) (fun q1 => ?_) (fun q1 => absurd q1 (by decide))
    exact hk M hH hE
  | succ n ih =>
    intro i M hn hH hE
    have hi6 : i < 6 := by omega
    refine jj_il2 dMd_findClosure_2 ?_
    refine jj_bipush 6 dMd_findClosure_3 (by decide) ?_
    refine jj_icmp_ge 30 dMd_findClosure_5 (by decide) (fun q1 => absurd q1 (fun h => by have := le_le (a := 6) rfl h (by decide) (by omega); omega)) (fun q1 => ?_)
    refine jj_al0 dMd_findClosure_8 ?_
    refine mr_get _ dMd_findClosure_9 clMd lkMd_80 (s103 _) rfl ?_
    refine jj_il2 dMd_findClosure_12 ?_
    refine jj_il2 dMd_findClosure_13 ?_
    refine jj_il1 dMd_findClosure_14 ?_
    refine jj_icmp_ne 22 dMd_findClosure_15 (by decide) (fun q1 => ?_) (fun q1 => ?_)
    · refine jj_iconst 0 dMd_findClosure_22 (by decide) ?_
      refine mr_zast dMd_findClosure_23 (s127) (by first | exact Or.inl rfl | exact Or.inr rfl) (hi6) (by decide) ?_
      refine jj_ii2 (nI (i + 1)) dMd_findClosure_24 (inc1 i) ?_
      refine jj_goto 2 dMd_findClosure_27 (by decide) ?_
      refine ih (i + 1) _ (by omega) (hH.up _ (by omega)) (fun p hp => ?_)
      by_cases hpi : p = i
      · subst hpi
        rw [mup_at]
        rw [decide_eq_false (fun h => q1 (by rw [List.mem_singleton.mp h]))]; rfl
      · rw [mup_ne _ _ (by omega)]; exact hE p (by omega)
    · refine jj_iconst 1 dMd_findClosure_18 (by decide) ?_
      refine jj_goto 23 dMd_findClosure_19 (by decide) ?_
      refine mr_zast dMd_findClosure_23 (s127) (by first | exact Or.inl rfl | exact Or.inr rfl) (hi6) (by decide) ?_
      refine jj_ii2 (nI (i + 1)) dMd_findClosure_24 (inc1 i) ?_
      refine jj_goto 2 dMd_findClosure_27 (by decide) ?_
      refine ih (i + 1) _ (by omega) (hH.up _ (by omega)) (fun p hp => ?_)
      by_cases hpi : p = i
      · subst hpi
        rw [mup_at]
        rw [decide_eq_true (by rw [List.mem_singleton]; exact (nI6 hi6 ho).mp q1)]; rfl
      · rw [mup_ne _ _ (by omega)]; exact hE p (by omega)
set_option maxRecDepth 100000 in
set_option maxHeartbeats 4000000 in
theorem c_findClosure {ω : jw} {d : Nat} {M : Nat → Nat → Int32} {J sl : Nat} {Q : jr → jh → Prop} {σ : Sg} (hS : MS M σ) (hN6 : ∀ p, p < 6 → ∀ x ∈ Zn σ p, x < 6) {o : Nat} (ho : o < 6) (hq : ∀ M', Hq M M' → ClIs M' (clos (Zn σ) o) → Q (.inl none) (jst ω M' J sl)) : jwp ω d mMd_findClosure [.ref (jN ω + 103), .int (nI o)] (jst ω M J sl) Q := by
  refine jwp_of (by simp [Value.category]) (Nat.le_of_ble_eq_true rfl) (ls := [some (.ref (jN ω + 103)), some (.int (nI o)), none, none, none, none]) rfl ?_
  refine jj_iconst 0 dMd_findClosure_0 (by decide) ?_
  refine jj_is2 dMd_findClosure_1 ?_
  refine c_fcl_see ho (fun M1 hH1 hE1 => ?_) 6 0 M rfl (Hq.refl M) (fun p hp => by omega)
  refine jj_al0 dMd_findClosure_30 ?_
  refine mr_get _ dMd_findClosure_31 clMd lkMd_74 (s103 _) rfl ?_
  refine jj_iconst 0 dMd_findClosure_34 (by decide) ?_
  refine jj_il1 dMd_findClosure_35 ?_
  rw [show (0 : Int32) = nI 0 from rfl]
  refine mr_iast dMd_findClosure_36 (s125) (by decide) (by decide) ?_
  refine jj_al0 dMd_findClosure_37 ?_
  refine jj_iconst 1 dMd_findClosure_38 (by decide) ?_
  refine mr_put dMd_findClosure_39 clMd lkMd_123 rfl rfl (s103 _) (s103 _) (Nat.le_of_ble_eq_true rfl) rfl ?_
  refine jj_iconst 0 dMd_findClosure_42 (by decide) ?_
  refine jj_is2 dMd_findClosure_43 ?_
  refine c_fcl_out hS hN6 (fun M2 a b => hq M2 a b) 7 0 [o] _ _ _ _ (by omega) (by omega) ((hH1.up _ (by omega)).up _ (by omega)) ⟨by simp, fun x hx => by rw [List.mem_singleton] at hx; omega⟩ ⟨by rw [mup_at]; rfl, by simp, fun i q hq => ?_⟩ (fun p hp => by rw [mup_ne _ _ (by omega), mup_ne _ _ (by omega)]; exact hE1 p hp) rfl
  rw [mup_ne _ _ (by omega)]
  have := getl hq
  simp only [List.length_singleton] at this
  have hi0 : i = 0 := by omega
  subst hi0
  cases hq
  exact mup_at _ _ _ _
set_option maxRecDepth 100000 in
set_option maxHeartbeats 4000000 in
theorem c_hasImages_l {ω : jw} {d : Nat} {M : Nat → Nat → Int32} {J sl : Nat} {Q : jr → jh → Prop} {σ : Sg} (hS : MS M σ) (hW : Wm σ) {l : List Nat} (hC : ClIs M l) (hl6 : ∀ p ∈ l, p < 6) (ht : (∀ p ∈ l, ¬ Zs σ p = 0) → Q (.inl (some (.int 1))) (jst ω M J sl)) (hf : (∃ p ∈ l, Zs σ p = 0) → Q (.inl (some (.int 0))) (jst ω M J sl)) :
    ∀ (n i : Nat) (b : Bool), l.length - i < n → i ≤ l.length → (b = true ↔ ∀ p ∈ l.take i, ¬ Zs σ p = 0) → jj ω d mMd_hasImages 4 [some (.ref (jN ω + 103)), some (.int (b2i b)), some (.int (nI i))] [] (jst ω M J sl) Q := by
  have hll := hC.2.1
  intro n
  induction n with
  | zero => intro i b hn; omega
  | succ n ih =>
    intro i b hn hi hb
    have k35 : ∀ (c : Bool), i < l.length → (c = true ↔ ∀ p ∈ l.take (i + 1), ¬ Zs σ p = 0) → jj ω d mMd_hasImages 35 [some (.ref (jN ω + 103)), some (.int (b2i b)), some (.int (nI i))] [.int (b2i c)] (jst ω M J sl) Q := by
      intro c hi2 hc
      refine jj_is1 dMd_hasImages_35 ?_
      refine jj_ii2 (nI (i + 1)) dMd_hasImages_36 (inc1 i) ?_
      refine jj_goto 4 dMd_hasImages_39 (by decide) ?_
      exact ih (i + 1) c (by omega) (by omega) hc
    refine jj_il2 dMd_hasImages_4 ?_
    refine jj_al0 dMd_hasImages_5 ?_
    refine mr_get _ dMd_hasImages_6 clMd lkMd_123 (s103 _) rfl ?_
    rw [hC.1]
    refine jj_icmp_ge 42 dMd_hasImages_9 (by decide) (fun q1 => ?_) (fun q1 => ?_)
    · refine jj_il1 dMd_hasImages_42 ?_
      exact jj_iret dMd_hasImages_43 rfl (by cases b <;> rfl) (by
    rw [List.take_of_length_le (le_le rfl q1 (by omega) (by omega))] at hb
    cases b with
    | true => exact ht (hb.mp rfl)
    | false => exact hf (Classical.byContradiction (fun h => Bool.noConfusion (hb.mpr (fun p hp h0 => h ⟨p, hp, h0⟩)))))
    · have hi2 : i < l.length := nle_lt rfl q1 (by omega) (by omega)
      obtain ⟨p, e1⟩ : ∃ p, l[i]? = some p := ⟨_, List.getElem?_eq_getElem hi2⟩
      have e2 : p < 6 := hl6 p (List.mem_of_getElem? e1)
      have hT : l.take (i + 1) = l.take i ++ [p] := by rw [List.take_add_one, e1]; rfl
      refine jj_il1 dMd_hasImages_12 ?_
      refine jj_if_eq 34 dMd_hasImages_13 (by decide) (fun q2 => ?_) (fun q2 => ?_)
      · refine jj_iconst 0 dMd_hasImages_34 (by decide) ?_
        exact k35 false hi2 ⟨fun h => (by cases h), fun h => by have := hb.mpr (fun z hz => h z (by rw [hT]; exact List.mem_append.mpr (Or.inl hz))); rw [b2i_f q2] at this; exact this⟩
      · refine jj_al0 dMd_hasImages_16 ?_
        refine mr_get _ dMd_hasImages_17 clMd lkMd_7 (s103 _) rfl ?_
        refine jj_al0 dMd_hasImages_20 ?_
        refine mr_get _ dMd_hasImages_21 clMd lkMd_74 (s103 _) rfl ?_
        refine jj_il2 dMd_hasImages_24 ?_
        refine mr_iald dMd_hasImages_25 (s125 _) (by omega) (by decide) ?_
        rw [hC.2.2 i p e1]
        refine mr_iald dMd_hasImages_26 (s104 _) (e2) (by decide) ?_
        rw [(hS.1 p e2).2.2.2.1]
        refine jj_if_le 34 dMd_hasImages_27 (by decide) (fun q3 => ?_) (fun q3 => ?_)
        · refine jj_iconst 0 dMd_hasImages_34 (by decide) ?_
          exact k35 false hi2 ⟨fun h => (by cases h), fun h => absurd (Nat.le_zero.mp (le_le rfl q3 (by have := hW.1 p e2; omega) (by decide))) (h p (by rw [hT]; simp))⟩
        · refine jj_iconst 1 dMd_hasImages_30 (by decide) ?_
          refine jj_goto 35 dMd_hasImages_31 (by decide) ?_
          exact k35 true hi2 ⟨fun _ z hz => by
            rw [hT] at hz
            rcases List.mem_append.mp hz with hz | hz
            · exact hb.mp (b2i_t q2) z hz
            · rw [List.mem_singleton] at hz
              subst hz
              intro h0
              exact q3 (by rw [h0]; decide), fun _ => rfl⟩
set_option maxRecDepth 100000 in
set_option maxHeartbeats 4000000 in
theorem c_hasImages {ω : jw} {d : Nat} {M : Nat → Nat → Int32} {J sl : Nat} {Q : jr → jh → Prop} {σ : Sg} (hS : MS M σ) (hW : Wm σ) {l : List Nat} (hC : ClIs M l) (hl6 : ∀ p ∈ l, p < 6) (ht : (∀ p ∈ l, ¬ Zs σ p = 0) → Q (.inl (some (.int 1))) (jst ω M J sl)) (hf : (∃ p ∈ l, Zs σ p = 0) → Q (.inl (some (.int 0))) (jst ω M J sl)) : jwp ω d mMd_hasImages [.ref (jN ω + 103)] (jst ω M J sl) Q := by
  refine jwp_of (by simp [Value.category]) (Nat.le_of_ble_eq_true rfl) (ls := [some (.ref (jN ω + 103)), none, none]) rfl ?_
  refine jj_iconst 1 dMd_hasImages_0 (by decide) ?_
  refine jj_is1 dMd_hasImages_1 ?_
  refine jj_iconst 0 dMd_hasImages_2 (by decide) ?_
  refine jj_is2 dMd_hasImages_3 ?_
  exact c_hasImages_l hS hW hC hl6 ht hf (l.length + 1) 0 true (by omega) (by omega) ⟨fun _ p hp => by simp at hp, fun _ => rfl⟩
theorem fr_iff {σ : Sg} (hW : Wm σ) {b w : Nat} (hw : 1 ≤ w) : fr (tkn σ) b w ↔ b + w ≤ 32 ∧ ∀ p, p < 6 → ∀ b', Zb σ p = some b' → b + w ≤ b' ∨ b' + Zs σ p ≤ b := by
  constructor
  · rintro ⟨h1, h2⟩
    refine ⟨h1, fun p hp b' hb' => ?_⟩
    refine Classical.byContradiction (fun hn => ?_)
    have hs := hW.2.1 p b' hp hb'
    by_cases hbb : b ≤ b'
    · have := h2 b' hbb (by omega)
      rw [tkn_iff.mpr ⟨p, hp, b', hb', by omega, by omega⟩] at this
      cases this
    · have := h2 b (by omega) (by omega)
      rw [tkn_iff.mpr ⟨p, hp, b', hb', by omega, by omega⟩] at this
      cases this
  · rintro ⟨h1, h2⟩
    refine ⟨h1, fun a ha1 ha2 => ?_⟩
    cases ht : tkn σ a with
    | false => rfl
    | true =>
      obtain ⟨p, hp, b', hb', g1, g2⟩ := tkn_iff.mp ht
      have := h2 p hp b' hb'
      omega
def frP (σ : Sg) (b w j : Nat) : Prop := b + w ≤ 32 ∧ ∀ p, p < j → ∀ b', Zb σ p = some b' → b + w ≤ b' ∨ b' + Zs σ p ≤ b
theorem nIle {a b : Nat} (h : a ≤ b) (hb : b < 2 ^ 31) : nI a ≤ nI b := Int32.le_iff_toInt_le.mpr (by rw [nI_toInt (by omega), nI_toInt hb]; omega)
set_option maxRecDepth 100000 in
set_option maxHeartbeats 4000000 in
theorem c_isFree_l {ω : jw} {d : Nat} {M : Nat → Nat → Int32} {J sl : Nat} {Q : jr → jh → Prop} {σ : Sg} (hS : MS M σ) (hW : Wm σ) {b w : Nat} (hb : b < 32) (hw : 1 ≤ w) (hw8 : w ≤ 8) (ht : fr (tkn σ) b w → Q (.inl (some (.int 1))) (jst ω M J sl)) (hf : ¬ fr (tkn σ) b w → Q (.inl (some (.int 0))) (jst ω M J sl)) :
    ∀ (n i : Nat) (v : Bool), n + i = 6 → (v = true ↔ frP σ b w i) → jj ω d mMd_isFree 17 [some (.ref (jN ω + 103)), some (.int (nI b)), some (.int (nI w)), some (.int (b2i v)), some (.int (nI i))] [] (jst ω M J sl) Q := by
  intro n
  induction n with
  | zero =>
    intro i v hn hv
    have hi : i = 6 := by omega
    subst hi
    rw [show frP σ b w 6 ↔ fr (tkn σ) b w from (fr_iff hW hw).symm] at hv
    refine jj_il4 dMd_isFree_17 ?_
    refine jj_bipush 6 dMd_isFree_19 (by decide) ?_
    refine jj_icmp_ge 82 dMd_isFree_21 (by decide) (fun q1 => ?_) (fun q1 => absurd q1 (by decide))
    refine jj_il3 dMd_isFree_82 ?_
    exact jj_iret dMd_isFree_83 rfl (by cases v <;> rfl) (by cases v with | true => exact ht (hv.mp rfl) | false => exact hf (fun h => Bool.noConfusion (hv.mpr h)))
  | succ n ih =>
    intro i v hn hv
    have hi6 : i < 6 := by omega
    have hz8 := hW.1 i hi6
    have h116 := (hS.2.1 i hi6).1
    have k75 : ∀ (c : Bool), (c = true ↔ frP σ b w (i + 1)) → jj ω d mMd_isFree 75 [some (.ref (jN ω + 103)), some (.int (nI b)), some (.int (nI w)), some (.int (b2i v)), some (.int (nI i))] [.int (b2i c)] (jst ω M J sl) Q := by
      intro c hc
      refine jj_is3 dMd_isFree_75 ?_
      refine jj_ii4 (nI (i + 1)) dMd_isFree_76 (inc1 i) ?_
      refine jj_goto 17 dMd_isFree_79 (by decide) ?_
      exact ih (i + 1) c (by omega) hc
    refine jj_il4 dMd_isFree_17 ?_
    refine jj_bipush 6 dMd_isFree_19 (by decide) ?_
    refine jj_icmp_ge 82 dMd_isFree_21 (by decide) (fun q1 => absurd q1 (fun h => by have := le_le (a := 6) rfl h (by decide) (by omega); omega)) (fun q1 => ?_)
    refine jj_il3 dMd_isFree_24 ?_
    refine jj_if_eq 74 dMd_isFree_25 (by decide) (fun q1 => ?_) (fun q1 => ?_)
    · refine jj_iconst 0 dMd_isFree_74 (by decide) ?_
      exact k75 false ⟨fun h => (by cases h), fun h => by have := hv.mpr ⟨h.1, fun p hp => h.2 p (by omega)⟩; rw [b2i_f q1] at this; exact this⟩
    · refine jj_al0 dMd_isFree_28 ?_
      refine mr_get _ dMd_isFree_29 clMd lkMd_47 (s103 _) rfl ?_
      refine jj_il4 dMd_isFree_32 ?_
      refine mr_zald dMd_isFree_34 (s116 _) (hi6) (by decide) ?_
      refine jj_if_eq 70 dMd_isFree_35 (by decide) (fun q2 => ?_) (fun q2 => ?_)
      · refine jj_iconst 1 dMd_isFree_70 (by decide) ?_
        refine jj_goto 75 dMd_isFree_71 (by decide) ?_
        exact k75 true ⟨fun _ => ⟨(hv.mp (b2i_t q1)).1, fun p hp b'' hb'' => by
          by_cases hpi : p = i
          · subst hpi
            rw [(isSome_iff hS hi6).mp q2] at hb''; cases hb''
          · exact (hv.mp (b2i_t q1)).2 p (by omega) b'' hb''⟩, fun _ => rfl⟩
      · obtain ⟨b', hb'⟩ : ∃ b', Zb σ i = some b' := by
          cases hx : Zb σ i with
          | none => exact absurd ((isSome_iff hS hi6).mpr hx) q2
          | some b => exact ⟨b, rfl⟩
        have h117 := ((hS.2.1 i hi6).2 b' hb').1
        have hbw := hW.2.1 i b' hi6 hb'
        refine jj_il1 dMd_isFree_38 ?_
        refine jj_il2 dMd_isFree_39 ?_
        refine jj_iadd dMd_isFree_40 ?_
        rw [nI_add]
        refine jj_al0 dMd_isFree_41 ?_
        refine mr_get _ dMd_isFree_42 clMd lkMd_50 (s103 _) rfl ?_
        refine jj_il4 dMd_isFree_45 ?_
        refine mr_iald dMd_isFree_47 (s117 _) (hi6) (by decide) ?_
        rw [h117]
        refine jj_icmp_le 70 dMd_isFree_48 (by decide) (fun q3 => ?_) (fun q3 => ?_)
        · refine jj_iconst 1 dMd_isFree_70 (by decide) ?_
          refine jj_goto 75 dMd_isFree_71 (by decide) ?_
          exact k75 true ⟨fun _ => ⟨(hv.mp (b2i_t q1)).1, fun p hp b'' hb'' => by
            by_cases hpi : p = i
            · subst hpi
              cases hb'.symm.trans hb''
              exact Or.inl (le_le rfl q3 (by omega) (by omega))
            · exact (hv.mp (b2i_t q1)).2 p (by omega) b'' hb''⟩, fun _ => rfl⟩
        · refine jj_al0 dMd_isFree_51 ?_
          refine mr_get _ dMd_isFree_52 clMd lkMd_50 (s103 _) rfl ?_
          refine jj_il4 dMd_isFree_55 ?_
          refine mr_iald dMd_isFree_57 (s117 _) (hi6) (by decide) ?_
          rw [h117]
          refine jj_al0 dMd_isFree_58 ?_
          refine mr_get _ dMd_isFree_59 clMd lkMd_7 (s103 _) rfl ?_
          refine jj_il4 dMd_isFree_62 ?_
          refine mr_iald dMd_isFree_64 (s104 _) (hi6) (by decide) ?_
          rw [(hS.1 i hi6).2.2.2.1]
          refine jj_iadd dMd_isFree_65 ?_
          rw [nI_add]
          refine jj_il1 dMd_isFree_66 ?_
          refine jj_icmp_gt 74 dMd_isFree_67 (by decide) (fun q4 => ?_) (fun q4 => ?_)
          · refine jj_iconst 0 dMd_isFree_74 (by decide) ?_
            exact k75 false ⟨fun h => (by cases h), fun h => by
              rcases h.2 i (by omega) b' hb' with h1 | h1
              · exact absurd (nIle h1 (by omega)) q3
              · exact absurd q4 (Int32.not_lt.mpr (nIle h1 (by omega)))⟩
          · refine jj_iconst 1 dMd_isFree_70 (by decide) ?_
            refine jj_goto 75 dMd_isFree_71 (by decide) ?_
            exact k75 true ⟨fun _ => ⟨(hv.mp (b2i_t q1)).1, fun p hp b'' hb'' => by
              by_cases hpi : p = i
              · subst hpi
                cases hb'.symm.trans hb''
                exact Or.inr (le_le rfl (Int32.not_lt.mp q4) (by omega) (by omega))
              · exact (hv.mp (b2i_t q1)).2 p (by omega) b'' hb''⟩, fun _ => rfl⟩
set_option maxRecDepth 100000 in
set_option maxHeartbeats 4000000 in
theorem c_isFree {ω : jw} {d : Nat} {M : Nat → Nat → Int32} {J sl : Nat} {Q : jr → jh → Prop} {σ : Sg} (hS : MS M σ) (hW : Wm σ) {b w : Nat} (hb : b < 32) (hw : 1 ≤ w) (hw8 : w ≤ 8) (ht : fr (tkn σ) b w → Q (.inl (some (.int 1))) (jst ω M J sl)) (hf : ¬ fr (tkn σ) b w → Q (.inl (some (.int 0))) (jst ω M J sl)) : jwp ω d mMd_isFree [.ref (jN ω + 103), .int (nI b), .int (nI w)] (jst ω M J sl) Q := by
  refine jwp_of (by simp [Value.category]) (Nat.le_of_ble_eq_true rfl) (ls := [some (.ref (jN ω + 103)), some (.int (nI b)), some (.int (nI w)), none, none]) rfl ?_
  refine jj_il1 dMd_isFree_0 ?_
  refine jj_il2 dMd_isFree_1 ?_
  refine jj_iadd dMd_isFree_2 ?_
  rw [nI_add]
  refine jj_bipush 32 dMd_isFree_3 (by decide) ?_
  refine jj_icmp_gt 12 dMd_isFree_5 (by decide) (fun q1 => ?_) (fun q1 => ?_)
  · refine jj_iconst 0 dMd_isFree_12 (by decide) ?_
    refine jj_is3 dMd_isFree_13 ?_
    refine jj_iconst 0 dMd_isFree_14 (by decide) ?_
    refine jj_is4 dMd_isFree_15 ?_
    exact c_isFree_l hS hW hb hw hw8 ht hf 6 0 false rfl ⟨fun h => (by cases h), fun h => absurd q1 (Int32.not_lt.mpr (nIle (b := 32) h.1 (by decide)))⟩
  · refine jj_iconst 1 dMd_isFree_8 (by decide) ?_
    refine jj_goto 13 dMd_isFree_9 (by decide) ?_
    refine jj_is3 dMd_isFree_13 ?_
    refine jj_iconst 0 dMd_isFree_14 (by decide) ?_
    refine jj_is4 dMd_isFree_15 ?_
    exact c_isFree_l hS hW hb hw hw8 ht hf 6 0 true rfl ⟨fun _ => ⟨le_le (b := 32) rfl (Int32.not_lt.mp q1) (by omega) (by decide), fun p hp => by omega⟩, fun _ => rfl⟩
