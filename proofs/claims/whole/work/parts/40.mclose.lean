def tcO : jr → Nat
  | .inl _ => 0
  | .inr 0 => 1
  | .inr (k + 1) => k + 1
def clr (M : Nat → Nat → Int32) (b q : Nat) : Nat → Nat → Int32 := fun k i => if k = 120 ∧ 6 * b ≤ i ∧ i < 6 * b + q then 0 else M k i
theorem clr_0 (M : Nat → Nat → Int32) (b : Nat) : clr M b 0 = M := by
  funext k i
  unfold clr
  rw [if_neg (by omega)]
theorem clr_s (M : Nat → Nat → Int32) (b q : Nat) : mup (clr M b q) 120 (6 * b + q) 0 = clr M b (q + 1) := by
  funext k i
  unfold mup clr
  by_cases h1 : k = 120 ∧ i = 6 * b + q
  · rw [if_pos h1, if_pos (by omega)]
  · rw [if_neg h1]
    by_cases h3 : k = 120 ∧ 6 * b ≤ i ∧ i < 6 * b + q
    · rw [if_pos h3, if_pos (by omega)]
    · rw [if_neg h3, if_neg (by omega)]
theorem clr_ne {M : Nat → Nat → Int32} {b q k i : Nat} (h : k ≠ 120 ∨ i < 6 * b ∨ 6 * b + q ≤ i) : clr M b q k i = M k i := by
  unfold clr
  rw [if_neg (by omega)]
theorem MS_end {M M' : Nat → Nat → Int32} {σ : Sg} {b : Nat} {G : List Nat} (h : MS M (zGl σ G)) (hb : b < 6) (hAp : Apart σ) (hE : ∀ k i, k ≠ 131 → (k ≠ 103 ∨ i ≠ 31) → (k ≠ 116 ∨ i ≠ b) → (k ≠ 120 ∨ i < 6 * b ∨ 6 * b + 6 ≤ i) → M' k i = M k i) (h116 : M' 116 b = 0) (hV : MEv M' (Ev σ ++ [-1 - nI b])) : MS M' (zGl (zEnd σ b) G) := by
  obtain ⟨c1, c2, c3, c4, c5, c6, c7, c8⟩ := h
  refine ⟨fun r hr => (c1 r hr).eqs (fun k i a b => hE _ _ (by omega) (by omega) (by omega) (by omega)) rfl rfl rfl rfl, fun r hr => ?_, fun r hr => by rw [hE _ _ (by omega) (by omega) (by omega) (by omega)]; exact c3 r hr, ?_, c5.eqs (hE _ _ (by omega) (by omega) (by omega) (by omega)) (fun i => hE _ _ (by omega) (by omega) (by omega) (by omega)), fun a ha ht => ?_, hV, by rw [hE _ _ (by omega) (by omega) (by omega) (by omega)]; exact c8⟩
  · by_cases hrb : r = b
    · subst hrb
      have e : Zb (zGl (zEnd σ r) G) r = none := va_up_self _ _ _
      unfold MLd
      rw [e]
      exact ⟨h116, fun b hb => by cases hb⟩
    · have e : Zb (zGl (zEnd σ b) G) r = Zb σ r := va_up_ne _ _ hrb
      have eu : Zu (zGl (zEnd σ b) G) r = Zu σ r := va_up_ne _ _ hrb
      obtain ⟨g1, g2⟩ := c2 r hr
      unfold MLd
      rw [e, eu]
      refine ⟨by rw [hE _ _ (by omega) (by omega) (by omega) (by omega)]; exact g1, fun b' hb' => ?_⟩
      obtain ⟨f1, f2, f3, f4, f5⟩ := g2 b' hb'
      exact ⟨by rw [hE _ _ (by omega) (by omega) (by omega) (by omega)]; exact f1, by rw [hE _ _ (by omega) (by omega) (by omega) (by omega)]; exact f2, f3, fun i q hq => by rw [hE _ _ (by omega) (by omega) (by omega) (by omega)]; exact f4 i q hq, fun q hq => by rw [hE _ _ (by omega) (by omega) (by omega) (by omega)]; exact f5 q hq⟩
  · obtain ⟨bn, b1, b2⟩ := c4
    refine ⟨bn, fun z hz => ?_, b2.sublist List.filter_sublist⟩
    have hz2 := b1 z (List.mem_filter.mp hz).1
    show _ ∧ _ < (Ev σ ++ [-1 - nI b]).length
    rw [hE _ _ (by omega) (by omega) (by omega) (by omega), List.length_append]
    have h2 : bn z < (Ev σ).length := hz2.2
    exact ⟨hz2.1, by omega⟩
  · have ht2 : tkn (zOut σ b) a = true := ht
    rw [tkn_out hAp hb, Bool.and_eq_true] at ht2
    rw [hE _ _ (by omega) (by omega) (by omega) (by omega)]
    show _ = if inIm (zBj σ _ _) a b = true then 0 else Zw σ a
    have hin : inIm (zBj σ ((Bg σ).filter (fun z => decide (z ≠ b))) (Ev σ ++ [-1 - nI b])) a b = inIm σ a b := rfl
    rw [hin, if_neg (by intro h; rw [h] at ht2; cases ht2.2)]
    exact c6 a ha ht2.1
theorem enF_kept {K : Nat → Bool} : ∀ {r : List Nat} {σ : Sg}, (∀ p ∈ r, K p = true) → enF K r σ = σ ∧ (r.filter (fun p => !K p)) = [] := by
  intro r
  induction r with
  | nil => intro σ _; exact ⟨rfl, rfl⟩
  | cons p t ih =>
    intro σ h
    have hp := h p List.mem_cons_self
    obtain ⟨i1, i2⟩ := ih (σ := σ) (fun z hz => h z (List.mem_cons_of_mem _ hz))
    refine ⟨by rw [enF, if_pos hp]; exact i1, by rw [List.filter_cons_of_neg (by simp [hp])]; exact i2⟩
theorem enF_app {K : Nat → Bool} (t : List Nat) : ∀ {r : List Nat} {σ : Sg}, (∀ p ∈ r, K p = true) → enF K (r ++ t) σ = enF K t σ ∧ ((r ++ t).filter (fun p => !K p)) = t.filter (fun p => !K p) := by
  intro r
  induction r with
  | nil => intro σ _; exact ⟨rfl, rfl⟩
  | cons p r ih =>
    intro σ h
    have hp := h p List.mem_cons_self
    obtain ⟨i1, i2⟩ := ih (σ := σ) (fun z hz => h z (List.mem_cons_of_mem _ hz))
    refine ⟨by rw [List.cons_append, enF, if_pos hp]; exact i1, by rw [List.cons_append, List.filter_cons_of_neg (by simp [hp])]; exact i2⟩
set_option maxRecDepth 100000 in
set_option maxHeartbeats 4000000 in
theorem c_clr_l {ω : jw} {d : Nat} {J sl : Nat} {Q : jr → jh → Prop} {M : Nat → Nat → Int32} {b c : Nat} (hb : b < 6) (c1 c5 : Option Value) (hk : jj ω d mMd_close 109 [some (.ref (jN ω + 103)), c1, some (.int (nI c)), some (.int (nI b)), some (.int (nI 6)), c5] [] (jst ω (clr M b 6) J sl) Q) :
    ∀ (n q : Nat), n + q = 6 → jj ω d mMd_close 83 [some (.ref (jN ω + 103)), c1, some (.int (nI c)), some (.int (nI b)), some (.int (nI q)), c5] [] (jst ω (clr M b q) J sl) Q := by
  intro n
  induction n with
  | zero =>
    intro q hn
    have hi : q = 6 := by omega
    subst hi
    refine jj_il4 dMd_close_83 ?_
    refine jj_bipush 6 dMd_close_85 (by decide) ?_
    refine jj_icmp_ge 109 dMd_close_87 (by decide) (fun q1 => ?_) (fun q1 => absurd q1 (by decide))
    exact hk
  | succ n ih =>
    intro q hn
    have hi : q < 6 := by omega
    refine jj_il4 dMd_close_83 ?_
    refine jj_bipush 6 dMd_close_85 (by decide) ?_
    refine jj_icmp_ge 109 dMd_close_87 (by decide) (fun q1 => absurd q1 (fun h => by have := le_le (a := 6) rfl h (by decide) (by omega); omega)) (fun q1 => ?_)
    refine jj_al0 dMd_close_90 ?_
    refine mr_get _ dMd_close_91 clMd lkMd_59 (s103 _) rfl ?_
    refine jj_bipush 6 dMd_close_94 (by decide) ?_
    refine jj_il3 dMd_close_96 ?_
    refine jj_imul dMd_close_97 ?_
    rw [show (6 : Int32) * nI b = nI (6 * b) from nI_mul 6 b]
    refine jj_il4 dMd_close_98 ?_
    refine jj_iadd dMd_close_100 ?_
    rw [nI_add]
    refine jj_iconst 0 dMd_close_101 (by decide) ?_
    refine mr_zast dMd_close_102 (s120) (Or.inl rfl) (by omega) (by decide) ?_
    rw [clr_s]
    refine jj_ii4 (nI (q + 1)) dMd_close_103 (inc1 q) ?_
    refine jj_goto 83 dMd_close_106 (by decide) ?_
    exact ih (q + 1) (by omega)
set_option maxRecDepth 100000 in
set_option maxHeartbeats 4000000 in
theorem c_close_l {ω : jw} {d : Nat} {J sl : Nat} {Q : jr → jh → Prop} {K : Nat → Bool} {G : List Nat} (c1 : Option Value) :
    ∀ (n : Nat) (r : List Nat) (σ : Sg) (rest : List Nat) (c : Nat) (M : Nat → Nat → Int32) (v : Int32) (bn : Nat → Nat) (c4 c5 : Option Value), r.length < n → MS M (zGl σ G) → KpIs M K → Wm σ → Bg σ = r.reverse ++ rest → (Bg σ).Nodup → (∀ p ∈ rest, K p = true) → (∀ p, p < 6 → (p ∈ Bg σ ↔ ¬ Zb σ p = none)) → (∀ p ∈ Bg σ, p < 6) → (Ev σ).length + r.length < 2 ^ 30 →
      (∀ p ∈ Bg σ, M 122 p = nI (bn p) ∧ bn p < (Ev σ).length) → (Bg σ).Pairwise (fun p q => bn p < bn q) → bestIs σ K bn 6 v →
      (∀ M' v' c4' c5', MS M' (zGl (enF K r σ) G) → Lo M M' → M' 103 0 = M 103 0 → jj ω (d + 1) mMd_close 117 [some (.ref (jN ω + 103)), c1, some (.int (nI (c + (r.filter (fun p => !K p)).length))), some (.int v'), c4', c5'] [] (jst ω M' J sl) Q) →
      jj ω (d + 1) mMd_close 59 [some (.ref (jN ω + 103)), c1, some (.int (nI c)), some (.int v), c4, c5] [] (jst ω M J sl) Q := by
  intro n
  induction n with
  | zero => intro r σ rest c M v bn c4 c5 hn; omega
  | succ n ih =>
    intro r σ rest c M v bn c4 c5 hn hS hK hW hB hnd hrest hBz hB6 hEv hbn hpw hbest hk
    rcases hbest with ⟨rfl, hno⟩ | ⟨b, hb6, rfl, hbC, hbmax⟩
    · have hall : ∀ p ∈ r, K p = true := fun p hp => by
        have hpB : p ∈ Bg σ := by rw [hB]; exact List.mem_append.mpr (Or.inl (List.mem_reverse.mpr hp))
        cases hKp : K p with
        | true => rfl
        | false => exact absurd ⟨(hBz p (hB6 p hpB)).mp hpB, hKp⟩ (hno p (hB6 p hpB))
      obtain ⟨e1, e2⟩ := enF_kept (σ := σ) hall
      rw [e1, e2] at hk
      refine jj_il3 dMd_close_59 ?_
      refine jj_if_lt 117 dMd_close_60 (by decide) (fun q1 => ?_) (fun q1 => absurd q1 (by decide))
      exact hk M _ _ _ hS (Lo.refl M) rfl
    · have hbB : b ∈ Bg σ := (hBz b hb6).mpr hbC.1
      have hbr : b ∈ r := by
        rw [hB] at hbB
        rcases List.mem_append.mp hbB with h | h
        · exact List.mem_reverse.mp h
        · have := hrest b h; rw [hbC.2] at this; cases this
      obtain ⟨r1, r2, rfl⟩ := List.append_of_mem hbr
      have hB2 : Bg σ = r2.reverse ++ b :: (r1.reverse ++ rest) := by rw [hB]; simp
      have hr1 : ∀ p ∈ r1, K p = true := fun p hp => by
        have hpB : p ∈ Bg σ := by rw [hB2]; simp [hp]
        cases hKp : K p with
        | true => rfl
        | false =>
          have h1 := hbmax p (hB6 p hpB) ⟨(hBz p (hB6 p hpB)).mp hpB, hKp⟩
          rw [hB2, List.pairwise_append, List.pairwise_cons] at hpw
          have h2 := hpw.2.1.1 p (by simp [hp])
          omega
      obtain ⟨e1, e2⟩ := enF_app (K := K) (b :: r2) (σ := σ) hr1
      rw [e1, e2, enF, if_neg (by rw [hbC.2]; decide), List.filter_cons_of_pos (by simp [hbC.2])] at hk
      have hBf : (Bg σ).filter (fun z => decide (z ≠ b)) = r2.reverse ++ (r1.reverse ++ rest) := by rw [hB2] at hnd ⊢; exact filt_mid hnd
      simp only [List.length_append, List.length_cons] at hn hEv hk
      refine jj_il3 dMd_close_59 ?_
      refine jj_if_lt 117 dMd_close_60 (by decide) (fun q1 => absurd q1 (nI_nn b (by omega))) (fun q1 => ?_)
      refine jj_al0 dMd_close_63 ?_
      refine jj_iconst (-1) dMd_close_64 (by decide) ?_
      refine jj_il3 dMd_close_65 ?_
      refine jj_isub dMd_close_66 ?_
      refine mv1 dMd_close_67 clMd cvMd_159 (s103 _) (Nat.le_of_ble_eq_true rfl) ?_
      refine c_mnote hS.2.2.2.2.2.2.1 (by show (Ev σ).length < 2 ^ 30; omega) (-1 - nI b) (fun M1 hO1 hV1 => jk_v ?_)
      refine jj_ii2 (nI (c + 1)) dMd_close_70 (inc1 c) ?_
      refine jj_al0 dMd_close_73 ?_
      refine mr_get _ dMd_close_74 clMd lkMd_47 (s103 _) rfl ?_
      refine jj_il3 dMd_close_77 ?_
      refine jj_iconst 0 dMd_close_78 (by decide) ?_
      refine mr_zast dMd_close_79 (s116) (Or.inl rfl) (hb6) (by decide) ?_
      refine jj_iconst 0 dMd_close_80 (by decide) ?_
      refine jj_is4 dMd_close_81 ?_
      rw [show (0 : Int32) = nI 0 from rfl]
      have hcl0 := clr_0 (mup M1 116 b (nI 0)) b
      rw [← hcl0]
      refine c_clr_l hb6 _ _ ?_ 6 0 rfl
      have hE2 : ∀ k i, k ≠ 131 → (k ≠ 103 ∨ i ≠ 31) → (k ≠ 116 ∨ i ≠ b) → (k ≠ 120 ∨ i < 6 * b ∨ 6 * b + 6 ≤ i) → clr (mup M1 116 b (nI 0)) b 6 k i = M k i := fun k i a1 a2 a3 a4 => by rw [clr_ne a4, mup_ne _ _ a3, hO1 _ _ a1 a2]
      have hS2 : MS (clr (mup M1 116 b (nI 0)) b 6) (zGl (zEnd σ b) G) := MS_end hS hb6 hW.2.2.1 hE2 (by rw [clr_ne (by omega), mup_at]; rfl) (hV1.eqs (by rw [clr_ne (by omega), mup_ne _ _ (by omega)]) (fun i => by rw [clr_ne (by omega), mup_ne _ _ (by omega)]))
      have hW2 : Wm (zEnd σ b) := Wm.out (σ := zBj σ ((Bg σ).filter (fun z => decide (z ≠ b))) (Ev σ ++ [-1 - nI b])) hW b
      have hZ2 : ∀ p, p ≠ b → Zb (zEnd σ b) p = Zb σ p := fun p hp => va_up_ne _ _ hp
      have hZb : Zb (zEnd σ b) b = none := va_up_self _ _ _
      have hBz2 : ∀ p, p < 6 → (p ∈ Bg (zEnd σ b) ↔ ¬ Zb (zEnd σ b) p = none) := fun p hp => by
        show p ∈ (Bg σ).filter (fun z => decide (z ≠ b)) ↔ _
        rw [List.mem_filter, decide_eq_true_eq]
        by_cases hpb : p = b
        · subst hpb
          rw [hZb]
          simp
        · rw [hZ2 p hpb, ← hBz p hp]
          simp [hpb]
      have hB62 : ∀ p ∈ Bg (zEnd σ b), p < 6 := fun p hp => hB6 p (List.mem_filter.mp hp).1
      have hbn2 : ∀ p ∈ Bg (zEnd σ b), clr (mup M1 116 b (nI 0)) b 6 122 p = nI (bn p) ∧ bn p < (Ev σ).length := fun p hp => by
        rw [hE2 _ _ (by omega) (by omega) (by omega) (by omega)]
        exact hbn p (List.mem_filter.mp hp).1
      have hpw2 : (Bg (zEnd σ b)).Pairwise (fun p q => bn p < bn q) := hpw.sublist List.filter_sublist
      have hK2 : KpIs (clr (mup M1 116 b (nI 0)) b 6) K := fun p hp => by rw [hE2 _ _ (by omega) (by omega) (by omega) (by omega)]; exact hK p hp
      have hL2 : Lo M (clr (mup M1 116 b (nI 0)) b 6) := fun k i h => hE2 _ _ (by omega) (by omega) (by omega) (by omega)
      have hT2 : clr (mup M1 116 b (nI 0)) b 6 103 0 = M 103 0 := hE2 _ _ (by omega) (by omega) (by omega) (by omega)
      generalize clr (mup M1 116 b (nI 0)) b 6 = M2 at hS2 hbn2 hK2 hL2 hT2 ⊢
      refine jj_al0 dMd_close_109 ?_
      refine mv0 dMd_close_110 clMd cvMd_186 (s103 _) (Nat.le_of_ble_eq_true rfl) ?_
      have hcont : ∀ v, bestIs (zEnd σ b) K bn 6 v → jj ω (d + 1) mMd_close (110 + 3) [some (.ref (jN ω + 103)), c1, some (.int (nI (c + 1))), some (.int (nI b)), some (.int (nI 6)), c5] [.int v] (jst ω M2 J sl) Q := by
        intro v hv
        refine jj_is3 dMd_close_113 ?_
        refine jj_goto 59 dMd_close_114 (by decide) ?_
        refine ih r2 (zEnd σ b) (r1.reverse ++ rest) (c + 1) M2 v bn _ _ (by omega) hS2 hK2 hW2 hBf (hnd.filter _) (fun p hp => ?_) hBz2 hB62 (by show (Ev σ ++ [-1 - nI b]).length + r2.length < 2 ^ 30; rw [List.length_append]; simp only [List.length_cons, List.length_nil]; omega) (fun p hp => ⟨(hbn2 p hp).1, by show bn p < (Ev σ ++ [-1 - nI b]).length; rw [List.length_append]; have := (hbn2 p hp).2; omega⟩) hpw2 hv (fun M3 v3 c4' c5' a1 a2 a3 => ?_)
        · rcases List.mem_append.mp hp with h | h
          · exact hr1 p (List.mem_reverse.mp h)
          · exact hrest p h
        · have := hk M3 v3 c4' c5' a1 (hL2.trans a2) (a3.trans hT2)
          rw [show c + 1 + (r2.filter (fun p => !K p)).length = c + ((r2.filter (fun p => !K p)).length + 1) by omega]
          exact this
      refine c_latest (σ := zEnd σ b) (K := K) (bn := bn) (fun p hp => (hS2.2.1 p hp).1) hK2 (fun p hp hz => ⟨(hbn2 p ((hBz2 p hp).mpr hz)).1, by have := (hbn2 p ((hBz2 p hp).mpr hz)).2; omega⟩) (fun z h1 h2 h3 => hcont _ (Or.inr ⟨z, h1, rfl, h2, h3⟩)) (fun h => hcont _ (Or.inl ⟨rfl, h⟩))
