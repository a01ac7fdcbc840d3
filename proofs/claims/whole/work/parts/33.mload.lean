def W0 (σ : Sg) : Prop := (∀ a, a < 32 → tkn σ a = false → Zw σ a = 0) ∧ (∀ p, p < 6 → Zb σ p = none → ∀ q, q < 6 → Zu σ p q = false)
def Lf (M M' : Nat → Nat → Int32) : Prop := Lo M M' ∧ ∀ i, M' 103 i = M 103 i
theorem Lf.refl (M : Nat → Nat → Int32) : Lf M M := ⟨Lo.refl M, fun _ => rfl⟩
theorem Lf.trans {M M1 M2 : Nat → Nat → Int32} (h1 : Lf M M1) (h2 : Lf M1 M2) : Lf M M2 := ⟨h1.1.trans h2.1, fun i => (h2.2 i).trans (h1.2 i)⟩
def grp (M : Nat → Nat → Int32) (p q : Nat) : Nat → Nat → Int32 := fun k i => if k = 118 ∧ 6 * p ≤ i ∧ i < 6 * p + q then M 125 (i - 6 * p) else if k = 120 ∧ 6 * p ≤ i ∧ i < 6 * p + q then 0 else M k i
theorem grp_0 (M : Nat → Nat → Int32) (p : Nat) : grp M p 0 = M := by
  funext k i
  unfold grp
  rw [if_neg (by omega), if_neg (by omega)]
theorem grp_s (M : Nat → Nat → Int32) (p q : Nat) : mup (mup (grp M p q) 118 (6 * p + q) (M 125 q)) 120 (6 * p + q) 0 = grp M p (q + 1) := by
  funext k i
  unfold mup grp
  by_cases h1 : k = 120 ∧ i = 6 * p + q
  · rw [if_pos h1, if_neg (by omega), if_pos (by omega)]
  · rw [if_neg h1]
    by_cases h2 : k = 118 ∧ i = 6 * p + q
    · rw [if_pos h2, if_pos (by omega)]
      congr 1
      omega
    · rw [if_neg h2]
      by_cases h3 : k = 118 ∧ 6 * p ≤ i ∧ i < 6 * p + q
      · rw [if_pos h3, if_pos (by omega)]
      · rw [if_neg h3]
        by_cases h4 : k = 120 ∧ 6 * p ≤ i ∧ i < 6 * p + q
        · rw [if_pos h4, if_neg (by omega), if_pos (by omega)]
        · rw [if_neg h4, if_neg (by omega), if_neg (by omega)]
theorem grp_125 (M : Nat → Nat → Int32) (p q i : Nat) : grp M p q 125 i = M 125 i := by
  unfold grp
  rw [if_neg (by omega), if_neg (by omega)]
def zer (M : Nat → Nat → Int32) (b w : Nat) : Nat → Nat → Int32 := fun k i => if k = 124 ∧ b ≤ i ∧ i < w then 0 else M k i
theorem zer_0 (M : Nat → Nat → Int32) (b : Nat) : zer M b b = M := by
  funext k i
  unfold zer
  rw [if_neg (by omega)]
theorem zer_s (M : Nat → Nat → Int32) (b w : Nat) (h : b ≤ w) : mup (zer M b w) 124 w 0 = zer M b (w + 1) := by
  funext k i
  unfold mup zer
  by_cases h1 : k = 124 ∧ i = w
  · rw [if_pos h1, if_pos (by omega)]
  · rw [if_neg h1]
    by_cases h3 : k = 124 ∧ b ≤ i ∧ i < w
    · rw [if_pos h3, if_pos (by omega)]
    · rw [if_neg h3, if_neg (by omega)]
def ldM (M : Nat → Nat → Int32) (p b w n : Nat) : Nat → Nat → Int32 := zer (grp (mup (mup (mup (mup M 117 p (nI b)) 116 p 1) 126 p 1) 119 p (nI n)) p 6) b (b + w)
theorem ldM_ne {M : Nat → Nat → Int32} {p b w n k i : Nat} (h1 : k ≠ 124 ∨ i < b ∨ b + w ≤ i) (h2 : (k ≠ 118 ∧ k ≠ 120) ∨ i < 6 * p ∨ 6 * p + 6 ≤ i) (h3 : (k ≠ 117 ∧ k ≠ 116 ∧ k ≠ 126 ∧ k ≠ 119) ∨ i ≠ p) : ldM M p b w n k i = M k i := by
  unfold ldM zer grp
  rw [if_neg (by omega), if_neg (by omega), if_neg (by omega), mup_ne _ _ (by omega), mup_ne _ _ (by omega), mup_ne _ _ (by omega), mup_ne _ _ (by omega)]
theorem ldM_z {M : Nat → Nat → Int32} {p b w n i : Nat} (h1 : b ≤ i) (h2 : i < b + w) : ldM M p b w n 124 i = 0 := by
  unfold ldM zer
  rw [if_pos ⟨rfl, h1, h2⟩]
theorem ldM_g {M : Nat → Nat → Int32} {p b w n i : Nat} (h1 : i < 6) : ldM M p b w n 118 (6 * p + i) = M 125 i := by
  unfold ldM zer grp
  rw [if_neg (by omega), if_pos (by omega), mup_ne _ _ (by omega), mup_ne _ _ (by omega), mup_ne _ _ (by omega), mup_ne _ _ (by omega)]
  congr 1
  omega
theorem ldM_u {M : Nat → Nat → Int32} {p b w n i : Nat} (h1 : i < 6) : ldM M p b w n 120 (6 * p + i) = 0 := by
  unfold ldM zer grp
  rw [if_neg (by omega), if_neg (by omega), if_pos (by omega)]
theorem ldM_p {M : Nat → Nat → Int32} {p b w n k : Nat} (h : k = 116 ∨ k = 117 ∨ k = 119 ∨ k = 126) : ldM M p b w n k p = mup (mup (mup (mup M 117 p (nI b)) 116 p 1) 126 p 1) 119 p (nI n) k p := by
  unfold ldM zer grp
  rw [if_neg (by omega), if_neg (by omega), if_neg (by omega)]
theorem MS_load {M : Nat → Nat → Int32} {σ : Sg} {p b : Nat} {l : List Nat} (hS : MS M σ) (hp : p < 6) (hb : Zb σ p = none) (hfr : fr (tkn σ) b (Zs σ p)) (hW0 : W0 σ) (hC : ClIs M l) : MS (ldM M p b (Zs σ p) l.length) (zLoad σ p b l) := by
  obtain ⟨c1, c2, c3, c4, c5, c6, c7, c8⟩ := hS
  have hE : ∀ k i, (k < 116 ∨ 120 < k) → k ≠ 124 → k ≠ 126 → ldM M p b (Zs σ p) l.length k i = M k i := fun k i a a2 a3 => ldM_ne (by omega) (by omega) (by omega)
  refine ⟨fun r hr => (c1 r hr).eqs (fun k i a b => hE _ _ (by omega) (by omega) (by omega)) rfl rfl rfl rfl, fun r hr => ?_, fun r hr => by rw [hE _ _ (by omega) (by omega) (by omega)]; exact c3 r hr, c4.eqs (fun i => hE _ _ (by omega) (by omega) (by omega)) rfl rfl, c5.eqs (hE _ _ (by omega) (by omega) (by omega)) (fun i => hE _ _ (by omega) (by omega) (by omega)), fun a ha ht => ?_, c7.eqs (hE _ _ (by omega) (by omega) (by omega)) (fun i => hE _ _ (by omega) (by omega) (by omega)), by rw [hE _ _ (by omega) (by omega) (by omega)]; exact c8⟩
  · by_cases hrp : r = p
    · subst hrp
      have eb : Zb (zLoad σ r b l) r = some b := va_up_self _ _ _
      have eg : Zg (zLoad σ r b l) r = l := va_up_self _ _ _
      unfold MLd
      rw [eb, eg]
      refine ⟨?_, fun b' hb' => ?_⟩
      · rw [ldM_p (by omega), mup_ne _ _ (by omega), mup_ne _ _ (by omega), mup_at]; rfl
      · cases hb'
        refine ⟨?_, ?_, hC.2.1, fun i q hq => ?_, fun q hq => ?_⟩
        · rw [ldM_p (by omega), mup_ne _ _ (by omega), mup_ne _ _ (by omega), mup_ne _ _ (by omega), mup_at]
        · rw [ldM_p (by omega), mup_at]
        · have := getl hq
          have := hC.2.1
          rw [ldM_g (by omega)]; exact hC.2.2 i q hq
        · rw [ldM_u hq]
          show _ = b2i (Zu σ r q)
          rw [hW0.2 r hr hb q hq]; rfl
    · have eb : Zb (zLoad σ p b l) r = Zb σ r := va_up_ne _ _ hrp
      have eg : Zg (zLoad σ p b l) r = Zg σ r := va_up_ne _ _ hrp
      obtain ⟨g1, g2⟩ := c2 r hr
      unfold MLd
      rw [eb, eg]
      refine ⟨by rw [ldM_ne (by omega) (by omega) (by omega)]; exact g1, fun b' hb' => ?_⟩
      obtain ⟨f1, f2, f3, f4, f5⟩ := g2 b' hb'
      exact ⟨by rw [ldM_ne (by omega) (by omega) (by omega)]; exact f1, by rw [ldM_ne (by omega) (by omega) (by omega)]; exact f2, f3, fun i q hq => by have := getl hq; rw [ldM_ne (by omega) (by omega) (by omega)]; exact f4 i q hq, fun q hq => by rw [ldM_ne (by omega) (by omega) (by omega)]; exact f5 q hq⟩
  · by_cases hr : b ≤ a ∧ a < b + Zs σ p
    · rw [ldM_z hr.1 hr.2]
      exact (hW0.1 a ha (hfr.2 a hr.1 hr.2)).symm
    · rw [ldM_ne (by omega) (by omega) (by omega)]
      refine c6 a ha ?_
      rw [tkn_load hp hb] at ht
      rw [Bool.or_eq_true] at ht
      refine ht.resolve_right (fun h => hr ?_)
      rw [Bool.and_eq_true, decide_eq_true_eq, decide_eq_true_eq] at h
      exact h
theorem W0.load {σ : Sg} (h : W0 σ) {p b : Nat} {l : List Nat} (hp : p < 6) (hb : Zb σ p = none) : W0 (zLoad σ p b l) := by
  refine ⟨fun a ha ht => h.1 a ha ?_, fun q hq hqb => h.2 q hq ?_⟩
  · rw [tkn_load hp hb] at ht
    rw [Bool.or_eq_false_iff] at ht
    exact ht.1
  · have hqb2 : va_up (Zb σ) p (some b) q = none := hqb
    by_cases hqp : q = p
    · rw [hqp, va_up_self] at hqb2; cases hqb2
    · rw [va_up_ne _ _ hqp] at hqb2; exact hqb2
set_option maxRecDepth 100000 in
set_option maxHeartbeats 4000000 in
theorem c_base_l {ω : jw} {d : Nat} {M : Nat → Nat → Int32} {J sl : Nat} {Q : jr → jh → Prop} {σ : Sg} (hS : MS M σ) (hW : Wm σ) {p j : Nat} (hp : p < 6) (hw : 1 ≤ Zs σ p) (c4 : Option Value)
    (ht : ∀ b, b < 32 → fr (tkn σ) b (Zs σ p) → (∀ b', b' < b → ¬ fr (tkn σ) b' (Zs σ p)) → jj ω (d + 1) mMd_loadAll 54 [some (.ref (jN ω + 103)), some (.int (nI j)), some (.int (nI p)), some (.int (nI b)), c4] [] (jst ω M J sl) Q)
    (hf : (∀ b, ¬ fr (tkn σ) b (Zs σ p)) → jj ω (d + 1) mMd_loadAll 54 [some (.ref (jN ω + 103)), some (.int (nI j)), some (.int (nI p)), some (.int (nI 32)), c4] [] (jst ω M J sl) Q) :
    ∀ (n i : Nat), n + i = 32 → (∀ b', b' < i → ¬ fr (tkn σ) b' (Zs σ p)) → jj ω (d + 1) mMd_loadAll 28 [some (.ref (jN ω + 103)), some (.int (nI j)), some (.int (nI p)), some (.int (nI i)), c4] [] (jst ω M J sl) Q := by
  have hz8 := hW.1 p hp
  intro n
  induction n with
  | zero =>
    intro i hn hno
    have hi : i = 32 := by omega
    subst hi
    refine jj_il3 dMd_loadAll_28 ?_
    refine jj_bipush 32 dMd_loadAll_29 (by decide) ?_
    refine jj_icmp_ge 54 dMd_loadAll_31 (by decide) (fun q1 => ?_) (fun q1 => absurd q1 (by decide))
    exact hf (fun b hb => hno b (by have := hb.1; omega) hb)
  | succ n ih =>
    intro i hn hno
    have hi : i < 32 := by omega
    refine jj_il3 dMd_loadAll_28 ?_
    refine jj_bipush 32 dMd_loadAll_29 (by decide) ?_
    refine jj_icmp_ge 54 dMd_loadAll_31 (by decide) (fun q1 => absurd q1 (fun h => by have := le_le (a := 32) rfl h (by decide) (by omega); omega)) (fun q1 => ?_)
    refine jj_al0 dMd_loadAll_34 ?_
    refine jj_il3 dMd_loadAll_35 ?_
    refine jj_al0 dMd_loadAll_36 ?_
    refine mr_get _ dMd_loadAll_37 clMd lkMd_7 (s103 _) rfl ?_
    refine jj_il2 dMd_loadAll_40 ?_
    refine mr_iald dMd_loadAll_41 (s104 _) (hp) (by decide) ?_
    rw [(hS.1 p hp).2.2.2.1]
    refine mv2 dMd_loadAll_42 clMd cvMd_149 (s103 _) (Nat.le_of_ble_eq_true rfl) ?_
    refine c_isFree hS hW hi hw hz8 (fun hfr => jk_i ?_) (fun hfr => jk_i ?_)
    · refine jj_if_ne 54 dMd_loadAll_45 (by decide) (fun _ => ?_) (fun h => absurd h (by decide))
      exact ht i hi hfr hno
    · refine jj_if_ne 54 dMd_loadAll_45 (by decide) (fun h => absurd h (by decide)) (fun _ => ?_)
      refine jj_ii3 (nI (i + 1)) dMd_loadAll_48 (inc1 i) ?_
      refine jj_goto 28 dMd_loadAll_51 (by decide) ?_
      exact ih (i + 1) (by omega) (fun b hb => by by_cases hbi : b = i; rw [hbi]; exact hfr; exact hno b (by omega))
set_option maxRecDepth 100000 in
set_option maxHeartbeats 4000000 in
theorem c_grp_l {ω : jw} {d : Nat} {J sl : Nat} {Q : jr → jh → Prop} {M : Nat → Nat → Int32} {p b j : Nat} (hp : p < 6) (hk : jj ω d mMd_loadAll 141 [some (.ref (jN ω + 103)), some (.int (nI j)), some (.int (nI p)), some (.int (nI b)), some (.int (nI 6))] [] (jst ω (grp M p 6) J sl) Q) :
    ∀ (n q : Nat), n + q = 6 → jj ω d mMd_loadAll 96 [some (.ref (jN ω + 103)), some (.int (nI j)), some (.int (nI p)), some (.int (nI b)), some (.int (nI q))] [] (jst ω (grp M p q) J sl) Q := by
  intro n
  induction n with
  | zero =>
    intro q hn
    have hi : q = 6 := by omega
    subst hi
    refine jj_il4 dMd_loadAll_96 ?_
    refine jj_bipush 6 dMd_loadAll_98 (by decide) ?_
    refine jj_icmp_ge 141 dMd_loadAll_100 (by decide) (fun q1 => ?_) (fun q1 => absurd q1 (by decide))
    exact hk
  | succ n ih =>
    intro q hn
    have hi : q < 6 := by omega
    refine jj_il4 dMd_loadAll_96 ?_
    refine jj_bipush 6 dMd_loadAll_98 (by decide) ?_
    refine jj_icmp_ge 141 dMd_loadAll_100 (by decide) (fun q1 => absurd q1 (fun h => by have := le_le (a := 6) rfl h (by decide) (by omega); omega)) (fun q1 => ?_)
    refine jj_al0 dMd_loadAll_103 ?_
    refine mr_get _ dMd_loadAll_104 clMd lkMd_53 (s103 _) rfl ?_
    refine jj_bipush 6 dMd_loadAll_107 (by decide) ?_
    refine jj_il2 dMd_loadAll_109 ?_
    refine jj_imul dMd_loadAll_110 ?_
    rw [show (6 : Int32) * nI p = nI (6 * p) from nI_mul 6 p]
    refine jj_il4 dMd_loadAll_111 ?_
    refine jj_iadd dMd_loadAll_113 ?_
    rw [nI_add]
    refine jj_al0 dMd_loadAll_114 ?_
    refine mr_get _ dMd_loadAll_115 clMd lkMd_74 (s103 _) rfl ?_
    refine jj_il4 dMd_loadAll_118 ?_
    refine mr_iald dMd_loadAll_120 (s125 _) (hi) (by decide) ?_
    rw [grp_125]
    refine mr_iast dMd_loadAll_121 (s118) (by omega) (by decide) ?_
    refine jj_al0 dMd_loadAll_122 ?_
    refine mr_get _ dMd_loadAll_123 clMd lkMd_59 (s103 _) rfl ?_
    refine jj_bipush 6 dMd_loadAll_126 (by decide) ?_
    refine jj_il2 dMd_loadAll_128 ?_
    refine jj_imul dMd_loadAll_129 ?_
    rw [show (6 : Int32) * nI p = nI (6 * p) from nI_mul 6 p]
    refine jj_il4 dMd_loadAll_130 ?_
    refine jj_iadd dMd_loadAll_132 ?_
    rw [nI_add]
    refine jj_iconst 0 dMd_loadAll_133 (by decide) ?_
    refine mr_zast dMd_loadAll_134 (s120) (Or.inl rfl) (by omega) (by decide) ?_
    rw [grp_s]
    refine jj_ii4 (nI (q + 1)) dMd_loadAll_135 (inc1 q) ?_
    refine jj_goto 96 dMd_loadAll_138 (by decide) ?_
    exact ih (q + 1) (by omega)
set_option maxRecDepth 100000 in
set_option maxHeartbeats 4000000 in
theorem c_zer_l {ω : jw} {d : Nat} {J sl : Nat} {Q : jr → jh → Prop} {M : Nat → Nat → Int32} {p b w j : Nat} (hp : p < 6) (hbw : b + w ≤ 32) (h104 : M 104 p = nI w) (hk : ∀ c4, jj ω d mMd_loadAll 171 [some (.ref (jN ω + 103)), some (.int (nI j)), some (.int (nI p)), some (.int (nI b)), c4] [] (jst ω (zer M b (b + w)) J sl) Q) :
    ∀ (n a : Nat), n + a = b + w → b ≤ a → jj ω d mMd_loadAll 144 [some (.ref (jN ω + 103)), some (.int (nI j)), some (.int (nI p)), some (.int (nI b)), some (.int (nI a))] [] (jst ω (zer M b a) J sl) Q := by
  have hz : ∀ a, zer M b a 104 p = nI w := fun a => by unfold zer; rw [if_neg (by omega)]; exact h104
  intro n
  induction n with
  | zero =>
    intro a hn ha
    have hi : a = b + w := by omega
    subst hi
    refine jj_il4 dMd_loadAll_144 ?_
    refine jj_il3 dMd_loadAll_146 ?_
    refine jj_al0 dMd_loadAll_147 ?_
    refine mr_get _ dMd_loadAll_148 clMd lkMd_7 (s103 _) rfl ?_
    refine jj_il2 dMd_loadAll_151 ?_
    refine mr_iald dMd_loadAll_152 (s104 _) (hp) (by decide) ?_
    rw [hz]
    refine jj_iadd dMd_loadAll_153 ?_
    rw [nI_add]
    refine jj_icmp_ge 171 dMd_loadAll_154 (by decide) (fun q1 => ?_) (fun q1 => absurd q1 (fun h => h (Int32.le_refl _)))
    exact hk _
  | succ n ih =>
    intro a hn ha
    refine jj_il4 dMd_loadAll_144 ?_
    refine jj_il3 dMd_loadAll_146 ?_
    refine jj_al0 dMd_loadAll_147 ?_
    refine mr_get _ dMd_loadAll_148 clMd lkMd_7 (s103 _) rfl ?_
    refine jj_il2 dMd_loadAll_151 ?_
    refine mr_iald dMd_loadAll_152 (s104 _) (hp) (by decide) ?_
    rw [hz]
    refine jj_iadd dMd_loadAll_153 ?_
    rw [nI_add]
    refine jj_icmp_ge 171 dMd_loadAll_154 (by decide) (fun q1 => absurd q1 (fun h => by have := le_le rfl h (by omega) (by omega); omega)) (fun q1 => ?_)
    refine jj_al0 dMd_loadAll_157 ?_
    refine mr_get _ dMd_loadAll_158 clMd lkMd_71 (s103 _) rfl ?_
    refine jj_il4 dMd_loadAll_161 ?_
    refine jj_iconst 0 dMd_loadAll_163 (by decide) ?_
    refine mr_iast dMd_loadAll_164 (s124) (by omega) (by decide) ?_
    rw [zer_s _ _ _ ha]
    refine jj_ii4 (nI (a + 1)) dMd_loadAll_165 (inc1 a) ?_
    refine jj_goto 144 dMd_loadAll_168 (by decide) ?_
    exact ih (a + 1) (by omega) (by omega)
set_option maxRecDepth 100000 in
set_option maxHeartbeats 4000000 in
theorem c_loadAll_l {ω : jw} {d : Nat} {J sl : Nat} {Q : jr → jh → Prop} {M0 : Nat → Nat → Int32} {l : List Nat} (hl6 : ∀ p ∈ l, p < 6) :
    ∀ (n i : Nat) (σ : Sg) (nw : List Nat) (M : Nat → Nat → Int32) (c2 c3 c4 : Option Value), l.length - i < n → i ≤ l.length → MS M σ → Wm σ → W0 σ → ClIs M l → (∀ p ∈ l, 1 ≤ Zs σ p) → FrIs M nw → Lf M0 M → (∀ M', MS M' (ldF l (l.drop i) σ nw).2.1 → ClIs M' l → FrIs M' (ldF l (l.drop i) σ nw).2.2 → Lf M0 M' → Q (.inl (some (.int (b2i (ldF l (l.drop i) σ nw).1)))) (jst ω M' J sl)) →
    jj ω (d + 1) mMd_loadAll 2 [some (.ref (jN ω + 103)), some (.int (nI i)), c2, c3, c4] [] (jst ω M J sl) Q := by
  intro n
  induction n with
  | zero => intro i σ nw M c2 c3 c4 hn; omega
  | succ n ih =>
    intro i σ nw M c2 c3 c4 hn hi hS hW hW0 hC hz hF hLf hq
    have hll := hC.2.1
    refine jj_il1 dMd_loadAll_2 ?_
    refine jj_al0 dMd_loadAll_3 ?_
    refine mr_get _ dMd_loadAll_4 clMd lkMd_123 (s103 _) rfl ?_
    rw [hC.1]
    refine jj_icmp_ge 177 dMd_loadAll_7 (by decide) (fun q1 => ?_) (fun q1 => ?_)
    · refine jj_iconst 1 dMd_loadAll_177 (by decide) ?_
      exact jj_iret dMd_loadAll_178 rfl rfl (by rw [List.drop_eq_nil_of_le (le_le rfl q1 (by omega) (by omega))] at hq; exact hq M hS hC hF hLf)
    · have hi2 : i < l.length := nle_lt rfl q1 (by omega) (by omega)
      obtain ⟨p, e1⟩ : ∃ p, l[i]? = some p := ⟨_, List.getElem?_eq_getElem hi2⟩
      have hpm := List.mem_of_getElem? e1
      have e2 : p < 6 := hl6 p hpm
      rw [List.drop_eq_getElem_cons hi2, show l[i] = p from (List.getElem?_eq_some_iff.mp e1).2] at hq
      unfold ldF at hq
      refine jj_al0 dMd_loadAll_10 ?_
      refine mr_get _ dMd_loadAll_11 clMd lkMd_74 (s103 _) rfl ?_
      refine jj_il1 dMd_loadAll_14 ?_
      refine mr_iald dMd_loadAll_15 (s125 _) (by omega) (by decide) ?_
      rw [hC.2.2 i p e1]
      refine jj_is2 dMd_loadAll_16 ?_
      refine jj_al0 dMd_loadAll_17 ?_
      refine mr_get _ dMd_loadAll_18 clMd lkMd_47 (s103 _) rfl ?_
      refine jj_il2 dMd_loadAll_21 ?_
      refine mr_zald dMd_loadAll_22 (s116 _) (e2) (by decide) ?_
      refine jj_if_ne 171 dMd_loadAll_23 (by decide) (fun q2 => ?_) (fun q2 => ?_)
      · refine jj_ii1 (nI (i + 1)) dMd_loadAll_171 (inc1 i) ?_
        refine jj_goto 2 dMd_loadAll_174 (by decide) ?_
        rw [if_neg (fun h => q2 ((isSome_iff hS e2).mpr h))] at hq
        exact ih (i + 1) σ nw M _ _ _ (by omega) (by omega) hS hW hW0 hC hz hF hLf hq
      · refine jj_iconst 0 dMd_loadAll_26 (by decide) ?_
        refine jj_is3 dMd_loadAll_27 ?_
        have hb := (isSome_iff hS e2).mp q2
        rw [if_pos hb] at hq
        have hz8 := hW.1 p e2
        refine c_base_l hS hW e2 (hz p hpm) _ (fun b hb32 hfr hlst => ?_) (fun hno => ?_) 32 0 rfl (fun b' h => by omega)
        · rw [lb_some hfr hlst] at hq
          refine jj_il3 dMd_loadAll_54 ?_
          refine jj_bipush 32 dMd_loadAll_55 (by decide) ?_
          refine jj_icmp_ne 62 dMd_loadAll_57 (by decide) (fun q1 => ?_) (fun q1 => absurd q1 (fun h => by have h2 := (nI_eq (a := b) (b := 32) (by omega) (by decide)).mp h; omega))
          refine jj_al0 dMd_loadAll_62 ?_
          refine mr_get _ dMd_loadAll_63 clMd lkMd_50 (s103 _) rfl ?_
          refine jj_il2 dMd_loadAll_66 ?_
          refine jj_il3 dMd_loadAll_67 ?_
          refine mr_iast dMd_loadAll_68 (s117) (e2) (by decide) ?_
          refine jj_al0 dMd_loadAll_69 ?_
          refine mr_get _ dMd_loadAll_70 clMd lkMd_47 (s103 _) rfl ?_
          refine jj_il2 dMd_loadAll_73 ?_
          refine jj_iconst 1 dMd_loadAll_74 (by decide) ?_
          refine mr_zast dMd_loadAll_75 (s116) (Or.inr rfl) (e2) (by decide) ?_
          refine jj_al0 dMd_loadAll_76 ?_
          refine mr_get _ dMd_loadAll_77 clMd lkMd_77 (s103 _) rfl ?_
          refine jj_il2 dMd_loadAll_80 ?_
          refine jj_iconst 1 dMd_loadAll_81 (by decide) ?_
          refine mr_zast dMd_loadAll_82 (s126) (Or.inr rfl) (e2) (by decide) ?_
          refine jj_al0 dMd_loadAll_83 ?_
          refine mr_get _ dMd_loadAll_84 clMd lkMd_56 (s103 _) rfl ?_
          refine jj_il2 dMd_loadAll_87 ?_
          refine jj_al0 dMd_loadAll_88 ?_
          refine mr_get _ dMd_loadAll_89 clMd lkMd_123 (s103 _) rfl ?_
          rw [mup_ne _ _ (by omega), mup_ne _ _ (by omega), mup_ne _ _ (by omega), hC.1]
          refine mr_iast dMd_loadAll_92 (s119) (e2) (by decide) ?_
          refine jj_iconst 0 dMd_loadAll_93 (by decide) ?_
          refine jj_is4 dMd_loadAll_94 ?_
          have hg := grp_0 (mup (mup (mup (mup M 117 p (nI b)) 116 p 1) 126 p 1) 119 p (nI l.length)) p
          rw [← hg]
          refine c_grp_l e2 ?_ 6 0 rfl
          refine jj_il3 dMd_loadAll_141 ?_
          refine jj_is4 dMd_loadAll_142 ?_
          rw [← zer_0 (grp (mup (mup (mup (mup M 117 p (nI b)) 116 p 1) 126 p 1) 119 p (nI l.length)) p 6) b]
          refine c_zer_l (w := Zs σ p) e2 hfr.1 ?_ (fun c4 => ?_) (Zs σ p) b (by omega) (Nat.le_refl _)
          · unfold grp
            rw [if_neg (by omega), if_neg (by omega), mup_ne _ _ (by omega), mup_ne _ _ (by omega), mup_ne _ _ (by omega), mup_ne _ _ (by omega)]
            exact (hS.1 p e2).2.2.2.1
          refine jj_ii1 (nI (i + 1)) dMd_loadAll_171 (inc1 i) ?_
          refine jj_goto 2 dMd_loadAll_174 (by decide) ?_
          refine ih (i + 1) (zLoad σ p b l) (nw ++ [p]) (ldM M p b (Zs σ p) l.length) _ _ _ (by omega) (by omega) (MS_load hS e2 hb hfr hW0 hC) (hW.load e2 hb (hz p hpm) hfr) (hW0.load e2 hb) ⟨by rw [ldM_ne (by omega) (by omega) (by omega)]; exact hC.1, hC.2.1, fun i q hq => by rw [ldM_ne (by omega) (by omega) (by omega)]; exact hC.2.2 i q hq⟩ hz (fun z hz6 => ?_) (hLf.trans ⟨fun k i h => ldM_ne (by omega) (by omega) (by omega), fun i => ldM_ne (by omega) (by omega) (by omega)⟩) hq
          by_cases hzp : z = p
          · subst hzp
            rw [ldM_p (by omega), mup_ne _ _ (by omega), mup_at, decide_eq_true (by simp)]; rfl
          · rw [ldM_ne (by omega) (by omega) (by omega), hF z hz6]
            congr 1
            simp [hzp]
        · rw [lb_none hno] at hq
          refine jj_il3 dMd_loadAll_54 ?_
          refine jj_bipush 32 dMd_loadAll_55 (by decide) ?_
          refine jj_icmp_ne 62 dMd_loadAll_57 (by decide) (fun q1 => absurd q1 (fun h => h rfl)) (fun q1 => ?_)
          refine jj_iconst 0 dMd_loadAll_60 (by decide) ?_
          exact jj_iret dMd_loadAll_61 rfl rfl (hq M hS hC hF hLf)
set_option maxRecDepth 100000 in
set_option maxHeartbeats 4000000 in
theorem c_loadAll {ω : jw} {d : Nat} {M : Nat → Nat → Int32} {J sl : Nat} {Q : jr → jh → Prop} {σ : Sg} {l nw : List Nat} (hl6 : ∀ p ∈ l, p < 6) (hS : MS M σ) (hW : Wm σ) (hW0 : W0 σ) (hC : ClIs M l) (hz : ∀ p ∈ l, 1 ≤ Zs σ p) (hF : FrIs M []) (hq : ∀ M', MS M' (ldF l l σ []).2.1 → ClIs M' l → FrIs M' (ldF l l σ []).2.2 → Lf M M' → Q (.inl (some (.int (b2i (ldF l l σ []).1)))) (jst ω M' J sl)) : jwp ω (d + 1) mMd_loadAll [.ref (jN ω + 103)] (jst ω M J sl) Q := by
  refine jwp_of (by simp [Value.category]) (Nat.le_of_ble_eq_true rfl) (ls := [some (.ref (jN ω + 103)), none, none, none, none]) rfl ?_
  refine jj_iconst 0 dMd_loadAll_0 (by decide) ?_
  refine jj_is1 dMd_loadAll_1 ?_
  exact c_loadAll_l hl6 (l.length + 1) 0 σ [] M _ _ _ (by omega) (by omega) hS hW hW0 hC hz hF (Lf.refl M) hq
