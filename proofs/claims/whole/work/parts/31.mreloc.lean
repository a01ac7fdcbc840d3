def RvOk (σ : Sg) : Prop := Wm σ ∧ (∀ p, p < 6 → ((Zy σ p).map (·.1)).Nodup) ∧ (∀ p, p < 6 → ∀ q ∈ Zg σ p, q < 6) ∧ (∀ q ∈ Gl σ, q < 6 ∧ ¬ Zb σ q = none)
theorem Sm.rv {σ σ' : Sg} (h : Sm σ σ') (hR : RvOk σ) : RvOk σ' := by obtain ⟨u, w, s, rfl⟩ := h; exact hR
def Kq (M M' : Nat → Nat → Int32) : Prop := Lo M M' ∧ (∀ k i, 125 ≤ k → k ≤ 130 → M' k i = M k i) ∧ (∀ i, i ≠ 32 → i ≠ 33 → M' 103 i = M 103 i)
theorem Kq.refl (M : Nat → Nat → Int32) : Kq M M := ⟨Lo.refl M, fun _ _ _ _ => rfl, fun _ _ _ => rfl⟩
theorem Kq.trans {M M1 M2 : Nat → Nat → Int32} (h1 : Kq M M1) (h2 : Kq M1 M2) : Kq M M2 := ⟨h1.1.trans h2.1, fun k i a b => (h2.2.1 k i a b).trans (h1.2.1 k i a b), fun i a b => (h2.2.2 i a b).trans (h1.2.2 i a b)⟩
theorem St32.kq {M M' : Nat → Nat → Int32} (h : St32 M M') : Kq M M' := ⟨fun k i a => h k i (by omega), fun k i a b => h k i (by omega), fun i a b => h _ _ (by omega)⟩
theorem Kq.up {M M1 : Nat → Nat → Int32} (h : Kq M M1) {k i : Nat} (v : Int32) (hk : 104 ≤ k ∧ (k ≤ 124 ∨ k = 131)) : Kq M (mup M1 k i v) := ⟨h.1.up _ (by omega), fun k' j a b => by rw [mup_ne _ _ (by omega)]; exact h.2.1 k' j a b, fun j a b => by rw [mup_ne _ _ (by omega)]; exact h.2.2 j a b⟩
theorem MS_use {M : Nat → Nat → Int32} {σ : Sg} {p q : Nat} (h : MS M σ) (hp : p < 6) (hq : q < 6) : MS (mup M 120 (6 * p + q) 1) (zUse σ p q) := by
  obtain ⟨c1, c2, c3, c4, c5, c6, c7, c8⟩ := h
  have hE : ∀ k i, k ≠ 120 → mup M 120 (6 * p + q) 1 k i = M k i := fun k i a => mup_ne _ _ (Or.inl a)
  refine ⟨fun r hr => (c1 r hr).eqs (fun k i a b => hE _ _ (by omega)) rfl rfl rfl rfl, fun r hr => ?_, fun r hr => by rw [hE _ _ (by omega)]; exact c3 r hr, c4.eqs (fun i => hE _ _ (by omega)) rfl rfl, c5.eqs (hE _ _ (by omega)) (fun i => hE _ _ (by omega)), c6.eqs (fun i => hE _ _ (by omega)) (fun a h => h) rfl, c7.eqs (hE _ _ (by omega)) (fun i => hE _ _ (by omega)), by rw [hE _ _ (by omega)]; exact c8⟩
  obtain ⟨g1, g2⟩ := c2 r hr
  refine ⟨by rw [hE _ _ (by omega)]; exact g1, fun b hb => ?_⟩
  obtain ⟨f1, f2, f3, f4, f5⟩ := g2 b hb
  refine ⟨by rw [hE _ _ (by omega)]; exact f1, by rw [hE _ _ (by omega)]; exact f2, f3, fun i z hz => by rw [hE _ _ (by omega)]; exact f4 i z hz, fun z hz => ?_⟩
  show _ = b2i (va_up (Zu σ) p (va_up (Zu σ p) q true) r z)
  by_cases hrp : r = p
  · subst hrp
    rw [va_up_self]
    by_cases hzq : z = q
    · subst hzq
      rw [va_up_self, mup_at]; rfl
    · rw [va_up_ne _ _ hzq, mup_ne _ _ (by omega)]
      exact f5 z hz
  · rw [va_up_ne _ _ hrp, mup_ne _ _ (by omega)]
    exact f5 z hz
theorem MS_wd {M : Nat → Nat → Int32} {σ : Sg} {a : Nat} {v : Int32} (h : MS M σ) : MS (mup M 124 a v) (zWd σ a v) := by
  obtain ⟨c1, c2, c3, c4, c5, c6, c7, c8⟩ := h
  have hE : ∀ k i, k ≠ 124 → mup M 124 a v k i = M k i := fun k i a => mup_ne _ _ (Or.inl a)
  refine ⟨fun r hr => (c1 r hr).eqs (fun k i a b => hE _ _ (by omega)) rfl rfl rfl rfl, fun r hr => (c2 r hr).eqs (fun k i a b => hE _ _ (by omega)) rfl rfl rfl, fun r hr => by rw [hE _ _ (by omega)]; exact c3 r hr, c4.eqs (fun i => hE _ _ (by omega)) rfl rfl, c5.eqs (hE _ _ (by omega)) (fun i => hE _ _ (by omega)), fun z hz ht => ?_, c7.eqs (hE _ _ (by omega)) (fun i => hE _ _ (by omega)), by rw [hE _ _ (by omega)]; exact c8⟩
  show _ = va_up (Zw σ) a v z
  by_cases hza : z = a
  · subst hza
    rw [mup_at, va_up_self]
  · rw [mup_ne _ _ (Or.inr hza), va_up_ne _ _ hza]
    exact c6 z hz ht
theorem rsF_adF (σ : Sg) (p : Nat) (y : Sym) {q : Nat} (h : (luF σ p y.1 (Sp σ)).1 = some q) : rsF σ p y = (adF σ y.1 (some q), if q = p then zSt σ (luF σ p y.1 (Sp σ)).2 else zUse (zSt σ (luF σ p y.1 (Sp σ)).2) p q) := by
  unfold rsF
  rw [h]
  rfl
theorem rsF_nn {σ : Sg} (hR : RvOk σ) {p : Nat} (hp : p < 6) (y : Sym) : (rsF σ p y).1 < 0 ↔ (rsF σ p y).1 = -1 := by
  cases hx : (luF σ p y.1 (Sp σ)).1 with
  | none =>
    have h : (rsF σ p y).1 = if y.2.2 = true then 0 else -1 := by unfold rsF; rw [hx]
    rw [h]
    split <;> decide
  | some q =>
    have h : (rsF σ p y).1 = adF σ y.1 (some q) := by rw [rsF_adF σ p y hx]
    rw [h]
    obtain ⟨h1, h2, h3⟩ := luF_lt hx
    have hq6 : q < 6 := h1.elim (fun g => (hR.2.2.2 q g).1) (hR.2.2.1 p hp q)
    have hnn := adF_nn hR.1 hq6 h2 h3
    exact ⟨fun g => absurd g hnn, fun g => absurd (by rw [g]; decide) hnn⟩
set_option maxRecDepth 100000 in
set_option maxHeartbeats 4000000 in
theorem c_mresolve {ω : jw} {d : Nat} {M : Nat → Nat → Int32} {J sl : Nat} {Q : jr → jh → Prop} {σ : Sg} (hS : MS M σ) (hR : RvOk σ) {p r b s : Nat} (hp : p < 6) (hb : Zb σ p = some b) {y : Rel} (hr : (Zr σ p)[r]? = some y) (hs : s < (Zy σ p).length) (hse : y.2.2.1 = nI s) (hq : ∀ M', Kq M M' → MS M' (rsF σ p (syAt σ p y)).2 → Q (.inl (some (.int (rsF σ p (syAt σ p y)).1))) (jst ω M' J sl)) : jwp ω (d + 3) mMd_resolve [.ref (jN ω + 103), .int (nI p), .int (nI r)] (jst ω M J sl) Q := by
  obtain ⟨_, hl6, hr6, _, _, _, h110, hY, h115, hRl⟩ := hS.1 p hp
  have hrl := getl hr
  obtain ⟨_, _, g3, _⟩ := hRl r y hr
  have hy := syAt_get hs hse hl6
  generalize syAt σ p y = sy at hq hy
  obtain ⟨f1, f2, f3⟩ := hY s sy hy
  refine jwp_of (by simp [Value.category]) (Nat.le_of_ble_eq_true rfl) (ls := [some (.ref (jN ω + 103)), some (.int (nI p)), some (.int (nI r)), none, none]) rfl ?_
  refine jj_bipush 6 dMd_resolve_0 (by decide) ?_
  refine jj_il1 dMd_resolve_2 ?_
  refine jj_imul dMd_resolve_3 ?_
  rw [show (6 : Int32) * nI p = nI (6 * p) from nI_mul 6 p]
  refine jj_al0 dMd_resolve_4 ?_
  refine mr_get _ dMd_resolve_5 clMd lkMd_38 (s103 _) rfl ?_
  refine jj_bipush 6 dMd_resolve_8 (by decide) ?_
  refine jj_il1 dMd_resolve_10 ?_
  refine jj_imul dMd_resolve_11 ?_
  rw [show (6 : Int32) * nI p = nI (6 * p) from nI_mul 6 p]
  refine jj_il2 dMd_resolve_12 ?_
  refine jj_iadd dMd_resolve_13 ?_
  rw [nI_add]
  refine mr_iald dMd_resolve_14 (s113 _) (by omega) (by decide) ?_
  rw [g3, hse]
  refine jj_iadd dMd_resolve_15 ?_
  rw [nI_add]
  refine jj_is3 dMd_resolve_16 ?_
  refine jj_al0 dMd_resolve_17 ?_
  refine jj_il1 dMd_resolve_18 ?_
  refine jj_al0 dMd_resolve_19 ?_
  refine mr_get _ dMd_resolve_20 clMd lkMd_19 (s103 _) rfl ?_
  refine jj_il3 dMd_resolve_23 ?_
  refine mr_iald dMd_resolve_24 (s107 _) (by omega) (by decide) ?_
  rw [f1]
  refine mv2 dMd_resolve_25 clMd cvMd_143 (s103 _) (Nat.le_of_ble_eq_true rfl) ?_
  refine c_mlookUp hS hR.1 hR.2.1 hp hb (hR.2.2.1 p hp) hR.2.2.2 sy.1 (fun M1 hO1 h32 h33 => jk_i ?_)
  have hS1 : MS M1 (zSt σ (luF σ p sy.1 (Sp σ)).2) := MS_st hS hO1 h32
  refine jj_is4 dMd_resolve_28 ?_
  cases hlu : (luF σ p sy.1 (Sp σ)).1 with
  | none =>
    have hrs : rsF σ p sy = (if sy.2.2 = true then 0 else -1, zSt σ (luF σ p sy.1 (Sp σ)).2) := by unfold rsF; rw [hlu]
    rw [hrs] at hq
    refine jj_il4 dMd_resolve_30 ?_
    refine jj_if_ge 50 dMd_resolve_32 (by decide) (fun h => absurd h (show ¬ (0 : Int32) ≤ -1 by decide)) (fun _ => ?_)
    refine jj_al0 dMd_resolve_35 ?_
    refine mr_get _ dMd_resolve_36 clMd lkMd_25 (s103 _) rfl ?_
    refine jj_il3 dMd_resolve_39 ?_
    refine mr_zald dMd_resolve_40 (s109 _) (by omega) (by decide) ?_
    rw [hO1 _ _ (by omega), f3]
    refine jj_if_eq 48 dMd_resolve_41 (by decide) (fun q2 => ?_) (fun q2 => ?_)
    · refine jj_iconst (-1) dMd_resolve_48 (by decide) ?_
      exact jj_iret dMd_resolve_49 rfl rfl (by rw [if_neg (by rw [b2i_f q2]; decide)] at hq; exact hq M1 hO1.kq hS1)
    · refine jj_iconst 0 dMd_resolve_44 (by decide) ?_
      refine jj_goto 49 dMd_resolve_45 (by decide) ?_
      exact jj_iret dMd_resolve_49 rfl rfl (by rw [if_pos (b2i_t q2)] at hq; exact hq M1 hO1.kq hS1)
  | some q =>
    obtain ⟨h1, h2, h3⟩ := luF_lt hlu
    have hq6 : q < 6 := h1.elim (fun g => (hR.2.2.2 q g).1) (hR.2.2.1 p hp q)
    rw [rsF_adF σ p sy hlu] at hq
    refine jj_il4 dMd_resolve_30 ?_
    refine jj_if_ge 50 dMd_resolve_32 (by decide) (fun q1 => ?_) (fun q1 => absurd q1 (fun h => adF_nn hR.1 hq6 h2 h3 (Int32.not_le.mp h)))
    refine jj_al0 dMd_resolve_50 ?_
    refine mr_get _ dMd_resolve_51 clMd lkMd_140 (s103 _) rfl ?_
    rw [h33 q hlu]
    refine jj_il1 dMd_resolve_54 ?_
    refine jj_icmp_eq 73 dMd_resolve_55 (by decide) (fun q3 => ?_) (fun q3 => ?_)
    · refine jj_il4 dMd_resolve_73 ?_
      exact jj_iret dMd_resolve_75 rfl rfl (by rw [if_pos ((nI6 hq6 hp).mp q3)] at hq; exact hq M1 hO1.kq hS1)
    · refine jj_al0 dMd_resolve_58 ?_
      refine mr_get _ dMd_resolve_59 clMd lkMd_59 (s103 _) rfl ?_
      refine jj_bipush 6 dMd_resolve_62 (by decide) ?_
      refine jj_il1 dMd_resolve_64 ?_
      
      refine jj_imul dMd_resolve_65 ?_
      rw [show (6 : Int32) * nI p = nI (6 * p) from nI_mul 6 p]
      refine jj_al0 dMd_resolve_66 ?_
      refine mr_get _ dMd_resolve_67 clMd lkMd_140 (s103 _) rfl ?_
      rw [h33 q hlu]
      refine jj_iadd dMd_resolve_70 ?_
      rw [nI_add]
      refine jj_iconst 1 dMd_resolve_71 (by decide) ?_
      refine mr_zast dMd_resolve_72 (s120) (by exact Or.inr rfl) (by omega) (by decide) ?_
      refine jj_il4 dMd_resolve_73 ?_
      exact jj_iret dMd_resolve_75 rfl rfl (by rw [if_neg (fun h => q3 (by rw [h]))] at hq; exact hq _ (hO1.kq.up _ (by omega)) (MS_use hS1 hp hq6))
set_option maxRecDepth 100000 in
set_option maxHeartbeats 4000000 in
theorem c_mrelocate {ω : jw} {d : Nat} {M : Nat → Nat → Int32} {J sl : Nat} {Q : jr → jh → Prop} {σ : Sg} (hS : MS M σ) (hR : RvOk σ) {p r b : Nat} (hp : p < 6) (hb : Zb σ p = some b) {y : Rel} (hr : (Zr σ p)[r]? = some y) (lz : Bool) (hq : ∀ M', Kq M M' → MS M' (drF σ p r lz).2 → Q (.inl (some (.int (b2i (drF σ p r lz).1)))) (jst ω M' J sl)) : jwp ω (d + 4) mMd_relocate [.ref (jN ω + 103), .int (nI p), .int (nI r), .int (b2i lz)] (jst ω M J sl) Q := by
  obtain ⟨_, hl6, hr6, _, _, _, h110, hY, h115, hRl⟩ := hS.1 p hp
  have hrl := getl hr
  obtain ⟨g1, g2, g3, g4⟩ := hRl r y hr
  have h117 := ((hS.2.1 p hp).2 b hb).1
  have hW := hR.1
  obtain ⟨⟨w, hw, hwe⟩, hk⟩ := hW.2.2.2.1 p hp y (List.mem_of_getElem? hr)
  have hw8 := hW.1 p hp
  have hbw := (hW.2.1 p b hp hb).1
  rw [drF_eq hb hr] at hq
  unfold drG at hq
  rw [hwe, iN_nI (by omega)] at hq
  refine jwp_of (by simp [Value.category]) (Nat.le_of_ble_eq_true rfl) (ls := [some (.ref (jN ω + 103)), some (.int (nI p)), some (.int (nI r)), some (.int (b2i lz)), none, none, none]) rfl ?_
  refine jj_bipush 6 dMd_relocate_0 (by decide) ?_
  refine jj_il1 dMd_relocate_2 ?_
  refine jj_imul dMd_relocate_3 ?_
  rw [show (6 : Int32) * nI p = nI (6 * p) from nI_mul 6 p]
  refine jj_il2 dMd_relocate_4 ?_
  refine jj_iadd dMd_relocate_5 ?_
  rw [nI_add]
  refine jj_is4 dMd_relocate_6 ?_
  refine jj_al0 dMd_relocate_8 ?_
  refine mr_get _ dMd_relocate_9 clMd lkMd_50 (s103 _) rfl ?_
  refine jj_il1 dMd_relocate_12 ?_
  refine mr_iald dMd_relocate_13 (s117 _) (hp) (by decide) ?_
  rw [h117]
  refine jj_al0 dMd_relocate_14 ?_
  refine mr_get _ dMd_relocate_15 clMd lkMd_35 (s103 _) rfl ?_
  refine jj_il4 dMd_relocate_18 ?_
  refine mr_iald dMd_relocate_20 (s112 _) (by omega) (by decide) ?_
  rw [g2, hwe]
  refine jj_iadd dMd_relocate_21 ?_
  rw [nI_add]
  refine jj_is5 dMd_relocate_22 ?_
  refine jj_al0 dMd_relocate_24 ?_
  refine mr_get _ dMd_relocate_25 clMd lkMd_32 (s103 _) rfl ?_
  refine jj_il4 dMd_relocate_28 ?_
  refine mr_iald dMd_relocate_30 (s111 _) (by omega) (by decide) ?_
  rw [g1]
  refine jj_if_ne 57 dMd_relocate_31 (by decide) (fun q1 => ?_) (fun q1 => ?_)
  · rw [if_neg q1] at hq
    refine jj_al0 dMd_relocate_57 ?_
    refine mr_get _ dMd_relocate_58 clMd lkMd_32 (s103 _) rfl ?_
    refine jj_il4 dMd_relocate_61 ?_
    refine mr_iald dMd_relocate_63 (s111 _) (by omega) (by decide) ?_
    rw [g1]
    refine jj_iconst 2 dMd_relocate_64 (by decide) ?_
    refine jj_icmp_ne 84 dMd_relocate_65 (by decide) (fun q2 => ?_) (fun q2 => ?_)
    · rw [if_neg (fun h => q2 h.1)] at hq
      obtain ⟨_, s, hs, hse⟩ := hk.resolve_left q1
      have hnn := rsF_nn hR hp (syAt σ p y)
      refine jj_al0 dMd_relocate_84 ?_
      refine jj_il1 dMd_relocate_85 ?_
      refine jj_il2 dMd_relocate_86 ?_
      refine mv2 dMd_relocate_87 clMd cvMd_146 (s103 _) (Nat.le_of_ble_eq_true rfl) ?_
      refine c_mresolve hS hR hp hb hr hs hse (fun M1 hO1 hC1 => jk_i ?_)
      refine jj_is6 dMd_relocate_90 ?_
      refine jj_il6 dMd_relocate_92 ?_
      refine jj_if_ge 99 dMd_relocate_94 (by decide) (fun q4 => ?_) (fun q4 => ?_)
      · rw [if_neg (fun h => Int32.not_lt.mpr q4 (hnn.mpr h))] at hq
        obtain ⟨k1, _, k3, k4⟩ := (hC1.1 p hp).2.2.2.2.2.2.2.2.2 r y (by rw [rsF_Zr]; exact hr)
        refine jj_al0 dMd_relocate_99 ?_
        refine mr_get _ dMd_relocate_100 clMd lkMd_71 (s103 _) rfl ?_
        refine jj_il5 dMd_relocate_103 ?_
        refine jj_al0 dMd_relocate_105 ?_
        refine mr_get _ dMd_relocate_106 clMd lkMd_32 (s103 _) rfl ?_
        refine jj_il4 dMd_relocate_109 ?_
        refine mr_iald dMd_relocate_111 (s111 _) (by omega) (by decide) ?_
        rw [k1]
        refine jj_iconst 1 dMd_relocate_112 (by decide) ?_
        refine jj_icmp_ne 129 dMd_relocate_113 (by decide) (fun q5 => ?_) (fun q5 => ?_)
        · rw [if_neg q5] at hq
          refine jj_il6 dMd_relocate_129 ?_
          refine mr_iast dMd_relocate_131 (s124) (by omega) (by decide) ?_
          refine jj_iconst 1 dMd_relocate_132 (by decide) ?_
          exact jj_iret dMd_relocate_133 rfl rfl (hq _ (hO1.up _ (by omega)) (MS_wd hC1))
        · rw [if_pos q5] at hq
          refine jj_il6 dMd_relocate_116 ?_
          refine jj_al0 dMd_relocate_118 ?_
          refine mr_get _ dMd_relocate_119 clMd lkMd_41 (s103 _) rfl ?_
          refine jj_il4 dMd_relocate_122 ?_
          refine mr_iald dMd_relocate_124 (s114 _) (by omega) (by decide) ?_
          rw [k4]
          refine jj_iadd dMd_relocate_125 ?_
          refine jj_goto 131 dMd_relocate_126 (by decide) ?_
          refine mr_iast dMd_relocate_131 (s124) (by omega) (by decide) ?_
          refine jj_iconst 1 dMd_relocate_132 (by decide) ?_
          exact jj_iret dMd_relocate_133 rfl rfl (hq _ (hO1.up _ (by omega)) (MS_wd hC1))
      · refine jj_iconst 0 dMd_relocate_97 (by decide) ?_
        exact jj_iret dMd_relocate_98 rfl rfl (by rw [if_pos (hnn.mp (Int32.not_le.mp q4))] at hq; exact hq M1 hO1 hC1)
    · refine jj_il3 dMd_relocate_68 ?_
      refine jj_if_eq 84 dMd_relocate_69 (by decide) (fun q3 => ?_) (fun q3 => ?_)
      · have hlz : lz = false := b2i_f q3
        rw [if_neg (fun h => by rw [hlz] at h; cases h.2)] at hq
        obtain ⟨_, s, hs, hse⟩ := hk.resolve_left q1
        have hnn := rsF_nn hR hp (syAt σ p y)
        refine jj_al0 dMd_relocate_84 ?_
        refine jj_il1 dMd_relocate_85 ?_
        refine jj_il2 dMd_relocate_86 ?_
        refine mv2 dMd_relocate_87 clMd cvMd_146 (s103 _) (Nat.le_of_ble_eq_true rfl) ?_
        refine c_mresolve hS hR hp hb hr hs hse (fun M1 hO1 hC1 => jk_i ?_)
        refine jj_is6 dMd_relocate_90 ?_
        refine jj_il6 dMd_relocate_92 ?_
        refine jj_if_ge 99 dMd_relocate_94 (by decide) (fun q4 => ?_) (fun q4 => ?_)
        · rw [if_neg (fun h => Int32.not_lt.mpr q4 (hnn.mpr h))] at hq
          obtain ⟨k1, _, k3, k4⟩ := (hC1.1 p hp).2.2.2.2.2.2.2.2.2 r y (by rw [rsF_Zr]; exact hr)
          refine jj_al0 dMd_relocate_99 ?_
          refine mr_get _ dMd_relocate_100 clMd lkMd_71 (s103 _) rfl ?_
          refine jj_il5 dMd_relocate_103 ?_
          refine jj_al0 dMd_relocate_105 ?_
          refine mr_get _ dMd_relocate_106 clMd lkMd_32 (s103 _) rfl ?_
          refine jj_il4 dMd_relocate_109 ?_
          refine mr_iald dMd_relocate_111 (s111 _) (by omega) (by decide) ?_
          rw [k1]
          refine jj_iconst 1 dMd_relocate_112 (by decide) ?_
          refine jj_icmp_ne 129 dMd_relocate_113 (by decide) (fun q5 => ?_) (fun q5 => ?_)
          · rw [if_neg q5] at hq
            refine jj_il6 dMd_relocate_129 ?_
            refine mr_iast dMd_relocate_131 (s124) (by omega) (by decide) ?_
            refine jj_iconst 1 dMd_relocate_132 (by decide) ?_
            exact jj_iret dMd_relocate_133 rfl rfl (hq _ (hO1.up _ (by omega)) (MS_wd hC1))
          · rw [if_pos q5] at hq
            refine jj_il6 dMd_relocate_116 ?_
            refine jj_al0 dMd_relocate_118 ?_
            refine mr_get _ dMd_relocate_119 clMd lkMd_41 (s103 _) rfl ?_
            refine jj_il4 dMd_relocate_122 ?_
            refine mr_iald dMd_relocate_124 (s114 _) (by omega) (by decide) ?_
            rw [k4]
            refine jj_iadd dMd_relocate_125 ?_
            refine jj_goto 131 dMd_relocate_126 (by decide) ?_
            refine mr_iast dMd_relocate_131 (s124) (by omega) (by decide) ?_
            refine jj_iconst 1 dMd_relocate_132 (by decide) ?_
            exact jj_iret dMd_relocate_133 rfl rfl (hq _ (hO1.up _ (by omega)) (MS_wd hC1))
        · refine jj_iconst 0 dMd_relocate_97 (by decide) ?_
          exact jj_iret dMd_relocate_98 rfl rfl (by rw [if_pos (hnn.mp (Int32.not_le.mp q4))] at hq; exact hq M1 hO1 hC1)
      · have hlz : lz = true := b2i_t q3
        rw [if_pos ⟨q2, hlz⟩] at hq
        refine jj_al0 dMd_relocate_72 ?_
        refine mr_get _ dMd_relocate_73 clMd lkMd_71 (s103 _) rfl ?_
        refine jj_il5 dMd_relocate_76 ?_
        refine jj_iconst (-1) dMd_relocate_78 (by decide) ?_
        refine jj_il2 dMd_relocate_79 ?_
        refine jj_isub dMd_relocate_80 ?_
        refine mr_iast dMd_relocate_81 (s124) (by omega) (by decide) ?_
        refine jj_iconst 1 dMd_relocate_82 (by decide) ?_
        exact jj_iret dMd_relocate_83 rfl rfl (hq _ ((Kq.refl M).up _ (by omega)) (MS_wd hS))
  · refine jj_al0 dMd_relocate_34 ?_
    refine mr_get _ dMd_relocate_35 clMd lkMd_71 (s103 _) rfl ?_
    refine jj_il5 dMd_relocate_38 ?_
    refine jj_al0 dMd_relocate_40 ?_
    refine mr_get _ dMd_relocate_41 clMd lkMd_50 (s103 _) rfl ?_
    refine jj_il1 dMd_relocate_44 ?_
    refine mr_iald dMd_relocate_45 (s117 _) (hp) (by decide) ?_
    rw [h117]
    refine jj_al0 dMd_relocate_46 ?_
    refine mr_get _ dMd_relocate_47 clMd lkMd_41 (s103 _) rfl ?_
    refine jj_il4 dMd_relocate_50 ?_
    refine mr_iald dMd_relocate_52 (s114 _) (by omega) (by decide) ?_
    rw [g4]
    refine jj_iadd dMd_relocate_53 ?_
    refine mr_iast dMd_relocate_54 (s124) (by omega) (by decide) ?_
    refine jj_iconst 1 dMd_relocate_55 (by decide) ?_
    exact jj_iret dMd_relocate_56 rfl rfl (by rw [if_pos q1] at hq; exact hq _ ((Kq.refl M).up _ (by omega)) (MS_wd hS))
def FrIs (M : Nat → Nat → Int32) (nw : List Nat) : Prop := ∀ p, p < 6 → M 126 p = b2i (decide (p ∈ nw))
def ClIs (M : Nat → Nat → Int32) (l : List Nat) : Prop := M 103 24 = nI l.length ∧ l.length ≤ 6 ∧ ∀ i q, l[i]? = some q → M 125 i = nI q
theorem Kq.fr {M M' : Nat → Nat → Int32} (h : Kq M M') {nw : List Nat} (hF : FrIs M nw) : FrIs M' nw := fun p hp => by rw [h.2.1 _ _ (by omega) (by omega)]; exact hF p hp
theorem Kq.cl {M M' : Nat → Nat → Int32} (h : Kq M M') {l : List Nat} (hF : ClIs M l) : ClIs M' l := ⟨by rw [h.2.2 _ (by omega) (by omega)]; exact hF.1, hF.2.1, fun i q hq => by rw [h.2.1 _ _ (by omega) (by omega)]; exact hF.2.2 i q hq⟩
theorem b2id {p : Prop} [Decidable p] (h : b2i (decide p) = 0) : ¬ p := of_decide_eq_false (b2i_f h)
theorem b2it {p : Prop} [Decidable p] (h : ¬ b2i (decide p) = 0) : p := of_decide_eq_true (b2i_t h)
set_option maxRecDepth 100000 in
set_option maxHeartbeats 4000000 in
theorem c_mreloc_in {ω : jw} {d : Nat} {J sl : Nat} {Q : jr → jh → Prop} {M0 : Nat → Nat → Int32} (lz : Bool) {p b cnt : Nat} {nw : List Nat} (hp : p < 6) (hpn : p ∈ nw) (c6 : cnt ≤ 6) (c2 : Option Value) :
    ∀ (n r : Nat) (σ : Sg) (M : Nat → Nat → Int32), n + r = cnt → MS M σ → RvOk σ → Zb σ p = some b → (Zr σ p).length = cnt → FrIs M0 nw → Kq M0 M → (∀ M', (rrF lz p n r σ).1 = true → MS M' (rrF lz p n r σ).2 → Kq M0 M' → jj ω (d + 5) mMd_relocateAll 59 [some (.ref (jN ω + 103)), some (.int (b2i lz)), c2, some (.int (nI p)), some (.int (nI cnt))] [] (jst ω M' J sl) Q) → (∀ M', (rrF lz p n r σ).1 = false → MS M' (rrF lz p n r σ).2 → Kq M0 M' → Q (.inl (some (.int 0))) (jst ω M' J sl)) →
    jj ω (d + 5) mMd_relocateAll 20 [some (.ref (jN ω + 103)), some (.int (b2i lz)), c2, some (.int (nI p)), some (.int (nI r))] [] (jst ω M J sl) Q := by
  intro n
  induction n with
  | zero =>
    intro r σ M hn hC hW hb hL hF hK hk hf
    have hrc : r = cnt := by omega
    subst hrc
    refine jj_il4 dMd_relocateAll_20 ?_
    refine jj_al0 dMd_relocateAll_22 ?_
    refine mr_get _ dMd_relocateAll_23 clMd lkMd_44 (s103 _) rfl ?_
    refine jj_il3 dMd_relocateAll_26 ?_
    refine mr_iald dMd_relocateAll_27 (s115 _) (hp) (by decide) ?_
    rw [(hC.1 p hp).2.2.2.2.2.2.2.2.1, hL]
    refine jj_icmp_ge 59 dMd_relocateAll_28 (by decide) (fun q1 => ?_) (fun q1 => absurd q1 (fun h => h (Int32.le_refl _)))
    exact hk M rfl hC hK
  | succ n ih =>
    intro r σ M hn hC hW hb hL hF hK hk hf
    have hrl : r < (Zr σ p).length := by omega
    have hr : (Zr σ p)[r]? = some ((Zr σ p)[r]'hrl) := List.getElem?_eq_getElem hrl
    unfold rrF at hk hf
    refine jj_il4 dMd_relocateAll_20 ?_
    refine jj_al0 dMd_relocateAll_22 ?_
    refine mr_get _ dMd_relocateAll_23 clMd lkMd_44 (s103 _) rfl ?_
    refine jj_il3 dMd_relocateAll_26 ?_
    refine mr_iald dMd_relocateAll_27 (s115 _) (hp) (by decide) ?_
    rw [(hC.1 p hp).2.2.2.2.2.2.2.2.1, hL]
    refine jj_icmp_ge 59 dMd_relocateAll_28 (by decide) (fun q1 => absurd q1 (fun h => by have := le_le rfl h (by omega) (by omega); omega)) (fun q1 => ?_)
    refine jj_al0 dMd_relocateAll_31 ?_
    refine mr_get _ dMd_relocateAll_32 clMd lkMd_77 (s103 _) rfl ?_
    refine jj_il3 dMd_relocateAll_35 ?_
    refine mr_zald dMd_relocateAll_36 (s126 _) (hp) (by decide) ?_
    rw [hK.fr hF p hp, decide_eq_true hpn]
    refine jj_if_eq 59 dMd_relocateAll_37 (by decide) (fun q2 => absurd q2 (by decide)) (fun q2 => ?_)
    refine jj_al0 dMd_relocateAll_40 ?_
    refine jj_il3 dMd_relocateAll_41 ?_
    refine jj_il4 dMd_relocateAll_42 ?_
    refine jj_il1 dMd_relocateAll_44 ?_
    refine mv3 dMd_relocateAll_45 clMd cvMd_152 (s103 _) (Nat.le_of_ble_eq_true rfl) ?_
    refine c_mrelocate hC hW hp hb hr lz (fun M1 hK1 hC1 => jk_i ?_)
    refine jj_if_ne 53 dMd_relocateAll_48 (by decide) (fun q2 => ?_) (fun q2 => ?_)
    · refine jj_ii4 (nI (r + 1)) dMd_relocateAll_53 (inc1 r) ?_
      refine jj_goto 20 dMd_relocateAll_56 (by decide) ?_
      have ht := b2i_t q2
      rw [if_pos ht] at hk hf
      exact ih (r + 1) _ M1 (by omega) hC1 ((drF_sm σ p r lz).rv hW) (by rw [(drF_sm σ p r lz).zb]; exact hb) (by rw [(drF_sm σ p r lz).zr]; exact hL) hF (hK.trans hK1) hk hf
    · refine jj_iconst 0 dMd_relocateAll_51 (by decide) ?_
      exact jj_iret dMd_relocateAll_52 rfl rfl (by rw [if_neg (by rw [b2i_f q2]; decide)] at hf; exact hf M1 rfl hC1 (hK.trans hK1))
set_option maxRecDepth 100000 in
set_option maxHeartbeats 4000000 in
theorem c_mrelocateAll_l {ω : jw} {d : Nat} {J sl : Nat} {Q : jr → jh → Prop} {M0 : Nat → Nat → Int32} (lz : Bool) {nw l : List Nat} (hR0 : ClIs M0 l) (hl6 : ∀ p ∈ l, p < 6) (hN0 : FrIs M0 nw) :
    ∀ (n i : Nat) (σ : Sg) (M : Nat → Nat → Int32) (c3 c4 : Option Value), l.length - i < n → i ≤ l.length → MS M σ → RvOk σ → (∀ p ∈ nw, ¬ Zb σ p = none) → Kq M0 M → (∀ M', MS M' (raF lz nw (l.drop i) σ).2 → Kq M0 M' → Q (.inl (some (.int (b2i (raF lz nw (l.drop i) σ).1)))) (jst ω M' J sl)) →
    jj ω (d + 5) mMd_relocateAll 2 [some (.ref (jN ω + 103)), some (.int (b2i lz)), some (.int (nI i)), c3, c4] [] (jst ω M J sl) Q := by
  intro n
  induction n with
  | zero => intro i σ M c3 c4 hn; omega
  | succ n ih =>
    intro i σ M c3 c4 hn hi hC hW hL hK hq
    have hR := hK.cl hR0
    have hN := hK.fr hN0
    have hll := hR.2.1
    refine jj_il2 dMd_relocateAll_2 ?_
    refine jj_al0 dMd_relocateAll_3 ?_
    refine mr_get _ dMd_relocateAll_4 clMd lkMd_123 (s103 _) rfl ?_
    rw [hR.1]
    refine jj_icmp_ge 65 dMd_relocateAll_7 (by decide) (fun q1 => ?_) (fun q1 => ?_)
    · refine jj_iconst 1 dMd_relocateAll_65 (by decide) ?_
      exact jj_iret dMd_relocateAll_66 rfl rfl (by rw [List.drop_eq_nil_of_le (le_le rfl q1 (by omega) (by omega))] at hq; exact hq M hC hK)
    · have hi2 : i < l.length := nle_lt rfl q1 (by omega) (by omega)
      obtain ⟨p, e1⟩ : ∃ p, l[i]? = some p := ⟨_, List.getElem?_eq_getElem hi2⟩
      have e2 : p < 6 := hl6 p (List.mem_of_getElem? e1)
      rw [List.drop_eq_getElem_cons hi2, show l[i] = p from (List.getElem?_eq_some_iff.mp e1).2] at hq
      unfold raF at hq
      refine jj_al0 dMd_relocateAll_10 ?_
      refine mr_get _ dMd_relocateAll_11 clMd lkMd_74 (s103 _) rfl ?_
      refine jj_il2 dMd_relocateAll_14 ?_
      refine mr_iald dMd_relocateAll_15 (s125 _) (by omega) (by decide) ?_
      rw [hR.2.2 i p e1]
      refine jj_is3 dMd_relocateAll_16 ?_
      refine jj_iconst 0 dMd_relocateAll_17 (by decide) ?_
      refine jj_is4 dMd_relocateAll_18 ?_
      by_cases hin : p ∈ nw
      · rw [if_pos hin] at hq
        obtain ⟨b, hb⟩ : ∃ b, Zb σ p = some b := by
          cases hx : Zb σ p with
          | none => exact absurd hx (hL p hin)
          | some b => exact ⟨b, rfl⟩
        refine c_mreloc_in lz e2 hin (hC.1 p e2).2.2.1 _ (Zr σ p).length 0 σ M (by omega) hC hW hb rfl hN0 hK (fun M1 h1 hC1 hK1 => ?_) (fun M1 h1 hC1 hK1 => ?_)
        · rw [if_pos h1] at hq
          refine jj_ii2 (nI (i + 1)) dMd_relocateAll_59 (inc1 i) ?_
          refine jj_goto 2 dMd_relocateAll_62 (by decide) ?_
          exact ih (i + 1) _ M1 _ _ (by omega) (by omega) hC1 ((rrF_sm lz p _ _ σ).rv hW) (fun z hz => by rw [(rrF_sm lz p _ _ σ).zb]; exact hL z hz) hK1 hq
        · rw [if_neg (by rw [h1]; decide)] at hq
          exact hq M1 hC1 hK1
      · rw [if_neg hin] at hq
        refine jj_il4 dMd_relocateAll_20 ?_
        refine jj_al0 dMd_relocateAll_22 ?_
        refine mr_get _ dMd_relocateAll_23 clMd lkMd_44 (s103 _) rfl ?_
        refine jj_il3 dMd_relocateAll_26 ?_
        refine mr_iald dMd_relocateAll_27 (s115 _) (e2) (by decide) ?_
        rw [(hC.1 p e2).2.2.2.2.2.2.2.2.1]
        refine jj_icmp_ge 59 dMd_relocateAll_28 (by decide) (fun q2 => ?_) (fun q2 => ?_)
        · refine jj_ii2 (nI (i + 1)) dMd_relocateAll_59 (inc1 i) ?_
          refine jj_goto 2 dMd_relocateAll_62 (by decide) ?_
          exact ih (i + 1) σ M _ _ (by omega) (by omega) hC hW hL hK hq
        · refine jj_al0 dMd_relocateAll_31 ?_
          refine mr_get _ dMd_relocateAll_32 clMd lkMd_77 (s103 _) rfl ?_
          refine jj_il3 dMd_relocateAll_35 ?_
          refine mr_zald dMd_relocateAll_36 (s126 _) (e2) (by decide) ?_
          rw [hN p e2, decide_eq_false hin]
          refine jj_if_eq 59 dMd_relocateAll_37 (by decide) (fun q2 => ?_) (fun q2 => absurd q2 (by decide))
          refine jj_ii2 (nI (i + 1)) dMd_relocateAll_59 (inc1 i) ?_
          refine jj_goto 2 dMd_relocateAll_62 (by decide) ?_
          exact ih (i + 1) σ M _ _ (by omega) (by omega) hC hW hL hK hq
set_option maxRecDepth 100000 in
set_option maxHeartbeats 4000000 in
theorem c_mrelocateAll {ω : jw} {d : Nat} {M : Nat → Nat → Int32} {J sl : Nat} {Q : jr → jh → Prop} {σ : Sg} (lz : Bool) {nw l : List Nat} (hC : MS M σ) (hW : RvOk σ) (hR : ClIs M l) (hl6 : ∀ p ∈ l, p < 6) (hN : FrIs M nw) (hL : ∀ p ∈ nw, ¬ Zb σ p = none) (hq : ∀ M', MS M' (raF lz nw l σ).2 → Kq M M' → Q (.inl (some (.int (b2i (raF lz nw l σ).1)))) (jst ω M' J sl)) : jwp ω (d + 5) mMd_relocateAll [.ref (jN ω + 103), .int (b2i lz)] (jst ω M J sl) Q := by
  refine jwp_of (by simp [Value.category]) (Nat.le_of_ble_eq_true rfl) (ls := [some (.ref (jN ω + 103)), some (.int (b2i lz)), none, none, none]) rfl ?_
  refine jj_iconst 0 dMd_relocateAll_0 (by decide) ?_
  refine jj_is2 dMd_relocateAll_1 ?_
  exact c_mrelocateAll_l lz hR hl6 hN (l.length + 1) 0 σ M _ _ (by omega) (by omega) hC hW hL (Kq.refl M) hq
