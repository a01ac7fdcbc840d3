theorem MS_same124 {M : Nat → Nat → Int32} {σ : Sg} {a : Nat} (h : MS M σ) (ha : a < 32) (ht : tkn σ a = true) {t : Int32} : MS (mup (mup M 103 0 t) 124 a (Zw σ a)) σ := by
  have h2 := MS_wd (a := a) (v := Zw σ a) (h.hd (Hd.up M (k := 103) (i := 0) t (by omega)))
  have e : zWd σ a (Zw σ a) = σ := by
    have e1 : va_up (Zw σ) a (Zw σ a) = Zw σ := by
      funext i
      by_cases hi : i = a
      · subst hi; rw [va_up_self]
      · rw [va_up_ne _ _ hi]
    show (Zs σ, Zn σ, Zy σ, Zr σ, Zb σ, Zg σ, Zu σ, Zo σ, va_up (Zw σ) a (Zw σ a), Gl σ, Bg σ, Ev σ, Sp σ) = σ
    rw [e1]
  rw [e] at h2
  exact h2
theorem Sm.tkn {σ σ' : Sg} (h : Sm σ σ') (a : Nat) : tkn σ' a = tkn σ a := by obtain ⟨u, w, s, rfl⟩ := h; rfl
set_option maxRecDepth 100000 in
set_option maxHeartbeats 4000000 in
theorem m_call {ω : jw} {d : Nat} {M : Nat → Nat → Int32} {J sl : Nat} {Q : jr → jh → Prop} {σ : Sg} (hS : MS M σ) (hR : RvOk σ) (a r : Int32) (hq : MP ω J sl M Q tcA (spCall σ a r)) : jwp ω (d + 4) mMd_call [.ref (jN ω + 103), .int a, .int r] (jst ω M J sl) Q := by
  refine jwp_of (by simp [Value.category]) (Nat.le_of_ble_eq_true rfl) (ls := [some (.ref (jN ω + 103)), some (.int (a)), some (.int (r)), none, none, none]) rfl ?_
  by_cases hno : oN a
  · rw [spCall, if_pos hno] at hq
    refine jj_il1 dMd_call_0 ?_
    refine ms1 dMd_call_1 csMd_99 (Nat.le_of_ble_eq_true rfl) ?_
    refine jwp_le (c_Md_isObject (d := 0) a (fun n hn he => absurd hno (by rw [he]; exact isObj_no hn)) (fun _ => jk_i ?_)) (Nat.zero_le _)
    refine jj_if_eq 25 dMd_call_4 (by decide) (fun _ => ?_) (fun h => absurd h (by decide))
    refine jj_iconst 0 dMd_call_25 (by decide) ?_
    refine jj_is3 dMd_call_26 ?_
    refine jj_al0 dMd_call_27 ?_
    refine jj_il3 dMd_call_28 ?_
    refine jj_if_ne 36 dMd_call_29 (by decide) (fun h => absurd h (by decide)) (fun _ => ?_)
    refine jj_iconst 1 dMd_call_32 (by decide) ?_
    refine jj_goto 37 dMd_call_33 (by decide) ?_
    refine jj_il3 dMd_call_37 ?_
    refine jj_if_eq 60 dMd_call_38 (by decide) (fun _ => ?_) (fun h => absurd h (by decide))
    refine jj_iconst 0 dMd_call_60 (by decide) ?_
    refine jj_il3 dMd_call_61 ?_
    refine jj_if_eq 78 dMd_call_62 (by decide) (fun _ => ?_) (fun h => absurd h (by decide))
    refine jj_iconst 0 dMd_call_78 (by decide) ?_
    refine mv3 dMd_call_79 clMd cvMd_103 (s103 _) (Nat.le_of_ble_eq_true rfl) ?_
    refine jwp_le (c_refused (d := 0) true false false (fun h0 => absurd h0 (by decide)) (fun h1 => jk_i ?_)) (Nat.zero_le _)
    refine jj_if_eq 87 dMd_call_82 (by decide) (fun h => absurd h (by decide)) (fun _ => ?_)
    refine jj_iconst 0 dMd_call_85 (by decide) ?_
    exact jj_iret dMd_call_86 rfl rfl (hq _ 0 (hS.hd (Hd.up M _ (by omega))) ((Lo.refl M).up _ (by omega)) (mup_at _ _ _ _) (fun w h => by cases h))
  obtain ⟨n, hn, rfl⟩ : ∃ n : Nat, n < 6 ∧ a = nI n := (isObj a).resolve_right hno
  rw [spCall, if_neg hno, iN6 hn] at hq
  have k26 : ∀ (g : Bool), (g = true ↔ ¬ (r < 0 ∨ ¬ r < nI (Zr σ n).length)) → jj ω (d + 4) mMd_call 26 [some (.ref (jN ω + 103)), some (.int (nI n)), some (.int (r)), none, none, none] [.int (b2i g)] (jst ω M J sl) Q := by
    intro g hg
    cases g with
    | true =>
      have hgd := hg.mp rfl
      rw [if_neg hgd] at hq
      obtain ⟨k, hk, rfl⟩ := lt32 (fun h => hgd (Or.inl h)) (Classical.not_not.mp (fun h => hgd (Or.inr h))) (by have := (hS.1 n hn).2.2.1; omega)
      have hl6 := (hS.1 n hn).2.2.1
      have hk6 : k < 6 := by omega
      obtain ⟨y, hy⟩ : ∃ y, (Zr σ n)[k]? = some y := ⟨_, List.getElem?_eq_getElem hk⟩
      have hry : rlAt σ n (nI k) = y := by
        unfold rlAt
        rw [iN6 hk6, List.getD_eq_getElem?_getD, hy]
        rfl
      rw [hry] at hq
      obtain ⟨g1, g2, g3, g4⟩ := (hS.1 n hn).2.2.2.2.2.2.2.2.2 k y hy
      have k61 : ∀ (c : Bool), (c = true ↔ ¬ y.1 = 2) → jj ω (d + 4) mMd_call 61 [some (.ref (jN ω + 103)), some (.int (nI n)), some (.int (nI k)), some (.int 1), none, none] [.int (b2i c), .int 0, .ref (jN ω + 103)] (jst ω M J sl) Q := by
        intro c hc
        have k79 : ∀ (e : Bool), (e = true ↔ Zb σ n = none) → jj ω (d + 4) mMd_call 79 [some (.ref (jN ω + 103)), some (.int (nI n)), some (.int (nI k)), some (.int 1), none, none] [.int (b2i e), .int (b2i c), .int 0, .ref (jN ω + 103)] (jst ω M J sl) Q := by
          intro e he
          refine mv3 dMd_call_79 clMd cvMd_103 (s103 _) (Nat.le_of_ble_eq_true rfl) ?_
          refine jwp_le (c_refused (d := 0) false c e (fun h0 => jk_i ?_) (fun h1 => jk_i ?_)) (Nat.zero_le _)
          · refine jj_if_eq 87 dMd_call_82 (by decide) (fun _ => ?_) (fun h => absurd rfl h)
            obtain ⟨_, hc0, he0⟩ := tt3_0 h0
            subst hc0
            subst he0
            have hk2 : y.1 = 2 := Classical.not_not.mp (fun h => Bool.noConfusion (hc.mpr h))
            have hld : ¬ Zb σ n = none := fun h => Bool.noConfusion (he.mpr h)
            rw [if_neg (fun h => h hk2), if_neg hld] at hq
            obtain ⟨b, hb⟩ : ∃ b, Zb σ n = some b := by
              cases hx : Zb σ n with
              | none => exact absurd hx hld
              | some b => exact ⟨b, rfl⟩
            have hW := hR.1
            obtain ⟨⟨w, hw, hwe⟩, hkk⟩ := hW.2.2.2.1 n hn y (List.mem_of_getElem? hy)
            have hw8 := hW.1 n hn
            have hbw := (hW.2.1 n b hn hb).1
            have had : adAt σ n y = b + w := by unfold adAt; rw [hb, hwe, iN_nI (by omega)]; rfl
            have hA32 : b + w < 32 := by omega
            rw [had] at hq
            have htk : tkn σ (b + w) = true := tkn_iff.mpr ⟨n, hn, b, hb, by omega, by omega⟩
            have htk2 : tkn (rsF σ n (syAt σ n y)).2 (b + w) = tkn σ (b + w) := (rsF_sm σ n (syAt σ n y)).tkn _
            have hS1 := hS.hd (Hd.up M (k := 103) (i := 0) 0 (by omega))
            have hL1 : Lo M (mup M 103 0 0) := (Lo.refl M).up _ (by omega)
            have hT1 := mup_at M 103 0 0
            generalize mup M 103 0 0 = M1 at hS1 hL1 hT1 ⊢
            have h117 := ((hS1.2.1 n hn).2 b hb).1
            obtain ⟨g1, g2, g3, g4⟩ := (hS1.1 n hn).2.2.2.2.2.2.2.2.2 k y hy
            refine jj_al0 dMd_call_87 ?_
            refine mr_get _ dMd_call_88 clMd lkMd_50 (s103 _) rfl ?_
            refine jj_il1 dMd_call_91 ?_
            refine mr_iald dMd_call_92 (s117 _) (hn) (by decide) ?_
            rw [h117]
            refine jj_al0 dMd_call_93 ?_
            refine mr_get _ dMd_call_94 clMd lkMd_35 (s103 _) rfl ?_
            refine jj_bipush 6 dMd_call_97 (by decide) ?_
            refine jj_il1 dMd_call_99 ?_
            refine jj_imul dMd_call_100 ?_
            rw [show (6 : Int32) * nI n = nI (6 * n) from nI_mul 6 n]
            refine jj_il2 dMd_call_101 ?_
            refine jj_iadd dMd_call_102 ?_
            rw [nI_add]
            refine mr_iald dMd_call_103 (s112 _) (by omega) (by decide) ?_
            rw [g2, hwe]
            refine jj_iadd dMd_call_104 ?_
            rw [nI_add]
            refine jj_is4 dMd_call_105 ?_
            refine jj_al0 dMd_call_107 ?_
            refine mr_get _ dMd_call_108 clMd lkMd_71 (s103 _) rfl ?_
            refine jj_il4 dMd_call_111 ?_
            refine mr_iald dMd_call_113 (s124 _) (hA32) (by decide) ?_
            rw [hS1.2.2.2.2.2.1 _ hA32 htk]
            refine jj_iconst (-1) dMd_call_114 (by decide) ?_
            refine jj_il2 dMd_call_115 ?_
            refine jj_isub dMd_call_116 ?_
            refine jj_icmp_ne 166 dMd_call_117 (by decide) (fun q4 => ?_) (fun q4 => ?_)
            · refine jj_al0 dMd_call_166 ?_
              refine mr_get _ dMd_call_167 clMd lkMd_95 (s103 _) rfl ?_
              rw [hT1]
              refine jj_if_le 177 dMd_call_170 (by decide) (fun _ => ?_) (fun h => absurd (by decide) h)
              refine jj_al0 dMd_call_177 ?_
              refine mr_get _ dMd_call_178 clMd lkMd_71 (s103 _) rfl ?_
              refine jj_il4 dMd_call_181 ?_
              refine mr_iald dMd_call_183 (s124 _) hA32 (by decide) ?_
              rw [hS1.2.2.2.2.2.1 _ hA32 htk]
              exact jj_iret dMd_call_184 rfl rfl (by rw [if_neg q4] at hq; exact hq _ _ hS1 hL1 hT1 (fun w h => by cases h; rfl))
            · rw [if_pos q4] at hq
              obtain ⟨_, s, hs, hse⟩ := hkk.resolve_left (fun h => by rw [h] at hk2; exact absurd hk2 (by decide))
              have hnn := rsF_nn hR hn (syAt σ n y)
              refine jj_al0 dMd_call_120 ?_
              refine jj_il1 dMd_call_121 ?_
              refine jj_il2 dMd_call_122 ?_
              refine mv2 dMd_call_123 clMd cvMd_146 (s103 _) (Nat.le_of_ble_eq_true rfl) ?_
              refine c_mresolve hS1 hR hn hb hy hs hse (fun M2 hO2 hC2 => jk_i ?_)
              refine jj_is5 dMd_call_126 ?_
              by_cases hneg : (rsF σ n (syAt σ n y)).1 = -1
              · refine jj_al0 dMd_call_128 ?_
                refine jj_il5 dMd_call_129 ?_
                refine jj_if_ge 138 dMd_call_131 (by decide) (fun q1 => absurd q1 (fun h => Int32.not_le.mpr (hnn.mpr hneg) h)) (fun q1 => ?_)
                refine jj_iconst 4 dMd_call_134 (by decide) ?_
                refine jj_goto 139 dMd_call_135 (by decide) ?_
                refine mr_put dMd_call_139 clMd lkMd_95 rfl rfl (s103 _) (s103 _) (Nat.le_of_ble_eq_true rfl) rfl ?_
                refine jj_al0 dMd_call_142 ?_
                refine mr_get _ dMd_call_143 clMd lkMd_71 (s103 _) rfl ?_
                refine jj_il4 dMd_call_146 ?_
                refine jj_il5 dMd_call_148 ?_
                refine jj_if_ge 163 dMd_call_150 (by decide) (fun q2 => absurd q2 (fun h => Int32.not_le.mpr (hnn.mpr hneg) h)) (fun q2 => ?_)
                refine jj_al0 dMd_call_153 ?_
                refine mr_get _ dMd_call_154 clMd lkMd_71 (s103 _) rfl ?_
                refine jj_il4 dMd_call_157 ?_
                refine mr_iald dMd_call_159 (s124 _) (hA32) (by decide) ?_
                rw [mup_ne _ _ (by omega), hC2.2.2.2.2.2.1 _ hA32 (by rw [htk2]; exact htk)]
                refine jj_goto 165 dMd_call_160 (by decide) ?_
                refine mr_iast dMd_call_165 (s124) (hA32) (by decide) ?_
                refine jj_al0 dMd_call_166 ?_
                refine mr_get _ dMd_call_167 clMd lkMd_95 (s103 _) rfl ?_
                rw [mup_ne _ _ (by omega), mup_at]
                refine jj_if_le 177 dMd_call_170 (by decide) (fun q3 => absurd q3 (by decide)) (fun q3 => ?_)
                refine jj_iconst 0 dMd_call_173 (by decide) ?_
                refine jj_goto 184 dMd_call_174 (by decide) ?_
                exact jj_iret dMd_call_184 rfl rfl (by rw [if_pos hneg] at hq; exact hq _ 0 (MS_same124 hC2 hA32 (by rw [htk2]; exact htk)) (((hL1.trans hO2.1).up _ (by omega)).up _ (by omega)) (by rw [mup_ne _ _ (by omega), mup_at]; rfl) (fun w h => by cases h))
              refine jj_al0 dMd_call_128 ?_
              refine jj_il5 dMd_call_129 ?_
              refine jj_if_ge 138 dMd_call_131 (by decide) (fun q1 => ?_) (fun q1 => absurd q1 (fun h => h (Int32.not_lt.mp (fun g => hneg (hnn.mp g)))))
              refine jj_iconst 0 dMd_call_138 (by decide) ?_
              refine mr_put dMd_call_139 clMd lkMd_95 rfl rfl (s103 _) (s103 _) (Nat.le_of_ble_eq_true rfl) rfl ?_
              refine jj_al0 dMd_call_142 ?_
              refine mr_get _ dMd_call_143 clMd lkMd_71 (s103 _) rfl ?_
              refine jj_il4 dMd_call_146 ?_
              refine jj_il5 dMd_call_148 ?_
              refine jj_if_ge 163 dMd_call_150 (by decide) (fun q2 => ?_) (fun q2 => absurd q2 (fun h => h (Int32.not_lt.mp (fun g => hneg (hnn.mp g)))))
              refine jj_il5 dMd_call_163 ?_
              refine mr_iast dMd_call_165 (s124) (hA32) (by decide) ?_
              refine jj_al0 dMd_call_166 ?_
              refine mr_get _ dMd_call_167 clMd lkMd_95 (s103 _) rfl ?_
              rw [mup_ne _ _ (by omega), mup_at]
              refine jj_if_le 177 dMd_call_170 (by decide) (fun q3 => ?_) (fun q3 => absurd q3 (by decide))
              refine jj_al0 dMd_call_177 ?_
              refine mr_get _ dMd_call_178 clMd lkMd_71 (s103 _) rfl ?_
              refine jj_il4 dMd_call_181 ?_
              refine mr_iald dMd_call_183 (s124 _) (hA32) (by decide) ?_
              rw [mup_at]
              exact jj_iret dMd_call_184 rfl rfl (by rw [if_neg hneg] at hq; exact hq _ _ (MS_wd (hC2.hd (Hd.up M2 _ (by omega)))) (((hL1.trans hO2.1).up _ (by omega)).up _ (by omega)) (by rw [mup_ne _ _ (by omega), mup_at]; rfl) (fun w h => by cases h; rfl))
          · refine jj_if_eq 87 dMd_call_82 (by decide) (fun h => absurd h (by decide)) (fun _ => ?_)
            refine jj_iconst 0 dMd_call_85 (by decide) ?_
            exact jj_iret dMd_call_86 rfl rfl (by
              cases c with
              | true => rw [if_pos (hc.mp rfl)] at hq; exact hq _ 0 (hS.hd (Hd.up M _ (by omega))) ((Lo.refl M).up _ (by omega)) (mup_at _ _ _ _) (fun w h => by cases h)
              | false =>
                cases e with
                | true => rw [if_neg (fun h => Bool.noConfusion (hc.mpr h)), if_pos (he.mp rfl)] at hq; exact hq _ 0 (hS.hd (Hd.up M _ (by omega))) ((Lo.refl M).up _ (by omega)) (mup_at _ _ _ _) (fun w h => by cases h)
                | false => exact absurd rfl h1)
        refine jj_il3 dMd_call_61 ?_
        refine jj_if_eq 78 dMd_call_62 (by decide) (fun h => absurd h (by decide)) (fun _ => ?_)
        refine jj_al0 dMd_call_65 ?_
        refine mr_get _ dMd_call_66 clMd lkMd_47 (s103 _) rfl ?_
        refine jj_il1 dMd_call_69 ?_
        refine mr_zald dMd_call_70 (s116 _) (hn) (by decide) ?_
        refine jj_if_ne 78 dMd_call_71 (by decide) (fun p2 => ?_) (fun p2 => ?_)
        · refine jj_iconst 0 dMd_call_78 (by decide) ?_
          exact k79 false ⟨fun h => (by cases h), fun h => absurd ((isSome_iff hS hn).mpr h) p2⟩
        · refine jj_iconst 1 dMd_call_74 (by decide) ?_
          refine jj_goto 79 dMd_call_75 (by decide) ?_
          exact k79 true ⟨fun _ => (isSome_iff hS hn).mp p2, fun _ => rfl⟩
      refine jj_is3 dMd_call_26 ?_
      refine jj_al0 dMd_call_27 ?_
      refine jj_il3 dMd_call_28 ?_
      refine jj_if_ne 36 dMd_call_29 (by decide) (fun _ => ?_) (fun h => absurd h (by decide))
      refine jj_iconst 0 dMd_call_36 (by decide) ?_
      refine jj_il3 dMd_call_37 ?_
      refine jj_if_eq 60 dMd_call_38 (by decide) (fun h => absurd h (by decide)) (fun _ => ?_)
      refine jj_al0 dMd_call_41 ?_
      refine mr_get _ dMd_call_42 clMd lkMd_32 (s103 _) rfl ?_
      refine jj_bipush 6 dMd_call_45 (by decide) ?_
      refine jj_il1 dMd_call_47 ?_
      refine jj_imul dMd_call_48 ?_
      rw [show (6 : Int32) * nI n = nI (6 * n) from nI_mul 6 n]
      refine jj_il2 dMd_call_49 ?_
      refine jj_iadd dMd_call_50 ?_
      rw [nI_add]
      refine mr_iald dMd_call_51 (s111 _) (by omega) (by decide) ?_
      rw [g1]
      refine jj_iconst 2 dMd_call_52 (by decide) ?_
      refine jj_icmp_eq 60 dMd_call_53 (by decide) (fun p1 => ?_) (fun p1 => ?_)
      · refine jj_iconst 0 dMd_call_60 (by decide) ?_
        exact k61 false ⟨fun h => (by cases h), fun h => absurd p1 h⟩
      · refine jj_iconst 1 dMd_call_56 (by decide) ?_
        refine jj_goto 61 dMd_call_57 (by decide) ?_
        exact k61 true ⟨fun _ => p1, fun _ => rfl⟩
    | false =>
      rw [if_pos (Classical.not_not.mp (fun h => Bool.noConfusion (hg.mpr h)))] at hq
      refine jj_is3 dMd_call_26 ?_
      refine jj_al0 dMd_call_27 ?_
      refine jj_il3 dMd_call_28 ?_
      refine jj_if_ne 36 dMd_call_29 (by decide) (fun h => absurd h (by decide)) (fun _ => ?_)
      refine jj_iconst 1 dMd_call_32 (by decide) ?_
      refine jj_goto 37 dMd_call_33 (by decide) ?_
      refine jj_il3 dMd_call_37 ?_
      refine jj_if_eq 60 dMd_call_38 (by decide) (fun _ => ?_) (fun h => absurd h (by decide))
      refine jj_iconst 0 dMd_call_60 (by decide) ?_
      refine jj_il3 dMd_call_61 ?_
      refine jj_if_eq 78 dMd_call_62 (by decide) (fun _ => ?_) (fun h => absurd h (by decide))
      refine jj_iconst 0 dMd_call_78 (by decide) ?_
      refine mv3 dMd_call_79 clMd cvMd_103 (s103 _) (Nat.le_of_ble_eq_true rfl) ?_
      refine jwp_le (c_refused (d := 0) true false false (fun h0 => absurd h0 (by decide)) (fun h1 => jk_i ?_)) (Nat.zero_le _)
      refine jj_if_eq 87 dMd_call_82 (by decide) (fun h => absurd h (by decide)) (fun _ => ?_)
      refine jj_iconst 0 dMd_call_85 (by decide) ?_
      exact jj_iret dMd_call_86 rfl rfl (hq _ 0 (hS.hd (Hd.up M _ (by omega))) ((Lo.refl M).up _ (by omega)) (mup_at _ _ _ _) (fun w h => by cases h))
  refine jj_il1 dMd_call_0 ?_
  refine ms1 dMd_call_1 csMd_99 (Nat.le_of_ble_eq_true rfl) ?_
  refine jwp_le (c_Md_isObject (d := 0) (nI n) (fun _ _ _ => jk_i ?_) (fun h => absurd h (isObj_no hn))) (Nat.zero_le _)
  refine jj_if_eq 25 dMd_call_4 (by decide) (fun h => absurd h (by decide)) (fun _ => ?_)
  refine jj_il2 dMd_call_7 ?_
  refine jj_if_lt 25 dMd_call_8 (by decide) (fun p1 => ?_) (fun p1 => ?_)
  · refine jj_iconst 0 dMd_call_25 (by decide) ?_
    exact k26 false ⟨fun h => (by cases h), fun h => absurd (Or.inl p1) h⟩
  · refine jj_il2 dMd_call_11 ?_
    refine jj_al0 dMd_call_12 ?_
    refine mr_get _ dMd_call_13 clMd lkMd_44 (s103 _) rfl ?_
    refine jj_il1 dMd_call_16 ?_
    refine mr_iald dMd_call_17 (s115 _) (hn) (by decide) ?_
    rw [(hS.1 n hn).2.2.2.2.2.2.2.2.1]
    refine jj_icmp_ge 25 dMd_call_18 (by decide) (fun p2 => ?_) (fun p2 => ?_)
    · refine jj_iconst 0 dMd_call_25 (by decide) ?_
      exact k26 false ⟨fun h => (by cases h), fun h => absurd (Or.inr (Int32.not_lt.mpr p2)) h⟩
    · refine jj_iconst 1 dMd_call_21 (by decide) ?_
      refine jj_goto 26 dMd_call_22 (by decide) ?_
      exact k26 true ⟨fun _ h => h.elim p1 (fun g => g (Int32.not_le.mp p2)), fun _ => rfl⟩
