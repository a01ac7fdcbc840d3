def tcW : jr → Nat
  | .inl _ => 0
  | .inr _ => 1
def imP (σ : Sg) (a : Int32) (j : Nat) : Prop := ∃ p, p < j ∧ ∃ b, Zb σ p = some b ∧ nI b ≤ a ∧ a < nI (b + Zs σ p)
theorem imP_ix {σ : Sg} (hW : Wm σ) {a : Int32} (h : imP σ a 6) : ∃ i, i < 32 ∧ a = nI i ∧ tkn σ i = true := by
  obtain ⟨p, hp, b, hb, h1, h2⟩ := h
  have hs := hW.2.1 p b hp hb
  obtain ⟨i, hi, rfl⟩ := lt32 (fun h => nI_nn b (by omega) (Int32.lt_of_le_of_lt h1 h)) h2 (by omega)
  exact ⟨i, by omega, rfl, tkn_iff.mpr ⟨p, hp, b, hb, le_le rfl h1 (by omega) (by omega), hi⟩⟩
theorem imP_tk {σ : Sg} (hW : Wm σ) {i : Nat} (h : tkn σ i = true) : imP σ (nI i) 6 := by
  obtain ⟨p, hp, b, hb, h1, h2⟩ := tkn_iff.mp h
  have hs := hW.2.1 p b hp hb
  exact ⟨p, hp, b, hb, nIle h1 (by omega), Int32.lt_iff_toInt_lt.mpr (by rw [nI_toInt (by omega), nI_toInt (by omega)]; omega)⟩
set_option maxRecDepth 100000 in
set_option maxHeartbeats 4000000 in
theorem c_isImage_l {ω : jw} {d : Nat} {M : Nat → Nat → Int32} {J sl : Nat} {Q : jr → jh → Prop} {σ : Sg} (hS : MS M σ) (hW : Wm σ) (a : Int32) (ht : imP σ a 6 → Q (.inl (some (.int 1))) (jst ω M J sl)) (hf : ¬ imP σ a 6 → Q (.inl (some (.int 0))) (jst ω M J sl)) :
    ∀ (n i : Nat) (v : Bool), n + i = 6 → (v = true ↔ imP σ a i) → jj ω d mMd_isImage 4 [some (.ref (jN ω + 103)), some (.int a), some (.int (b2i v)), some (.int (nI i))] [] (jst ω M J sl) Q := by
  intro n
  induction n with
  | zero =>
    intro i v hn hv
    have hi : i = 6 := by omega
    subst hi
    refine jj_il3 dMd_isImage_4 ?_
    refine jj_bipush 6 dMd_isImage_5 (by decide) ?_
    refine jj_icmp_ge 62 dMd_isImage_7 (by decide) (fun q1 => ?_) (fun q1 => absurd q1 (by decide))
    refine jj_il2 dMd_isImage_62 ?_
    exact jj_iret dMd_isImage_63 rfl (by cases v <;> rfl) (by cases v with | true => exact ht (hv.mp rfl) | false => exact hf (fun h => Bool.noConfusion (hv.mpr h)))
  | succ n ih =>
    intro i v hn hv
    have hi6 : i < 6 := by omega
    have hup : imP σ a i → imP σ a (i + 1) := fun h => by obtain ⟨p, hp, h⟩ := h; exact ⟨p, by omega, h⟩
    have hdn : imP σ a (i + 1) → imP σ a i ∨ ∃ b, Zb σ i = some b ∧ nI b ≤ a ∧ a < nI (b + Zs σ i) := fun h => by
      obtain ⟨p, hp, h⟩ := h
      by_cases e : p = i
      · subst e; exact Or.inr h
      · exact Or.inl ⟨p, by omega, h⟩
    have k55 : ∀ (c : Bool), (c = true ↔ imP σ a (i + 1)) → jj ω d mMd_isImage 55 [some (.ref (jN ω + 103)), some (.int a), some (.int (b2i v)), some (.int (nI i))] [.int (b2i c)] (jst ω M J sl) Q := by
      intro c hc
      refine jj_is2 dMd_isImage_55 ?_
      refine jj_ii3 (nI (i + 1)) dMd_isImage_56 (inc1 i) ?_
      refine jj_goto 4 dMd_isImage_59 (by decide) ?_
      exact ih (i + 1) c (by omega) hc
    refine jj_il3 dMd_isImage_4 ?_
    refine jj_bipush 6 dMd_isImage_5 (by decide) ?_
    refine jj_icmp_ge 62 dMd_isImage_7 (by decide) (fun q1 => absurd q1 (fun h => by have := le_le (a := 6) rfl h (by decide) (by omega); omega)) (fun q1 => ?_)
    refine jj_il2 dMd_isImage_10 ?_
    refine jj_if_ne 50 dMd_isImage_11 (by decide) (fun q1 => ?_) (fun q1 => ?_)
    · refine jj_iconst 1 dMd_isImage_50 (by decide) ?_
      refine jj_goto 55 dMd_isImage_51 (by decide) ?_
      exact k55 true ⟨fun _ => hup (hv.mp (b2i_t q1)), fun _ => rfl⟩
    · refine jj_al0 dMd_isImage_14 ?_
      refine mr_get _ dMd_isImage_15 clMd lkMd_47 (s103 _) rfl ?_
      refine jj_il3 dMd_isImage_18 ?_
      refine mr_zald dMd_isImage_19 (s116 _) (hi6) (by decide) ?_
      refine jj_if_eq 54 dMd_isImage_20 (by decide) (fun q2 => ?_) (fun q2 => ?_)
      · refine jj_iconst 0 dMd_isImage_54 (by decide) ?_
        exact k55 false ⟨fun h => (by cases h), fun h => (hdn h).elim (fun g => by rw [← hv, b2i_f q1] at g; exact g) (fun g => by obtain ⟨b, g1, g2, g3⟩ := g; rw [(isSome_iff hS hi6).mp q2] at g1; cases g1)⟩
      · obtain ⟨b', hb'⟩ : ∃ b', Zb σ i = some b' := by
          cases hx : Zb σ i with
          | none => exact absurd ((isSome_iff hS hi6).mpr hx) q2
          | some b => exact ⟨b, rfl⟩
        have h117 := ((hS.2.1 i hi6).2 b' hb').1
        refine jj_il1 dMd_isImage_23 ?_
        refine jj_al0 dMd_isImage_24 ?_
        refine mr_get _ dMd_isImage_25 clMd lkMd_50 (s103 _) rfl ?_
        refine jj_il3 dMd_isImage_28 ?_
        refine mr_iald dMd_isImage_29 (s117 _) (hi6) (by decide) ?_
        rw [h117]
        refine jj_icmp_lt 54 dMd_isImage_30 (by decide) (fun q3 => ?_) (fun q3 => ?_)
        · refine jj_iconst 0 dMd_isImage_54 (by decide) ?_
          exact k55 false ⟨fun h => (by cases h), fun h => (hdn h).elim (fun g => by rw [← hv, b2i_f q1] at g; exact g) (fun g => by obtain ⟨b, g1, g2, g3⟩ := g; cases hb'.symm.trans g1; exact absurd q3 (Int32.not_lt.mpr g2))⟩
        · refine jj_il1 dMd_isImage_33 ?_
          refine jj_al0 dMd_isImage_34 ?_
          refine mr_get _ dMd_isImage_35 clMd lkMd_50 (s103 _) rfl ?_
          refine jj_il3 dMd_isImage_38 ?_
          refine mr_iald dMd_isImage_39 (s117 _) (hi6) (by decide) ?_
          rw [h117]
          refine jj_al0 dMd_isImage_40 ?_
          refine mr_get _ dMd_isImage_41 clMd lkMd_7 (s103 _) rfl ?_
          refine jj_il3 dMd_isImage_44 ?_
          refine mr_iald dMd_isImage_45 (s104 _) (hi6) (by decide) ?_
          rw [(hS.1 i hi6).2.2.2.1]
          refine jj_iadd dMd_isImage_46 ?_
          rw [nI_add]
          refine jj_icmp_ge 54 dMd_isImage_47 (by decide) (fun q4 => ?_) (fun q4 => ?_)
          · refine jj_iconst 0 dMd_isImage_54 (by decide) ?_
            exact k55 false ⟨fun h => (by cases h), fun h => (hdn h).elim (fun g => by rw [← hv, b2i_f q1] at g; exact g) (fun g => by obtain ⟨b, g1, g2, g3⟩ := g; cases hb'.symm.trans g1; exact absurd g3 (Int32.not_lt.mpr q4))⟩
          · refine jj_iconst 1 dMd_isImage_50 (by decide) ?_
            refine jj_goto 55 dMd_isImage_51 (by decide) ?_
            exact k55 true ⟨fun _ => ⟨i, by omega, b', hb', Int32.not_lt.mp q3, Int32.not_le.mp q4⟩, fun _ => rfl⟩
set_option maxRecDepth 100000 in
set_option maxHeartbeats 4000000 in
theorem c_isImage {ω : jw} {d : Nat} {M : Nat → Nat → Int32} {J sl : Nat} {Q : jr → jh → Prop} {σ : Sg} (hS : MS M σ) (hW : Wm σ) (a : Int32) (ht : imP σ a 6 → Q (.inl (some (.int 1))) (jst ω M J sl)) (hf : ¬ imP σ a 6 → Q (.inl (some (.int 0))) (jst ω M J sl)) : jwp ω d mMd_isImage [.ref (jN ω + 103), .int a] (jst ω M J sl) Q := by
  refine jwp_of (by simp [Value.category]) (Nat.le_of_ble_eq_true rfl) (ls := [some (.ref (jN ω + 103)), some (.int a), none, none]) rfl ?_
  refine jj_iconst 0 dMd_isImage_0 (by decide) ?_
  refine jj_is2 dMd_isImage_1 ?_
  refine jj_iconst 0 dMd_isImage_2 (by decide) ?_
  refine jj_is3 dMd_isImage_3 ?_
  exact c_isImage_l hS hW a ht hf 6 0 false rfl ⟨fun h => (by cases h), fun h => by obtain ⟨p, hp, _⟩ := h; omega⟩
theorem lt_le31 {a : Int32} (h : a < 32) : a ≤ 31 := Int32.le_iff_toInt_le.mpr (by
  have h1 := Int32.lt_iff_toInt_lt.mp h
  have e1 : (32 : Int32).toInt = 32 := by decide
  have e2 : (31 : Int32).toInt = 31 := by decide
  omega)
theorem le_lt32 {a : Int32} (h : a ≤ 31) : a < 32 := Int32.lt_iff_toInt_lt.mpr (by
  have h1 := Int32.le_iff_toInt_le.mp h
  have e1 : (32 : Int32).toInt = 32 := by decide
  have e2 : (31 : Int32).toInt = 31 := by decide
  omega)
set_option maxRecDepth 100000 in
set_option maxHeartbeats 4000000 in
theorem m_word {ω : jw} {d : Nat} {M : Nat → Nat → Int32} {J sl : Nat} {Q : jr → jh → Prop} {σ : Sg} (hS : MS M σ) (hW : Wm σ) (hW0 : W0 σ) (a : Int32) (hq : MP ω J sl M Q tcW (spWord σ a)) : jwp ω (d + 1) mMd_word [.ref (jN ω + 103), .int a] (jst ω M J sl) Q := by
  refine jwp_of (by simp [Value.category]) (Nat.le_of_ble_eq_true rfl) (ls := [some (.ref (jN ω + 103)), some (.int a)]) rfl ?_
  have k16 : ∀ (c : Bool), (c = true ↔ (a < 0 ∨ ¬ a < 32)) → jj ω (d + 1) mMd_word 16 [some (.ref (jN ω + 103)), some (.int a)] [.int (b2i c), .ref (jN ω + 103)] (jst ω M J sl) Q := by
    intro c hc
    cases c with
    | true =>
      refine mr_put dMd_word_16 clMd lkMd_95 rfl rfl (s103 _) (s103 _) (Nat.le_of_ble_eq_true rfl) rfl ?_
      refine jj_al0 dMd_word_19 ?_
      refine mr_get _ dMd_word_20 clMd lkMd_95 (s103 _) rfl ?_
      rw [mup_at]
      refine jj_if_ne 43 dMd_word_23 (by decide) (fun q1 => ?_) (fun q1 => absurd q1 (by decide))
      refine jj_iconst 0 dMd_word_43 (by decide) ?_
      exact jj_iret dMd_word_44 rfl rfl (by rw [spWord, if_pos (hc.mp rfl)] at hq; exact hq _ 0 (hS.hd (Hd.up M _ (by omega))) ((Lo.refl M).up _ (by omega)) (mup_at _ _ _ _) (fun w h => by cases h))
    | false =>
      rw [show b2i false = 0 from rfl]
      refine mr_put dMd_word_16 clMd lkMd_95 rfl rfl (s103 _) (s103 _) (Nat.le_of_ble_eq_true rfl) rfl ?_
      refine jj_al0 dMd_word_19 ?_
      refine mr_get _ dMd_word_20 clMd lkMd_95 (s103 _) rfl ?_
      rw [mup_at]
      refine jj_if_ne 43 dMd_word_23 (by decide) (fun q1 => absurd q1 (by decide)) (fun q1 => ?_)
      have hS1 := hS.hd (Hd.up M (k := 103) (i := 0) 0 (by omega))
      have hL1 : Lo M (mup M 103 0 0) := (Lo.refl M).up _ (by omega)
      have hT1 := mup_at M 103 0 0
      generalize mup M 103 0 0 = M1 at hS1 hL1 hT1 ⊢
      refine jj_al0 dMd_word_26 ?_
      refine jj_il1 dMd_word_27 ?_
      refine mv1 dMd_word_28 clMd cvMd_190 (s103 _) (Nat.le_of_ble_eq_true rfl) ?_
      refine c_isImage hS1 hW a (fun him => jk_i ?_) (fun him => jk_i ?_)
      · obtain ⟨i, hi, rfl, htk⟩ := imP_ix hW him
        refine jj_if_eq 43 dMd_word_31 (by decide) (fun h => absurd h (by decide)) (fun _ => ?_)
        refine jj_al0 dMd_word_34 ?_
        refine mr_get _ dMd_word_35 clMd lkMd_71 (s103 _) rfl ?_
        refine jj_il1 dMd_word_38 ?_
        refine mr_iald dMd_word_39 (s124 _) (hi) (by decide) ?_
        rw [hS1.2.2.2.2.2.1 i hi htk]
        refine jj_goto 44 dMd_word_40 (by decide) ?_
        exact jj_iret dMd_word_44 rfl rfl (by rw [spWord, if_neg (fun h => Bool.noConfusion (hc.mpr h)), iN_nI (by omega)] at hq; exact hq _ _ hS1 hL1 hT1 (fun w h => by cases h; rfl))
      · refine jj_if_eq 43 dMd_word_31 (by decide) (fun _ => ?_) (fun h => absurd h (by decide))
        refine jj_iconst 0 dMd_word_43 (by decide) ?_
        exact jj_iret dMd_word_44 rfl rfl (by
        have hbd : ¬ (a < 0 ∨ ¬ a < 32) := fun h => Bool.noConfusion (hc.mpr h)
        rw [spWord, if_neg hbd] at hq
        refine hq _ _ hS1 hL1 hT1 (fun w h => ?_)
        obtain ⟨i, hi, rfl⟩ := lt32 (n := 32) (fun h => hbd (Or.inl h)) (Classical.not_not.mp (fun h => hbd (Or.inr h))) (by decide)
        cases h
        rw [iN_nI (by omega)]
        refine (hW0.1 i hi ?_).symm
        cases htk : tkn σ i with
        | false => rfl
        | true => exact absurd (imP_tk hW htk) him)
  refine jj_al0 dMd_word_0 ?_
  refine jj_il1 dMd_word_1 ?_
  refine jj_if_lt 11 dMd_word_2 (by decide) (fun q1 => ?_) (fun q1 => ?_)
  · refine jj_iconst 1 dMd_word_11 (by decide) ?_
    refine jj_goto 16 dMd_word_12 (by decide) ?_
    exact k16 true ⟨fun _ => Or.inl q1, fun _ => rfl⟩
  · refine jj_il1 dMd_word_5 ?_
    refine jj_bipush 31 dMd_word_6 (by decide) ?_
    refine jj_icmp_le 15 dMd_word_8 (by decide) (fun q2 => ?_) (fun q2 => ?_)
    · refine jj_iconst 0 dMd_word_15 (by decide) ?_
      exact k16 false ⟨fun h => (by cases h), fun h => h.elim (fun g => absurd g q1) (fun g => absurd (le_lt32 q2) g)⟩
    · refine jj_iconst 1 dMd_word_11 (by decide) ?_
      refine jj_goto 16 dMd_word_12 (by decide) ?_
      exact k16 true ⟨fun _ => Or.inr (fun h => q2 (lt_le31 h)), fun _ => rfl⟩
set_option maxRecDepth 100000 in
set_option maxHeartbeats 4000000 in
theorem m_store {ω : jw} {d : Nat} {M : Nat → Nat → Int32} {J sl : Nat} {Q : jr → jh → Prop} {σ : Sg} (hS : MS M σ) (hW : Wm σ) (a v : Int32) (hq : MP ω J sl M Q tcW (spStore σ a v)) : jwp ω (d + 1) mMd_store [.ref (jN ω + 103), .int a, .int v] (jst ω M J sl) Q := by
  refine jwp_of (by simp [Value.category]) (Nat.le_of_ble_eq_true rfl) (ls := [some (.ref (jN ω + 103)), some (.int a), some (.int v)]) rfl ?_
  refine jj_al0 dMd_store_0 ?_
  refine jj_iconst 0 dMd_store_1 (by decide) ?_
  refine mr_put dMd_store_2 clMd lkMd_95 rfl rfl (s103 _) (s103 _) (Nat.le_of_ble_eq_true rfl) rfl ?_
  have hS1 := hS.hd (Hd.up M (k := 103) (i := 0) 0 (by omega))
  have hL1 : Lo M (mup M 103 0 0) := (Lo.refl M).up _ (by omega)
  have hT1 := mup_at M 103 0 0
  generalize mup M 103 0 0 = M1 at hS1 hL1 hT1 ⊢
  refine jj_al0 dMd_store_5 ?_
  refine jj_il1 dMd_store_6 ?_
  refine mv1 dMd_store_7 clMd cvMd_190 (s103 _) (Nat.le_of_ble_eq_true rfl) ?_
  refine c_isImage hS1 hW a (fun him => jk_i ?_) (fun him => jk_i ?_)
  · obtain ⟨i, hi, rfl, htk⟩ := imP_ix hW him
    refine jj_if_ne 15 dMd_store_10 (by decide) (fun _ => ?_) (fun h => absurd h (by decide))
    refine jj_al0 dMd_store_15 ?_
    refine mr_get _ dMd_store_16 clMd lkMd_71 (s103 _) rfl ?_
    refine jj_il1 dMd_store_19 ?_
    refine jj_il2 dMd_store_20 ?_
    refine mr_iast dMd_store_21 (s124) (hi) (by decide) ?_
    refine jj_iconst 1 dMd_store_22 (by decide) ?_
    exact jj_iret dMd_store_23 rfl rfl (by
    rw [spStore, if_neg (fun h => by
      rw [iN_nI (by omega)] at h
      rcases h with h | h | h
      · exact nI_nn i (by omega) h
      · exact h (Int32.lt_iff_toInt_lt.mpr (by rw [nI_toInt (by omega)]; show (i : Int) < 32; omega))
      · rw [htk] at h; cases h), iN_nI (by omega)] at hq
    exact hq _ _ (MS_wd hS1) (hL1.up _ (by omega)) (by rw [mup_ne _ _ (by omega)]; exact hT1) (fun w h => by cases h; rfl))
  · refine jj_if_ne 15 dMd_store_10 (by decide) (fun h => absurd h (by decide)) (fun _ => ?_)
    refine jj_iconst 0 dMd_store_13 (by decide) ?_
    exact jj_iret dMd_store_14 rfl rfl (by
    rw [spStore, if_pos (by
      by_cases h0 : a < 0
      · exact Or.inl h0
      · by_cases h1 : a < 32
        · obtain ⟨i, hi, rfl⟩ := lt32 (n := 32) h0 h1 (by decide)
          rw [iN_nI (by omega)]
          refine Or.inr (Or.inr ?_)
          cases htk : tkn σ i with
          | false => rfl
          | true => exact absurd (imP_tk hW htk) him
        · exact Or.inr (Or.inl h1))] at hq
    exact hq _ _ hS1 hL1 hT1 (fun w h => by cases h; rfl))
set_option maxRecDepth 100000 in
set_option maxHeartbeats 4000000 in
theorem m_base {ω : jw} {d : Nat} {M : Nat → Nat → Int32} {J sl : Nat} {Q : jr → jh → Prop} {σ : Sg} (hS : MS M σ) (hW : Wm σ) (a : Int32) (hq : MP ω J sl M Q tcW (spBase σ a)) : jwp ω (d + 1) mMd_base [.ref (jN ω + 103), .int a] (jst ω M J sl) Q := by
  refine jwp_of (by simp [Value.category]) (Nat.le_of_ble_eq_true rfl) (ls := [some (.ref (jN ω + 103)), some (.int a)]) rfl ?_
  refine jj_al0 dMd_base_0 ?_
  refine jj_iconst 0 dMd_base_1 (by decide) ?_
  refine mr_put dMd_base_2 clMd lkMd_95 rfl rfl (s103 _) (s103 _) (Nat.le_of_ble_eq_true rfl) rfl ?_
  have hS1 := hS.hd (Hd.up M (k := 103) (i := 0) 0 (by omega))
  have hL1 : Lo M (mup M 103 0 0) := (Lo.refl M).up _ (by omega)
  have hT1 := mup_at M 103 0 0
  generalize mup M 103 0 0 = M1 at hS1 hL1 hT1 ⊢
  refine jj_il1 dMd_base_5 ?_
  refine ms1 dMd_base_6 csMd_99 (Nat.le_of_ble_eq_true rfl) ?_
  refine jwp_le (c_Md_isObject (d := 0) a (fun n hn he => jk_i ?_) (fun hno => jk_i ?_)) (Nat.zero_le _)
  · subst he
    refine jj_if_eq 30 dMd_base_9 (by decide) (fun h => absurd h (by decide)) (fun _ => ?_)
    refine jj_al0 dMd_base_12 ?_
    refine mr_get _ dMd_base_13 clMd lkMd_47 (s103 _) rfl ?_
    refine jj_il1 dMd_base_16 ?_
    refine mr_zald dMd_base_17 (s116 _) (hn) (by decide) ?_
    refine jj_if_eq 30 dMd_base_18 (by decide) (fun q1 => ?_) (fun q1 => ?_)
    · refine jj_iconst (-1) dMd_base_30 (by decide) ?_
      exact jj_iret dMd_base_31 rfl rfl (by rw [spBase, if_neg (isObj_no hn), iN6 hn, (isSome_iff hS1 hn).mp q1] at hq; exact hq _ _ hS1 hL1 hT1 (fun w h => by cases h; rfl))
    · obtain ⟨b, hb⟩ : ∃ b, Zb σ n = some b := by
        cases hx : Zb σ n with
        | none => exact absurd ((isSome_iff hS1 hn).mpr hx) q1
        | some b => exact ⟨b, rfl⟩
      refine jj_al0 dMd_base_21 ?_
      refine mr_get _ dMd_base_22 clMd lkMd_50 (s103 _) rfl ?_
      refine jj_il1 dMd_base_25 ?_
      refine mr_iald dMd_base_26 (s117 _) (hn) (by decide) ?_
      rw [((hS1.2.1 n hn).2 b hb).1]
      refine jj_goto 31 dMd_base_27 (by decide) ?_
      exact jj_iret dMd_base_31 rfl rfl (by rw [spBase, if_neg (isObj_no hn), iN6 hn, hb] at hq; exact hq _ _ hS1 hL1 hT1 (fun w h => by cases h; rfl))
  · refine jj_if_eq 30 dMd_base_9 (by decide) (fun _ => ?_) (fun h => absurd h (by decide))
    refine jj_iconst (-1) dMd_base_30 (by decide) ?_
    exact jj_iret dMd_base_31 rfl rfl (by rw [spBase, if_pos hno] at hq; exact hq _ _ hS1 hL1 hT1 (fun w h => by cases h; rfl))
set_option maxRecDepth 100000 in
set_option maxHeartbeats 4000000 in
theorem m_opened {ω : jw} {d : Nat} {M : Nat → Nat → Int32} {J sl : Nat} {Q : jr → jh → Prop} {σ : Sg} (hS : MS M σ) (hW : Wm σ) (a : Int32) (hq : MP ω J sl M Q tcW (spOpened σ a)) : jwp ω (d + 1) mMd_opened [.ref (jN ω + 103), .int a] (jst ω M J sl) Q := by
  refine jwp_of (by simp [Value.category]) (Nat.le_of_ble_eq_true rfl) (ls := [some (.ref (jN ω + 103)), some (.int a)]) rfl ?_
  refine jj_al0 dMd_opened_0 ?_
  refine jj_iconst 0 dMd_opened_1 (by decide) ?_
  refine mr_put dMd_opened_2 clMd lkMd_95 rfl rfl (s103 _) (s103 _) (Nat.le_of_ble_eq_true rfl) rfl ?_
  have hS1 := hS.hd (Hd.up M (k := 103) (i := 0) 0 (by omega))
  have hL1 : Lo M (mup M 103 0 0) := (Lo.refl M).up _ (by omega)
  have hT1 := mup_at M 103 0 0
  generalize mup M 103 0 0 = M1 at hS1 hL1 hT1 ⊢
  refine jj_il1 dMd_opened_5 ?_
  refine ms1 dMd_opened_6 csMd_99 (Nat.le_of_ble_eq_true rfl) ?_
  refine jwp_le (c_Md_isObject (d := 0) a (fun n hn he => jk_i ?_) (fun hno => jk_i ?_)) (Nat.zero_le _)
  · subst he
    refine jj_if_eq 21 dMd_opened_9 (by decide) (fun h => absurd h (by decide)) (fun _ => ?_)
    refine jj_al0 dMd_opened_12 ?_
    refine mr_get _ dMd_opened_13 clMd lkMd_62 (s103 _) rfl ?_
    refine jj_il1 dMd_opened_16 ?_
    refine mr_iald dMd_opened_17 (s121 _) (hn) (by decide) ?_
    rw [hS1.2.2.1 n hn]
    refine jj_goto 22 dMd_opened_18 (by decide) ?_
    exact jj_iret dMd_opened_22 rfl rfl (by rw [spOpened, if_neg (isObj_no hn), iN6 hn] at hq; exact hq _ _ hS1 hL1 hT1 (fun w h => by cases h; rfl))
  · refine jj_if_eq 21 dMd_opened_9 (by decide) (fun _ => ?_) (fun h => absurd h (by decide))
    refine jj_iconst 0 dMd_opened_21 (by decide) ?_
    exact jj_iret dMd_opened_22 rfl rfl (by rw [spOpened, if_pos hno] at hq; exact hq _ _ hS1 hL1 hT1 (fun w h => by cases h; rfl))
set_option maxRecDepth 100000 in
set_option maxHeartbeats 4000000 in
theorem m_global {ω : jw} {d : Nat} {M : Nat → Nat → Int32} {J sl : Nat} {Q : jr → jh → Prop} {σ : Sg} (hS : MS M σ) (hW : Wm σ) (a : Int32) (hq : MP ω J sl M Q tcW (spGlobal σ a)) : jwp ω d mMd_global [.ref (jN ω + 103), .int a] (jst ω M J sl) Q := by
  refine jwp_of (by simp [Value.category]) (Nat.le_of_ble_eq_true rfl) (ls := [some (.ref (jN ω + 103)), some (.int a)]) rfl ?_
  refine jj_al0 dMd_global_0 ?_
  refine jj_iconst 0 dMd_global_1 (by decide) ?_
  refine mr_put dMd_global_2 clMd lkMd_95 rfl rfl (s103 _) (s103 _) (Nat.le_of_ble_eq_true rfl) rfl ?_
  have hS1 := hS.hd (Hd.up M (k := 103) (i := 0) 0 (by omega))
  have hL1 : Lo M (mup M 103 0 0) := (Lo.refl M).up _ (by omega)
  have hT1 := mup_at M 103 0 0
  generalize mup M 103 0 0 = M1 at hS1 hL1 hT1 ⊢
  obtain ⟨h21, hl6, h123⟩ := hS1.2.2.2.2.1
  refine jj_il1 dMd_global_5 ?_
  refine jj_if_lt 26 dMd_global_6 (by decide) (fun q1 => ?_) (fun q1 => ?_)
  · refine jj_iconst (-1) dMd_global_26 (by decide) ?_
    exact jj_iret dMd_global_27 rfl rfl (by rw [spGlobal, if_pos (Or.inl q1)] at hq; exact hq _ _ hS1 hL1 hT1 (fun w h => by cases h; rfl))
  · refine jj_il1 dMd_global_9 ?_
    refine jj_al0 dMd_global_10 ?_
    refine mr_get _ dMd_global_11 clMd lkMd_133 (s103 _) rfl ?_
    rw [h21]
    refine jj_icmp_ge 26 dMd_global_14 (by decide) (fun q2 => ?_) (fun q2 => ?_)
    · refine jj_iconst (-1) dMd_global_26 (by decide) ?_
      exact jj_iret dMd_global_27 rfl rfl (by rw [spGlobal, if_pos (Or.inr q2)] at hq; exact hq _ _ hS1 hL1 hT1 (fun w h => by cases h; rfl))
    · obtain ⟨i, hi, rfl⟩ := ixIn (n := (Gl σ).length) (by omega) q1 q2
      obtain ⟨p, e1⟩ : ∃ p, (Gl σ)[i]? = some p := ⟨_, List.getElem?_eq_getElem hi⟩
      refine jj_al0 dMd_global_17 ?_
      refine mr_get _ dMd_global_18 clMd lkMd_68 (s103 _) rfl ?_
      refine jj_il1 dMd_global_21 ?_
      refine mr_iald dMd_global_22 (s123 _) (by omega) (by decide) ?_
      rw [h123 i p e1]
      refine jj_goto 27 dMd_global_23 (by decide) ?_
      exact jj_iret dMd_global_27 rfl rfl (by rw [spGlobal, if_neg (fun h => h.elim q1 q2), iN_nI (by omega), List.getD_eq_getElem?_getD, e1] at hq; exact hq _ _ hS1 hL1 hT1 (fun w h => by cases h; rfl))
set_option maxRecDepth 100000 in
set_option maxHeartbeats 4000000 in
theorem m_events {ω : jw} {d : Nat} {M : Nat → Nat → Int32} {J sl : Nat} {Q : jr → jh → Prop} {σ : Sg} (hS : MS M σ) (hW : Wm σ) (hq : MP ω J sl M Q tcW (spEvents σ)) : jwp ω d mMd_events [.ref (jN ω + 103)] (jst ω M J sl) Q := by
  refine jwp_of (by simp [Value.category]) (Nat.le_of_ble_eq_true rfl) (ls := [some (.ref (jN ω + 103))]) rfl ?_
  refine jj_al0 dMd_events_0 ?_
  refine jj_iconst 0 dMd_events_1 (by decide) ?_
  refine mr_put dMd_events_2 clMd lkMd_95 rfl rfl (s103 _) (s103 _) (Nat.le_of_ble_eq_true rfl) rfl ?_
  have hS1 := hS.hd (Hd.up M (k := 103) (i := 0) 0 (by omega))
  have hL1 : Lo M (mup M 103 0 0) := (Lo.refl M).up _ (by omega)
  have hT1 := mup_at M 103 0 0
  generalize mup M 103 0 0 = M1 at hS1 hL1 hT1 ⊢
  refine jj_al0 dMd_events_5 ?_
  refine mr_get _ dMd_events_6 clMd lkMd_156 (s103 _) rfl ?_
  rw [hS1.2.2.2.2.2.2.1.1]
  exact jj_iret dMd_events_9 rfl rfl (hq _ _ hS1 hL1 hT1 (fun w h => by cases h; rfl))
set_option maxRecDepth 100000 in
set_option maxHeartbeats 4000000 in
theorem m_steps {ω : jw} {d : Nat} {M : Nat → Nat → Int32} {J sl : Nat} {Q : jr → jh → Prop} {σ : Sg} (hS : MS M σ) (hW : Wm σ) (hq : MP ω J sl M Q tcW (spSteps σ)) : jwp ω d mMd_steps [.ref (jN ω + 103)] (jst ω M J sl) Q := by
  refine jwp_of (by simp [Value.category]) (Nat.le_of_ble_eq_true rfl) (ls := [some (.ref (jN ω + 103))]) rfl ?_
  refine jj_al0 dMd_steps_0 ?_
  refine jj_iconst 0 dMd_steps_1 (by decide) ?_
  refine mr_put dMd_steps_2 clMd lkMd_95 rfl rfl (s103 _) (s103 _) (Nat.le_of_ble_eq_true rfl) rfl ?_
  have hS1 := hS.hd (Hd.up M (k := 103) (i := 0) 0 (by omega))
  have hL1 : Lo M (mup M 103 0 0) := (Lo.refl M).up _ (by omega)
  have hT1 := mup_at M 103 0 0
  generalize mup M 103 0 0 = M1 at hS1 hL1 hT1 ⊢
  refine jj_al0 dMd_steps_5 ?_
  refine mr_get _ dMd_steps_6 clMd lkMd_130 (s103 _) rfl ?_
  rw [show M1 103 32 = Sp σ from hS1.2.2.2.2.2.2.2]
  exact jj_iret dMd_steps_9 rfl rfl (hq _ _ hS1 hL1 hT1 (fun w h => by cases h; rfl))
theorem nI_sub {a b : Nat} (h : b ≤ a) : nI a - nI b = nI (a - b) := by
  have h1 := nI_add (a - b) b
  rw [show a - b + b = a by omega] at h1
  rw [← h1, Int32.add_sub_cancel]
theorem gt39 {a : Int32} (h : (39 : Int32) < a) : (40 : Int32) ≤ a := Int32.le_iff_toInt_le.mpr (by
  have h1 := Int32.lt_iff_toInt_lt.mp h
  have e1 : (39 : Int32).toInt = 39 := by decide
  have e2 : (40 : Int32).toInt = 40 := by decide
  omega)
theorem ge40 {a : Int32} (h : (40 : Int32) ≤ a) : (39 : Int32) < a := Int32.lt_iff_toInt_lt.mpr (by
  have h1 := Int32.le_iff_toInt_le.mp h
  have e1 : (39 : Int32).toInt = 39 := by decide
  have e2 : (40 : Int32).toInt = 40 := by decide
  omega)
set_option maxRecDepth 100000 in
set_option maxHeartbeats 4000000 in
theorem m_event {ω : jw} {d : Nat} {M : Nat → Nat → Int32} {J sl : Nat} {Q : jr → jh → Prop} {σ : Sg} (hS : MS M σ) (hW : Wm σ) (hev : (Ev σ).length < 2 ^ 30) (a : Int32) (hq : MP ω J sl M Q tcW (spEvent σ a)) : jwp ω d mMd_event [.ref (jN ω + 103), .int a] (jst ω M J sl) Q := by
  refine jwp_of (by simp [Value.category]) (Nat.le_of_ble_eq_true rfl) (ls := [some (.ref (jN ω + 103)), some (.int a)]) rfl ?_
  have k24 : ∀ (c : Bool), (c = true ↔ (a < 0 ∨ (40 : Int32) ≤ a ∨ ¬ a < nI (Ev σ).length)) → jj ω d mMd_event 24 [some (.ref (jN ω + 103)), some (.int a)] [.int (b2i c), .ref (jN ω + 103)] (jst ω M J sl) Q := by
    intro c hc
    refine mr_put dMd_event_24 clMd lkMd_95 rfl rfl (s103 _) (s103 _) (Nat.le_of_ble_eq_true rfl) rfl ?_
    refine jj_al0 dMd_event_27 ?_
    refine mr_get _ dMd_event_28 clMd lkMd_95 (s103 _) rfl ?_
    rw [mup_at]
    refine jj_if_le 38 dMd_event_31 (by decide) (fun q9 => ?_) (fun q9 => ?_)
    · have hc0 : c = false := by cases c; rfl; exact absurd q9 (by decide)
      subst hc0
      have hbd : ¬ (a < 0 ∨ (40 : Int32) ≤ a ∨ ¬ a < nI (Ev σ).length) := fun h => Bool.noConfusion (hc.mpr h)
      obtain ⟨k, hk, rfl⟩ := lt32 (fun h => hbd (Or.inl h)) (Classical.not_not.mp (fun h => hbd (Or.inr (Or.inr h)))) (by omega)
      have hk40 : k < 40 := nle_lt (a := 40) rfl (fun h => hbd (Or.inr (Or.inl h))) (by decide) (by omega)
      rw [show b2i false = 0 from rfl]
      have hS1 := hS.hd (Hd.up M (k := 103) (i := 0) 0 (by omega))
      have hL1 : Lo M (mup M 103 0 0) := (Lo.refl M).up _ (by omega)
      have hT1 := mup_at M 103 0 0
      generalize mup M 103 0 0 = M1 at hS1 hL1 hT1 ⊢
      refine jj_al0 dMd_event_38 ?_
      refine mr_get _ dMd_event_39 clMd lkMd_92 (s103 _) rfl ?_
      refine jj_al0 dMd_event_42 ?_
      refine mr_get _ dMd_event_43 clMd lkMd_156 (s103 _) rfl ?_
      rw [hS1.2.2.2.2.2.2.1.1]
      refine jj_iconst 1 dMd_event_46 (by decide) ?_
      refine jj_isub dMd_event_47 ?_
      rw [nI_pred1 (by omega)]
      refine jj_il1 dMd_event_48 ?_
      refine jj_isub dMd_event_49 ?_
      rw [nI_sub (by omega : k ≤ (Ev σ).length - 1)]
      refine jj_bipush 40 dMd_event_50 (by decide) ?_
      refine jj_irem dMd_event_52 (by decide) ?_
      rw [rem40 _ (by omega)]
      refine mr_iald dMd_event_53 (s131 _) (by omega) (by decide) ?_
      rw [hS1.2.2.2.2.2.2.1.2 _ _ (List.getElem?_eq_getElem (by omega : (Ev σ).length - 1 - k < (Ev σ).length)) (by omega)]
      exact jj_iret dMd_event_54 rfl rfl (by
      rw [spEvent, if_neg hbd, iN_nI (by omega), List.getD_eq_getElem?_getD, List.getElem?_eq_getElem (by omega : (Ev σ).length - 1 - k < (Ev σ).length)] at hq
      exact hq _ _ hS1 hL1 hT1 (fun w h => by cases h; rfl))
    · refine jj_iconst 0 dMd_event_34 (by decide) ?_
      refine jj_goto 54 dMd_event_35 (by decide) ?_
      
      exact jj_iret dMd_event_54 rfl rfl (by
      have hc1 : c = true := by cases c; exact absurd (by decide) q9; rfl
      subst hc1
      rw [spEvent, if_pos (hc.mp rfl)] at hq
      exact hq _ _ (hS.hd (Hd.up M _ (by omega))) ((Lo.refl M).up _ (by omega)) (mup_at _ _ _ _) (fun w h => by cases h))
  refine jj_al0 dMd_event_0 ?_
  refine jj_il1 dMd_event_1 ?_
  refine jj_if_lt 19 dMd_event_2 (by decide) (fun q1 => ?_) (fun q1 => ?_)
  · refine jj_iconst 1 dMd_event_19 (by decide) ?_
    refine jj_goto 24 dMd_event_20 (by decide) ?_
    exact k24 true ⟨fun _ => Or.inl q1, fun _ => rfl⟩
  · refine jj_il1 dMd_event_5 ?_
    refine jj_bipush 39 dMd_event_6 (by decide) ?_
    refine jj_icmp_gt 19 dMd_event_8 (by decide) (fun q2 => ?_) (fun q2 => ?_)
    · refine jj_iconst 1 dMd_event_19 (by decide) ?_
      refine jj_goto 24 dMd_event_20 (by decide) ?_
      exact k24 true ⟨fun _ => Or.inr (Or.inl (gt39 q2)), fun _ => rfl⟩
    · refine jj_il1 dMd_event_11 ?_
      refine jj_al0 dMd_event_12 ?_
      refine mr_get _ dMd_event_13 clMd lkMd_156 (s103 _) rfl ?_
      rw [hS.2.2.2.2.2.2.1.1]
      refine jj_icmp_lt 23 dMd_event_16 (by decide) (fun q3 => ?_) (fun q3 => ?_)
      · refine jj_iconst 0 dMd_event_23 (by decide) ?_
        exact k24 false ⟨fun h => (by cases h), fun h => h.elim (fun g => absurd g q1) (fun h => h.elim (fun g => absurd (ge40 g) q2) (fun g => absurd q3 g))⟩
      · refine jj_iconst 1 dMd_event_19 (by decide) ?_
        refine jj_goto 24 dMd_event_20 (by decide) ?_
        exact k24 true ⟨fun _ => Or.inr (Or.inr q3), fun _ => rfl⟩
