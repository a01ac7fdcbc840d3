set_option maxRecDepth 100000 in
set_option maxHeartbeats 4000000 in
theorem c_mfind_l {ω : jw} {d : Nat} {J sl : Nat} {Q : jr → jh → Prop} {M0 : Nat → Nat → Int32} {σ : Sg} (hS0 : MS M0 σ) (hR : RvOk σ) {l : List Nat} (hC0 : ClIs M0 l) (hl6 : ∀ q ∈ l, q < 6) (c1 : Option Value) (nm : Int32) :
    ∀ (n i : Nat) (st : Int32) (M : Nat → Nat → Int32) (c4 : Option Value), l.length - i < n → i ≤ l.length → St32 M0 M → M 103 32 = st →
    (∀ M' q, St32 M0 M' → M' 103 32 = (fdF σ nm (l.drop i) st).2 → (fdF σ nm (l.drop i) st).1 = some q → Q (.inl (some (.int (adF σ nm (some q))))) (jst ω M' J sl)) → (∀ M', St32 M0 M' → M' 103 32 = (fdF σ nm (l.drop i) st).2 → (fdF σ nm (l.drop i) st).1 = none → Q (.inl (some (.int 0))) (jst ω (mup M' 103 0 4) J sl)) →
    jj ω (d + 2) mMd_find 61 [some (.ref (jN ω + 103)), c1, some (.int nm), some (.int (nI i)), c4] [] (jst ω M J sl) Q := by
  obtain ⟨h24, hll, h125⟩ := hC0
  intro n
  induction n with
  | zero => intro i st M c4 hn; omega
  | succ n ih =>
    intro i st M c4 hn hi hO hst h1 h0
    have e24 : M 103 24 = nI l.length := by rw [hO _ _ (by omega)]; exact h24
    refine jj_il3 dMd_find_61 ?_
    refine jj_al0 dMd_find_62 ?_
    refine mr_get _ dMd_find_63 clMd lkMd_123 (s103 _) rfl ?_
    rw [e24]
    refine jj_icmp_ge 114 dMd_find_66 (by decide) (fun q1 => ?_) (fun q1 => ?_)
    · refine jj_al0 dMd_find_114 ?_
      refine jj_iconst 4 dMd_find_115 (by decide) ?_
      refine mr_put dMd_find_116 clMd lkMd_95 rfl rfl (s103 _) (s103 _) (Nat.le_of_ble_eq_true rfl) rfl ?_
      refine jj_iconst 0 dMd_find_119 (by decide) ?_
      exact jj_iret dMd_find_120 rfl rfl (by rw [List.drop_eq_nil_of_le (le_le rfl q1 (by omega) (by omega))] at h0; exact h0 M hO hst rfl)
    · have hi2 : i < l.length := nle_lt rfl q1 (by omega) (by omega)
      obtain ⟨q, e1⟩ : ∃ q, l[i]? = some q := ⟨_, List.getElem?_eq_getElem hi2⟩
      have e2 : q < 6 := hl6 q (List.mem_of_getElem? e1)
      rw [List.drop_eq_getElem_cons hi2, show l[i] = q from (List.getElem?_eq_some_iff.mp e1).2] at h1 h0
      have hS : MS M (zSt σ st) := MS_st hS0 hO hst
      have e125 : M 125 i = nI q := by rw [hO _ _ (by omega)]; exact h125 i q e1
      refine jj_al0 dMd_find_69 ?_
      refine mr_get _ dMd_find_70 clMd lkMd_47 (s103 _) rfl ?_
      refine jj_al0 dMd_find_73 ?_
      refine mr_get _ dMd_find_74 clMd lkMd_74 (s103 _) rfl ?_
      refine jj_il3 dMd_find_77 ?_
      refine mr_iald dMd_find_78 (s125 _) (by omega) (by decide) ?_
      rw [e125]
      refine mr_zald dMd_find_79 (s116 _) (e2) (by decide) ?_
      refine jj_if_eq 97 dMd_find_80 (by decide) (fun q2 => ?_) (fun q2 => ?_)
      · have hb : Zb σ q = none := (isSome_iff hS e2).mp q2
        refine jj_iconst (-1) dMd_find_97 (by decide) ?_
        
        refine jj_is4 dMd_find_98 ?_
        refine jj_il4 dMd_find_100 ?_
        refine jj_if_lt 108 dMd_find_102 (by decide) (fun _ => ?_) (fun h => absurd h (by decide))
        refine jj_ii3 (nI (i + 1)) dMd_find_108 (inc1 i) ?_
        refine jj_goto 61 dMd_find_111 (by decide) ?_
        rw [fdF_c0 hb] at h1 h0
        exact ih (i + 1) st M _ (by omega) (by omega) hO hst h1 h0
      · obtain ⟨b, hb⟩ : ∃ b, Zb σ q = some b := by
          cases hx : Zb σ q with
          | none => exact absurd ((isSome_iff hS e2).mpr hx) q2
          | some b => exact ⟨b, rfl⟩
        refine jj_al0 dMd_find_83 ?_
        refine jj_al0 dMd_find_84 ?_
        refine mr_get _ dMd_find_85 clMd lkMd_74 (s103 _) rfl ?_
        refine jj_il3 dMd_find_88 ?_
        refine mr_iald dMd_find_89 (s125 _) (by omega) (by decide) ?_
        rw [e125]
        refine jj_il2 dMd_find_90 ?_
        refine mv2 dMd_find_91 clMd cvMd_136 (s103 _) (Nat.le_of_ble_eq_true rfl) ?_
        refine c_withinS hS hR.1 hR.2.1 e2 hb nm (fun M1 hO1 h32 h33 => jk_i ?_)
        refine jj_goto 98 dMd_find_94 (by decide) ?_
        rw [vAd hb]
        by_cases hpl : plcF nm (Zy σ q) = -1
        · rw [if_pos hpl]
          rw [fdF_c1 hb hpl] at h1 h0
          refine jj_is4 dMd_find_98 ?_
          refine jj_il4 dMd_find_100 ?_
          refine jj_if_lt 108 dMd_find_102 (by decide) (fun _ => ?_) (fun h => absurd (by decide) h)
          refine jj_ii3 (nI (i + 1)) dMd_find_108 (inc1 i) ?_
          refine jj_goto 61 dMd_find_111 (by decide) ?_
          exact ih (i + 1) _ M1 _ (by omega) (by omega) (hO.trans hO1) h32 h1 h0
        rw [if_neg hpl]
        rw [fdF_c2 hb hpl] at h1 h0
        refine jj_is4 dMd_find_98 ?_
        refine jj_il4 dMd_find_100 ?_
        refine jj_if_lt 108 dMd_find_102 (by decide) (fun q3 => absurd q3 (adF_nn hR.1 e2 (by rw [hb]; simp) hpl)) (fun q3 => ?_)
        refine jj_il4 dMd_find_105 ?_
        exact jj_iret dMd_find_107 rfl rfl (h1 M1 q (hO.trans hO1) h32 rfl)
set_option maxRecDepth 100000 in
set_option maxHeartbeats 4000000 in
theorem m_find {ω : jw} {d : Nat} {M : Nat → Nat → Int32} {J sl : Nat} {Q : jr → jh → Prop} {σ : Sg} (hS : MS M σ) (hR : RvOk σ) (hN6 : ∀ p, p < 6 → ∀ x ∈ Zn σ p, x < 6) (a nm : Int32) (hq : MP ω J sl M Q tcA (spFind σ a nm)) : jwp ω (d + 3) mMd_find [.ref (jN ω + 103), .int a, .int nm] (jst ω M J sl) Q := by
  refine jwp_of (by simp [Value.category]) (Nat.le_of_ble_eq_true rfl) (ls := [some (.ref (jN ω + 103)), some (.int (a)), some (.int (nm)), none, none]) rfl ?_
  by_cases hno : oN a
  · rw [spFind, if_pos hno] at hq
    have k25 : ∀ (c : Bool), jj ω (d + 3) mMd_find 25 [some (.ref (jN ω + 103)), some (.int (a)), some (.int (nm)), none, none] [.int (b2i c), .int 1, .ref (jN ω + 103)] (jst ω M J sl) Q := by
      intro c
      refine jj_il1 dMd_find_25 ?_
      refine ms1 dMd_find_26 csMd_99 (Nat.le_of_ble_eq_true rfl) ?_
      refine jwp_le (c_Md_isObject (d := 0) a (fun n hn he => absurd hno (by rw [he]; exact isObj_no hn)) (fun _ => jk_i ?_)) (Nat.zero_le _)
      refine jj_if_eq 45 dMd_find_29 (by decide) (fun _ => ?_) (fun h => absurd h (by decide))
      refine jj_iconst 0 dMd_find_45 (by decide) ?_
      refine mv3 dMd_find_46 clMd cvMd_103 (s103 _) (Nat.le_of_ble_eq_true rfl) ?_
      refine jwp_le (c_refused (d := 0) true c false (fun h0 => absurd h0 (by cases c <;> decide)) (fun h1 => jk_i ?_)) (Nat.zero_le _)
      refine jj_if_eq 54 dMd_find_49 (by decide) (fun h => absurd h (by decide)) (fun _ => ?_)
      refine jj_iconst 0 dMd_find_52 (by decide) ?_
      exact jj_iret dMd_find_53 rfl rfl (hq _ 0 (hS.hd (Hd.up M _ (by omega))) ((Lo.refl M).up _ (by omega)) (by rw [mup_at]; rfl) (fun w h => by cases h))
    refine jj_al0 dMd_find_0 ?_
    refine jj_il1 dMd_find_1 ?_
    refine ms1 dMd_find_2 csMd_99 (Nat.le_of_ble_eq_true rfl) ?_
    refine jwp_le (c_Md_isObject (d := 0) a (fun n hn he => absurd hno (by rw [he]; exact isObj_no hn)) (fun _ => jk_i ?_)) (Nat.zero_le _)
    refine jj_if_ne 12 dMd_find_5 (by decide) (fun h => absurd h (by decide)) (fun _ => ?_)
    refine jj_iconst 1 dMd_find_8 (by decide) ?_
    refine jj_goto 13 dMd_find_9 (by decide) ?_
    refine jj_il2 dMd_find_13 ?_
    refine ms1 dMd_find_14 csMd_114 (Nat.le_of_ble_eq_true rfl) ?_
    refine jwp_le (c_mName (d := 0) nm (fun hnm => jk_i ?_) (fun hnm => jk_i ?_)) (Nat.zero_le _)
    · refine jj_if_ne 24 dMd_find_17 (by decide) (fun _ => ?_) (fun h => absurd h (by decide))
      refine jj_iconst 0 dMd_find_24 (by decide) ?_
      exact k25 false
    · refine jj_if_ne 24 dMd_find_17 (by decide) (fun h => absurd h (by decide)) (fun _ => ?_)
      refine jj_iconst 1 dMd_find_20 (by decide) ?_
      refine jj_goto 25 dMd_find_21 (by decide) ?_
      exact k25 true
  obtain ⟨n, hn, rfl⟩ : ∃ n : Nat, n < 6 ∧ a = nI n := (isObj a).resolve_right hno
  rw [spFind, if_neg hno, iN6 hn] at hq
  have k25 : ∀ (c : Bool), (c = true ↔ nmB nm = false) → jj ω (d + 3) mMd_find 25 [some (.ref (jN ω + 103)), some (.int (nI n)), some (.int (nm)), none, none] [.int (b2i c), .int 0, .ref (jN ω + 103)] (jst ω M J sl) Q := by
    intro c hc
    have k46 : ∀ (e : Bool), (e = true ↔ Zb σ n = none) → jj ω (d + 3) mMd_find 46 [some (.ref (jN ω + 103)), some (.int (nI n)), some (.int (nm)), none, none] [.int (b2i e), .int (b2i c), .int 0, .ref (jN ω + 103)] (jst ω M J sl) Q := by
      intro e he
      refine mv3 dMd_find_46 clMd cvMd_103 (s103 _) (Nat.le_of_ble_eq_true rfl) ?_
      refine jwp_le (c_refused (d := 0) false c e (fun h0 => jk_i ?_) (fun h1 => jk_i ?_)) (Nat.zero_le _)
      · refine jj_if_eq 54 dMd_find_49 (by decide) (fun _ => ?_) (fun h => absurd rfl h)
        obtain ⟨_, hc0, he0⟩ := tt3_0 h0
        subst hc0
        subst he0
        have hld : ¬ Zb σ n = none := fun h => Bool.noConfusion (he.mpr h)
        rw [if_neg (fun h => Bool.noConfusion (hc.mpr h)), if_neg hld] at hq
        obtain ⟨hl, hol, hlc⟩ := clos_facts hN6 hn
        have hS1 := hS.hd (Hd.up M (k := 103) (i := 0) 0 (by omega))
        have hL1 : Lo M (mup M 103 0 0) := (Lo.refl M).up _ (by omega)
        have hT1 := mup_at M 103 0 0
        generalize mup M 103 0 0 = M1 at hS1 hL1 hT1 ⊢
        refine jj_al0 dMd_find_54 ?_
        refine jj_il1 dMd_find_55 ?_
        refine mv1 dMd_find_56 clMd cvMd_163 (s103 _) (Nat.le_of_ble_eq_true rfl) ?_
        refine jwp_le (c_findClosure (d := 0) hS1 hN6 hn (fun M2 hH2 hC2 => jk_v ?_)) (Nat.zero_le _)
        have hS2 := hS1.hd hH2.1
        have hT2 : M2 103 0 = 0 := by rw [hH2.2.2 0 (by omega)]; exact hT1
        refine jj_iconst 0 dMd_find_59 (by decide) ?_
        refine jj_is3 dMd_find_60 ?_
        refine c_mfind_l hS2 hR hC2 hl.2 _ nm ((clos (Zn σ) n).length + 1) 0 (Sp σ) M2 _ (by omega) (by omega) (St32.refl M2) hS2.2.2.2.2.2.2.2 (fun M3 q a1 a2 a3 => ?_) (fun M3 a1 a2 a3 => ?_)
        · rw [List.drop_zero] at a2 a3
          rw [a3] at hq
          exact hq M3 _ (MS_st hS2 a1 a2) (hL1.trans (hH2.2.1.trans (fun k i h => a1 k i (by omega)))) (by rw [a1 _ _ (by omega)]; exact hT2) (fun w h => by cases h; rfl)
        · rw [List.drop_zero] at a2 a3
          rw [a3] at hq
          exact hq _ _ ((MS_st hS2 a1 a2).hd (Hd.up M3 _ (by omega))) ((hL1.trans (hH2.2.1.trans (fun k i h => a1 k i (by omega)))).up _ (by omega)) (by rw [mup_at]; rfl) (fun w h => by cases h)
      · refine jj_if_eq 54 dMd_find_49 (by decide) (fun h => absurd h (by decide)) (fun _ => ?_)
        refine jj_iconst 0 dMd_find_52 (by decide) ?_
        exact jj_iret dMd_find_53 rfl rfl (by
          cases c with
          | true => rw [if_pos (hc.mp rfl)] at hq; exact hq _ 0 (hS.hd (Hd.up M _ (by omega))) ((Lo.refl M).up _ (by omega)) (mup_at _ _ _ _) (fun w h => by cases h)
          | false =>
            cases e with
            | true => rw [if_neg (fun h => Bool.noConfusion (hc.mpr h)), if_pos (he.mp rfl)] at hq; exact hq _ 0 (hS.hd (Hd.up M _ (by omega))) ((Lo.refl M).up _ (by omega)) (mup_at _ _ _ _) (fun w h => by cases h)
            | false => exact absurd rfl h1)
    refine jj_il1 dMd_find_25 ?_
    refine ms1 dMd_find_26 csMd_99 (Nat.le_of_ble_eq_true rfl) ?_
    refine jwp_le (c_Md_isObject (d := 0) (nI n) (fun _ _ _ => jk_i ?_) (fun h => absurd h (isObj_no hn))) (Nat.zero_le _)
    refine jj_if_eq 45 dMd_find_29 (by decide) (fun h => absurd h (by decide)) (fun _ => ?_)
    refine jj_al0 dMd_find_32 ?_
    refine mr_get _ dMd_find_33 clMd lkMd_47 (s103 _) rfl ?_
    refine jj_il1 dMd_find_36 ?_
    refine mr_zald dMd_find_37 (s116 _) (hn) (by decide) ?_
    refine jj_if_ne 45 dMd_find_38 (by decide) (fun p2 => ?_) (fun p2 => ?_)
    · refine jj_iconst 0 dMd_find_45 (by decide) ?_
      exact k46 false ⟨fun h => (by cases h), fun h => absurd ((isSome_iff hS hn).mpr h) p2⟩
    · refine jj_iconst 1 dMd_find_41 (by decide) ?_
      refine jj_goto 46 dMd_find_42 (by decide) ?_
      exact k46 true ⟨fun _ => (isSome_iff hS hn).mp p2, fun _ => rfl⟩
  refine jj_al0 dMd_find_0 ?_
  refine jj_il1 dMd_find_1 ?_
  refine ms1 dMd_find_2 csMd_99 (Nat.le_of_ble_eq_true rfl) ?_
  refine jwp_le (c_Md_isObject (d := 0) (nI n) (fun _ _ _ => jk_i ?_) (fun h => absurd h (isObj_no hn))) (Nat.zero_le _)
  refine jj_if_ne 12 dMd_find_5 (by decide) (fun _ => ?_) (fun h => absurd h (by decide))
  refine jj_iconst 0 dMd_find_12 (by decide) ?_
  refine jj_il2 dMd_find_13 ?_
  refine ms1 dMd_find_14 csMd_114 (Nat.le_of_ble_eq_true rfl) ?_
  refine jwp_le (c_mName (d := 0) nm (fun hnm => jk_i ?_) (fun hnm => jk_i ?_)) (Nat.zero_le _)
  · refine jj_if_ne 24 dMd_find_17 (by decide) (fun _ => ?_) (fun h => absurd h (by decide))
    refine jj_iconst 0 dMd_find_24 (by decide) ?_
    exact k25 false ⟨fun h => (by cases h), fun h => by rw [hnm] at h; cases h⟩
  · refine jj_if_ne 24 dMd_find_17 (by decide) (fun h => absurd h (by decide)) (fun _ => ?_)
    refine jj_iconst 1 dMd_find_20 (by decide) ?_
    refine jj_goto 25 dMd_find_21 (by decide) ?_
    exact k25 true ⟨fun _ => hnm, fun _ => rfl⟩
