def St32 (M M' : Nat → Nat → Int32) : Prop := ∀ k i, k ≠ 103 ∨ i ≠ 32 ∧ i ≠ 33 → M' k i = M k i
theorem St32.refl (M : Nat → Nat → Int32) : St32 M M := fun _ _ _ => rfl
theorem St32.trans {M M1 M2 : Nat → Nat → Int32} (h1 : St32 M M1) (h2 : St32 M1 M2) : St32 M M2 := fun k i a => (h2 k i a).trans (h1 k i a)
theorem St32.up {M M1 : Nat → Nat → Int32} (h : St32 M M1) {i : Nat} (v : Int32) (hi : i = 32 ∨ i = 33) : St32 M (mup M1 103 i v) := fun k j a => by rw [mup_ne _ _ (by omega)]; exact h k j a
theorem MS_st {M M' : Nat → Nat → Int32} {σ : Sg} {v : Int32} (h : MS M σ) (hH : St32 M M') (hv : M' 103 32 = v) : MS M' (zSt σ v) := by
  obtain ⟨c1, c2, c3, c4, c5, c6, c7, c8⟩ := h
  exact ⟨fun p hp => (c1 p hp).eqs (fun k i a b => hH k i (by omega)) rfl rfl rfl rfl, fun p hp => (c2 p hp).eqs (fun k i a b => hH k i (by omega)) rfl rfl rfl, fun p hp => by rw [hH _ _ (by omega)]; exact c3 p hp, c4.eqs (fun i => hH _ _ (by omega)) rfl rfl, c5.eqs (hH _ _ (by omega)) (fun i => hH _ _ (by omega)), c6.eqs (fun i => hH _ _ (by omega)) (fun a h => h) rfl, c7.eqs (hH _ _ (by omega)) (fun i => hH _ _ (by omega)), hv⟩
/-- the place at which the name is defined, from the latest symbol back -/
def lcF (nm : Int32) : List Sym → Option Int32
  | [] => none
  | s :: t => if s.1 = nm ∧ ¬ s.2.1 = -1 then some s.2.1 else lcF nm t
theorem lcF_none {nm : Int32} : ∀ {S : List Sym}, (∀ s ∈ S, ¬ s.1 = nm) → lcF nm S = none := by
  intro S
  induction S with
  | nil => intro _; rfl
  | cons s t ih =>
    intro h
    unfold lcF
    rw [if_neg (fun hh => h s List.mem_cons_self hh.1)]
    exact ih (fun z hz => h z (List.mem_cons_of_mem _ hz))
theorem lcF_app (nm : Int32) (t2 : List Sym) : ∀ t1 : List Sym, (∀ s ∈ t1, ¬ s.1 = nm) → lcF nm (t1 ++ t2) = lcF nm t2 := by
  intro t1
  induction t1 with
  | nil => intro _; rfl
  | cons s t ih =>
    intro h
    rw [List.cons_append, lcF, if_neg (fun hh => h s List.mem_cons_self hh.1)]
    exact ih (fun z hz => h z (List.mem_cons_of_mem _ hz))
theorem lcF_pre {nm : Int32} {t1 t2 : List Sym} : lcF nm t2 = none → lcF nm (t1 ++ t2) = lcF nm t1 := by
  intro h
  induction t1 with
  | nil => exact h
  | cons s t ih =>
    rw [List.cons_append]
    unfold lcF
    rw [ih]
theorem lcF_rev {nm : Int32} : ∀ {S : List Sym}, (S.map (·.1)).Nodup → lcF nm S.reverse = if plcF nm S = -1 then none else some (plcF nm S) := by
  intro S
  induction S with
  | nil => intro _; rfl
  | cons s t ih =>
    intro hn
    rw [List.map_cons, List.nodup_cons] at hn
    rw [List.reverse_cons]
    unfold plcF
    by_cases hs : s.1 = nm
    · rw [if_pos hs, lcF_app nm [s] t.reverse (fun z hz hzn => hn.1 (by rw [hs, ← hzn]; exact List.mem_map_of_mem (List.mem_reverse.mp hz)))]
      unfold lcF
      by_cases hp : s.2.1 = -1
      · rw [if_neg (fun h => h.2 hp), if_pos hp]; rfl
      · rw [if_pos ⟨hs, hp⟩, if_neg hp]
    · rw [if_neg hs, lcF_pre (by unfold lcF; rw [if_neg (fun h => hs h.1)]; rfl)]
      exact ih hn.2
def wvF (b : Nat) : Option Int32 → Int32
  | none => -1
  | some pl => nI b + pl
set_option maxRecDepth 100000 in
set_option maxHeartbeats 4000000 in
theorem c_within_l {ω : jw} {d : Nat} {J sl : Nat} {Q : jr → jh → Prop} {M0 : Nat → Nat → Int32} {σ : Sg} (hS0 : MS M0 σ) {p b : Nat} (hp : p < 6) (hb : Zb σ p = some b) (hP : ∀ y ∈ Zy σ p, SyOk σ p y) (hZ8 : Zs σ p ≤ 8) (nm : Int32) :
    ∀ (k : Nat) (st : Int32) (M : Nat → Nat → Int32) (c4 : Option Value), k ≤ (Zy σ p).length → St32 M0 M → M 103 32 = st → (∀ M', St32 M0 M' → M' 103 32 = st + stpF nm ((Zy σ p).take k).reverse → M' 103 33 = M0 103 33 → Q (.inl (some (.int (wvF b (lcF nm ((Zy σ p).take k).reverse))))) (jst ω M' J sl)) → M 103 33 = M0 103 33 →
    jj ω (d + 1) mMd_within 9 [some (.ref (jN ω + 103)), some (.int (nI p)), some (.int nm), some (.int (nI k - 1)), c4] [] (jst ω M J sl) Q := by
  obtain ⟨_, hl6, _, _, _, _, h110, hY, _, _⟩ := hS0.1 p hp
  intro k
  induction k with
  | zero =>
    intro st M c4 hk hO hst hq h33
    rw [List.take_zero, List.reverse_nil] at hq
    refine jj_il3 dMd_within_9 ?_
    refine jj_if_lt 90 dMd_within_10 (by decide) (fun q1 => ?_) (fun q1 => absurd q1 (fun h => h m1neg))
    refine jj_iconst (-1) dMd_within_90 (by decide) ?_
    exact jj_iret dMd_within_91 rfl rfl (hq M hO (by rw [hst]; exact (Int32.add_zero _).symm) h33)
  | succ k ih =>
    intro st M c4 hk hO hst hq h33
    obtain ⟨y, hy⟩ : ∃ y, (Zy σ p)[k]? = some y := ⟨_, List.getElem?_eq_getElem (by omega)⟩
    obtain ⟨g1, g2, g3⟩ := hY k y hy
    have hneg : y.2.1 < 0 ↔ y.2.1 = -1 := by
      rcases hP y (List.mem_of_getElem? hy) with h | ⟨w, hw, h⟩
      · rw [h]; decide
      · rw [h]; exact ⟨fun g => absurd g (nI_nn w (by omega)), fun g => absurd g (nI_ne_m1 (by omega))⟩
    rw [nI_pred1 (by omega : ¬ k + 1 = 0), Nat.add_sub_cancel]
    rw [tk_rev hy] at hq
    unfold stpF lcF at hq
    refine jj_il3 dMd_within_9 ?_
    refine jj_if_lt 90 dMd_within_10 (by decide) (fun q1 => absurd q1 (nI_nn k (by omega))) (fun q1 => ?_)
    refine jj_bipush 6 dMd_within_13 (by decide) ?_
    refine jj_il1 dMd_within_15 ?_
    refine jj_imul dMd_within_16 ?_
    rw [show (6 : Int32) * nI p = nI (6 * p) from nI_mul 6 p]
    refine jj_il3 dMd_within_17 ?_
    refine jj_iadd dMd_within_18 ?_
    rw [nI_add]
    refine jj_is4 dMd_within_19 ?_
    refine jj_al0 dMd_within_21 ?_
    refine mr_get _ dMd_within_22 clMd lkMd_19 (s103 _) rfl ?_
    refine jj_il4 dMd_within_25 ?_
    refine mr_iald dMd_within_27 (s107 _) (by omega) (by decide) ?_
    rw [hO _ _ (by omega), g1]
    refine ms1 dMd_within_28 csMd_126 (Nat.le_of_ble_eq_true rfl) ?_
    refine c_hash y.1 (jk_i ?_)
    refine jj_il2 dMd_within_31 ?_
    refine ms1 dMd_within_32 csMd_126 (Nat.le_of_ble_eq_true rfl) ?_
    refine c_hash nm (jk_i ?_)
    refine jj_icmp_ne 84 dMd_within_35 (by decide) (fun q1 => ?_) (fun q1 => ?_)
    · refine jj_ii3 (nI k - 1) dMd_within_84 (decI _) ?_
      refine jj_goto 9 dMd_within_87 (by decide) ?_
      rw [if_neg q1, if_neg (fun h => q1 (by rw [h.1]))] at hq
      exact ih st M _ (by omega) hO hst hq h33
    · refine jj_al0 dMd_within_38 ?_
      refine jj_dup dMd_within_39 rfl ?_
      refine mr_get _ dMd_within_40 clMd lkMd_130 (s103 _) rfl ?_
      rw [hst]
      refine jj_iconst 1 dMd_within_43 (by decide) ?_
      refine jj_iadd dMd_within_44 ?_
      refine mr_put dMd_within_45 clMd lkMd_130 rfl rfl (s103 _) (s103 _) (Nat.le_of_ble_eq_true rfl) rfl ?_
      refine jj_al0 dMd_within_48 ?_
      refine mr_get _ dMd_within_49 clMd lkMd_19 (s103 _) rfl ?_
      refine jj_il4 dMd_within_52 ?_
      refine mr_iald dMd_within_54 (s107 _) (by omega) (by decide) ?_
      rw [mup_ne _ _ (by omega), hO _ _ (by omega), g1]
      refine jj_il2 dMd_within_55 ?_
      refine jj_icmp_ne 84 dMd_within_56 (by decide) (fun q2 => ?_) (fun q2 => ?_)
      · refine jj_ii3 (nI k - 1) dMd_within_84 (decI _) ?_
        refine jj_goto 9 dMd_within_87 (by decide) ?_
        rw [if_pos q1, if_neg (fun h => q2 h.1), if_neg (fun h => q2 h.1)] at hq
        exact ih (st + 1) _ _ (by omega) (hO.up _ (Or.inl rfl)) (mup_at _ _ _ _) (fun M2 a1 a2 => hq M2 a1 (by rw [a2, Int32.add_assoc])) (by rw [mup_ne _ _ (by omega)]; exact h33)
      · refine jj_al0 dMd_within_59 ?_
        refine mr_get _ dMd_within_60 clMd lkMd_22 (s103 _) rfl ?_
        refine jj_il4 dMd_within_63 ?_
        refine mr_iald dMd_within_65 (s108 _) (by omega) (by decide) ?_
        rw [mup_ne _ _ (by omega), hO _ _ (by omega), g2]
        refine jj_if_lt 84 dMd_within_66 (by decide) (fun q3 => ?_) (fun q3 => ?_)
        · refine jj_ii3 (nI k - 1) dMd_within_84 (decI _) ?_
          refine jj_goto 9 dMd_within_87 (by decide) ?_
          rw [if_pos q1, if_neg (fun h => h.2 (hneg.mp q3)), if_neg (fun h => h.2 (hneg.mp q3))] at hq
          exact ih (st + 1) _ _ (by omega) (hO.up _ (Or.inl rfl)) (mup_at _ _ _ _) (fun M2 a1 a2 => hq M2 a1 (by rw [a2, Int32.add_assoc])) (by rw [mup_ne _ _ (by omega)]; exact h33)
        · refine jj_al0 dMd_within_69 ?_
          refine mr_get _ dMd_within_70 clMd lkMd_50 (s103 _) rfl ?_
          refine jj_il1 dMd_within_73 ?_
          refine mr_iald dMd_within_74 (s117 _) (hp) (by decide) ?_
          rw [mup_ne _ _ (by omega), hO _ _ (by omega), ((hS0.2.1 p hp).2 b hb).1]
          refine jj_al0 dMd_within_75 ?_
          refine mr_get _ dMd_within_76 clMd lkMd_22 (s103 _) rfl ?_
          refine jj_il4 dMd_within_79 ?_
          refine mr_iald dMd_within_81 (s108 _) (by omega) (by decide) ?_
          rw [mup_ne _ _ (by omega), hO _ _ (by omega), g2]
          refine jj_iadd dMd_within_82 ?_
          exact jj_iret dMd_within_83 rfl rfl (by rw [if_pos q1, if_pos ⟨q2, fun h => q3 (hneg.mpr h)⟩, if_pos ⟨q2, fun h => q3 (hneg.mpr h)⟩] at hq; exact hq _ (hO.up _ (Or.inl rfl)) (mup_at _ _ _ _) (by rw [mup_ne _ _ (by omega)]; exact h33))
set_option maxRecDepth 100000 in
set_option maxHeartbeats 4000000 in
theorem c_within {ω : jw} {d : Nat} {M : Nat → Nat → Int32} {J sl : Nat} {Q : jr → jh → Prop} {σ : Sg} (hS : MS M σ) (hW : Wm σ) (hnn : ∀ p, p < 6 → ((Zy σ p).map (·.1)).Nodup) {p b : Nat} (hp : p < 6) (hb : Zb σ p = some b) (nm : Int32) (hq : ∀ M', St32 M M' → M' 103 32 = Sp σ + stpF nm (Zy σ p).reverse → M' 103 33 = M 103 33 → Q (.inl (some (.int (if plcF nm (Zy σ p) = -1 then -1 else nI b + plcF nm (Zy σ p))))) (jst ω M' J sl)) : jwp ω (d + 1) mMd_within [.ref (jN ω + 103), .int (nI p), .int nm] (jst ω M J sl) Q := by
  refine jwp_of (by simp [Value.category]) (Nat.le_of_ble_eq_true rfl) (ls := [some (.ref (jN ω + 103)), some (.int (nI p)), some (.int nm), none, none]) rfl ?_
  refine jj_al0 dMd_within_0 ?_
  refine mr_get _ dMd_within_1 clMd lkMd_29 (s103 _) rfl ?_
  refine jj_il1 dMd_within_4 ?_
  refine mr_iald dMd_within_5 (s110 _) (hp) (by decide) ?_
  rw [(hS.1 p hp).2.2.2.2.2.2.1]
  refine jj_iconst 1 dMd_within_6 (by decide) ?_
  refine jj_isub dMd_within_7 ?_
  refine jj_is3 dMd_within_8 ?_
  exact c_within_l hS hp hb (hW.2.2.2.2 p hp) (hW.1 p hp) nm (Zy σ p).length (Sp σ) M _ (Nat.le_refl _) (St32.refl M) hS.2.2.2.2.2.2.2 (fun M1 a1 a2 a3 => by
    rw [List.take_length] at a2 ⊢
    have h := hq M1 a1 a2 a3
    rw [lcF_rev (hnn p hp)]
    by_cases hx : plcF nm (Zy σ p) = -1
    · rw [if_pos hx] at h ⊢; exact h
    · rw [if_neg hx] at h ⊢; exact h) rfl
theorem plcF_ok {σ : Sg} {p : Nat} {nm : Int32} : ∀ {S : List Sym}, (∀ y ∈ S, SyOk σ p y) → plcF nm S = -1 ∨ ∃ w, w < Zs σ p ∧ plcF nm S = nI w := by
  intro S
  induction S with
  | nil => intro _; exact Or.inl rfl
  | cons s t ih =>
    intro h
    unfold plcF
    split
    · exact h s List.mem_cons_self
    · exact ih (fun z hz => h z (List.mem_cons_of_mem _ hz))
/-- the address that the first that defines the name gives it, or -1 -/
def adF (σ : Sg) (nm : Int32) : Option Nat → Int32
  | none => -1
  | some q => bI (Zb σ q) + plcF nm (Zy σ q)
theorem adF_nn {σ : Sg} (hW : Wm σ) {nm : Int32} {q : Nat} (hq : q < 6) (h1 : ¬ Zb σ q = none) (h2 : ¬ plcF nm (Zy σ q) = -1) : ¬ adF σ nm (some q) < 0 := by
  obtain ⟨b, hb⟩ : ∃ b, Zb σ q = some b := by
    cases hx : Zb σ q with
    | none => exact absurd hx h1
    | some b => exact ⟨b, rfl⟩
  obtain ⟨w, hw, he⟩ := (plcF_ok (nm := nm) (hW.2.2.2.2 q hq)).resolve_left h2
  have := hW.2.1 q b hq hb
  show ¬ bI (Zb σ q) + plcF nm (Zy σ q) < 0
  rw [hb, he, show bI (some b) = nI b from rfl, nI_add]
  exact nI_nn _ (by omega)
theorem fdF_c1 {σ : Sg} {nm st : Int32} {p : Nat} {t : List Nat} {b : Nat} (hb : Zb σ p = some b) (h : plcF nm (Zy σ p) = -1) : fdF σ nm (p :: t) st = fdF σ nm t (st + stpF nm (Zy σ p).reverse) := by rw [fdF, if_neg (by rw [hb]; simp), if_pos h]
theorem fdF_c2 {σ : Sg} {nm st : Int32} {p : Nat} {t : List Nat} {b : Nat} (hb : Zb σ p = some b) (h : ¬ plcF nm (Zy σ p) = -1) : fdF σ nm (p :: t) st = (some p, st + stpF nm (Zy σ p).reverse) := by rw [fdF, if_neg (by rw [hb]; simp), if_neg h]
theorem fdF_c0 {σ : Sg} {nm st : Int32} {p : Nat} {t : List Nat} (hb : Zb σ p = none) : fdF σ nm (p :: t) st = fdF σ nm t st := by rw [fdF, if_pos hb]
theorem vAd {σ : Sg} {nm : Int32} {p b : Nat} (hb : Zb σ p = some b) : (if plcF nm (Zy σ p) = -1 then (-1 : Int32) else nI b + plcF nm (Zy σ p)) = if plcF nm (Zy σ p) = -1 then -1 else adF σ nm (some p) := by
  show _ = if plcF nm (Zy σ p) = -1 then -1 else bI (Zb σ p) + plcF nm (Zy σ p)
  rw [hb]
  rfl
theorem c_withinS {ω : jw} {d : Nat} {M : Nat → Nat → Int32} {J sl : Nat} {Q : jr → jh → Prop} {σ : Sg} {st : Int32} (hS : MS M (zSt σ st)) (hW : Wm σ) (hnn : ∀ p, p < 6 → ((Zy σ p).map (·.1)).Nodup) {p b : Nat} (hp : p < 6) (hb : Zb σ p = some b) (nm : Int32) (hq : ∀ M', St32 M M' → M' 103 32 = st + stpF nm (Zy σ p).reverse → M' 103 33 = M 103 33 → Q (.inl (some (.int (if plcF nm (Zy σ p) = -1 then -1 else nI b + plcF nm (Zy σ p))))) (jst ω M' J sl)) : jwp ω (d + 1) mMd_within [.ref (jN ω + 103), .int (nI p), .int nm] (jst ω M J sl) Q :=
  c_within (σ := zSt σ st) hS hW hnn hp hb nm hq
set_option maxRecDepth 100000 in
set_option maxHeartbeats 4000000 in
theorem c_mlook2 {ω : jw} {d : Nat} {J sl : Nat} {Q : jr → jh → Prop} {M0 : Nat → Nat → Int32} {σ : Sg} (hS0 : MS M0 σ) (hW : Wm σ) (hnn : ∀ p, p < 6 → ((Zy σ p).map (·.1)).Nodup) {p b0 : Nat} (hp : p < 6) (hb0 : Zb σ p = some b0) (hG6 : ∀ q ∈ Zg σ p, q < 6) (nm : Int32) :
    ∀ (n i : Nat) (st : Int32) (M : Nat → Nat → Int32) (c4 c5 : Option Value), (Zg σ p).length - i < n → i ≤ (Zg σ p).length → St32 M0 M → M 103 32 = st → (∀ M', St32 M0 M' → M' 103 32 = (fdF σ nm ((Zg σ p).drop i) st).2 → (∀ q, (fdF σ nm ((Zg σ p).drop i) st).1 = some q → M' 103 33 = nI q) → Q (.inl (some (.int (adF σ nm (fdF σ nm ((Zg σ p).drop i) st).1)))) (jst ω M' J sl)) →
    jj ω (d + 2) mMd_lookUp 49 [some (.ref (jN ω + 103)), some (.int (nI p)), some (.int nm), some (.int (nI i)), c4, c5] [] (jst ω M J sl) Q := by
  obtain ⟨_, h119, hl6, h118, _⟩ := (hS0.2.1 p hp).2 b0 hb0
  intro n
  induction n with
  | zero => intro i st M c4 c5 hn; omega
  | succ n ih =>
    intro i st M c4 c5 hn hi hO hst hq
    have e119 : M 119 p = nI (Zg σ p).length := by rw [hO _ _ (by omega)]; exact h119
    refine jj_il3 dMd_lookUp_49 ?_
    refine jj_al0 dMd_lookUp_50 ?_
    refine mr_get _ dMd_lookUp_51 clMd lkMd_56 (s103 _) rfl ?_
    refine jj_il1 dMd_lookUp_54 ?_
    refine mr_iald dMd_lookUp_55 (s119 _) (hp) (by decide) ?_
    rw [e119]
    refine jj_icmp_ge 115 dMd_lookUp_56 (by decide) (fun q1 => ?_) (fun q1 => ?_)
    · refine jj_iconst (-1) dMd_lookUp_115 (by decide) ?_
      exact jj_iret dMd_lookUp_116 rfl rfl (by rw [List.drop_eq_nil_of_le (le_le rfl q1 (by omega) (by omega))] at hq; exact hq M hO hst (fun z hz => by cases hz))
    · have hi2 : i < (Zg σ p).length := nle_lt rfl q1 (by omega) (by omega)
      obtain ⟨q, e1⟩ : ∃ q, (Zg σ p)[i]? = some q := ⟨_, List.getElem?_eq_getElem hi2⟩
      have e2 : q < 6 := hG6 q (List.mem_of_getElem? e1)
      rw [List.drop_eq_getElem_cons hi2, show (Zg σ p)[i] = q from (List.getElem?_eq_some_iff.mp e1).2] at hq
      have hS : MS M (zSt σ st) := MS_st hS0 hO hst
      refine jj_al0 dMd_lookUp_59 ?_
      refine mr_get _ dMd_lookUp_60 clMd lkMd_53 (s103 _) rfl ?_
      refine jj_bipush 6 dMd_lookUp_63 (by decide) ?_
      refine jj_il1 dMd_lookUp_65 ?_
      refine jj_imul dMd_lookUp_66 ?_
      rw [show (6 : Int32) * nI p = nI (6 * p) from nI_mul 6 p]
      refine jj_il3 dMd_lookUp_67 ?_
      refine jj_iadd dMd_lookUp_68 ?_
      rw [nI_add]
      refine mr_iald dMd_lookUp_69 (s118 _) (by omega) (by decide) ?_
      rw [hO _ _ (by omega), h118 i q e1]
      refine jj_is4 dMd_lookUp_70 ?_
      refine jj_al0 dMd_lookUp_72 ?_
      refine mr_get _ dMd_lookUp_73 clMd lkMd_47 (s103 _) rfl ?_
      refine jj_il4 dMd_lookUp_76 ?_
      refine mr_zald dMd_lookUp_78 (s116 _) (e2) (by decide) ?_
      refine jj_if_eq 92 dMd_lookUp_79 (by decide) (fun q2 => ?_) (fun q2 => ?_)
      · have hb : Zb σ q = none := (isSome_iff hS e2).mp q2
        refine jj_iconst (-1) dMd_lookUp_92 (by decide) ?_
        
        refine jj_is5 dMd_lookUp_93 ?_
        refine jj_il5 dMd_lookUp_95 ?_
        refine jj_if_lt 109 dMd_lookUp_97 (by decide) (fun _ => ?_) (fun h => absurd h (by decide))
        refine jj_ii3 (nI (i + 1)) dMd_lookUp_109 (inc1 i) ?_
        refine jj_goto 49 dMd_lookUp_112 (by decide) ?_
        rw [fdF_c0 hb] at hq
        exact ih (i + 1) st M _ _ (by omega) (by omega) hO hst hq
      · obtain ⟨b, hb⟩ : ∃ b, Zb σ q = some b := by
          cases hx : Zb σ q with
          | none => exact absurd ((isSome_iff hS e2).mpr hx) q2
          | some b => exact ⟨b, rfl⟩
        refine jj_al0 dMd_lookUp_82 ?_
        refine jj_il4 dMd_lookUp_83 ?_
        refine jj_il2 dMd_lookUp_85 ?_
        refine mv2 dMd_lookUp_86 clMd cvMd_136 (s103 _) (Nat.le_of_ble_eq_true rfl) ?_
        refine c_withinS hS hW hnn e2 hb nm (fun M1 hO1 h32 h33 => jk_i ?_)
        refine jj_goto 93 dMd_lookUp_89 (by decide) ?_
        rw [vAd hb]
        by_cases hpl : plcF nm (Zy σ q) = -1
        · rw [if_pos hpl]
          rw [fdF_c1 hb hpl] at hq
          refine jj_is5 dMd_lookUp_93 ?_
          refine jj_il5 dMd_lookUp_95 ?_
          refine jj_if_lt 109 dMd_lookUp_97 (by decide) (fun _ => ?_) (fun h => absurd (by decide) h)
          refine jj_ii3 (nI (i + 1)) dMd_lookUp_109 (inc1 i) ?_
          refine jj_goto 49 dMd_lookUp_112 (by decide) ?_
          exact ih (i + 1) _ M1 _ _ (by omega) (by omega) (hO.trans hO1) h32 hq
        rw [if_neg hpl]
        rw [fdF_c2 hb hpl] at hq
        refine jj_is5 dMd_lookUp_93 ?_
        refine jj_il5 dMd_lookUp_95 ?_
        refine jj_if_lt 109 dMd_lookUp_97 (by decide) (fun q3 => absurd q3 (adF_nn hW e2 (by rw [hb]; simp) hpl)) (fun q3 => ?_)
        refine jj_al0 dMd_lookUp_100 ?_
        refine jj_il4 dMd_lookUp_101 ?_
        refine mr_put dMd_lookUp_103 clMd lkMd_140 rfl rfl (s103 _) (s103 _) (Nat.le_of_ble_eq_true rfl) rfl ?_
        refine jj_il5 dMd_lookUp_106 ?_
        exact jj_iret dMd_lookUp_108 rfl rfl (hq _ ((hO.trans hO1).up _ (Or.inr rfl)) (by rw [mup_ne _ _ (by omega)]; exact h32) (fun z hz => by cases hz; exact mup_at _ _ _ _))
def luF2 (σ : Sg) (p : Nat) (nm : Int32) (l : List Nat) (st : Int32) : Option Nat × Int32 := if (fdF σ nm l st).1 = none then fdF σ nm (Zg σ p) (fdF σ nm l st).2 else fdF σ nm l st
set_option maxRecDepth 100000 in
set_option maxHeartbeats 4000000 in
theorem c_mlook1 {ω : jw} {d : Nat} {J sl : Nat} {Q : jr → jh → Prop} {M0 : Nat → Nat → Int32} {σ : Sg} (hS0 : MS M0 σ) (hW : Wm σ) (hnn : ∀ p, p < 6 → ((Zy σ p).map (·.1)).Nodup) {p b0 : Nat} (hp : p < 6) (hb0 : Zb σ p = some b0) (hG6 : ∀ q ∈ Zg σ p, q < 6) (hGl : ∀ q ∈ Gl σ, q < 6 ∧ ¬ Zb σ q = none) (nm : Int32) :
    ∀ (n i : Nat) (st : Int32) (M : Nat → Nat → Int32) (c4 c5 : Option Value), (Gl σ).length - i < n → i ≤ (Gl σ).length → St32 M0 M → M 103 32 = st → (∀ M', St32 M0 M' → M' 103 32 = (luF2 σ p nm ((Gl σ).drop i) st).2 → (∀ q, (luF2 σ p nm ((Gl σ).drop i) st).1 = some q → M' 103 33 = nI q) → Q (.inl (some (.int (adF σ nm (luF2 σ p nm ((Gl σ).drop i) st).1)))) (jst ω M' J sl)) →
    jj ω (d + 2) mMd_lookUp 2 [some (.ref (jN ω + 103)), some (.int (nI p)), some (.int nm), some (.int (nI i)), c4, c5] [] (jst ω M J sl) Q := by
  obtain ⟨h21, hl6, h123⟩ := hS0.2.2.2.2.1
  intro n
  induction n with
  | zero => intro i st M c4 c5 hn; omega
  | succ n ih =>
    intro i st M c4 c5 hn hi hO hst hq
    have e21 : M 103 21 = nI (Gl σ).length := by rw [hO _ _ (by omega)]; exact h21
    refine jj_il3 dMd_lookUp_2 ?_
    refine jj_al0 dMd_lookUp_3 ?_
    refine mr_get _ dMd_lookUp_4 clMd lkMd_133 (s103 _) rfl ?_
    rw [e21]
    refine jj_icmp_ge 47 dMd_lookUp_7 (by decide) (fun q1 => ?_) (fun q1 => ?_)
    · refine jj_iconst 0 dMd_lookUp_47 (by decide) ?_
      refine jj_is3 dMd_lookUp_48 ?_
      unfold luF2 at hq
      rw [List.drop_eq_nil_of_le (le_le rfl q1 (by omega) (by omega))] at hq
      exact c_mlook2 hS0 hW hnn hp hb0 hG6 nm ((Zg σ p).length + 1) 0 st M _ _ (by omega) (by omega) hO hst hq
    · have hi2 : i < (Gl σ).length := nle_lt rfl q1 (by omega) (by omega)
      obtain ⟨q, e1⟩ : ∃ q, (Gl σ)[i]? = some q := ⟨_, List.getElem?_eq_getElem hi2⟩
      obtain ⟨e2, hbn⟩ := hGl q (List.mem_of_getElem? e1)
      rw [List.drop_eq_getElem_cons hi2, show (Gl σ)[i] = q from (List.getElem?_eq_some_iff.mp e1).2] at hq
      have hS : MS M (zSt σ st) := MS_st hS0 hO hst
      obtain ⟨b, hb⟩ : ∃ b, Zb σ q = some b := by
        cases hx : Zb σ q with
        | none => exact absurd hx hbn
        | some b => exact ⟨b, rfl⟩
      refine jj_al0 dMd_lookUp_10 ?_
      refine jj_al0 dMd_lookUp_11 ?_
      refine mr_get _ dMd_lookUp_12 clMd lkMd_68 (s103 _) rfl ?_
      refine jj_il3 dMd_lookUp_15 ?_
      refine mr_iald dMd_lookUp_16 (s123 _) (by omega) (by decide) ?_
      rw [hO _ _ (by omega), h123 i q e1]
      refine jj_il2 dMd_lookUp_17 ?_
      refine mv2 dMd_lookUp_18 clMd cvMd_136 (s103 _) (Nat.le_of_ble_eq_true rfl) ?_
      refine c_withinS hS hW hnn e2 hb nm (fun M1 hO1 h32 h33 => jk_i ?_)
      rw [vAd hb]
      by_cases hpl : plcF nm (Zy σ q) = -1
      · rw [if_pos hpl]
        unfold luF2 at hq
        rw [fdF_c1 hb hpl] at hq
        refine jj_is4 dMd_lookUp_21 ?_
        refine jj_il4 dMd_lookUp_23 ?_
        refine jj_if_lt 41 dMd_lookUp_25 (by decide) (fun _ => ?_) (fun h => absurd (by decide) h)
        refine jj_ii3 (nI (i + 1)) dMd_lookUp_41 (inc1 i) ?_
        refine jj_goto 2 dMd_lookUp_44 (by decide) ?_
        exact ih (i + 1) _ M1 _ _ (by omega) (by omega) (hO.trans hO1) h32 hq
      rw [if_neg hpl]
      unfold luF2 at hq
      rw [fdF_c2 hb hpl, if_neg (by simp)] at hq
      refine jj_is4 dMd_lookUp_21 ?_
      refine jj_il4 dMd_lookUp_23 ?_
      refine jj_if_lt 41 dMd_lookUp_25 (by decide) (fun q3 => absurd q3 (adF_nn hW e2 hbn hpl)) (fun q3 => ?_)
      refine jj_al0 dMd_lookUp_28 ?_
      refine jj_al0 dMd_lookUp_29 ?_
      refine mr_get _ dMd_lookUp_30 clMd lkMd_68 (s103 _) rfl ?_
      refine jj_il3 dMd_lookUp_33 ?_
      refine mr_iald dMd_lookUp_34 (s123 _) (by omega) (by decide) ?_
      rw [hO1 _ _ (by omega), hO _ _ (by omega), h123 i q e1]
      refine mr_put dMd_lookUp_35 clMd lkMd_140 rfl rfl (s103 _) (s103 _) (Nat.le_of_ble_eq_true rfl) rfl ?_
      refine jj_il4 dMd_lookUp_38 ?_
      exact jj_iret dMd_lookUp_40 rfl rfl (hq _ ((hO.trans hO1).up _ (Or.inr rfl)) (by rw [mup_ne _ _ (by omega)]; exact h32) (fun z hz => by cases hz; exact mup_at _ _ _ _))
set_option maxRecDepth 100000 in
set_option maxHeartbeats 4000000 in
theorem c_mlookUp {ω : jw} {d : Nat} {M : Nat → Nat → Int32} {J sl : Nat} {Q : jr → jh → Prop} {σ : Sg} (hS : MS M σ) (hW : Wm σ) (hnn : ∀ p, p < 6 → ((Zy σ p).map (·.1)).Nodup) {p b0 : Nat} (hp : p < 6) (hb0 : Zb σ p = some b0) (hG6 : ∀ q ∈ Zg σ p, q < 6) (hGl : ∀ q ∈ Gl σ, q < 6 ∧ ¬ Zb σ q = none) (nm : Int32) (hq : (∀ M', St32 M M' → M' 103 32 = (luF σ p nm (Sp σ)).2 → (∀ q, (luF σ p nm (Sp σ)).1 = some q → M' 103 33 = nI q) → Q (.inl (some (.int (adF σ nm (luF σ p nm (Sp σ)).1)))) (jst ω M' J sl))) : jwp ω (d + 2) mMd_lookUp [.ref (jN ω + 103), .int (nI p), .int nm] (jst ω M J sl) Q := by
  refine jwp_of (by simp [Value.category]) (Nat.le_of_ble_eq_true rfl) (ls := [some (.ref (jN ω + 103)), some (.int (nI p)), some (.int nm), none, none, none]) rfl ?_
  refine jj_iconst 0 dMd_lookUp_0 (by decide) ?_
  refine jj_is3 dMd_lookUp_1 ?_
  exact c_mlook1 hS hW hnn hp hb0 hG6 hGl nm ((Gl σ).length + 1) 0 (Sp σ) M _ _ (by omega) (by omega) (St32.refl M) hS.2.2.2.2.2.2.2 hq
