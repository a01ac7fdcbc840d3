def kbF (σ : Sg) (K : Nat → Bool) (j i : Nat) : Bool := K i || (List.range j).any (fun p => K p && (decide (i ∈ Zn σ p) || Zu σ p i))
theorem kbF_s (σ : Sg) (K : Nat → Bool) (j i : Nat) : kbF σ K (j + 1) i = (kbF σ K j i || (K j && (decide (i ∈ Zn σ j) || Zu σ j i))) := by
  unfold kbF
  rw [List.range_succ, List.any_append]
  simp [Bool.or_assoc]
def k0F (σ : Sg) (j i : Nat) : Bool := decide (i < j) && decide (¬ Zo σ i = 0)
def kpF (σ : Sg) : Nat → Nat → Bool
  | 0 => k0F σ 6
  | n + 1 => kbF σ (kpF σ n) 6
theorem nI_nn (n : Nat) (hn : n < 2 ^ 31) : ¬ nI n < 0 := fun h => by
  have h1 := Int32.lt_iff_toInt_lt.mp h
  rw [nI_toInt hn] at h1
  have : (0 : Int32).toInt = 0 := by decide
  omega
set_option maxRecDepth 100000 in
set_option maxHeartbeats 4000000 in
theorem c_withThoseKeptBy_l {ω : jw} {d : Nat} {M : Nat → Nat → Int32} {J sl : Nat} {Q : jr → jh → Prop} {σ : Sg} (hC : CS M σ) {s : Int32} {K : Nat → Bool} (hs : ∀ i, i < 32 → bt s i = K i) (hq : ∀ v, (∀ i, i < 32 → bt v i = kbF σ K 6 i) → Q (.inl (some (.int v))) (jst ω M J sl)) :
    ∀ (n j : Nat) (v : Int32), n + j = 6 → (∀ i, i < 32 → bt v i = kbF σ K j i) → jj ω (d + 1) mBO_withThoseKeptBy 4 [some (.ref (jN ω + 0)), some (.int s), some (.int v), some (.int (nI j))] [] (jst ω M J sl) Q := by
  intro n
  induction n with
  | zero =>
    intro j v hn hv
    have hj : j = 6 := by omega
    subst hj
    refine jj_il3 dBO_withThoseKeptBy_4 ?_
    refine jj_bipush 6 dBO_withThoseKeptBy_5 (by decide) ?_
    refine jj_icmp_ge 49 dBO_withThoseKeptBy_7 (by decide) (fun q1 => ?_) (fun q1 => absurd q1 (by decide))
    refine jj_il2 dBO_withThoseKeptBy_49 ?_
    exact jj_iret dBO_withThoseKeptBy_50 rfl rfl (hq v hv)
  | succ n ih =>
    intro j v hn hv
    have hj6 : j < 6 := by omega
    refine jj_il3 dBO_withThoseKeptBy_4 ?_
    refine jj_bipush 6 dBO_withThoseKeptBy_5 (by decide) ?_
    refine jj_icmp_ge 49 dBO_withThoseKeptBy_7 (by decide) (fun q1 => absurd q1 (fun h => by have := le_le (a := 6) rfl h (by decide) (by omega); omega)) (fun q1 => ?_)
    refine jj_il1 dBO_withThoseKeptBy_10 ?_
    refine jj_il3 dBO_withThoseKeptBy_11 ?_
    refine ms2 dBO_withThoseKeptBy_12 csBO_144 (Nat.le_of_ble_eq_true rfl) ?_
    refine c_isIn _ (p := j) (by omega) (fun hin => jk_i ?_) (fun hin => jk_i ?_)
    · refine jj_if_eq 43 dBO_withThoseKeptBy_15 (by decide) (fun h => absurd h (by decide)) (fun _ => ?_)
      refine jj_il2 dBO_withThoseKeptBy_18 ?_
      refine jj_al0 dBO_withThoseKeptBy_19 ?_
      refine mr_get _ dBO_withThoseKeptBy_20 clBO lkBO_11 (s0 _) rfl ?_
      refine jj_il3 dBO_withThoseKeptBy_23 ?_
      refine mr_aald dBO_withThoseKeptBy_24 (hj6) ?_
      refine mr_get _ dBO_withThoseKeptBy_25 clLk lkBO_67 (sL0 hj6 _) rfl ?_
      refine mv0 dBO_withThoseKeptBy_28 clRw cvBO_276 (sL1 hj6 _) (Nat.le_of_ble_eq_true rfl) ?_
      refine c_asSet (rowN hj6) (hC.1 j hj6).2.2.2.2.1 (jk_i ?_)
      refine jj_al0 dBO_withThoseKeptBy_31 ?_
      refine mr_get _ dBO_withThoseKeptBy_32 clBO lkBO_11 (s0 _) rfl ?_
      refine jj_il3 dBO_withThoseKeptBy_35 ?_
      refine mr_aald dBO_withThoseKeptBy_36 (hj6) ?_
      refine mr_get _ dBO_withThoseKeptBy_37 clLk lkBO_232 (sL0 hj6 _) rfl ?_
      refine jj_ior dBO_withThoseKeptBy_40 ?_
      refine jj_ior dBO_withThoseKeptBy_41 ?_
      refine jj_is2 dBO_withThoseKeptBy_42 ?_
      refine jj_ii3 (nI (j + 1)) dBO_withThoseKeptBy_43 (inc1 j) ?_
      refine jj_goto 4 dBO_withThoseKeptBy_46 (by decide) ?_
      exact ih (j + 1) _ (by omega) (fun i hi => by
        rw [kbF_s, ← hv i hi, ← hs j (by omega), hin, b_or, b_or, bt_setOf (fun p hp => by have := (hC.1 j hj6).2.2.2.2.1.2.2.1 p hp; omega) hi, (hC.1 j hj6).2.2.2.1 i hi]
        rfl)
    · refine jj_if_eq 43 dBO_withThoseKeptBy_15 (by decide) (fun _ => ?_) (fun h => absurd h (by decide))
      refine jj_ii3 (nI (j + 1)) dBO_withThoseKeptBy_43 (inc1 j) ?_
      refine jj_goto 4 dBO_withThoseKeptBy_46 (by decide) ?_
      exact ih (j + 1) v (by omega) (fun i hi => by
        rw [kbF_s, ← hv i hi, ← hs j (by omega), hin]
        simp)
set_option maxRecDepth 100000 in
set_option maxHeartbeats 4000000 in
theorem c_withThoseKeptBy {ω : jw} {d : Nat} {M : Nat → Nat → Int32} {J sl : Nat} {Q : jr → jh → Prop} {σ : Sg} (hC : CS M σ) {s : Int32} {K : Nat → Bool} (hs : ∀ i, i < 32 → bt s i = K i) (hq : ∀ v, (∀ i, i < 32 → bt v i = kbF σ K 6 i) → Q (.inl (some (.int v))) (jst ω M J sl)) : jwp ω (d + 1) mBO_withThoseKeptBy [.ref (jN ω + 0), .int s] (jst ω M J sl) Q := by
  refine jwp_of (by simp [Value.category]) (Nat.le_of_ble_eq_true rfl) (ls := [some (.ref (jN ω + 0)), some (.int s), none, none]) rfl ?_
  refine jj_il1 dBO_withThoseKeptBy_0 ?_
  refine jj_is2 dBO_withThoseKeptBy_1 ?_
  refine jj_iconst 0 dBO_withThoseKeptBy_2 (by decide) ?_
  refine jj_is3 dBO_withThoseKeptBy_3 ?_
  exact c_withThoseKeptBy_l hC hs hq 6 0 s rfl (fun i hi => by rw [hs i hi]; simp [kbF])
set_option maxRecDepth 100000 in
set_option maxHeartbeats 4000000 in
theorem c_keptOnes_r {ω : jw} {d : Nat} {M : Nat → Nat → Int32} {J sl : Nat} {Q : jr → jh → Prop} {σ : Sg} (hC : CS M σ) (hq : ∀ v, (∀ i, i < 32 → bt v i = kpF σ 5 i) → Q (.inl (some (.int v))) (jst ω M J sl)) :
    ∀ (n j : Nat) (v : Int32), n + j = 5 → (∀ i, i < 32 → bt v i = kpF σ j i) → jj ω (d + 2) mBO_keptOnes 36 [some (.ref (jN ω + 0)), some (.int v), some (.int (nI (j + 1)))] [] (jst ω M J sl) Q := by
  intro n
  induction n with
  | zero =>
    intro j v hn hv
    have hj : j = 5 := by omega
    subst hj
    refine jj_il2 dBO_keptOnes_36 ?_
    refine jj_bipush 6 dBO_keptOnes_37 (by decide) ?_
    refine jj_icmp_ge 54 dBO_keptOnes_39 (by decide) (fun q1 => ?_) (fun q1 => absurd q1 (by decide))
    refine jj_il1 dBO_keptOnes_54 ?_
    exact jj_iret dBO_keptOnes_55 rfl rfl (hq v hv)
  | succ n ih =>
    intro j v hn hv
    refine jj_il2 dBO_keptOnes_36 ?_
    refine jj_bipush 6 dBO_keptOnes_37 (by decide) ?_
    refine jj_icmp_ge 54 dBO_keptOnes_39 (by decide) (fun q1 => absurd q1 (fun h => by have := le_le (a := 6) rfl h (by decide) (by omega); omega)) (fun q1 => ?_)
    refine jj_al0 dBO_keptOnes_42 ?_
    refine jj_il1 dBO_keptOnes_43 ?_
    refine mv1 dBO_keptOnes_44 clBO cvBO_273 (s0 _) (Nat.le_of_ble_eq_true rfl) ?_
    refine c_withThoseKeptBy hC hv (fun v2 hv2 => jk_i ?_)
    refine jj_is1 dBO_keptOnes_47 ?_
    refine jj_ii2 (nI (j + 1 + 1)) dBO_keptOnes_48 (inc1 (j + 1)) ?_
    refine jj_goto 36 dBO_keptOnes_51 (by decide) ?_
    exact ih (j + 1) v2 (by omega) hv2
set_option maxRecDepth 100000 in
set_option maxHeartbeats 4000000 in
theorem c_keptOnes_l {ω : jw} {d : Nat} {M : Nat → Nat → Int32} {J sl : Nat} {Q : jr → jh → Prop} {σ : Sg} (hC : CS M σ) (hZo : ∀ p, p < 6 → Zo σ p < 2 ^ 31) (hq : ∀ v, (∀ i, i < 32 → bt v i = kpF σ 5 i) → Q (.inl (some (.int v))) (jst ω M J sl)) :
    ∀ (n j : Nat) (v : Int32), n + j = 6 → (∀ i, i < 32 → bt v i = k0F σ j i) → jj ω (d + 2) mBO_keptOnes 4 [some (.ref (jN ω + 0)), some (.int v), some (.int (nI j))] [] (jst ω M J sl) Q := by
  intro n
  induction n with
  | zero =>
    intro j v hn hv
    have hj : j = 6 := by omega
    subst hj
    refine jj_il2 dBO_keptOnes_4 ?_
    refine jj_bipush 6 dBO_keptOnes_5 (by decide) ?_
    refine jj_icmp_ge 34 dBO_keptOnes_7 (by decide) (fun q1 => ?_) (fun q1 => absurd q1 (by decide))
    refine jj_iconst 1 dBO_keptOnes_34 (by decide) ?_
    refine jj_is2 dBO_keptOnes_35 ?_
    exact c_keptOnes_r hC hq 5 0 v rfl hv
  | succ n ih =>
    intro j v hn hv
    have hj6 : j < 6 := by omega
    refine jj_il2 dBO_keptOnes_4 ?_
    refine jj_bipush 6 dBO_keptOnes_5 (by decide) ?_
    refine jj_icmp_ge 34 dBO_keptOnes_7 (by decide) (fun q1 => absurd q1 (fun h => by have := le_le (a := 6) rfl h (by decide) (by omega); omega)) (fun q1 => ?_)
    refine jj_al0 dBO_keptOnes_10 ?_
    refine mr_get _ dBO_keptOnes_11 clBO lkBO_11 (s0 _) rfl ?_
    refine jj_il2 dBO_keptOnes_14 ?_
    refine mr_aald dBO_keptOnes_15 (hj6) ?_
    refine mr_get _ dBO_keptOnes_16 clLk lkBO_152 (sL0 hj6 _) rfl ?_
    rw [(hC.1 j hj6).2.2.1]
    refine jj_if_eq 28 dBO_keptOnes_19 (by decide) (fun q1 => ?_) (fun q1 => ?_)
    · refine jj_ii2 (nI (j + 1)) dBO_keptOnes_28 (inc1 j) ?_
      refine jj_goto 4 dBO_keptOnes_31 (by decide) ?_
      exact ih (j + 1) v (by omega) (fun i hi => by
        have h0 : Zo σ j = 0 := (nI_eq (hZo j hj6) (by decide)).mp (q1.trans nI_0.symm)
        rw [hv i hi]
        unfold k0F
        by_cases hij : i = j
        · subst hij; simp [h0]
        · have e : (i < j) ↔ (i < j + 1) := by omega
          simp [e])
    · refine jj_il1 dBO_keptOnes_22 ?_
      refine jj_iconst 1 dBO_keptOnes_23 (by decide) ?_
      refine jj_il2 dBO_keptOnes_24 ?_
      refine jj_ishl dBO_keptOnes_25 ?_
      refine jj_ior dBO_keptOnes_26 ?_
      refine jj_is1 dBO_keptOnes_27 ?_
      refine jj_ii2 (nI (j + 1)) dBO_keptOnes_28 (inc1 j) ?_
      refine jj_goto 4 dBO_keptOnes_31 (by decide) ?_
      exact ih (j + 1) _ (by omega) (fun i hi => by
        have h0 : ¬ Zo σ j = 0 := fun e => q1 (by rw [e]; rfl)
        rw [bt_or1 (by omega) hi, hv i hi]
        unfold k0F
        by_cases hij : i = j
        · subst hij; simp [h0]
        · have e : (i < j) ↔ (i < j + 1) := by omega
          simp [e, hij])
set_option maxRecDepth 100000 in
set_option maxHeartbeats 4000000 in
theorem c_keptOnes {ω : jw} {d : Nat} {M : Nat → Nat → Int32} {J sl : Nat} {Q : jr → jh → Prop} {σ : Sg} (hC : CS M σ) (hZo : ∀ p, p < 6 → Zo σ p < 2 ^ 31) (hq : ∀ v, (∀ i, i < 32 → bt v i = kpF σ 5 i) → Q (.inl (some (.int v))) (jst ω M J sl)) : jwp ω (d + 2) mBO_keptOnes [.ref (jN ω + 0)] (jst ω M J sl) Q := by
  refine jwp_of (by simp [Value.category]) (Nat.le_of_ble_eq_true rfl) (ls := [some (.ref (jN ω + 0)), none, none]) rfl ?_
  refine jj_iconst 0 dBO_keptOnes_0 (by decide) ?_
  refine jj_is1 dBO_keptOnes_1 ?_
  refine jj_iconst 0 dBO_keptOnes_2 (by decide) ?_
  refine jj_is2 dBO_keptOnes_3 ?_
  exact c_keptOnes_l hC hZo hq 6 0 0 rfl (fun i hi => by rw [b_0]; simp [k0F])
/-- those of the row (latest first) that are not kept end -/
def zEnd (σ : Sg) (p : Nat) : Sg := zOut (zBj σ ((Bg σ).filter (fun z => decide (z ≠ p))) (Ev σ ++ [-1 - nI p])) p
def enF (K : Nat → Bool) : List Nat → Sg → Sg
  | [], σ => σ
  | p :: t, σ => if K p = true then enF K t σ else enF K t (zEnd σ p)
theorem filt_id {l : List Nat} {p : Nat} (h : p ∉ l) : l.filter (fun z => decide (z ≠ p)) = l := by
  rw [List.filter_eq_self]
  intro a ha
  exact decide_eq_true (fun e => h (e ▸ ha))
theorem filt_mid {l1 l2 : List Nat} {p : Nat} (h : (l1 ++ p :: l2).Nodup) : (l1 ++ p :: l2).filter (fun z => decide (z ≠ p)) = l1 ++ l2 := by
  rw [List.nodup_append] at h
  obtain ⟨h1, h2, h3⟩ := h
  rw [List.filter_append, List.filter_cons_of_neg (by simp), filt_id (fun hm => h3 p hm p List.mem_cons_self rfl), filt_id (List.nodup_cons.mp h2).1]
set_option maxRecDepth 100000 in
set_option maxHeartbeats 4000000 in
theorem c_endAllBut_l {ω : jw} {d : Nat} {J sl : Nat} {Q : jr → jh → Prop} {M0 : Nat → Nat → Int32} {s : Int32} {K : Nat → Bool} (hs : ∀ i, i < 32 → bt s i = K i) :
    ∀ (r : List Nat) (σ : Sg) (rest : List Nat) (c : Nat) (M : Nat → Nat → Int32) (c4 : Option Value), CS M σ → Wm σ → Bg σ = r.reverse ++ rest → (Bg σ).Nodup → (∀ p ∈ r, ¬ Zb σ p = none) → (Ev σ).length + r.length < 2 ^ 30 → Cl M0 M → (∀ M', CS M' (enF K r σ) → Cl M0 M' → Q (.inl (some (.int (nI (c + (r.filter (fun p => !K p)).length))))) (jst ω M' J sl)) →
    jj ω (d + 2) mBO_endAllBut 12 [some (.ref (jN ω + 0)), some (.int s), some (.int (nI c)), some (.int (nI r.length - 1)), c4] [] (jst ω M J sl) Q := by
  intro r
  induction r with
  | nil =>
    intro σ rest c M c4 hC hW hB hnd hL hE hCl hq
    refine jj_il3 dBO_endAllBut_12 ?_
    refine jj_if_lt 71 dBO_endAllBut_13 (by decide) (fun q1 => ?_) (fun q1 => absurd q1 (fun h => h m1neg))
    refine jj_il2 dBO_endAllBut_71 ?_
    exact jj_iret dBO_endAllBut_72 rfl rfl (hq M hC hCl)
  | cons p t ih =>
    intro σ rest c M c4 hC hW hB hnd hL hE hCl hq
    have hR := hC.2.2.2.2.1
    have hl6 := hR.2.1
    have hBm : p ∈ Bg σ := by rw [hB]; simp
    have hp : p < 6 := hR.2.2.1 p hBm
    have hlen : (Bg σ).length = t.length + 1 + rest.length := by rw [hB]; simp; omega
    have hg : (Bg σ)[t.length]? = some p := by
      rw [hB, List.reverse_cons, List.append_assoc, List.getElem?_append_right (by simp)]
      simp
    have e3 : M 10 t.length = nI p := hR.2.2.2 _ _ hg
    have hix : nI (p :: t).length - 1 = nI t.length := by
      have h := nI_1 t.length
      show nI (t.length + 1) - 1 = _
      rw [← h, Int32.add_sub_cancel]
    have hB2 : Bg σ = t.reverse ++ p :: rest := by rw [hB]; simp
    rw [hix]
    unfold enF at hq
    obtain ⟨b, hb⟩ : ∃ b, Zb σ p = some b := by
      cases hx : Zb σ p with
      | none => exact absurd hx (hL p List.mem_cons_self)
      | some b => exact ⟨b, rfl⟩
    refine jj_il3 dBO_endAllBut_12 ?_
    refine jj_if_lt 71 dBO_endAllBut_13 (by decide) (fun q1 => absurd q1 (nI_nn t.length (by omega))) (fun q1 => ?_)
    refine jj_al0 dBO_endAllBut_16 ?_
    refine mr_get _ dBO_endAllBut_17 clBO lkBO_36 (s0 _) rfl ?_
    refine mr_get _ dBO_endAllBut_20 clRw lkBO_203 (s9 _) rfl ?_
    refine jj_il3 dBO_endAllBut_23 ?_
    refine mr_iald dBO_endAllBut_24 (s10 _) (by omega) (by decide) ?_
    rw [e3]
    refine jj_is4 dBO_endAllBut_25 ?_
    refine jj_il1 dBO_endAllBut_27 ?_
    refine jj_il4 dBO_endAllBut_28 ?_
    refine ms2 dBO_endAllBut_30 csBO_144 (Nat.le_of_ble_eq_true rfl) ?_
    refine c_isIn _ (p := p) (by omega) (fun hin => jk_i ?_) (fun hin => jk_i ?_)
    · rw [hs p (by omega)] at hin
      rw [if_pos hin, List.filter_cons_of_neg (by simp [hin])] at hq
      refine jj_if_ne 65 dBO_endAllBut_33 (by decide) (fun _ => ?_) (fun h => absurd h (by decide))
      refine jj_ii3 (nI t.length - 1) dBO_endAllBut_65 (decI _) ?_
      refine jj_goto 12 dBO_endAllBut_68 (by decide) ?_
      exact ih σ (p :: rest) c M _ hC hW hB2 hnd (fun z hz => hL z (List.mem_cons_of_mem _ hz)) (by simp only [List.length_cons] at hE; omega) hCl hq
    · rw [hs p (by omega)] at hin
      rw [if_neg (by rw [hin]; decide), List.filter_cons_of_pos (by simp [hin])] at hq
      simp only [List.length_cons] at hq hE
      refine jj_if_ne 65 dBO_endAllBut_33 (by decide) (fun h => absurd h (by decide)) (fun _ => ?_)
      refine jj_al0 dBO_endAllBut_36 ?_
      refine mr_get _ dBO_endAllBut_37 clBO lkBO_25 (s0 _) rfl ?_
      refine jj_iconst (-1) dBO_endAllBut_40 (by decide) ?_
      refine jj_il4 dBO_endAllBut_41 ?_
      refine jj_isub dBO_endAllBut_43 ?_
      refine mv1 dBO_endAllBut_44 clJr cvBO_270 (s5 _) (Nat.le_of_ble_eq_true rfl) ?_
      refine c_note_j hC.2.2.1 (by omega) (-1 - nI p) (fun M1 hO1 hJ1 => jk_v ?_)
      refine jj_al0 dBO_endAllBut_47 ?_
      refine mr_get _ dBO_endAllBut_48 clBO lkBO_36 (s0 _) rfl ?_
      refine jj_il4 dBO_endAllBut_51 ?_
      refine mv1 dBO_endAllBut_53 clRw cvBO_235 (s9 _) (Nat.le_of_ble_eq_true rfl) ?_
      have hR1 : RowIs M1 9 (Bg σ) := hR.eqs (fun i => hO1 _ _ (by omega)) (fun i => hO1 _ _ (by omega))
      refine jwp_up (c_remove row9 hp hR1 (fun M2 hO2 hR2 => jk_v ?_))
      refine jj_al0 dBO_endAllBut_56 ?_
      refine jj_il4 dBO_endAllBut_57 ?_
      refine mv1 dBO_endAllBut_59 clBO cvBO_238 (s0 _) (Nat.le_of_ble_eq_true rfl) ?_
      have hC2 : CS M2 (zBj σ ((Bg σ).filter (fun z => decide (z ≠ p))) (Ev σ ++ [-1 - nI p])) := CS_bj hC (fun k i a1 a2 a3 a4 => by rw [hO2 _ _ a3 a4, hO1 _ _ (by omega)]) hR2 (hJ1.eqs (fun i => hO2 _ _ (by omega) (by omega)) (fun i => hO2 _ _ (by omega) (by omega)))
      refine c_takeOut (σ := zBj σ ((Bg σ).filter (fun z => decide (z ≠ p))) (Ev σ ++ [-1 - nI p])) hC2 hp hb (hW.2.1 p b hp hb).1 hW.2.2.1 (fun M3 hC3 hE3 hCl3 => jk_v ?_)
      refine jj_ii2 (nI (c + 1)) dBO_endAllBut_62 (inc1 c) ?_
      refine jj_ii3 (nI t.length - 1) dBO_endAllBut_65 (decI _) ?_
      refine jj_goto 12 dBO_endAllBut_68 (by decide) ?_
      have hBf : (Bg σ).filter (fun z => decide (z ≠ p)) = t.reverse ++ rest := by rw [hB2] at hnd ⊢; exact filt_mid hnd
      exact ih (zEnd σ p) rest (c + 1) M3 _ hC3 (Wm.out (σ := zBj σ ((Bg σ).filter (fun z => decide (z ≠ p))) (Ev σ ++ [-1 - nI p])) hW p) hBf (hnd.filter _) (fun z hz => by
        have hzp : z ≠ p := fun e => by
          subst e
          rw [hB2, List.nodup_append] at hnd
          exact hnd.2.2 z (List.mem_reverse.mpr hz) z List.mem_cons_self rfl
        show ¬ va_up (Zb σ) p none z = none
        rw [va_up_ne _ _ hzp]
        exact hL z (List.mem_cons_of_mem _ hz)) (by show (Ev σ ++ [-1 - nI p]).length + t.length < 2 ^ 30; simp only [List.length_append, List.length_cons, List.length_nil]; omega) (hCl.trans (fun k i a => by rw [hCl3 k i a, hO2 _ _ (by omega) (by omega), hO1 _ _ (by omega)])) (by rw [show c + 1 + (t.filter (fun p => !K p)).length = c + ((t.filter (fun p => !K p)).length + 1) by omega]; exact hq)
set_option maxRecDepth 100000 in
set_option maxHeartbeats 4000000 in
theorem c_endAllBut {ω : jw} {d : Nat} {M : Nat → Nat → Int32} {J sl : Nat} {Q : jr → jh → Prop} {s : Int32} {K : Nat → Bool} {σ : Sg} (hs : ∀ i, i < 32 → bt s i = K i) (hC : CS M σ) (hW : Wm σ) (hnd : (Bg σ).Nodup) (hL : ∀ p ∈ Bg σ, ¬ Zb σ p = none) (hE : (Ev σ).length + 6 < 2 ^ 30) (hq : ∀ M', CS M' (enF K (Bg σ).reverse σ) → Cl M M' → Q (.inl (some (.int (nI ((Bg σ).reverse.filter (fun p => !K p)).length)))) (jst ω M' J sl)) : jwp ω (d + 2) mBO_endAllBut [.ref (jN ω + 0), .int s] (jst ω M J sl) Q := by
  have hl6 := hC.2.2.2.2.1.2.1
  refine jwp_of (by simp [Value.category]) (Nat.le_of_ble_eq_true rfl) (ls := [some (.ref (jN ω + 0)), some (.int s), none, none, none]) rfl ?_
  refine jj_iconst 0 dBO_endAllBut_0 (by decide) ?_
  refine jj_is2 dBO_endAllBut_1 ?_
  refine jj_al0 dBO_endAllBut_2 ?_
  refine mr_get _ dBO_endAllBut_3 clBO lkBO_36 (s0 _) rfl ?_
  refine mr_get _ dBO_endAllBut_6 clRw lkBO_74 (s9 _) rfl ?_
  rw [hC.2.2.2.2.1.1]
  refine jj_iconst 1 dBO_endAllBut_9 (by decide) ?_
  refine jj_isub dBO_endAllBut_10 ?_
  refine jj_is3 dBO_endAllBut_11 ?_
  have h := c_endAllBut_l (ω := ω) (d := d) (J := J) (sl := sl) (Q := Q) (M0 := M) hs (Bg σ).reverse σ [] 0 M none hC hW (by simp) hnd (fun p hp => hL p (List.mem_reverse.mp hp)) (by rw [List.length_reverse]; omega) (Cl.refl M) (fun M1 a b => by rw [Nat.zero_add]; exact hq M1 a b)
  rw [List.length_reverse] at h
  exact h
