/-- all but uses, words and steps is as it was -/
def Sm (σ σ' : Sg) : Prop := ∃ u w s, σ' = (Zs σ, Zn σ, Zy σ, Zr σ, Zb σ, Zg σ, u, Zo σ, w, Gl σ, Bg σ, Ev σ, s)
theorem Sm.refl (σ : Sg) : Sm σ σ := ⟨Zu σ, Zw σ, Sp σ, rfl⟩
theorem Sm.trans {σ σ1 σ2 : Sg} (h1 : Sm σ σ1) (h2 : Sm σ1 σ2) : Sm σ σ2 := by
  obtain ⟨u, w, s, rfl⟩ := h1
  obtain ⟨u2, w2, s2, rfl⟩ := h2
  exact ⟨u2, w2, s2, rfl⟩
theorem Sm.wm {σ σ' : Sg} (h : Sm σ σ') (hW : Wm σ) : Wm σ' := by
  obtain ⟨u, w, s, rfl⟩ := h
  exact hW
theorem Sm.zb {σ σ' : Sg} (h : Sm σ σ') : Zb σ' = Zb σ := by obtain ⟨u, w, s, rfl⟩ := h; rfl
theorem Sm.zr {σ σ' : Sg} (h : Sm σ σ') : Zr σ' = Zr σ := by obtain ⟨u, w, s, rfl⟩ := h; rfl
theorem Sm.wd {σ σ' : Sg} (h : Sm σ σ') (a : Nat) (v : Int32) : Sm σ (zWd σ' a v) := by
  obtain ⟨u, w, s, rfl⟩ := h
  exact ⟨_, _, _, rfl⟩
theorem rsF_sm (σ : Sg) (p : Nat) (y : Sym) : Sm σ (rsF σ p y).2 := by
  obtain ⟨v, e | ⟨q, e⟩⟩ := rsF_cases σ p y
  · rw [e]; exact ⟨_, _, _, rfl⟩
  · rw [e]; exact ⟨_, _, _, rfl⟩
theorem drF_sm (σ : Sg) (p r : Nat) (lz : Bool) : Sm σ (drF σ p r lz).2 := by
  unfold drF drG
  split
  · exact (Sm.refl σ).wd _ _
  · split
    · exact (Sm.refl σ).wd _ _
    · split
      · exact rsF_sm _ _ _
      · exact (rsF_sm _ _ _).wd _ _
def rrF (lz : Bool) (p : Nat) : Nat → Nat → Sg → Bool × Sg
  | 0, _, σ => (true, σ)
  | n + 1, r, σ => if (drF σ p r lz).1 = true then rrF lz p n (r + 1) (drF σ p r lz).2 else (false, (drF σ p r lz).2)
def raF (lz : Bool) (nw : List Nat) : List Nat → Sg → Bool × Sg
  | [], σ => (true, σ)
  | p :: t, σ => if p ∈ nw then (if (rrF lz p (Zr σ p).length 0 σ).1 = true then raF lz nw t (rrF lz p (Zr σ p).length 0 σ).2 else (false, (rrF lz p (Zr σ p).length 0 σ).2)) else raF lz nw t σ
theorem rrF_sm (lz : Bool) (p : Nat) : ∀ (n r : Nat) (σ : Sg), Sm σ (rrF lz p n r σ).2 := by
  intro n
  induction n with
  | zero => intro r σ; exact Sm.refl σ
  | succ n ih =>
    intro r σ
    unfold rrF
    split
    · exact (drF_sm σ p r lz).trans (ih _ _)
    · exact drF_sm σ p r lz
theorem raF_sm (lz : Bool) (nw : List Nat) : ∀ (l : List Nat) (σ : Sg), Sm σ (raF lz nw l σ).2 := by
  intro l
  induction l with
  | nil => intro σ; exact Sm.refl σ
  | cons p t ih =>
    intro σ
    unfold raF
    split
    · split
      · exact (rrF_sm lz p _ _ σ).trans (ih _)
      · exact rrF_sm lz p _ _ σ
    · exact ih σ
theorem b2i_t {b : Bool} (h : ¬ b2i b = 0) : b = true := by cases b; exact absurd rfl h; rfl
theorem b2i_f {b : Bool} (h : b2i b = 0) : b = false := by cases b; rfl; exact absurd h (by decide)
theorem Kp.nw {M M' : Nat → Nat → Int32} (h : Kp M M') {nw : List Nat} (hN : NwIs M nw) : NwIs M' nw := fun i hi => by rw [h.2.1]; exact hN i hi
set_option maxRecDepth 100000 in
set_option maxHeartbeats 4000000 in
theorem c_reloc_in {ω : jw} {d : Nat} {J sl : Nat} {Q : jr → jh → Prop} {M0 : Nat → Nat → Int32} (lz : Bool) {p b cnt : Nat} (hp : p < 6) (c6 : cnt ≤ 6) (c2 : Option Value) :
    ∀ (n r : Nat) (σ : Sg) (M : Nat → Nat → Int32), n + r = cnt → CS M σ → Wm σ → Zb σ p = some b → (Zr σ p).length = cnt → Kp M0 M → (∀ M', (rrF lz p n r σ).1 = true → CS M' (rrF lz p n r σ).2 → Kp M0 M' → jj ω (d + 5) mBO_relocateNewcomers 81 [some (.ref (jN ω + 0)), some (.int (b2i lz)), c2, some (.int (nI p)), some (.int (nI cnt)), some (.int (nI cnt))] [] (jst ω M' J sl) Q) → (∀ M', (rrF lz p n r σ).1 = false → CS M' (rrF lz p n r σ).2 → Kp M0 M' → Q (.inl (some (.int 0))) (jst ω M' J sl)) →
    jj ω (d + 5) mBO_relocateNewcomers 55 [some (.ref (jN ω + 0)), some (.int (b2i lz)), c2, some (.int (nI p)), some (.int (nI cnt)), some (.int (nI r))] [] (jst ω M J sl) Q := by
  intro n
  induction n with
  | zero =>
    intro r σ M hn hC hW hb hL hK hk hf
    have hrc : r = cnt := by omega
    subst hrc
    refine jj_il5 dBO_relocateNewcomers_55 ?_
    refine jj_il4 dBO_relocateNewcomers_57 ?_
    refine jj_icmp_ge 81 dBO_relocateNewcomers_59 (by decide) (fun q1 => ?_) (fun q1 => absurd q1 (fun h => h (Int32.le_refl _)))
    exact hk M rfl hC hK
  | succ n ih =>
    intro r σ M hn hC hW hb hL hK hk hf
    have hrl : r < (Zr σ p).length := by omega
    have hr : (Zr σ p)[r]? = some ((Zr σ p)[r]'hrl) := List.getElem?_eq_getElem hrl
    unfold rrF at hk hf
    refine jj_il5 dBO_relocateNewcomers_55 ?_
    refine jj_il4 dBO_relocateNewcomers_57 ?_
    refine jj_icmp_ge 81 dBO_relocateNewcomers_59 (by decide) (fun q1 => absurd q1 (fun h => by have := le_le rfl h (by omega) (by omega); omega)) (fun q1 => ?_)
    refine jj_al0 dBO_relocateNewcomers_62 ?_
    refine jj_il3 dBO_relocateNewcomers_63 ?_
    refine jj_il5 dBO_relocateNewcomers_64 ?_
    refine jj_il1 dBO_relocateNewcomers_66 ?_
    refine mv3 dBO_relocateNewcomers_67 clBO cvBO_241 (s0 _) (Nat.le_of_ble_eq_true rfl) ?_
    refine c_doRelocation hC hW hp hb hr lz (fun M1 hK1 hC1 => jk_i ?_)
    refine jj_if_ne 75 dBO_relocateNewcomers_70 (by decide) (fun q2 => ?_) (fun q2 => ?_)
    · refine jj_ii5 (nI (r + 1)) dBO_relocateNewcomers_75 (inc1 r) ?_
      refine jj_goto 55 dBO_relocateNewcomers_78 (by decide) ?_
      have ht := b2i_t q2
      rw [if_pos ht] at hk hf
      exact ih (r + 1) _ M1 (by omega) hC1 ((drF_sm σ p r lz).wm hW) (by rw [(drF_sm σ p r lz).zb]; exact hb) (by rw [(drF_sm σ p r lz).zr]; exact hL) (hK.trans hK1) hk hf
    · refine jj_iconst 0 dBO_relocateNewcomers_73 (by decide) ?_
      exact jj_iret dBO_relocateNewcomers_74 rfl rfl (by rw [if_neg (by rw [b2i_f q2]; decide)] at hf; exact hf M1 rfl hC1 (hK.trans hK1))
set_option maxRecDepth 100000 in
set_option maxHeartbeats 4000000 in
theorem c_relocateNewcomers_l {ω : jw} {d : Nat} {J sl : Nat} {Q : jr → jh → Prop} {M0 : Nat → Nat → Int32} (lz : Bool) {nw l : List Nat} (hR0 : RowIs M0 11 l) (hN0 : NwIs M0 nw) :
    ∀ (n i : Nat) (σ : Sg) (M : Nat → Nat → Int32) (c3 c4 c5 : Option Value), l.length - i < n → i ≤ l.length → CS M σ → Wm σ → (∀ p ∈ nw, ¬ Zb σ p = none) → Kp M0 M → (∀ M', CS M' (raF lz nw (l.drop i) σ).2 → Kp M0 M' → Q (.inl (some (.int (b2i (raF lz nw (l.drop i) σ).1)))) (jst ω M' J sl)) →
    jj ω (d + 5) mBO_relocateNewcomers 2 [some (.ref (jN ω + 0)), some (.int (b2i lz)), some (.int (nI i)), c3, c4, c5] [] (jst ω M J sl) Q := by
  intro n
  induction n with
  | zero => intro i σ M c3 c4 c5 hn; omega
  | succ n ih =>
    intro i σ M c3 c4 c5 hn hi hC hW hL hK hq
    have hR := hK.r11 hR0
    have hN := hK.nw hN0
    have hl6 := hR.2.1
    refine jj_il2 dBO_relocateNewcomers_2 ?_
    refine jj_al0 dBO_relocateNewcomers_3 ?_
    refine mr_get _ dBO_relocateNewcomers_4 clBO lkBO_39 (s0 _) rfl ?_
    refine mr_get _ dBO_relocateNewcomers_7 clRw lkBO_74 (s11 _) rfl ?_
    refine jj_icmp_ge 87 dBO_relocateNewcomers_10 (by decide) (fun q1 => ?_) (fun q1 => ?_)
    · refine jj_iconst 1 dBO_relocateNewcomers_87 (by decide) ?_
      exact jj_iret dBO_relocateNewcomers_88 rfl rfl (by rw [List.drop_eq_nil_of_le (le_le hR.1 q1 (by omega) (by omega))] at hq; exact hq M hC hK)
    · have hi2 : i < l.length := nle_lt hR.1 q1 (by omega) (by omega)
      obtain ⟨p, e1, e2, e3⟩ := hR.at hi2
      rw [List.drop_eq_getElem_cons hi2, show l[i] = p from (List.getElem?_eq_some_iff.mp e1).2] at hq
      unfold raF at hq
      refine jj_al0 dBO_relocateNewcomers_13 ?_
      refine mr_get _ dBO_relocateNewcomers_14 clBO lkBO_39 (s0 _) rfl ?_
      refine mr_get _ dBO_relocateNewcomers_17 clRw lkBO_203 (s11 _) rfl ?_
      refine jj_il2 dBO_relocateNewcomers_20 ?_
      refine mr_iald dBO_relocateNewcomers_21 (s12 _) (by omega) (by decide) ?_
      rw [e3]
      refine jj_is3 dBO_relocateNewcomers_22 ?_
      refine jj_al0 dBO_relocateNewcomers_23 ?_
      refine mr_get _ dBO_relocateNewcomers_24 clBO lkBO_42 (s0 _) rfl ?_
      refine jj_il3 dBO_relocateNewcomers_27 ?_
      refine ms2 dBO_relocateNewcomers_28 csBO_144 (Nat.le_of_ble_eq_true rfl) ?_
      refine c_isIn _ (p := p) (by omega) (fun hin => jk_i ?_) (fun hin => jk_i ?_)
      · refine jj_if_eq 49 dBO_relocateNewcomers_31 (by decide) (fun h => absurd h (by decide)) (fun _ => ?_)
        rw [hN p (by omega), decide_eq_true_eq] at hin
        rw [if_pos hin] at hq
        refine jj_al0 dBO_relocateNewcomers_34 ?_
        refine mr_get _ dBO_relocateNewcomers_35 clBO lkBO_11 (s0 _) rfl ?_
        refine jj_il3 dBO_relocateNewcomers_38 ?_
        refine mr_aald dBO_relocateNewcomers_39 (e2) ?_
        refine mr_get _ dBO_relocateNewcomers_40 clLk lkBO_102 (sL0 e2 _) rfl ?_
        refine mr_get _ dBO_relocateNewcomers_43 clRl lkBO_106 (sL8 e2 _) rfl ?_
        rw [(hC.1 p e2).2.2.2.2.2.2.1.1]
        refine jj_goto 50 dBO_relocateNewcomers_46 (by decide) ?_
        refine jj_is4 dBO_relocateNewcomers_50 ?_
        refine jj_iconst 0 dBO_relocateNewcomers_52 (by decide) ?_
        refine jj_is5 dBO_relocateNewcomers_53 ?_
        obtain ⟨b, hb⟩ : ∃ b, Zb σ p = some b := by
          cases hx : Zb σ p with
          | none => exact absurd hx (hL p hin)
          | some b => exact ⟨b, rfl⟩
        refine c_reloc_in lz e2 (hC.1 p e2).2.2.2.2.2.2.1.2.1 _ (Zr σ p).length 0 σ M (by omega) hC hW hb rfl hK (fun M1 h1 hC1 hK1 => ?_) (fun M1 h1 hC1 hK1 => ?_)
        · rw [if_pos h1] at hq
          refine jj_ii2 (nI (i + 1)) dBO_relocateNewcomers_81 (inc1 i) ?_
          refine jj_goto 2 dBO_relocateNewcomers_84 (by decide) ?_
          exact ih (i + 1) _ M1 _ _ _ (by omega) (by omega) hC1 ((rrF_sm lz p _ _ σ).wm hW) (fun z hz => by rw [(rrF_sm lz p _ _ σ).zb]; exact hL z hz) hK1 hq
        · rw [if_neg (by rw [h1]; decide)] at hq
          exact hq M1 hC1 hK1
      · refine jj_if_eq 49 dBO_relocateNewcomers_31 (by decide) (fun _ => ?_) (fun h => absurd h (by decide))
        rw [hN p (by omega), decide_eq_false_iff_not] at hin
        rw [if_neg hin] at hq
        refine jj_iconst 0 dBO_relocateNewcomers_49 (by decide) ?_
        refine jj_is4 dBO_relocateNewcomers_50 ?_
        refine jj_iconst 0 dBO_relocateNewcomers_52 (by decide) ?_
        refine jj_is5 dBO_relocateNewcomers_53 ?_
        refine jj_il5 dBO_relocateNewcomers_55 ?_
        refine jj_il4 dBO_relocateNewcomers_57 ?_
        refine jj_icmp_ge 81 dBO_relocateNewcomers_59 (by decide) (fun _ => ?_) (fun h => absurd (Int32.le_refl _) h)
        refine jj_ii2 (nI (i + 1)) dBO_relocateNewcomers_81 (inc1 i) ?_
        refine jj_goto 2 dBO_relocateNewcomers_84 (by decide) ?_
        exact ih (i + 1) σ M _ _ _ (by omega) (by omega) hC hW hL hK hq
set_option maxRecDepth 100000 in
set_option maxHeartbeats 4000000 in
theorem c_relocateNewcomers {ω : jw} {d : Nat} {M : Nat → Nat → Int32} {J sl : Nat} {Q : jr → jh → Prop} {σ : Sg} (lz : Bool) {nw l : List Nat} (hC : CS M σ) (hW : Wm σ) (hR : RowIs M 11 l) (hN : NwIs M nw) (hL : ∀ p ∈ nw, ¬ Zb σ p = none) (hq : ∀ M', CS M' (raF lz nw l σ).2 → Kp M M' → Q (.inl (some (.int (b2i (raF lz nw l σ).1)))) (jst ω M' J sl)) : jwp ω (d + 5) mBO_relocateNewcomers [.ref (jN ω + 0), .int (b2i lz)] (jst ω M J sl) Q := by
  refine jwp_of (by simp [Value.category]) (Nat.le_of_ble_eq_true rfl) (ls := [some (.ref (jN ω + 0)), some (.int (b2i lz)), none, none, none, none]) rfl ?_
  refine jj_iconst 0 dBO_relocateNewcomers_0 (by decide) ?_
  refine jj_is2 dBO_relocateNewcomers_1 ?_
  exact c_relocateNewcomers_l lz hR hN (l.length + 1) 0 σ M _ _ _ (by omega) (by omega) hC hW hL (Kp.refl M) hq
