/-! THE REFERENCE's side of the state. -/
def MDf (M : Nat → Nat → Int32) (σ : Sg) (p : Nat) : Prop := (Zn σ p).length ≤ 3 ∧ (Zy σ p).length ≤ 6 ∧ (Zr σ p).length ≤ 6 ∧ M 104 p = nI (Zs σ p) ∧ M 106 p = nI (Zn σ p).length ∧ (∀ i q, (Zn σ p)[i]? = some q → M 105 (3 * p + i) = nI q) ∧ M 110 p = nI (Zy σ p).length ∧ (∀ i y, (Zy σ p)[i]? = some y → M 107 (6 * p + i) = y.1 ∧ M 108 (6 * p + i) = y.2.1 ∧ M 109 (6 * p + i) = b2i y.2.2) ∧ M 115 p = nI (Zr σ p).length ∧ (∀ i y, (Zr σ p)[i]? = some y → M 111 (6 * p + i) = y.1 ∧ M 112 (6 * p + i) = y.2.1 ∧ M 113 (6 * p + i) = y.2.2.1 ∧ M 114 (6 * p + i) = y.2.2.2)
def MLd (M : Nat → Nat → Int32) (σ : Sg) (p : Nat) : Prop := M 116 p = b2i (Zb σ p).isSome ∧ (∀ b, Zb σ p = some b → M 117 p = nI b ∧ M 119 p = nI (Zg σ p).length ∧ (Zg σ p).length ≤ 6 ∧ (∀ i q, (Zg σ p)[i]? = some q → M 118 (6 * p + i) = nI q) ∧ (∀ q, q < 6 → M 120 (6 * p + q) = b2i (Zu σ p q)))
/-- the hours at which they began: they rise along the row of those that have begun -/
def MBg (M : Nat → Nat → Int32) (σ : Sg) : Prop := ∃ bn : Nat → Nat, (∀ p ∈ Bg σ, M 122 p = nI (bn p) ∧ bn p < (Ev σ).length) ∧ (Bg σ).Pairwise (fun p q => bn p < bn q)
def MGl (M : Nat → Nat → Int32) (g : List Nat) : Prop := M 103 21 = nI g.length ∧ g.length ≤ 6 ∧ ∀ i q, g[i]? = some q → M 123 i = nI q
def MSp (M : Nat → Nat → Int32) (σ : Sg) : Prop := ∀ a, a < 32 → tkn σ a = true → M 124 a = Zw σ a
def MEv (M : Nat → Nat → Int32) (ev : List Int32) : Prop := M 103 31 = nI ev.length ∧ ∀ (j : Nat) (e : Int32), ev[j]? = some e → ev.length ≤ j + 40 → M 131 (j % 40) = e
def MS (M : Nat → Nat → Int32) (σ : Sg) : Prop := (∀ p, p < 6 → MDf M σ p) ∧ (∀ p, p < 6 → MLd M σ p) ∧ (∀ p, p < 6 → M 121 p = nI (Zo σ p)) ∧ MBg M σ ∧ MGl M (Gl σ) ∧ MSp M σ ∧ MEv M (Ev σ) ∧ M 103 32 = Sp σ
def Lo (M M' : Nat → Nat → Int32) : Prop := ∀ k i, k < 103 ∨ k = 132 → M' k i = M k i
theorem Lo.refl (M : Nat → Nat → Int32) : Lo M M := fun _ _ _ => rfl
theorem Lo.trans {M M1 M2 : Nat → Nat → Int32} (h1 : Lo M M1) (h2 : Lo M1 M2) : Lo M M2 := fun k i a => (h2 k i a).trans (h1 k i a)
theorem Lo.up {M M1 : Nat → Nat → Int32} (h : Lo M M1) {k i : Nat} (v : Int32) (hk : 103 ≤ k ∧ k ≠ 132) : Lo M (mup M1 k i v) := fun k' j a => by rw [mup_ne _ _ (Or.inl (by omega))]; exact h k' j a
theorem MDf.eqs {M M' : Nat → Nat → Int32} {σ σ' : Sg} {p : Nat} (h : MDf M σ p) (hE : ∀ k i, 104 ≤ k → k ≤ 115 → M' k i = M k i) (e1 : Zs σ' p = Zs σ p) (e2 : Zn σ' p = Zn σ p) (e3 : Zy σ' p = Zy σ p) (e4 : Zr σ' p = Zr σ p) : MDf M' σ' p := by
  obtain ⟨h1, h2, h3, h4, h5, h6, h7, h8, h9, h10⟩ := h
  unfold MDf
  rw [e1, e2, e3, e4]
  refine ⟨h1, h2, h3, by rw [hE _ _ (by omega) (by omega)]; exact h4, by rw [hE _ _ (by omega) (by omega)]; exact h5, fun i q hq => by rw [hE _ _ (by omega) (by omega)]; exact h6 i q hq, by rw [hE _ _ (by omega) (by omega)]; exact h7, fun i y hy => by rw [hE _ _ (by omega) (by omega), hE _ _ (by omega) (by omega), hE _ _ (by omega) (by omega)]; exact h8 i y hy, by rw [hE _ _ (by omega) (by omega)]; exact h9, fun i y hy => by rw [hE _ _ (by omega) (by omega), hE _ _ (by omega) (by omega), hE _ _ (by omega) (by omega), hE _ _ (by omega) (by omega)]; exact h10 i y hy⟩
theorem MLd.eqs {M M' : Nat → Nat → Int32} {σ σ' : Sg} {p : Nat} (h : MLd M σ p) (hE : ∀ k i, 116 ≤ k → k ≤ 120 → M' k i = M k i) (e1 : Zb σ' p = Zb σ p) (e2 : Zg σ' p = Zg σ p) (e3 : Zu σ' p = Zu σ p) : MLd M' σ' p := by
  obtain ⟨h1, h2⟩ := h
  unfold MLd
  rw [e1, e2, e3]
  refine ⟨by rw [hE _ _ (by omega) (by omega)]; exact h1, fun b hb => ?_⟩
  obtain ⟨g1, g2, g3, g4, g5⟩ := h2 b hb
  exact ⟨by rw [hE _ _ (by omega) (by omega)]; exact g1, by rw [hE _ _ (by omega) (by omega)]; exact g2, g3, fun i q hq => by rw [hE _ _ (by omega) (by omega)]; exact g4 i q hq, fun q hq => by rw [hE _ _ (by omega) (by omega)]; exact g5 q hq⟩
theorem MBg.eqs {M M' : Nat → Nat → Int32} {σ σ' : Sg} (h : MBg M σ) (hE : ∀ i, M' 122 i = M 122 i) (e1 : Bg σ' = Bg σ) (e2 : Ev σ' = Ev σ) : MBg M' σ' := by
  obtain ⟨bn, h1, h2⟩ := h
  unfold MBg
  rw [e1, e2]
  exact ⟨bn, fun p hp => by rw [hE]; exact h1 p hp, h2⟩
theorem MGl.eqs {M M' : Nat → Nat → Int32} {g : List Nat} (h : MGl M g) (h1 : M' 103 21 = M 103 21) (h2 : ∀ i, M' 123 i = M 123 i) : MGl M' g := ⟨by rw [h1]; exact h.1, h.2.1, fun i q hq => by rw [h2]; exact h.2.2 i q hq⟩
theorem MSp.eqs {M M' : Nat → Nat → Int32} {σ σ' : Sg} (h : MSp M σ) (hE : ∀ i, M' 124 i = M 124 i) (e1 : ∀ a, tkn σ' a = true → tkn σ a = true) (e2 : Zw σ' = Zw σ) : MSp M' σ' := fun a ha ht => by rw [hE, e2]; exact h a ha (e1 a ht)
theorem MEv.eqs {M M' : Nat → Nat → Int32} {ev : List Int32} (h : MEv M ev) (h1 : M' 103 31 = M 103 31) (h2 : ∀ i, M' 131 i = M 131 i) : MEv M' ev := ⟨by rw [h1]; exact h.1, fun j e he hl => by rw [h2]; exact h.2 j e he hl⟩
/-- only what the state doesn't show (thrown, closed, holder, closure, fresh, seen, path, turn, kept) has changed -/
def Hd (M M' : Nat → Nat → Int32) : Prop := (∀ k i, 104 ≤ k → (k ≤ 124 ∨ k = 131) → M' k i = M k i) ∧ M' 103 21 = M 103 21 ∧ M' 103 31 = M 103 31 ∧ M' 103 32 = M 103 32
theorem Hd.refl (M : Nat → Nat → Int32) : Hd M M := ⟨fun _ _ _ _ => rfl, rfl, rfl, rfl⟩
theorem Hd.trans {M M1 M2 : Nat → Nat → Int32} (h1 : Hd M M1) (h2 : Hd M1 M2) : Hd M M2 := ⟨fun k i a b => (h2.1 k i a b).trans (h1.1 k i a b), h2.2.1.trans h1.2.1, h2.2.2.1.trans h1.2.2.1, h2.2.2.2.trans h1.2.2.2⟩
theorem Hd.up (M : Nat → Nat → Int32) {k i : Nat} (v : Int32) (hk : (k = 103 ∧ i ≠ 21 ∧ i ≠ 31 ∧ i ≠ 32) ∨ (125 ≤ k ∧ k ≠ 131)) : Hd M (mup M k i v) := ⟨fun k' j a b => mup_ne _ _ (by omega), mup_ne _ _ (by omega), mup_ne _ _ (by omega), mup_ne _ _ (by omega)⟩
theorem MS.hd {M M' : Nat → Nat → Int32} {σ : Sg} (h : MS M σ) (hH : Hd M M') : MS M' σ := by
  obtain ⟨c1, c2, c3, c4, c5, c6, c7, c8⟩ := h
  obtain ⟨e1, e2, e3, e4⟩ := hH
  exact ⟨fun p hp => (c1 p hp).eqs (fun k i a b => e1 k i (by omega) (by omega)) rfl rfl rfl rfl, fun p hp => (c2 p hp).eqs (fun k i a b => e1 k i (by omega) (by omega)) rfl rfl rfl, fun p hp => by rw [e1 _ _ (by omega) (by omega)]; exact c3 p hp, c4.eqs (fun i => e1 _ _ (by omega) (by omega)) rfl rfl, c5.eqs e2 (fun i => e1 _ _ (by omega) (by omega)), c6.eqs (fun i => e1 _ _ (by omega) (by omega)) (fun a h => h) rfl, c7.eqs e3 (fun i => e1 _ _ (by omega) (by omega)), by rw [e4]; exact c8⟩
def tt3 (b1 b2 b3 : Bool) : Nat := if b1 then 1 else if b2 then 2 else if b3 then 3 else 0
theorem tt3_le (b1 b2 b3 : Bool) : tt3 b1 b2 b3 ≤ 3 := by cases b1 <;> cases b2 <;> cases b3 <;> decide
set_option maxRecDepth 100000 in
set_option maxHeartbeats 4000000 in
theorem c_Md_isObject {ω : jw} {d : Nat} {h : jh} {Q : jr → jh → Prop} (a : Int32) (ht : ∀ n : Nat, n < 6 → a = nI n → Q (.inl (some (.int 1))) h) (hf : oN a → Q (.inl (some (.int 0))) h) : jwp ω d mMd_isObject [.int a] h Q := by
  refine jwp_of (by simp [Value.category]) (Nat.le_of_ble_eq_true rfl) (ls := [some (.int a)]) rfl ?_
  refine jj_il0 dMd_isObject_0 ?_
  refine jj_if_lt 14 dMd_isObject_1 (by decide) (fun q1 => ?_) (fun q1 => ?_)
  · refine jj_iconst 0 dMd_isObject_14 (by decide) ?_
    exact jj_iret dMd_isObject_15 rfl rfl (hf (by first | exact Or.inl q1 | exact Or.inr q2))
  · refine jj_il0 dMd_isObject_4 ?_
    refine jj_bipush 6 dMd_isObject_5 (by decide) ?_
    refine jj_icmp_ge 14 dMd_isObject_7 (by decide) (fun q2 => ?_) (fun q2 => ?_)
    · refine jj_iconst 0 dMd_isObject_14 (by decide) ?_
      exact jj_iret dMd_isObject_15 rfl rfl (hf (by first | exact Or.inl q1 | exact Or.inr q2))
    · refine jj_iconst 1 dMd_isObject_10 (by decide) ?_
      refine jj_goto 15 dMd_isObject_11 (by decide) ?_
      exact jj_iret dMd_isObject_15 rfl rfl (by rcases isObj a with ⟨n, h1, h2⟩ | h1 | h1; exact ht n h1 h2; exact absurd h1 q1; exact absurd h1 q2)
set_option maxRecDepth 100000 in
set_option maxHeartbeats 4000000 in
theorem c_thrown {ω : jw} {d : Nat} {M : Nat → Nat → Int32} {J sl : Nat} {Q : jr → jh → Prop} (hq : Q (.inl (some (.int (M 103 0)))) (jst ω M J sl)) : jwp ω d mMd_thrown [.ref (jN ω + 103)] (jst ω M J sl) Q := by
  refine jwp_of (by simp [Value.category]) (Nat.le_of_ble_eq_true rfl) (ls := [some (.ref (jN ω + 103))]) rfl ?_
  refine jj_al0 dMd_thrown_0 ?_
  refine mr_get _ dMd_thrown_1 clMd lkMd_95 (s103 _) rfl ?_
  exact jj_iret dMd_thrown_4 rfl rfl (hq)
set_option maxRecDepth 100000 in
set_option maxHeartbeats 4000000 in
theorem c_refused {ω : jw} {d : Nat} {M : Nat → Nat → Int32} {J sl : Nat} {Q : jr → jh → Prop} (b1 b2 b3 : Bool) (h0 : tt3 b1 b2 b3 = 0 → Q (.inl (some (.int 0))) (jst ω (mup M 103 0 0) J sl)) (h1 : ¬ tt3 b1 b2 b3 = 0 → Q (.inl (some (.int 1))) (jst ω (mup M 103 0 (nI (tt3 b1 b2 b3))) J sl)) : jwp ω d mMd_refused [.ref (jN ω + 103), .int (b2i b1), .int (b2i b2), .int (b2i b3)] (jst ω M J sl) Q := by
  refine jwp_of (by simp [Value.category]) (Nat.le_of_ble_eq_true rfl) (ls := [some (.ref (jN ω + 103)), some (.int (b2i b1)), some (.int (b2i b2)), some (.int (b2i b3))]) rfl ?_
  have k26 : ∀ (t : Nat), t = tt3 b1 b2 b3 → jj ω d mMd_refused 26 [some (.ref (jN ω + 103)), some (.int (b2i b1)), some (.int (b2i b2)), some (.int (b2i b3))] [.int (nI t), .ref (jN ω + 103)] (jst ω M J sl) Q := by
    intro t ht
    refine mr_put dMd_refused_26 clMd lkMd_95 rfl rfl (s103 _) (s103 _) (Nat.le_of_ble_eq_true rfl) rfl ?_
    refine jj_al0 dMd_refused_29 ?_
    refine mr_get _ dMd_refused_30 clMd lkMd_95 (s103 _) rfl ?_
    rw [mup_at]
    refine jj_if_le 40 dMd_refused_33 (by decide) (fun q9 => ?_) (fun q9 => ?_)
    · refine jj_iconst 0 dMd_refused_40 (by decide) ?_
      exact jj_iret dMd_refused_41 rfl rfl (by have e : t = 0 := Nat.le_zero.mp (by have := le_le (a := t) (b := 0) rfl q9 (by have := tt3_le b1 b2 b3; omega) (by decide); omega); subst e; exact h0 ht.symm)
    · refine jj_iconst 1 dMd_refused_36 (by decide) ?_
      refine jj_goto 41 dMd_refused_37 (by decide) ?_
      exact jj_iret dMd_refused_41 rfl rfl (by rw [ht]; exact h1 (fun h => q9 (by rw [ht, h]; decide)))
  refine jj_al0 dMd_refused_0 ?_
  refine jj_il1 dMd_refused_1 ?_
  refine jj_if_eq 9 dMd_refused_2 (by decide) (fun p1 => ?_) (fun p1 => ?_)
  · refine jj_il2 dMd_refused_9 ?_
    refine jj_if_eq 17 dMd_refused_10 (by decide) (fun p2 => ?_) (fun p2 => ?_)
    · refine jj_il3 dMd_refused_17 ?_
      refine jj_if_eq 25 dMd_refused_18 (by decide) (fun p3 => ?_) (fun p3 => ?_)
      · refine jj_iconst 0 dMd_refused_25 (by decide) ?_
        exact k26 0 (by rw [b2i_f p1, b2i_f p2, b2i_f p3]; rfl)
      · refine jj_iconst 3 dMd_refused_21 (by decide) ?_
        refine jj_goto 26 dMd_refused_22 (by decide) ?_
        exact k26 3 (by rw [b2i_f p1, b2i_f p2, b2i_t p3]; rfl)
    · refine jj_iconst 2 dMd_refused_13 (by decide) ?_
      refine jj_goto 26 dMd_refused_14 (by decide) ?_
      exact k26 2 (by rw [b2i_f p1, b2i_t p2]; rfl)
  · refine jj_iconst 1 dMd_refused_5 (by decide) ?_
    refine jj_goto 26 dMd_refused_6 (by decide) ?_
    exact k26 1 (by rw [b2i_t p1]; rfl)
theorem nI_mul (a b : Nat) : nI a * nI b = nI (a * b) := by
  unfold nI
  rw [← Int32.ofNat_mul]
theorem chn_md (x : Int32) : chR 0 x 0 - chR 0 x 0 / 3 * 3 = chn x := rfl
set_option maxRecDepth 100000 in
set_option maxHeartbeats 4000000 in
theorem c_hash_l {ω : jw} {d : Nat} {h : jh} {Q : jr → jh → Prop} (x : Int32) : ∀ (n i : Nat) (hh : Int32) (c3 : Option Value), n + i = 4 → Q (.inl (some (.int (chR hh x i - chR hh x i / 3 * 3)))) h → jj ω d mMd_hash 4 [some (.int x), some (.int hh), some (.int (nI i)), c3] [] h Q := by
  intro n
  induction n with
  | zero =>
    intro i hh c3 hn hq
    have hi : i = 4 := by omega
    subst hi
    rw [chR_4 _ _ (by omega)] at hq
    refine jj_il2 dMd_hash_4 ?_
    refine jj_iconst 4 dMd_hash_5 (by decide) ?_
    refine jj_icmp_ge 41 dMd_hash_6 (by decide) (fun q1 => ?_) (fun q1 => absurd q1 (by decide))
    refine jj_il1 dMd_hash_41 ?_
    refine jj_iconst 3 dMd_hash_42 (by decide) ?_
    refine jj_irem dMd_hash_43 (by decide) ?_
    exact jj_iret dMd_hash_44 rfl rfl (hq)
  | succ n ih =>
    intro i hh c3 hn hq
    rw [chR_step _ _ (by omega)] at hq
    refine jj_il2 dMd_hash_4 ?_
    refine jj_iconst 4 dMd_hash_5 (by decide) ?_
    refine jj_icmp_ge 41 dMd_hash_6 (by decide) (fun q1 => absurd q1 (fun h => by have := le_le (a := 4) rfl h (by decide) (by omega); omega)) (fun q1 => ?_)
    refine jj_il0 dMd_hash_9 ?_
    refine jj_bipush 8 dMd_hash_10 (by decide) ?_
    refine jj_il2 dMd_hash_12 ?_
    refine jj_imul dMd_hash_13 ?_
    rw [show (8 : Int32) * nI i = nI (8 * i) from nI_mul 8 i]
    refine jj_ishr dMd_hash_14 ?_
    refine jj_sipush 255 dMd_hash_15 (by decide) ?_
    refine jj_iand dMd_hash_18 ?_
    rw [by4_s x (by omega)]
    refine jj_is3 dMd_hash_19 ?_
    refine jj_il3 dMd_hash_20 ?_
    refine jj_if_ne 28 dMd_hash_21 (by decide) (fun q1 => ?_) (fun q1 => ?_)
    · refine jj_bipush 16 dMd_hash_28 (by decide) ?_
      refine jj_il1 dMd_hash_30 ?_
      refine jj_imul dMd_hash_31 ?_
      refine jj_il3 dMd_hash_32 ?_
      refine jj_iadd dMd_hash_33 ?_
      refine jj_is1 dMd_hash_34 ?_
      refine jj_ii2 (nI (i + 1)) dMd_hash_35 (inc1 i) ?_
      refine jj_goto 4 dMd_hash_38 (by decide) ?_
      exact ih (i + 1) _ _ (by omega) (by unfold chF at hq; rw [if_neg q1] at hq; exact hq)
    · refine jj_il1 dMd_hash_24 ?_
      refine jj_goto 34 dMd_hash_25 (by decide) ?_
      refine jj_is1 dMd_hash_34 ?_
      refine jj_ii2 (nI (i + 1)) dMd_hash_35 (inc1 i) ?_
      refine jj_goto 4 dMd_hash_38 (by decide) ?_
      exact ih (i + 1) _ _ (by omega) (by unfold chF at hq; rw [if_pos q1] at hq; exact hq)
set_option maxRecDepth 100000 in
set_option maxHeartbeats 4000000 in
theorem c_hash {ω : jw} {d : Nat} {h : jh} {Q : jr → jh → Prop} (x : Int32) (hq : Q (.inl (some (.int (chn x)))) h) : jwp ω d mMd_hash [.int x] h Q := by
  refine jwp_of (by simp [Value.category]) (Nat.le_of_ble_eq_true rfl) (ls := [some (.int x), none, none, none]) rfl ?_
  refine jj_iconst 0 dMd_hash_0 (by decide) ?_
  refine jj_is1 dMd_hash_1 ?_
  refine jj_iconst 0 dMd_hash_2 (by decide) ?_
  refine jj_is2 dMd_hash_3 ?_
  exact c_hash_l x 4 0 0 _ rfl hq
def nmP (x : Int32) (i : Nat) (s : Bool × Bool × Nat) : Bool × Bool × Nat := ((List.range' i (4 - i)).map (by4 x)).foldl nmSt s
theorem nmP_step (x : Int32) {i : Nat} (hi : i < 4) (s : Bool × Bool × Nat) : nmP x i s = nmP x (i + 1) (nmSt s (by4 x i)) := by
  unfold nmP
  rw [show 4 - i = (4 - (i + 1)) + 1 by omega, List.range'_succ, List.map_cons]
  rfl
theorem nmP_4 (x : Int32) (s : Bool × Bool × Nat) : nmP x 4 s = s := rfl
set_option maxRecDepth 100000 in
set_option maxHeartbeats 4000000 in
theorem c_mName_l {ω : jw} {d : Nat} {h : jh} {Q : jr → jh → Prop} (x : Int32) : ∀ (n i : Nat) (s : Bool × Bool × Nat) (c5 : Option Value), n + i = 4 ∧ s.2.2 ≤ i → (((nmP x i s).2.1 && decide (0 < (nmP x i s).2.2)) = true → Q (.inl (some (.int 1))) h) → (((nmP x i s).2.1 && decide (0 < (nmP x i s).2.2)) = false → Q (.inl (some (.int 0))) h) → jj ω d mMd_isName 9 [some (.int x), some (.int (nI s.2.2)), some (.int (b2i s.1)), some (.int (b2i s.2.1)), some (.int (nI i)), c5] [] h Q := by
  intro n
  induction n with
  | zero =>
    intro i s c5 hn hq1 hq2
    obtain ⟨hn, hs⟩ := hn
    have hi : i = 4 := by omega
    subst hi
    rw [nmP_4] at hq1 hq2
    refine jj_il4 dMd_isName_9 ?_
    refine jj_iconst 4 dMd_isName_11 (by decide) ?_
    refine jj_icmp_ge 97 dMd_isName_12 (by decide) (fun q1 => ?_) (fun q1 => absurd q1 (by decide))
    refine jj_il3 dMd_isName_97 ?_
    refine jj_if_eq 109 dMd_isName_98 (by decide) (fun p1 => ?_) (fun p1 => ?_)
    · refine jj_iconst 0 dMd_isName_109 (by decide) ?_
      exact jj_iret dMd_isName_110 rfl rfl (hq2 (by rw [b2i_f p1]; rfl))
    · refine jj_il1 dMd_isName_101 ?_
      refine jj_if_le 109 dMd_isName_102 (by decide) (fun p2 => ?_) (fun p2 => ?_)
      · refine jj_iconst 0 dMd_isName_109 (by decide) ?_
        exact jj_iret dMd_isName_110 rfl rfl (hq2 (by rw [b2i_t p1, decide_eq_false (by have := le_le (a := s.2.2) (b := 0) rfl p2 (by omega) (by decide); omega)]; rfl))
      · refine jj_iconst 1 dMd_isName_105 (by decide) ?_
        refine jj_goto 110 dMd_isName_106 (by decide) ?_
        exact jj_iret dMd_isName_110 rfl rfl (hq1 (by rw [b2i_t p1, decide_eq_true (by have := nle_lt (a := s.2.2) (b := 0) rfl p2 (by omega) (by decide); omega)]; rfl))
  | succ n ih =>
    intro i s c5 hn hq1 hq2
    obtain ⟨hn, hs⟩ := hn
    rw [nmP_step x (by omega)] at hq1 hq2
    have k42 : ∀ (e : Bool), e = (s.1 || decide (by4 x i = 0)) → jj ω d mMd_isName 42 [some (.int (x)), some (.int (nI s.2.2)), some (.int (b2i s.1)), some (.int (b2i s.2.1)), some (.int (nI i)), some (.int (by4 x i))] [.int (b2i e)] h Q := by
      intro e he
      have k78 : ∀ (b : Bool), b = (s.2.1 && (if e = true then decide (by4 x i = 0) else ltr (by4 x i))) → jj ω d mMd_isName 78 [some (.int (x)), some (.int (nI s.2.2)), some (.int (b2i e)), some (.int (b2i s.2.1)), some (.int (nI i)), some (.int (by4 x i))] [.int (b2i b)] h Q := by
        intro b hb
        have k90 : ∀ (m : Nat), m = (if e = true then s.2.2 else s.2.2 + 1) → jj ω d mMd_isName 90 [some (.int (x)), some (.int (nI s.2.2)), some (.int (b2i e)), some (.int (b2i b)), some (.int (nI i)), some (.int (by4 x i))] [.int (nI m)] h Q := by
          intro m hm
          subst he
          subst hb
          subst hm
          refine jj_is1 dMd_isName_90 ?_
          refine jj_ii4 (nI (i + 1)) dMd_isName_91 (inc1 i) ?_
          refine jj_goto 9 dMd_isName_94 (by decide) ?_
          exact ih (i + 1) (nmSt s (by4 x i)) _ ⟨by omega, by unfold nmSt; dsimp only; split <;> omega⟩ hq1 hq2
        refine jj_is3 dMd_isName_78 ?_
        refine jj_il2 dMd_isName_79 ?_
        refine jj_if_eq 87 dMd_isName_80 (by decide) (fun p1 => ?_) (fun p1 => ?_)
        · refine jj_il1 dMd_isName_87 ?_
          refine jj_iconst 1 dMd_isName_88 (by decide) ?_
          refine jj_iadd dMd_isName_89 ?_
          rw [nI_1]
          exact k90 _ (by rw [b2i_f p1]; rfl)
        · refine jj_il1 dMd_isName_83 ?_
          refine jj_goto 90 dMd_isName_84 (by decide) ?_
          exact k90 _ (by rw [b2i_t p1]; rfl)
      refine jj_is2 dMd_isName_42 ?_
      refine jj_il3 dMd_isName_43 ?_
      refine jj_if_eq 77 dMd_isName_44 (by decide) (fun p1 => ?_) (fun p1 => ?_)
      · refine jj_iconst 0 dMd_isName_77 (by decide) ?_
        exact k78 false (by rw [b2i_f p1]; rfl)
      · refine jj_il2 dMd_isName_47 ?_
        refine jj_if_eq 59 dMd_isName_48 (by decide) (fun p2 => ?_) (fun p2 => ?_)
        · refine jj_il5 dMd_isName_59 ?_
          refine jj_bipush 97 dMd_isName_61 (by decide) ?_
          refine jj_icmp_lt 77 dMd_isName_63 (by decide) (fun p4 => ?_) (fun p4 => ?_)
          · refine jj_iconst 0 dMd_isName_77 (by decide) ?_
            exact k78 false (by rw [b2i_t p1, b2i_f p2]; unfold ltr; rw [decide_eq_false (Int32.not_le.mpr p4)]; rfl)
          · refine jj_il5 dMd_isName_66 ?_
            refine jj_bipush 122 dMd_isName_68 (by decide) ?_
            refine jj_icmp_gt 77 dMd_isName_70 (by decide) (fun p5 => ?_) (fun p5 => ?_)
            · refine jj_iconst 0 dMd_isName_77 (by decide) ?_
              exact k78 false (by rw [b2i_t p1, b2i_f p2]; unfold ltr; rw [decide_eq_false (Int32.not_le.mpr p5), Bool.and_false]; rfl)
            · refine jj_iconst 1 dMd_isName_73 (by decide) ?_
              refine jj_goto 78 dMd_isName_74 (by decide) ?_
              exact k78 true (by rw [b2i_t p1, b2i_f p2]; unfold ltr; rw [decide_eq_true (Int32.not_lt.mp p4), decide_eq_true (Int32.not_lt.mp p5)]; rfl)
        · refine jj_il5 dMd_isName_51 ?_
          refine jj_if_ne 77 dMd_isName_53 (by decide) (fun p3 => ?_) (fun p3 => ?_)
          · refine jj_iconst 0 dMd_isName_77 (by decide) ?_
            exact k78 false (by rw [b2i_t p1, b2i_t p2, decide_eq_false p3]; rfl)
          · refine jj_goto 73 dMd_isName_56 (by decide) ?_
            refine jj_iconst 1 dMd_isName_73 (by decide) ?_
            refine jj_goto 78 dMd_isName_74 (by decide) ?_
            exact k78 true (by rw [b2i_t p1, b2i_t p2, decide_eq_true p3]; rfl)
    refine jj_il4 dMd_isName_9 ?_
    refine jj_iconst 4 dMd_isName_11 (by decide) ?_
    refine jj_icmp_ge 97 dMd_isName_12 (by decide) (fun q1 => absurd q1 (fun h => by have := le_le (a := 4) rfl h (by decide) (by omega); omega)) (fun q1 => ?_)
    refine jj_il0 dMd_isName_15 ?_
    refine jj_bipush 8 dMd_isName_16 (by decide) ?_
    refine jj_il4 dMd_isName_18 ?_
    refine jj_imul dMd_isName_20 ?_
    rw [show (8 : Int32) * nI i = nI (8 * i) from nI_mul 8 i]
    refine jj_ishr dMd_isName_21 ?_
    refine jj_sipush 255 dMd_isName_22 (by decide) ?_
    refine jj_iand dMd_isName_25 ?_
    rw [by4_s x (by omega)]
    refine jj_is5 dMd_isName_26 ?_
    refine jj_il2 dMd_isName_28 ?_
    refine jj_if_ne 37 dMd_isName_29 (by decide) (fun p1 => ?_) (fun p1 => ?_)
    · refine jj_iconst 1 dMd_isName_37 (by decide) ?_
      refine jj_goto 42 dMd_isName_38 (by decide) ?_
      exact k42 true (by rw [b2i_t p1]; rfl)
    · refine jj_il5 dMd_isName_32 ?_
      refine jj_if_ne 41 dMd_isName_34 (by decide) (fun p2 => ?_) (fun p2 => ?_)
      · refine jj_iconst 0 dMd_isName_41 (by decide) ?_
        exact k42 false (by rw [b2i_f p1, decide_eq_false p2]; rfl)
      · refine jj_iconst 1 dMd_isName_37 (by decide) ?_
        refine jj_goto 42 dMd_isName_38 (by decide) ?_
        exact k42 true (by rw [b2i_f p1, decide_eq_true p2]; rfl)
set_option maxRecDepth 100000 in
set_option maxHeartbeats 4000000 in
theorem c_mName {ω : jw} {d : Nat} {h : jh} {Q : jr → jh → Prop} (x : Int32) (ht : nmB x = true → Q (.inl (some (.int 1))) h) (hf : nmB x = false → Q (.inl (some (.int 0))) h) : jwp ω d mMd_isName [.int x] h Q := by
  rw [nm_same] at ht hf
  refine jwp_of (by simp [Value.category]) (Nat.le_of_ble_eq_true rfl) (ls := [some (.int x), none, none, none, none, none]) rfl ?_
  refine jj_iconst 0 dMd_isName_0 (by decide) ?_
  refine jj_is1 dMd_isName_1 ?_
  refine jj_iconst 0 dMd_isName_2 (by decide) ?_
  refine jj_is2 dMd_isName_3 ?_
  refine jj_iconst 1 dMd_isName_4 (by decide) ?_
  refine jj_is3 dMd_isName_5 ?_
  refine jj_iconst 0 dMd_isName_6 (by decide) ?_
  refine jj_is4 dMd_isName_7 ?_
  exact c_mName_l x 4 0 (false, true, 0) _ ⟨rfl, Nat.le_refl _⟩ ht hf
