set_option maxRecDepth 100000 in
set_option maxHeartbeats 4000000 in
theorem c_mnote {ω : jw} {d : Nat} {M : Nat → Nat → Int32} {J sl : Nat} {Q : jr → jh → Prop} {ev : List Int32} (hE : MEv M ev) (hev : ev.length < 2 ^ 30) (e : Int32) (hq : ∀ M', (∀ k i, k ≠ 131 → k ≠ 103 ∨ i ≠ 31 → M' k i = M k i) → MEv M' (ev ++ [e]) → Q (.inl none) (jst ω M' J sl)) : jwp ω d mMd_note [.ref (jN ω + 103), .int e] (jst ω M J sl) Q := by
  have h31 := hE.1
  refine jwp_of (by simp [Value.category]) (Nat.le_of_ble_eq_true rfl) (ls := [some (.ref (jN ω + 103)), some (.int e)]) rfl ?_
  refine jj_al0 dMd_note_0 ?_
  refine mr_get _ dMd_note_1 clMd lkMd_92 (s103 _) rfl ?_
  refine jj_al0 dMd_note_4 ?_
  refine mr_get _ dMd_note_5 clMd lkMd_156 (s103 _) rfl ?_
  rw [h31]
  refine jj_bipush 40 dMd_note_8 (by decide) ?_
  refine jj_irem dMd_note_10 (by decide) ?_
  rw [rem40 _ (by omega)]
  refine jj_il1 dMd_note_11 ?_
  refine mr_iast dMd_note_12 (s131) (by omega) (by decide) ?_
  refine jj_al0 dMd_note_13 ?_
  refine jj_dup dMd_note_14 rfl ?_
  refine mr_get _ dMd_note_15 clMd lkMd_156 (s103 _) rfl ?_
  rw [mup_ne _ _ (by omega), h31]
  refine jj_iconst 1 dMd_note_18 (by decide) ?_
  refine jj_iadd dMd_note_19 ?_
  rw [nI_1]
  refine mr_put dMd_note_20 clMd lkMd_156 rfl rfl (s103 _) (s103 _) (Nat.le_of_ble_eq_true rfl) rfl ?_
  exact jj_vret dMd_note_23 rfl (hq _ (fun k i a b => by rw [mup_ne _ _ (by omega), mup_ne _ _ (by omega)]) ⟨by rw [mup_at]; simp, fun j e2 he hl => by
    rw [mup_ne _ _ (by omega)]
    simp only [List.length_append, List.length_cons, List.length_nil] at hl
    rcases get_snoc he with ⟨hj, he⟩ | ⟨hj, rfl⟩
    · rw [mup_ne _ _ (by omega)]
      exact hE.2 j e2 he (by omega)
    · rw [hj, mup_at]⟩)
set_option maxRecDepth 100000 in
set_option maxHeartbeats 4000000 in
theorem c_isGlobal_l {ω : jw} {d : Nat} {M : Nat → Nat → Int32} {J sl : Nat} {Q : jr → jh → Prop} {g : List Nat} (hG : MGl M g) {m : Nat} (hm : m < 6) (hN6 : ∀ x ∈ g, x < 6) (ht : m ∈ g → Q (.inl (some (.int 1))) (jst ω M J sl)) (hf : ¬ m ∈ g → Q (.inl (some (.int 0))) (jst ω M J sl)) :
    ∀ (n i : Nat) (b : Bool), n + i = g.length → (b = true ↔ ∃ z ∈ g.take i, z = m) → jj ω d mMd_isGlobal 4 [some (.ref (jN ω + 103)), some (.int (nI m)), some (.int (b2i b)), some (.int (nI i))] [] (jst ω M J sl) Q := by
  obtain ⟨h21, hl, h123⟩ := hG
  intro n
  induction n with
  | zero =>
    intro i b hn hb
    have hi : i = g.length := by omega
    subst hi
    rw [List.take_length] at hb
    refine jj_il3 dMd_isGlobal_4 ?_
    refine jj_al0 dMd_isGlobal_5 ?_
    refine mr_get _ dMd_isGlobal_6 clMd lkMd_133 (s103 _) rfl ?_
    rw [h21]
    refine jj_icmp_ge 38 dMd_isGlobal_9 (by decide) (fun q1 => ?_) (fun q1 => absurd q1 (fun h => h (Int32.le_refl _)))
    refine jj_il2 dMd_isGlobal_38 ?_
    exact jj_iret dMd_isGlobal_39 rfl (by cases b <;> rfl) (by cases b; exact hf (fun h => by have := hb.mpr (⟨_, h, rfl⟩); cases this); exact ht (by obtain ⟨z, h1, h2⟩ := hb.mp rfl; subst h2; exact h1))
  | succ n ih =>
    intro i b hn hb
    have hi : i < g.length := by omega
    obtain ⟨x, hx⟩ : ∃ x, g[i]? = some x := ⟨_, List.getElem?_eq_getElem hi⟩
    have hT : g.take (i + 1) = g.take i ++ [x] := by rw [List.take_add_one, hx]; rfl
    have k31 : ∀ (c : Bool), (c = true ↔ ∃ z ∈ g.take (i + 1), z = m) → jj ω d mMd_isGlobal 31 [some (.ref (jN ω + 103)), some (.int (nI m)), some (.int (b2i b)), some (.int (nI i))] [.int (b2i c)] (jst ω M J sl) Q := by
      intro c hc
      refine jj_is2 dMd_isGlobal_31 ?_
      refine jj_ii3 (nI (i + 1)) dMd_isGlobal_32 (inc1 i) ?_
      refine jj_goto 4 dMd_isGlobal_35 (by decide) ?_
      exact ih (i + 1) c (by omega) hc
    refine jj_il3 dMd_isGlobal_4 ?_
    refine jj_al0 dMd_isGlobal_5 ?_
    refine mr_get _ dMd_isGlobal_6 clMd lkMd_133 (s103 _) rfl ?_
    rw [h21]
    refine jj_icmp_ge 38 dMd_isGlobal_9 (by decide) (fun q1 => absurd q1 (fun h => by have := le_le rfl h (by omega) (by omega); omega)) (fun q1 => ?_)
    refine jj_il2 dMd_isGlobal_12 ?_
    refine jj_if_ne 26 dMd_isGlobal_13 (by decide) (fun q1 => ?_) (fun q1 => ?_)
    · refine jj_iconst 1 dMd_isGlobal_26 (by decide) ?_
      refine jj_goto 31 dMd_isGlobal_27 (by decide) ?_
      exact k31 true ⟨fun _ => (hb.mp (b2i_t q1)).imp (fun z h => ⟨by rw [hT]; exact List.mem_append.mpr (Or.inl h.1), h.2⟩), fun _ => rfl⟩
    · refine jj_al0 dMd_isGlobal_16 ?_
      refine mr_get _ dMd_isGlobal_17 clMd lkMd_68 (s103 _) rfl ?_
      refine jj_il3 dMd_isGlobal_20 ?_
      refine mr_iald dMd_isGlobal_21 (s123 _) (by omega) (by decide) ?_
      rw [h123 i x hx]
      refine jj_il1 dMd_isGlobal_22 ?_
      refine jj_icmp_ne 30 dMd_isGlobal_23 (by decide) (fun q2 => ?_) (fun q2 => ?_)
      · refine jj_iconst 0 dMd_isGlobal_30 (by decide) ?_
        exact k31 false ⟨fun h => (by cases h), fun h => by obtain ⟨z, h1, h2⟩ := h; rw [hT] at h1; rcases List.mem_append.mp h1 with h1 | h1; exact absurd (hb.mpr ⟨z, h1, h2⟩) (by rw [b2i_f q1]; decide); rw [List.mem_singleton] at h1; subst h1; exact absurd ((nI6 (hN6 _ (List.mem_of_getElem? hx)) hm).mpr h2) q2⟩
      · refine jj_iconst 1 dMd_isGlobal_26 (by decide) ?_
        refine jj_goto 31 dMd_isGlobal_27 (by decide) ?_
        exact k31 true ⟨fun _ => ⟨x, by rw [hT]; simp, (nI6 (hN6 _ (List.mem_of_getElem? hx)) hm).mp q2⟩, fun _ => rfl⟩
set_option maxRecDepth 100000 in
set_option maxHeartbeats 4000000 in
theorem c_isGlobal {ω : jw} {d : Nat} {M : Nat → Nat → Int32} {J sl : Nat} {Q : jr → jh → Prop} {g : List Nat} (hG : MGl M g) {m : Nat} (hm : m < 6) (hN6 : ∀ x ∈ g, x < 6) (ht : m ∈ g → Q (.inl (some (.int 1))) (jst ω M J sl)) (hf : ¬ m ∈ g → Q (.inl (some (.int 0))) (jst ω M J sl)) : jwp ω d mMd_isGlobal [.ref (jN ω + 103), .int (nI m)] (jst ω M J sl) Q := by
  refine jwp_of (by simp [Value.category]) (Nat.le_of_ble_eq_true rfl) (ls := [some (.ref (jN ω + 103)), some (.int (nI m)), none, none]) rfl ?_
  refine jj_iconst 0 dMd_isGlobal_0 (by decide) ?_
  refine jj_is2 dMd_isGlobal_1 ?_
  refine jj_iconst 0 dMd_isGlobal_2 (by decide) ?_
  refine jj_is3 dMd_isGlobal_3 ?_
  exact c_isGlobal_l hG hm hN6 ht hf g.length 0 false (by omega) ⟨fun h => (by cases h), fun h => (by obtain ⟨z, h1, _⟩ := h; simp at h1)⟩
theorem dfL_sub {nd : Nat → List Nat} {f : Nat} (ih : ∀ q (x : List Nat × List Nat), q ∈ x.1 → (∀ z ∈ (dfF nd f q x).1, z ∈ x.1) ∧ (dfF nd f q x).1.length ≤ x.1.length ∧ (x.1.Nodup → (dfF nd f q x).1.Nodup) ∧ (∀ z ∈ (dfF nd f q x).2, z ∈ x.2 ∨ z ∈ x.1 ∧ z ∉ (dfF nd f q x).1)) : ∀ (l : List Nat) (x : List Nat × List Nat), (∀ z ∈ (dfL nd f l x).1, z ∈ x.1) ∧ (dfL nd f l x).1.length ≤ x.1.length ∧ (x.1.Nodup → (dfL nd f l x).1.Nodup) ∧ (∀ z ∈ (dfL nd f l x).2, z ∈ x.2 ∨ z ∈ x.1 ∧ z ∉ (dfL nd f l x).1) := by
  intro l
  induction l with
  | nil => intro x; exact ⟨fun z h => h, Nat.le_refl _, id, fun z h => Or.inl h⟩
  | cons q l ihl =>
    intro x
    rw [dfL_c]
    by_cases hq : q ∈ x.1
    · rw [if_pos hq]
      obtain ⟨a1, a2, a3, a4⟩ := ih q x hq
      obtain ⟨b1, b2, b3, b4⟩ := ihl (dfF nd f q x)
      refine ⟨fun z h => a1 z (b1 z h), Nat.le_trans b2 a2, fun h => b3 (a3 h), fun z h => ?_⟩
      rcases b4 z h with h1 | ⟨h1, h2⟩
      · rcases a4 z h1 with h3 | ⟨h3, h4⟩
        · exact Or.inl h3
        · exact Or.inr ⟨h3, fun g => h4 (b1 z g)⟩
      · exact Or.inr ⟨a1 z h1, h2⟩
    · rw [if_neg hq]
      exact ihl x
theorem dfF_sub (nd : Nat → List Nat) : ∀ (f q : Nat) (x : List Nat × List Nat), q ∈ x.1 → (∀ z ∈ (dfF nd f q x).1, z ∈ x.1) ∧ (dfF nd f q x).1.length ≤ x.1.length ∧ (x.1.Nodup → (dfF nd f q x).1.Nodup) ∧ (∀ z ∈ (dfF nd f q x).2, z ∈ x.2 ∨ z ∈ x.1 ∧ z ∉ (dfF nd f q x).1) := by
  intro f
  induction f with
  | zero =>
    intro q x hq
    refine ⟨fun z h => (List.mem_filter.mp h).1, List.length_filter_le _ _, fun h => h.filter _, fun z h => ?_⟩
    rcases List.mem_append.mp h with h | h
    · exact Or.inl h
    · rw [List.mem_singleton] at h
      subst h
      exact Or.inr ⟨hq, fun g => by have := (List.mem_filter.mp g).2; simp at this⟩
  | succ f ih =>
    intro q x hq
    rw [dfF_s]
    obtain ⟨b1, b2, b3, b4⟩ := dfL_sub ih (nd q) (x.1.filter (fun z => decide (z ≠ q)), x.2)
    refine ⟨fun z h => (List.mem_filter.mp (b1 z h)).1, Nat.le_trans b2 (List.length_filter_le _ _), fun h => b3 (h.filter _), fun z h => ?_⟩
    rcases List.mem_append.mp h with h | h
    · rcases b4 z h with h1 | ⟨h1, h2⟩
      · exact Or.inl h1
      · exact Or.inr ⟨(List.mem_filter.mp h1).1, h2⟩
    · rw [List.mem_singleton] at h
      subst h
      exact Or.inr ⟨hq, fun g => by have := (List.mem_filter.mp (b1 z g)).2; simp at this⟩
def SnIs (M : Nat → Nat → Int32) (nw : List Nat) : Prop := ∀ p, p < 6 → M 127 p = b2i (decide (p ∉ nw))
/-- what going into them leaves as it was -/
def Fb (M M' : Nat → Nat → Int32) : Prop := Lo M M' ∧ ∀ i, i ≠ 31 → M' 103 i = M 103 i
theorem Fb.refl (M : Nat → Nat → Int32) : Fb M M := ⟨Lo.refl M, fun _ _ => rfl⟩
theorem Fb.trans {M M1 M2 : Nat → Nat → Int32} (h1 : Fb M M1) (h2 : Fb M1 M2) : Fb M M2 := ⟨h1.1.trans h2.1, fun i a => (h2.2 i a).trans (h1.2 i a)⟩
theorem Fb.up {M M1 : Nat → Nat → Int32} (h : Fb M M1) {k i : Nat} (v : Int32) (hk : 104 ≤ k ∧ k ≠ 132) : Fb M (mup M1 k i v) := ⟨h.1.up _ (by omega), fun j a => by rw [mup_ne _ _ (by omega)]; exact h.2 j a⟩
theorem MS_begin {M M' : Nat → Nat → Int32} {σ : Sg} {p : Nat} (h : MS M σ) (hp : p < 6) (hpb : p ∉ Bg σ) (hE : ∀ k i, k ≠ 122 ∨ i ≠ p → k ≠ 131 → k ≠ 103 ∨ i ≠ 31 → M' k i = M k i) (h122 : M' 122 p = nI (Ev σ).length) (hV : MEv M' (Ev σ ++ [nI p])) : MS M' (zBj σ (Bg σ ++ [p]) (Ev σ ++ [nI p])) := by
  obtain ⟨c1, c2, c3, c4, c5, c6, c7, c8⟩ := h
  refine ⟨fun r hr => (c1 r hr).eqs (fun k i a b => hE _ _ (by omega) (by omega) (by omega)) rfl rfl rfl rfl, fun r hr => (c2 r hr).eqs (fun k i a b => hE _ _ (by omega) (by omega) (by omega)) rfl rfl rfl, fun r hr => by rw [hE _ _ (by omega) (by omega) (by omega)]; exact c3 r hr, ?_, c5.eqs (hE _ _ (by omega) (by omega) (by omega)) (fun i => hE _ _ (by omega) (by omega) (by omega)), c6.eqs (fun i => hE _ _ (by omega) (by omega) (by omega)) (fun a h => h) rfl, hV, by rw [hE _ _ (by omega) (by omega) (by omega)]; exact c8⟩
  obtain ⟨bn, b1, b2⟩ := c4
  refine ⟨va_up bn p (Ev σ).length, fun z hz => ?_, ?_⟩
  · show _ ∧ _ < (Ev σ ++ [nI p]).length
    rcases List.mem_append.mp hz with hz | hz
    · have hzp : z ≠ p := fun e => hpb (e ▸ hz)
      rw [va_up_ne _ _ hzp, hE _ _ (by omega) (by omega) (by omega)]
      have := b1 z hz
      simp only [List.length_append, List.length_cons, List.length_nil]
      exact ⟨this.1, by omega⟩
    · rw [List.mem_singleton] at hz
      subst hz
      rw [va_up_self]
      simp only [List.length_append, List.length_cons, List.length_nil]
      exact ⟨h122, by omega⟩
  · show (Bg σ ++ [p]).Pairwise _
    rw [List.pairwise_append]
    refine ⟨b2.imp_of_mem (fun {x y} hx hy hxy => ?_), by simp, fun x hx y hy => ?_⟩
    · have e1 : x ≠ p := fun e => hpb (e ▸ hx)
      have e2 : y ≠ p := fun e => hpb (e ▸ hy)
      rw [va_up_ne _ _ e1, va_up_ne _ _ e2]; exact hxy
    · rw [List.mem_singleton] at hy
      subst hy
      have e1 : x ≠ y := fun e => hpb (e ▸ hx)
      rw [va_up_self, va_up_ne _ _ e1]
      exact (b1 x hx).2
set_option maxRecDepth 100000 in
set_option maxHeartbeats 4000000 in
theorem c_begin_l {ω : jw} {d : Nat} {J sl : Nat} {Q : jr → jh → Prop} {σ : Sg} (hB6 : Rw6 (Bg σ)) (hN6 : ∀ p, p < 6 → ∀ x ∈ Zn σ p, x < 6) (hEv : (Ev σ).length + 6 < 2 ^ 30) (c1 : Option Value) :
    ∀ (f n p t dp : Nat) (x : List Nat × List Nat) (M : Nat → Nat → Int32) (c3 c4 : Option Value), (Zn σ p).length - t < n → t ≤ (Zn σ p).length → x.1.length ≤ f → x.1.length + x.2.length + dp ≤ 5 → p < 6 → p ∉ x.1 → Rw6 x.1 → (∀ z ∈ x.2, z < 6) → MS M (zBn σ x.2) → SnIs M x.1 → M 128 dp = nI p → M 129 dp = nI t → (∀ z ∈ x.1, z ∉ Bg σ ∧ z ∉ x.2) → p ∉ Bg σ → p ∉ x.2 →
      (∀ M' c3' c4', MS M' (zBn σ ((dfL (Zn σ) f ((Zn σ p).drop t) x).2 ++ [p])) → SnIs M' (dfL (Zn σ) f ((Zn σ p).drop t) x).1 → (∀ i, i < dp → M' 128 i = M 128 i ∧ M' 129 i = M 129 i) → Fb M M' → jj ω (d + 1) mMd_beginAll 67 [some (.ref (jN ω + 103)), c1, some (.int (nI dp - 1)), c3', c4'] [] (jst ω M' J sl) Q) →
      jj ω (d + 1) mMd_beginAll 67 [some (.ref (jN ω + 103)), c1, some (.int (nI dp)), c3, c4] [] (jst ω M J sl) Q := by
  intro f
  induction f using Nat.strongRecOn with
  | ind f IH =>
  intro n
  induction n with
  | zero => intro p t dp x M c3 c4 hn; omega
  | succ n ih =>
    intro p t dp x M c3 c4 hn ht hf hd hp hpx hx6 hx2 hS hE h128 h129 hxd hpB hpx2 hq
    obtain ⟨hl3, _, _, _, h106, h105, _⟩ := hS.1 p hp
    have h106 : M 106 p = nI (Zn σ p).length := h106
    have hl3 : (Zn σ p).length ≤ 3 := hl3
    have h105 : ∀ i q, (Zn σ p)[i]? = some q → M 105 (3 * p + i) = nI q := h105
    refine jj_il2 dMd_beginAll_67 ?_
    refine jj_if_lt 180 dMd_beginAll_68 (by decide) (fun q1 => absurd q1 (nI_nn dp (by omega))) (fun q1 => ?_)
    refine jj_al0 dMd_beginAll_71 ?_
    refine mr_get _ dMd_beginAll_72 clMd lkMd_83 (s103 _) rfl ?_
    refine jj_il2 dMd_beginAll_75 ?_
    refine mr_iald dMd_beginAll_76 (s128 _) (by omega) (by decide) ?_
    rw [h128]
    refine jj_is3 dMd_beginAll_77 ?_
    refine jj_al0 dMd_beginAll_78 ?_
    refine mr_get _ dMd_beginAll_79 clMd lkMd_86 (s103 _) rfl ?_
    refine jj_il2 dMd_beginAll_82 ?_
    refine mr_iald dMd_beginAll_83 (s129 _) (by omega) (by decide) ?_
    rw [h129]
    refine jj_al0 dMd_beginAll_84 ?_
    refine mr_get _ dMd_beginAll_85 clMd lkMd_16 (s103 _) rfl ?_
    refine jj_il3 dMd_beginAll_88 ?_
    refine mr_iald dMd_beginAll_89 (s106 _) (hp) (by decide) ?_
    rw [h106]
    refine jj_icmp_ge 159 dMd_beginAll_90 (by decide) (fun q1 => ?_) (fun q1 => ?_)
    · refine jj_al0 dMd_beginAll_159 ?_
      refine mr_get _ dMd_beginAll_160 clMd lkMd_65 (s103 _) rfl ?_
      refine jj_il3 dMd_beginAll_163 ?_
      refine jj_al0 dMd_beginAll_164 ?_
      refine mr_get _ dMd_beginAll_165 clMd lkMd_156 (s103 _) rfl ?_
      rw [show M 103 31 = nI (Ev (zBn σ x.2)).length from hS.2.2.2.2.2.2.1.1]
      refine mr_iast dMd_beginAll_168 (s122) (hp) (by decide) ?_
      refine jj_al0 dMd_beginAll_169 ?_
      refine jj_il3 dMd_beginAll_170 ?_
      refine mv1 dMd_beginAll_171 clMd cvMd_159 (s103 _) (Nat.le_of_ble_eq_true rfl) ?_
      have hV : MEv (mup M 122 p (nI (Ev (zBn σ x.2)).length)) (Ev (zBn σ x.2)) := hS.2.2.2.2.2.2.1.eqs (mup_ne _ _ (by omega)) (fun i => mup_ne _ _ (by omega))
      have hlen : (Ev (zBn σ x.2)).length < 2 ^ 30 := by
        show (Ev σ ++ x.2.map nI).length < 2 ^ 30
        rw [List.length_append, List.length_map]; omega
      refine c_mnote hV hlen (nI p) (fun M1 hO1 hV1 => jk_v ?_)
      refine jj_ii2 (nI dp - 1) dMd_beginAll_174 (decI _) ?_
      refine jj_goto 67 dMd_beginAll_177 (by decide) ?_
      rw [List.drop_eq_nil_of_le (le_le rfl q1 (by omega) (by omega))] at hq
      have hBx : p ∉ Bg (zBn σ x.2) := fun h => ((fold_facts x.2 (Bg σ) hB6 hx2).2 p |>.mp h).elim hpB hpx2
      have hR6 : Rw6 (Bg (zBn σ x.2)) := (fold_facts x.2 (Bg σ) hB6 hx2).1
      have hS1 := MS_begin hS hp hBx (fun k i a1 a2 a3 => by rw [hO1 k i a2 a3, mup_ne _ _ a1]) (by rw [hO1 _ _ (by omega) (by omega), mup_at]) hV1
      have hze : zBj (zBn σ x.2) (Bg (zBn σ x.2) ++ [p]) (Ev (zBn σ x.2) ++ [nI p]) = zBn σ (x.2 ++ [p]) := by
        have e1 : (x.2 ++ [p]).foldl rput (Bg σ) = x.2.foldl rput (Bg σ) ++ [p] := by
          rw [List.foldl_append]
          show rput (x.2.foldl rput (Bg σ)) p = _
          have h := rput_eq hR6 hp
          rw [if_neg hBx] at h
          exact h
        unfold zBn
        rw [e1, List.map_append, ← List.append_assoc]
        rfl
      rw [hze] at hS1
      exact hq M1 _ _ hS1 (fun z hz => by rw [hO1 _ _ (by omega) (by omega), mup_ne _ _ (by omega)]; exact hE z hz) (fun i hi => ⟨by rw [hO1 _ _ (by omega) (by omega), mup_ne _ _ (by omega)], by rw [hO1 _ _ (by omega) (by omega), mup_ne _ _ (by omega)]⟩) ⟨fun k i h => by rw [hO1 _ _ (by omega) (by omega), mup_ne _ _ (by omega)], fun i h => by rw [hO1 _ _ (by omega) (by omega), mup_ne _ _ (by omega)]⟩
    · have ht2 : t < (Zn σ p).length := nle_lt rfl q1 (by omega) (by omega)
      obtain ⟨q, e1⟩ : ∃ q, (Zn σ p)[t]? = some q := ⟨_, List.getElem?_eq_getElem ht2⟩
      have e2 : q < 6 := hN6 p hp q (List.mem_of_getElem? e1)
      rw [List.drop_eq_getElem_cons ht2, show (Zn σ p)[t] = q from (List.getElem?_eq_some_iff.mp e1).2, dfL_c] at hq
      refine jj_al0 dMd_beginAll_93 ?_
      refine mr_get _ dMd_beginAll_94 clMd lkMd_13 (s103 _) rfl ?_
      refine jj_iconst 3 dMd_beginAll_97 (by decide) ?_
      refine jj_il3 dMd_beginAll_98 ?_
      refine jj_imul dMd_beginAll_99 ?_
      rw [show (3 : Int32) * nI p = nI (3 * p) from nI_mul 3 p]
      refine jj_al0 dMd_beginAll_100 ?_
      refine mr_get _ dMd_beginAll_101 clMd lkMd_86 (s103 _) rfl ?_
      refine jj_il2 dMd_beginAll_104 ?_
      refine mr_iald dMd_beginAll_105 (s129 _) (by omega) (by decide) ?_
      rw [h129]
      refine jj_iadd dMd_beginAll_106 ?_
      rw [nI_add]
      refine mr_iald dMd_beginAll_107 (s105 _) (by omega) (by decide) ?_
      rw [h105 t q e1]
      refine jj_is4 dMd_beginAll_108 ?_
      refine jj_al0 dMd_beginAll_110 ?_
      refine mr_get _ dMd_beginAll_111 clMd lkMd_86 (s103 _) rfl ?_
      refine jj_il2 dMd_beginAll_114 ?_
      refine jj_dup2 dMd_beginAll_115 rfl rfl ?_
      refine mr_iald dMd_beginAll_116 (s129 _) (by omega) (by decide) ?_
      rw [h129]
      refine jj_iconst 1 dMd_beginAll_117 (by decide) ?_
      refine jj_iadd dMd_beginAll_118 ?_
      rw [nI_1]
      refine mr_iast dMd_beginAll_119 (s129) (by omega) (by decide) ?_
      refine jj_al0 dMd_beginAll_120 ?_
      refine mr_get _ dMd_beginAll_121 clMd lkMd_80 (s103 _) rfl ?_
      refine jj_il4 dMd_beginAll_124 ?_
      refine mr_zald dMd_beginAll_126 (s127 _) (e2) (by decide) ?_
      rw [mup_ne _ _ (by omega), hE q e2]
      refine jj_if_ne 156 dMd_beginAll_127 (by decide) (fun q2 => ?_) (fun q2 => ?_)
      · refine jj_goto 177 dMd_beginAll_156 (by decide) ?_
        refine jj_goto 67 dMd_beginAll_177 (by decide) ?_
        have hin : q ∉ x.1 := b2it q2
        rw [if_neg hin] at hq
        refine ih p (t + 1) dp x _ _ _ (by omega) (by omega) hf hd hp hpx hx6 hx2 (hS.hd (Hd.up M _ (by omega))) (fun z hz => by rw [mup_ne _ _ (by omega)]; exact hE z hz) (by rw [mup_ne _ _ (by omega)]; exact h128) (mup_at _ _ _ _) hxd hpB hpx2 (fun M2 c3' c4' a1 a2 a3 a4 => hq M2 c3' c4' a1 a2 (fun i hi => ?_) (Fb.trans ((Fb.refl M).up _ (by omega)) a4))
        obtain ⟨b1, b2⟩ := a3 i hi
        rw [mup_ne _ _ (by omega)] at b1 b2
        exact ⟨b1, b2⟩
      · refine jj_al0 dMd_beginAll_130 ?_
        refine mr_get _ dMd_beginAll_131 clMd lkMd_80 (s103 _) rfl ?_
        refine jj_il4 dMd_beginAll_134 ?_
        refine jj_iconst 1 dMd_beginAll_136 (by decide) ?_
        refine mr_zast dMd_beginAll_137 (s127) (Or.inr rfl) (e2) (by decide) ?_
        refine jj_ii2 (nI (dp + 1)) dMd_beginAll_138 (inc1 dp) ?_
        refine jj_al0 dMd_beginAll_141 ?_
        refine mr_get _ dMd_beginAll_142 clMd lkMd_83 (s103 _) rfl ?_
        refine jj_il2 dMd_beginAll_145 ?_
        refine jj_il4 dMd_beginAll_146 ?_
        refine mr_iast dMd_beginAll_148 (s128) (by omega) (by decide) ?_
        refine jj_al0 dMd_beginAll_149 ?_
        refine mr_get _ dMd_beginAll_150 clMd lkMd_86 (s103 _) rfl ?_
        refine jj_il2 dMd_beginAll_153 ?_
        refine jj_iconst 0 dMd_beginAll_154 (by decide) ?_
        rw [show (0 : Int32) = nI 0 from rfl]
        refine mr_iast dMd_beginAll_155 (s129) (by omega) (by decide) ?_
        refine jj_goto 177 dMd_beginAll_156 (by decide) ?_
        refine jj_goto 67 dMd_beginAll_177 (by decide) ?_
        have hin : q ∈ x.1 := Classical.not_not.mp (b2id q2)
        rw [if_pos hin] at hq
        have hlt := filt_lt hin
        obtain ⟨f', rfl⟩ : ∃ f', f = f' + 1 := ⟨f - 1, by omega⟩
        obtain ⟨d1, d2, d3, d4⟩ := dfF_sub (Zn σ) (f' + 1) q x hin
        have d5 := dfF_len (Zn σ) (f' + 1) q x hin
        refine IH f' (by omega) ((Zn σ q).length + 1) q 0 (dp + 1) (x.1.filter (fun z => decide (z ≠ q)), x.2) _ _ _ (by omega) (by omega) (by show (x.1.filter (fun z => decide (z ≠ q))).length ≤ f'; omega) (by show (x.1.filter (fun z => decide (z ≠ q))).length + x.2.length + (dp + 1) ≤ 5; omega) e2 (fun h => by have := (List.mem_filter.mp h).2; simp at this) ⟨hx6.1.filter _, fun z hz => hx6.2 z (List.mem_filter.mp hz).1⟩ hx2 (hS.hd ((((Hd.up M _ (by omega)).trans (Hd.up _ _ (by omega))).trans (Hd.up _ _ (by omega))).trans (Hd.up _ _ (by omega)))) (fun z hz => ?_) (by rw [mup_ne _ _ (by omega), mup_at]) (mup_at _ _ _ _) (fun z hz => hxd z (List.mem_filter.mp hz).1) (hxd q hin).1 (hxd q hin).2 (fun M2 c3' c4' a1 a2 a3 a4 => ?_)
        · rw [mup_ne _ _ (by omega), mup_ne _ _ (by omega)]
          by_cases hzq : z = q
          · subst hzq
            have hzn : z ∉ x.1.filter (fun y => decide (y ≠ z)) := fun h => by have := (List.mem_filter.mp h).2; simp at this
            rw [mup_at]
            show (1 : Int32) = b2i (decide (z ∉ x.1.filter (fun y => decide (y ≠ z))))
            rw [show decide (z ∉ x.1.filter (fun y => decide (y ≠ z))) = true from decide_eq_true hzn]; rfl
          · rw [mup_ne _ _ (by omega), mup_ne _ _ (by omega), hE z hz]
            congr 1
            simp [List.mem_filter, hzq]
        rw [List.drop_zero] at a1 a2
        rw [nI_pred1 (by omega : ¬ dp + 1 = 0), Nat.add_sub_cancel]
        obtain ⟨a5, a6⟩ := a3 dp (by omega)
        refine ih p (t + 1) dp (dfF (Zn σ) (f' + 1) q x) M2 _ _ (by omega) (by omega) (by omega) (by omega) hp (fun h => hpx (d1 p h)) ⟨d3 hx6.1, fun z hz => hx6.2 z (d1 z hz)⟩ (fun z hz => (d4 z hz).elim (hx2 z) (fun h => hx6.2 z h.1)) a1 a2 (by rw [a5, mup_ne _ _ (by omega), mup_ne _ _ (by omega), mup_ne _ _ (by omega), mup_ne _ _ (by omega)]; exact h128) (by rw [a6, mup_ne _ _ (by omega), mup_ne _ _ (by omega), mup_ne _ _ (by omega), mup_at]) (fun z hz => ⟨(hxd z (d1 z hz)).1, fun h => (d4 z h).elim (hxd z (d1 z hz)).2 (fun g => g.2 hz)⟩) hpB (fun h => (d4 p h).elim hpx2 (fun g => hpx g.1)) (fun M3 c3'' c4'' b1 b2 b3 b4 => hq M3 c3'' c4'' b1 b2 (fun i hi => ?_) (Fb.trans (Fb.trans ((((Fb.refl M).up _ (by omega)).up _ (by omega)).up _ (by omega) |>.up _ (by omega)) a4) b4))
        obtain ⟨e5, e6⟩ := b3 i hi
        obtain ⟨e7, e8⟩ := a3 i (by omega)
        rw [mup_ne _ _ (by omega), mup_ne _ _ (by omega), mup_ne _ _ (by omega), mup_ne _ _ (by omega)] at e7 e8
        exact ⟨e5.trans e7, e6.trans e8⟩
