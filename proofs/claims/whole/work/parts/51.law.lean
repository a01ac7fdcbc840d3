section LW
variable {ω : jw} {d : Nat} {x : jm} {pc : Nat} {ls : List (Option Value)} {st : List Value} {h : jh} {Q : jr → jh → Prop}
theorem jj_tableIn {dflt lo hi : Int} {offs : Array Int} {len : Nat} {v : Int32} {off : Int} (tgt : Nat) (hd : decode x.2.1 pc = .ok (.tableswitch dflt lo hi offs, len)) (h1 : ¬ v.toInt < lo) (h2 : ¬ hi < v.toInt) (ho : offs[(v.toInt - lo).toNat]? = some off) (ht : (pc : Int) + off = (tgt : Int)) (k : jj ω d x tgt ls st h Q) : jj ω d x pc ls (.int v :: st) h Q := by
  intro p e R s m args below meth c C H locs cells slots lsm hH hL hc hs hls hlen
  exact lv_tableIn C.1 C.2.1 hd h1 h2 ho ht (k p e R s m args below meth c C H locs cells slots lsm hH hL hc hs hls hlen)
theorem sl_ld {i : Nat} (hd : decode x.2.1 pc = .ok (.iaload, 1)) (hi : i < jL ω) (hL : jL ω < 2 ^ 31) (k : jj ω d x (pc + 1) ls (.int (jx ω i) :: st) h Q) : jj ω d x pc ls (.int (nI i) :: .ref (jb ω) :: st) h Q :=
  jj_sld hd (vp_in_nI hi hL) (by rw [nI_clamp (by omega)]; exact k)
theorem jj_flag {v : Int32} {t1 t2 : Nat} (hd1 : decode x.2.1 pc = .ok (.ifCond .eq 7, 3)) (hd2 : decode x.2.1 (pc + 3) = .ok (.iconst 1, 1)) (hd3 : decode x.2.1 (pc + 3 + 1) = .ok (.goto 4, 3)) (hd4 : decode x.2.1 t1 = .ok (.iconst 0, 1)) (h1 : (pc : Int) + 7 = (t1 : Int)) (h2 : ((pc + 3 + 1 : Nat) : Int) + 4 = (t2 : Int)) (h3 : t1 + 1 = t2) (k : jj ω d x t2 ls (.int (b2i (decide (¬ v = 0))) :: st) h Q) : jj ω d x pc ls (.int v :: st) h Q := by
  refine jj_if_eq t1 hd1 h1 (fun q => ?_) (fun q => ?_)
  · refine jj_iconst 0 hd4 (by decide) ?_
    rw [h3]
    rw [show decide (¬ v = 0) = false from decide_eq_false (fun g => g q)] at k
    exact k
  · refine jj_iconst 1 hd2 (by decide) ?_
    refine jj_goto t2 hd3 h2 ?_
    rw [show decide (¬ v = 0) = true from decide_eq_true q] at k
    exact k
theorem ms6 {idx : Nat} {y : jm} {v1 v2 v3 v4 v5 v6 : Value} (hd : decode x.2.1 pc = .ok (.invokestatic idx, 3)) (cv : jCS x.1.cls idx y 6) (hst : st.length ≤ 10) (kk : jwp ω d y [v1, v2, v3, v4, v5, v6] h (jk ω (d + 1) x pc ls st Q)) : jj ω (d + 1) x pc ls (v6 :: v5 :: v4 :: v3 :: v2 :: v1 :: st) h Q :=
  jj_S (av := [v1, v2, v3, v4, v5, v6]) hd cv hst kk
theorem ms7 {idx : Nat} {y : jm} {v1 v2 v3 v4 v5 v6 v7 : Value} (hd : decode x.2.1 pc = .ok (.invokestatic idx, 3)) (cv : jCS x.1.cls idx y 7) (hst : st.length ≤ 10) (kk : jwp ω d y [v1, v2, v3, v4, v5, v6, v7] h (jk ω (d + 1) x pc ls st Q)) : jj ω (d + 1) x pc ls (v7 :: v6 :: v5 :: v4 :: v3 :: v2 :: v1 :: st) h Q :=
  jj_S (av := [v1, v2, v3, v4, v5, v6, v7]) hd cv hst kk
end LW
theorem cmp_self (a : Int64) : lg_cmp a a = 0 := by
  unfold lg_cmp
  rw [if_neg (fun h => Int64.lt_irrefl h), if_pos rfl]
theorem MS.hi {M M' : Nat → Nat → Int32} {σ : Sg} (h : MS M σ) (hE : ∀ k i, 103 ≤ k → k ≠ 132 → M' k i = M k i) : MS M' σ := by
  refine h.hd ⟨fun k i a b => hE k i (by omega) (by omega), hE _ _ (by omega) (by omega), hE _ _ (by omega) (by omega), hE _ _ (by omega) (by omega)⟩
theorem Lo.cs {M M' : Nat → Nat → Int32} {σ : Sg} (h : Lo M M') (hC : CS M σ) : CS M' σ := CS_hi hC (fun k i a => h k i (Or.inl a))
/-- what holds at the loop's head, after k calls -/
def LI (M : Nat → Nat → Int32) (σ : Sg) (k J sl : Nat) : Prop := Wf σ ∧ CS M σ ∧ MS M σ ∧ (Ev σ).length ≤ 6 * k ∧ (∀ p, p < 6 → Zo σ p ≤ k) ∧ J ≤ k ∧ sl ≤ 500000 + 6 * k
theorem xk_le (r : jr) : xk r ≤ 1 := by cases r <;> simp [xk]
theorem LI.step {M M' : Nat → Nat → Int32} {σ σ' : Sg} {k J sl t : Nat} (h : LI M σ k J sl) (hg : Gd σ σ') (hC : CS M' σ') (hS : MS M' σ') (ht : t ≤ 1) : LI M' σ' (k + 1) (J + t) (sl + 6 * t) := by
  obtain ⟨h1, h2, h3, h4, h5, h6, h7⟩ := h
  obtain ⟨g1, g2, g3⟩ := hg
  exact ⟨g1, hC, hS, by omega, fun p hp => by have := h5 p hp; have := g3 p hp; omega, by omega, by omega⟩
set_option maxRecDepth 100000 in
set_option maxHeartbeats 4000000 in
theorem lc_image {ω : jw} {d : Nat} {J sl : Nat} {Q : jr → jh → Prop} {M : Nat → Nat → Int32} {σ : Sg} {k : Nat} (hI : LI M σ k J sl) (hk9 : k < 900) (hi : 6 * k + 6 ≤ jL ω) (hL : jL ω < 2 ^ 31) (c5 c6 : Option Value) (hk : ∀ M' σ' J' sl' c5' c6', LI M' σ' (k + 1) J' sl' → jj ω (d + 15) mLw_law 1002 [some (.ref (jb ω)), some (.ref (jN ω + 0)), some (.ref (jN ω + 103)), some (.ref (jN ω + 132)), some (.int (nI (6 * k))), c5', c6'] [] (jst ω M' J' sl') Q) : jj ω (d + 15) mLw_law 120 [some (.ref (jb ω)), some (.ref (jN ω + 0)), some (.ref (jN ω + 103)), some (.ref (jN ω + 132)), some (.int (nI (6 * k))), c5, c6] [] (jst ω M J sl) Q := by
  obtain ⟨hWf, hC, hS, hEv, hZo, hJ1, hsl1⟩ := hI
  have hWm := hWf.1.1
  have hJ : J < 1000 := by omega
  have hsl : sl < 1000000 := by omega
  have hEv2 : (Ev σ).length + 6 < 2 ^ 30 := by omega
  have hEv3 : (Ev σ).length < 2 ^ 30 := by omega
  have hZo2 : ∀ p, p < 6 → Zo σ p < 2 ^ 30 := fun p hp => by have := hZo p hp; omega
  have hy6 : ∀ p, p < 6 → (Zy σ p).length ≤ 6 := fun p hp => (hS.1 p hp).2.1
  have hr6 : ∀ p, p < 6 → (Zr σ p).length ≤ 6 := fun p hp => (hS.1 p hp).2.2.1
  refine jj_al1 dLw_law_120 ?_
  refine jj_al0 dLw_law_121 ?_
  refine jj_il4 dLw_law_122 ?_
  refine jj_iconst 1 dLw_law_124 (by decide) ?_
  refine jj_iadd dLw_law_125 ?_
  rw [show nI (6 * k) + (1 : Int32) = nI (6 * k + 1) from nI_add (6 * k) 1]
  refine sl_ld dLw_law_126 (by omega) hL ?_
  refine jj_al0 dLw_law_127 ?_
  refine jj_il4 dLw_law_128 ?_
  refine jj_iconst 2 dLw_law_130 (by decide) ?_
  refine jj_iadd dLw_law_131 ?_
  rw [show nI (6 * k) + (2 : Int32) = nI (6 * k + 2) from nI_add (6 * k) 2]
  refine sl_ld dLw_law_132 (by omega) hL ?_
  refine ms3 dLw_law_133 csLw_57 (Nat.le_of_ble_eq_true rfl) ?_
  refine jwp_le (w_image (d := 0) hC hWm hJ hsl (jx ω (6 * k + 1)) (jx ω (6 * k + 2)) (fun M1 hC1 hH1 h132 => jk_i ?_)) (by omega)
  have hS1 : MS M1 σ := hS.hi hH1
  refine jj_is5 dLw_law_136 ?_
  refine jj_al2 dLw_law_138 ?_
  refine jj_al0 dLw_law_139 ?_
  refine jj_il4 dLw_law_140 ?_
  refine jj_iconst 1 dLw_law_142 (by decide) ?_
  refine jj_iadd dLw_law_143 ?_
  rw [show nI (6 * k) + (1 : Int32) = nI (6 * k + 1) from nI_add (6 * k) 1]
  refine sl_ld dLw_law_144 (by omega) hL ?_
  refine jj_al0 dLw_law_145 ?_
  refine jj_il4 dLw_law_146 ?_
  refine jj_iconst 2 dLw_law_148 (by decide) ?_
  refine jj_iadd dLw_law_149 ?_
  rw [show nI (6 * k) + (2 : Int32) = nI (6 * k + 2) from nI_add (6 * k) 2]
  refine sl_ld dLw_law_150 (by omega) hL ?_
  refine mv2 dLw_law_151 clMd cvLw_62 (s103 _) (Nat.le_of_ble_eq_true rfl) ?_
  refine jwp_le (m_image (d := 0) hS1 hWm (jx ω (6 * k + 1)) (jx ω (6 * k + 2)) (fun M2 hS2 hL2 hT2 => jk_v ?_)) (by omega)
  have hLI : LI M2 (spImage σ (jx ω (6 * k + 1)) (jx ω (6 * k + 2))).2 (k + 1) (J + xk (spImage σ (jx ω (6 * k + 1)) (jx ω (6 * k + 2))).1) (sl + 6 * xk (spImage σ (jx ω (6 * k + 1)) (jx ω (6 * k + 2))).1) := LI.step ⟨hWf, hC, hS, hEv, hZo, hJ1, hsl1⟩ (gd_image hWf (jx ω (6 * k + 1)) (jx ω (6 * k + 2))) (hL2.cs hC1) hS2 (xk_le _)
  refine jj_al2 dLw_law_154 ?_
  refine mv0 dLw_law_155 clMd cvLw_63 (s103 _) (Nat.le_of_ble_eq_true rfl) ?_
  refine jwp_le (c_thrown (d := 0) (jk_i ?_)) (by omega)
  rw [hT2]
  refine jj_il5 dLw_law_158 ?_
  refine jj_icmp_eq 165 dLw_law_160 (by decide) (fun _ => ?_) (fun h => absurd rfl h)
  refine jj_goto 1002 dLw_law_165 (by decide) ?_
  exact hk _ _ _ _ _ _ hLI
set_option maxRecDepth 100000 in
set_option maxHeartbeats 4000000 in
theorem lc_need {ω : jw} {d : Nat} {J sl : Nat} {Q : jr → jh → Prop} {M : Nat → Nat → Int32} {σ : Sg} {k : Nat} (hI : LI M σ k J sl) (hk9 : k < 900) (hi : 6 * k + 6 ≤ jL ω) (hL : jL ω < 2 ^ 31) (c5 c6 : Option Value) (hk : ∀ M' σ' J' sl' c5' c6', LI M' σ' (k + 1) J' sl' → jj ω (d + 15) mLw_law 1002 [some (.ref (jb ω)), some (.ref (jN ω + 0)), some (.ref (jN ω + 103)), some (.ref (jN ω + 132)), some (.int (nI (6 * k))), c5', c6'] [] (jst ω M' J' sl') Q) : jj ω (d + 15) mLw_law 168 [some (.ref (jb ω)), some (.ref (jN ω + 0)), some (.ref (jN ω + 103)), some (.ref (jN ω + 132)), some (.int (nI (6 * k))), c5, c6] [] (jst ω M J sl) Q := by
  obtain ⟨hWf, hC, hS, hEv, hZo, hJ1, hsl1⟩ := hI
  have hWm := hWf.1.1
  have hJ : J < 1000 := by omega
  have hsl : sl < 1000000 := by omega
  have hEv2 : (Ev σ).length + 6 < 2 ^ 30 := by omega
  have hEv3 : (Ev σ).length < 2 ^ 30 := by omega
  have hZo2 : ∀ p, p < 6 → Zo σ p < 2 ^ 30 := fun p hp => by have := hZo p hp; omega
  have hy6 : ∀ p, p < 6 → (Zy σ p).length ≤ 6 := fun p hp => (hS.1 p hp).2.1
  have hr6 : ∀ p, p < 6 → (Zr σ p).length ≤ 6 := fun p hp => (hS.1 p hp).2.2.1
  refine jj_al1 dLw_law_168 ?_
  refine jj_al0 dLw_law_169 ?_
  refine jj_il4 dLw_law_170 ?_
  refine jj_iconst 1 dLw_law_172 (by decide) ?_
  refine jj_iadd dLw_law_173 ?_
  rw [show nI (6 * k) + (1 : Int32) = nI (6 * k + 1) from nI_add (6 * k) 1]
  refine sl_ld dLw_law_174 (by omega) hL ?_
  refine jj_al0 dLw_law_175 ?_
  refine jj_il4 dLw_law_176 ?_
  refine jj_iconst 2 dLw_law_178 (by decide) ?_
  refine jj_iadd dLw_law_179 ?_
  rw [show nI (6 * k) + (2 : Int32) = nI (6 * k + 2) from nI_add (6 * k) 2]
  refine sl_ld dLw_law_180 (by omega) hL ?_
  refine jj_al3 dLw_law_181 ?_
  refine ms4 dLw_law_182 csLw_67 (Nat.le_of_ble_eq_true rfl) ?_
  refine jwp_le (w_need (d := 0) hC hWm hJ hsl (jx ω (6 * k + 1)) (jx ω (6 * k + 2)) (fun M1 hC1 hH1 h132 => jk_i ?_)) (by omega)
  have hS1 : MS M1 σ := hS.hi hH1
  refine jj_is5 dLw_law_185 ?_
  refine jj_al2 dLw_law_187 ?_
  refine jj_al0 dLw_law_188 ?_
  refine jj_il4 dLw_law_189 ?_
  refine jj_iconst 1 dLw_law_191 (by decide) ?_
  refine jj_iadd dLw_law_192 ?_
  rw [show nI (6 * k) + (1 : Int32) = nI (6 * k + 1) from nI_add (6 * k) 1]
  refine sl_ld dLw_law_193 (by omega) hL ?_
  refine jj_al0 dLw_law_194 ?_
  refine jj_il4 dLw_law_195 ?_
  refine jj_iconst 2 dLw_law_197 (by decide) ?_
  refine jj_iadd dLw_law_198 ?_
  rw [show nI (6 * k) + (2 : Int32) = nI (6 * k + 2) from nI_add (6 * k) 2]
  refine sl_ld dLw_law_199 (by omega) hL ?_
  refine mv2 dLw_law_200 clMd cvLw_70 (s103 _) (Nat.le_of_ble_eq_true rfl) ?_
  refine jwp_le (m_need (d := 0) hS1 hWm hWf.2.2.1 (jx ω (6 * k + 1)) (jx ω (6 * k + 2)) (fun M2 v2 hS2 hL2 hT2 hv2 => jk_i ?_)) (by omega)
  have hLI : LI M2 (spNeed σ (jx ω (6 * k + 1)) (jx ω (6 * k + 2))).2 (k + 1) (J + xk (spNeed σ (jx ω (6 * k + 1)) (jx ω (6 * k + 2))).1) (sl + 6 * xk (spNeed σ (jx ω (6 * k + 1)) (jx ω (6 * k + 2))).1) := LI.step ⟨hWf, hC, hS, hEv, hZo, hJ1, hsl1⟩ (gd_need hWf (jx ω (6 * k + 1)) (jx ω (6 * k + 2))) (hL2.cs hC1) hS2 (xk_le _)
  refine jj_is6 dLw_law_203 ?_
  refine jj_al2 dLw_law_205 ?_
  refine mv0 dLw_law_206 clMd cvLw_63 (s103 _) (Nat.le_of_ble_eq_true rfl) ?_
  refine jwp_le (c_thrown (d := 0) (jk_i ?_)) (by omega)
  rw [hT2]
  refine jj_il5 dLw_law_209 ?_
  refine jj_icmp_eq 216 dLw_law_211 (by decide) (fun _ => ?_) (fun h => absurd rfl h)
  refine jj_il5 dLw_law_216 ?_
  refine jj_if_ne 233 dLw_law_218 (by decide) (fun _ => ?_) (fun h0 => ?_)
  · refine jj_goto 1002 dLw_law_233 (by decide) ?_
    exact hk _ _ _ _ _ _ hLI
  · have hval : M2 132 0 = v2 := by
      rw [hL2 132 0 (Or.inr rfl)]
      rcases sh_need σ (jx ω (6 * k + 1)) (jx ω (6 * k + 2)) with ⟨v9, e⟩ | e | e | e
      · rw [h132 v9 e, hv2 v9 e]
      · exfalso; rw [e] at h0; exact absurd h0 (by decide)
      · exfalso; rw [e] at h0; exact absurd h0 (by decide)
      · exfalso; rw [e] at h0; exact absurd h0 (by decide)
    refine jj_al3 dLw_law_221 ?_
    refine jj_iconst 0 dLw_law_222 (by decide) ?_
    refine mr_lald dLw_law_223 ?_
    refine jj_il6 dLw_law_224 ?_
    refine jj_i2l dLw_law_226 ?_
    refine jj_lcmp dLw_law_227 ?_
    rw [hval, cmp_self]
    refine jj_if_eq 233 dLw_law_228 (by decide) (fun _ => ?_) (fun h => absurd rfl h)
    refine jj_goto 1002 dLw_law_233 (by decide) ?_
    exact hk _ _ _ _ _ _ hLI
set_option maxRecDepth 100000 in
set_option maxHeartbeats 4000000 in
theorem lc_symbol {ω : jw} {d : Nat} {J sl : Nat} {Q : jr → jh → Prop} {M : Nat → Nat → Int32} {σ : Sg} {k : Nat} (hI : LI M σ k J sl) (hk9 : k < 900) (hi : 6 * k + 6 ≤ jL ω) (hL : jL ω < 2 ^ 31) (c5 c6 : Option Value) (hk : ∀ M' σ' J' sl' c5' c6', LI M' σ' (k + 1) J' sl' → jj ω (d + 15) mLw_law 1002 [some (.ref (jb ω)), some (.ref (jN ω + 0)), some (.ref (jN ω + 103)), some (.ref (jN ω + 132)), some (.int (nI (6 * k))), c5', c6'] [] (jst ω M' J' sl') Q) : jj ω (d + 15) mLw_law 236 [some (.ref (jb ω)), some (.ref (jN ω + 0)), some (.ref (jN ω + 103)), some (.ref (jN ω + 132)), some (.int (nI (6 * k))), c5, c6] [] (jst ω M J sl) Q := by
  obtain ⟨hWf, hC, hS, hEv, hZo, hJ1, hsl1⟩ := hI
  have hWm := hWf.1.1
  have hJ : J < 1000 := by omega
  have hsl : sl < 1000000 := by omega
  have hEv2 : (Ev σ).length + 6 < 2 ^ 30 := by omega
  have hEv3 : (Ev σ).length < 2 ^ 30 := by omega
  have hZo2 : ∀ p, p < 6 → Zo σ p < 2 ^ 30 := fun p hp => by have := hZo p hp; omega
  have hy6 : ∀ p, p < 6 → (Zy σ p).length ≤ 6 := fun p hp => (hS.1 p hp).2.1
  have hr6 : ∀ p, p < 6 → (Zr σ p).length ≤ 6 := fun p hp => (hS.1 p hp).2.2.1
  refine jj_al1 dLw_law_236 ?_
  refine jj_al0 dLw_law_237 ?_
  refine jj_il4 dLw_law_238 ?_
  refine jj_iconst 1 dLw_law_240 (by decide) ?_
  refine jj_iadd dLw_law_241 ?_
  rw [show nI (6 * k) + (1 : Int32) = nI (6 * k + 1) from nI_add (6 * k) 1]
  refine sl_ld dLw_law_242 (by omega) hL ?_
  refine jj_al0 dLw_law_243 ?_
  refine jj_il4 dLw_law_244 ?_
  refine jj_iconst 2 dLw_law_246 (by decide) ?_
  refine jj_iadd dLw_law_247 ?_
  rw [show nI (6 * k) + (2 : Int32) = nI (6 * k + 2) from nI_add (6 * k) 2]
  refine sl_ld dLw_law_248 (by omega) hL ?_
  refine jj_al0 dLw_law_249 ?_
  refine jj_il4 dLw_law_250 ?_
  refine jj_iconst 3 dLw_law_252 (by decide) ?_
  refine jj_iadd dLw_law_253 ?_
  rw [show nI (6 * k) + (3 : Int32) = nI (6 * k + 3) from nI_add (6 * k) 3]
  refine sl_ld dLw_law_254 (by omega) hL ?_
  refine jj_al0 dLw_law_255 ?_
  refine jj_il4 dLw_law_256 ?_
  refine jj_iconst 4 dLw_law_258 (by decide) ?_
  refine jj_iadd dLw_law_259 ?_
  rw [show nI (6 * k) + (4 : Int32) = nI (6 * k + 4) from nI_add (6 * k) 4]
  refine sl_ld dLw_law_260 (by omega) hL ?_
  refine jj_flag (t1 := 268) (t2 := 269) dLw_law_261 dLw_law_264 dLw_law_265 dLw_law_268 (by decide) (by decide) rfl ?_
  refine jj_al3 dLw_law_269 ?_
  refine ms6 dLw_law_270 csLw_71 (Nat.le_of_ble_eq_true rfl) ?_
  refine jwp_le (w_symbol (d := 0) hC hWm hJ hsl (jx ω (6 * k + 1)) (jx ω (6 * k + 2)) (jx ω (6 * k + 3)) (decide (¬ jx ω (6 * k + 4) = 0)) (fun M1 hC1 hH1 h132 => jk_i ?_)) (by omega)
  have hS1 : MS M1 σ := hS.hi hH1
  refine jj_is5 dLw_law_273 ?_
  refine jj_al2 dLw_law_275 ?_
  refine jj_al0 dLw_law_276 ?_
  refine jj_il4 dLw_law_277 ?_
  refine jj_iconst 1 dLw_law_279 (by decide) ?_
  refine jj_iadd dLw_law_280 ?_
  rw [show nI (6 * k) + (1 : Int32) = nI (6 * k + 1) from nI_add (6 * k) 1]
  refine sl_ld dLw_law_281 (by omega) hL ?_
  refine jj_al0 dLw_law_282 ?_
  refine jj_il4 dLw_law_283 ?_
  refine jj_iconst 2 dLw_law_285 (by decide) ?_
  refine jj_iadd dLw_law_286 ?_
  rw [show nI (6 * k) + (2 : Int32) = nI (6 * k + 2) from nI_add (6 * k) 2]
  refine sl_ld dLw_law_287 (by omega) hL ?_
  refine jj_al0 dLw_law_288 ?_
  refine jj_il4 dLw_law_289 ?_
  refine jj_iconst 3 dLw_law_291 (by decide) ?_
  refine jj_iadd dLw_law_292 ?_
  rw [show nI (6 * k) + (3 : Int32) = nI (6 * k + 3) from nI_add (6 * k) 3]
  refine sl_ld dLw_law_293 (by omega) hL ?_
  refine jj_al0 dLw_law_294 ?_
  refine jj_il4 dLw_law_295 ?_
  refine jj_iconst 4 dLw_law_297 (by decide) ?_
  refine jj_iadd dLw_law_298 ?_
  rw [show nI (6 * k) + (4 : Int32) = nI (6 * k + 4) from nI_add (6 * k) 4]
  refine sl_ld dLw_law_299 (by omega) hL ?_
  refine jj_flag (t1 := 307) (t2 := 308) dLw_law_300 dLw_law_303 dLw_law_304 dLw_law_307 (by decide) (by decide) rfl ?_
  refine mv4 dLw_law_308 clMd cvLw_74 (s103 _) (Nat.le_of_ble_eq_true rfl) ?_
  refine jwp_le (m_symbol (d := 0) hS1 hWm (jx ω (6 * k + 1)) (jx ω (6 * k + 2)) (jx ω (6 * k + 3)) (decide (¬ jx ω (6 * k + 4) = 0)) (fun M2 v2 hS2 hL2 hT2 hv2 => jk_i ?_)) (by omega)
  have hLI : LI M2 (spSymbol σ (jx ω (6 * k + 1)) (jx ω (6 * k + 2)) (jx ω (6 * k + 3)) (decide (¬ jx ω (6 * k + 4) = 0))).2 (k + 1) (J + xk (spSymbol σ (jx ω (6 * k + 1)) (jx ω (6 * k + 2)) (jx ω (6 * k + 3)) (decide (¬ jx ω (6 * k + 4) = 0))).1) (sl + 6 * xk (spSymbol σ (jx ω (6 * k + 1)) (jx ω (6 * k + 2)) (jx ω (6 * k + 3)) (decide (¬ jx ω (6 * k + 4) = 0))).1) := LI.step ⟨hWf, hC, hS, hEv, hZo, hJ1, hsl1⟩ (gd_symbol hWf (jx ω (6 * k + 1)) (jx ω (6 * k + 2)) (jx ω (6 * k + 3)) (decide (¬ jx ω (6 * k + 4) = 0))) (hL2.cs hC1) hS2 (xk_le _)
  refine jj_is6 dLw_law_311 ?_
  refine jj_al2 dLw_law_313 ?_
  refine mv0 dLw_law_314 clMd cvLw_63 (s103 _) (Nat.le_of_ble_eq_true rfl) ?_
  refine jwp_le (c_thrown (d := 0) (jk_i ?_)) (by omega)
  rw [hT2]
  refine jj_il5 dLw_law_317 ?_
  refine jj_icmp_eq 324 dLw_law_319 (by decide) (fun _ => ?_) (fun h => absurd rfl h)
  refine jj_il5 dLw_law_324 ?_
  refine jj_if_ne 341 dLw_law_326 (by decide) (fun _ => ?_) (fun h0 => ?_)
  · refine jj_goto 1002 dLw_law_341 (by decide) ?_
    exact hk _ _ _ _ _ _ hLI
  · have hval : M2 132 0 = v2 := by
      rw [hL2 132 0 (Or.inr rfl)]
      rcases sh_symbol σ (jx ω (6 * k + 1)) (jx ω (6 * k + 2)) (jx ω (6 * k + 3)) (decide (¬ jx ω (6 * k + 4) = 0)) with ⟨v9, e⟩ | e | e | e
      · rw [h132 v9 e, hv2 v9 e]
      · exfalso; rw [e] at h0; exact absurd h0 (by decide)
      · exfalso; rw [e] at h0; exact absurd h0 (by decide)
      · exfalso; rw [e] at h0; exact absurd h0 (by decide)
    refine jj_al3 dLw_law_329 ?_
    refine jj_iconst 0 dLw_law_330 (by decide) ?_
    refine mr_lald dLw_law_331 ?_
    refine jj_il6 dLw_law_332 ?_
    refine jj_i2l dLw_law_334 ?_
    refine jj_lcmp dLw_law_335 ?_
    rw [hval, cmp_self]
    refine jj_if_eq 341 dLw_law_336 (by decide) (fun _ => ?_) (fun h => absurd rfl h)
    refine jj_goto 1002 dLw_law_341 (by decide) ?_
    exact hk _ _ _ _ _ _ hLI
set_option maxRecDepth 100000 in
set_option maxHeartbeats 4000000 in
theorem lc_relocation {ω : jw} {d : Nat} {J sl : Nat} {Q : jr → jh → Prop} {M : Nat → Nat → Int32} {σ : Sg} {k : Nat} (hI : LI M σ k J sl) (hk9 : k < 900) (hi : 6 * k + 6 ≤ jL ω) (hL : jL ω < 2 ^ 31) (c5 c6 : Option Value) (hk : ∀ M' σ' J' sl' c5' c6', LI M' σ' (k + 1) J' sl' → jj ω (d + 15) mLw_law 1002 [some (.ref (jb ω)), some (.ref (jN ω + 0)), some (.ref (jN ω + 103)), some (.ref (jN ω + 132)), some (.int (nI (6 * k))), c5', c6'] [] (jst ω M' J' sl') Q) : jj ω (d + 15) mLw_law 344 [some (.ref (jb ω)), some (.ref (jN ω + 0)), some (.ref (jN ω + 103)), some (.ref (jN ω + 132)), some (.int (nI (6 * k))), c5, c6] [] (jst ω M J sl) Q := by
  obtain ⟨hWf, hC, hS, hEv, hZo, hJ1, hsl1⟩ := hI
  have hWm := hWf.1.1
  have hJ : J < 1000 := by omega
  have hsl : sl < 1000000 := by omega
  have hEv2 : (Ev σ).length + 6 < 2 ^ 30 := by omega
  have hEv3 : (Ev σ).length < 2 ^ 30 := by omega
  have hZo2 : ∀ p, p < 6 → Zo σ p < 2 ^ 30 := fun p hp => by have := hZo p hp; omega
  have hy6 : ∀ p, p < 6 → (Zy σ p).length ≤ 6 := fun p hp => (hS.1 p hp).2.1
  have hr6 : ∀ p, p < 6 → (Zr σ p).length ≤ 6 := fun p hp => (hS.1 p hp).2.2.1
  refine jj_al1 dLw_law_344 ?_
  refine jj_al0 dLw_law_345 ?_
  refine jj_il4 dLw_law_346 ?_
  refine jj_iconst 1 dLw_law_348 (by decide) ?_
  refine jj_iadd dLw_law_349 ?_
  rw [show nI (6 * k) + (1 : Int32) = nI (6 * k + 1) from nI_add (6 * k) 1]
  refine sl_ld dLw_law_350 (by omega) hL ?_
  refine jj_al0 dLw_law_351 ?_
  refine jj_il4 dLw_law_352 ?_
  refine jj_iconst 2 dLw_law_354 (by decide) ?_
  refine jj_iadd dLw_law_355 ?_
  rw [show nI (6 * k) + (2 : Int32) = nI (6 * k + 2) from nI_add (6 * k) 2]
  refine sl_ld dLw_law_356 (by omega) hL ?_
  refine jj_al0 dLw_law_357 ?_
  refine jj_il4 dLw_law_358 ?_
  refine jj_iconst 3 dLw_law_360 (by decide) ?_
  refine jj_iadd dLw_law_361 ?_
  rw [show nI (6 * k) + (3 : Int32) = nI (6 * k + 3) from nI_add (6 * k) 3]
  refine sl_ld dLw_law_362 (by omega) hL ?_
  refine jj_al0 dLw_law_363 ?_
  refine jj_il4 dLw_law_364 ?_
  refine jj_iconst 4 dLw_law_366 (by decide) ?_
  refine jj_iadd dLw_law_367 ?_
  rw [show nI (6 * k) + (4 : Int32) = nI (6 * k + 4) from nI_add (6 * k) 4]
  refine sl_ld dLw_law_368 (by omega) hL ?_
  refine jj_al0 dLw_law_369 ?_
  refine jj_il4 dLw_law_370 ?_
  refine jj_iconst 5 dLw_law_372 (by decide) ?_
  refine jj_iadd dLw_law_373 ?_
  rw [show nI (6 * k) + (5 : Int32) = nI (6 * k + 5) from nI_add (6 * k) 5]
  refine sl_ld dLw_law_374 (by omega) hL ?_
  refine jj_al3 dLw_law_375 ?_
  refine ms7 dLw_law_376 csLw_75 (Nat.le_of_ble_eq_true rfl) ?_
  refine jwp_le (w_relocation (d := 0) hC hWm hJ hsl (jx ω (6 * k + 1)) (jx ω (6 * k + 2)) (jx ω (6 * k + 3)) (jx ω (6 * k + 4)) (jx ω (6 * k + 5)) (fun M1 hC1 hH1 h132 => jk_i ?_)) (by omega)
  have hS1 : MS M1 σ := hS.hi hH1
  refine jj_is5 dLw_law_379 ?_
  refine jj_al2 dLw_law_381 ?_
  refine jj_al0 dLw_law_382 ?_
  refine jj_il4 dLw_law_383 ?_
  refine jj_iconst 1 dLw_law_385 (by decide) ?_
  refine jj_iadd dLw_law_386 ?_
  rw [show nI (6 * k) + (1 : Int32) = nI (6 * k + 1) from nI_add (6 * k) 1]
  refine sl_ld dLw_law_387 (by omega) hL ?_
  refine jj_al0 dLw_law_388 ?_
  refine jj_il4 dLw_law_389 ?_
  refine jj_iconst 2 dLw_law_391 (by decide) ?_
  refine jj_iadd dLw_law_392 ?_
  rw [show nI (6 * k) + (2 : Int32) = nI (6 * k + 2) from nI_add (6 * k) 2]
  refine sl_ld dLw_law_393 (by omega) hL ?_
  refine jj_al0 dLw_law_394 ?_
  refine jj_il4 dLw_law_395 ?_
  refine jj_iconst 3 dLw_law_397 (by decide) ?_
  refine jj_iadd dLw_law_398 ?_
  rw [show nI (6 * k) + (3 : Int32) = nI (6 * k + 3) from nI_add (6 * k) 3]
  refine sl_ld dLw_law_399 (by omega) hL ?_
  refine jj_al0 dLw_law_400 ?_
  refine jj_il4 dLw_law_401 ?_
  refine jj_iconst 4 dLw_law_403 (by decide) ?_
  refine jj_iadd dLw_law_404 ?_
  rw [show nI (6 * k) + (4 : Int32) = nI (6 * k + 4) from nI_add (6 * k) 4]
  refine sl_ld dLw_law_405 (by omega) hL ?_
  refine jj_al0 dLw_law_406 ?_
  refine jj_il4 dLw_law_407 ?_
  refine jj_iconst 5 dLw_law_409 (by decide) ?_
  refine jj_iadd dLw_law_410 ?_
  rw [show nI (6 * k) + (5 : Int32) = nI (6 * k + 5) from nI_add (6 * k) 5]
  refine sl_ld dLw_law_411 (by omega) hL ?_
  refine mv5 dLw_law_412 clMd cvLw_78 (s103 _) (Nat.le_of_ble_eq_true rfl) ?_
  refine jwp_le (m_relocation (d := 0) hS1 hWm (jx ω (6 * k + 1)) (jx ω (6 * k + 2)) (jx ω (6 * k + 3)) (jx ω (6 * k + 4)) (jx ω (6 * k + 5)) (fun M2 v2 hS2 hL2 hT2 hv2 => jk_i ?_)) (by omega)
  have hLI : LI M2 (spReloc σ (jx ω (6 * k + 1)) (jx ω (6 * k + 2)) (jx ω (6 * k + 3)) (jx ω (6 * k + 4)) (jx ω (6 * k + 5))).2 (k + 1) (J + xk (spReloc σ (jx ω (6 * k + 1)) (jx ω (6 * k + 2)) (jx ω (6 * k + 3)) (jx ω (6 * k + 4)) (jx ω (6 * k + 5))).1) (sl + 6 * xk (spReloc σ (jx ω (6 * k + 1)) (jx ω (6 * k + 2)) (jx ω (6 * k + 3)) (jx ω (6 * k + 4)) (jx ω (6 * k + 5))).1) := LI.step ⟨hWf, hC, hS, hEv, hZo, hJ1, hsl1⟩ (gd_reloc hWf hy6 (jx ω (6 * k + 1)) (jx ω (6 * k + 2)) (jx ω (6 * k + 3)) (jx ω (6 * k + 4)) (jx ω (6 * k + 5))) (hL2.cs hC1) hS2 (xk_le _)
  refine jj_is6 dLw_law_415 ?_
  refine jj_al2 dLw_law_417 ?_
  refine mv0 dLw_law_418 clMd cvLw_63 (s103 _) (Nat.le_of_ble_eq_true rfl) ?_
  refine jwp_le (c_thrown (d := 0) (jk_i ?_)) (by omega)
  rw [hT2]
  refine jj_il5 dLw_law_421 ?_
  refine jj_icmp_eq 428 dLw_law_423 (by decide) (fun _ => ?_) (fun h => absurd rfl h)
  refine jj_il5 dLw_law_428 ?_
  refine jj_if_ne 445 dLw_law_430 (by decide) (fun _ => ?_) (fun h0 => ?_)
  · refine jj_goto 1002 dLw_law_445 (by decide) ?_
    exact hk _ _ _ _ _ _ hLI
  · have hval : M2 132 0 = v2 := by
      rw [hL2 132 0 (Or.inr rfl)]
      rcases sh_relocation σ (jx ω (6 * k + 1)) (jx ω (6 * k + 2)) (jx ω (6 * k + 3)) (jx ω (6 * k + 4)) (jx ω (6 * k + 5)) with ⟨v9, e⟩ | e | e | e
      · rw [h132 v9 e, hv2 v9 e]
      · exfalso; rw [e] at h0; exact absurd h0 (by decide)
      · exfalso; rw [e] at h0; exact absurd h0 (by decide)
      · exfalso; rw [e] at h0; exact absurd h0 (by decide)
    refine jj_al3 dLw_law_433 ?_
    refine jj_iconst 0 dLw_law_434 (by decide) ?_
    refine mr_lald dLw_law_435 ?_
    refine jj_il6 dLw_law_436 ?_
    refine jj_i2l dLw_law_438 ?_
    refine jj_lcmp dLw_law_439 ?_
    rw [hval, cmp_self]
    refine jj_if_eq 445 dLw_law_440 (by decide) (fun _ => ?_) (fun h => absurd rfl h)
    refine jj_goto 1002 dLw_law_445 (by decide) ?_
    exact hk _ _ _ _ _ _ hLI
set_option maxRecDepth 100000 in
set_option maxHeartbeats 4000000 in
theorem lc_open {ω : jw} {d : Nat} {J sl : Nat} {Q : jr → jh → Prop} {M : Nat → Nat → Int32} {σ : Sg} {k : Nat} (hI : LI M σ k J sl) (hk9 : k < 900) (hi : 6 * k + 6 ≤ jL ω) (hL : jL ω < 2 ^ 31) (c5 c6 : Option Value) (hk : ∀ M' σ' J' sl' c5' c6', LI M' σ' (k + 1) J' sl' → jj ω (d + 15) mLw_law 1002 [some (.ref (jb ω)), some (.ref (jN ω + 0)), some (.ref (jN ω + 103)), some (.ref (jN ω + 132)), some (.int (nI (6 * k))), c5', c6'] [] (jst ω M' J' sl') Q) : jj ω (d + 15) mLw_law 448 [some (.ref (jb ω)), some (.ref (jN ω + 0)), some (.ref (jN ω + 103)), some (.ref (jN ω + 132)), some (.int (nI (6 * k))), c5, c6] [] (jst ω M J sl) Q := by
  obtain ⟨hWf, hC, hS, hEv, hZo, hJ1, hsl1⟩ := hI
  have hWm := hWf.1.1
  have hJ : J < 1000 := by omega
  have hsl : sl < 1000000 := by omega
  have hEv2 : (Ev σ).length + 6 < 2 ^ 30 := by omega
  have hEv3 : (Ev σ).length < 2 ^ 30 := by omega
  have hZo2 : ∀ p, p < 6 → Zo σ p < 2 ^ 30 := fun p hp => by have := hZo p hp; omega
  have hy6 : ∀ p, p < 6 → (Zy σ p).length ≤ 6 := fun p hp => (hS.1 p hp).2.1
  have hr6 : ∀ p, p < 6 → (Zr σ p).length ≤ 6 := fun p hp => (hS.1 p hp).2.2.1
  refine jj_al1 dLw_law_448 ?_
  refine jj_al0 dLw_law_449 ?_
  refine jj_il4 dLw_law_450 ?_
  refine jj_iconst 1 dLw_law_452 (by decide) ?_
  refine jj_iadd dLw_law_453 ?_
  rw [show nI (6 * k) + (1 : Int32) = nI (6 * k + 1) from nI_add (6 * k) 1]
  refine sl_ld dLw_law_454 (by omega) hL ?_
  refine jj_al0 dLw_law_455 ?_
  refine jj_il4 dLw_law_456 ?_
  refine jj_iconst 2 dLw_law_458 (by decide) ?_
  refine jj_iadd dLw_law_459 ?_
  rw [show nI (6 * k) + (2 : Int32) = nI (6 * k + 2) from nI_add (6 * k) 2]
  refine sl_ld dLw_law_460 (by omega) hL ?_
  refine jj_flag (t1 := 468) (t2 := 469) dLw_law_461 dLw_law_464 dLw_law_465 dLw_law_468 (by decide) (by decide) rfl ?_
  refine jj_al0 dLw_law_469 ?_
  refine jj_il4 dLw_law_470 ?_
  refine jj_iconst 3 dLw_law_472 (by decide) ?_
  refine jj_iadd dLw_law_473 ?_
  rw [show nI (6 * k) + (3 : Int32) = nI (6 * k + 3) from nI_add (6 * k) 3]
  refine sl_ld dLw_law_474 (by omega) hL ?_
  refine jj_flag (t1 := 482) (t2 := 483) dLw_law_475 dLw_law_478 dLw_law_479 dLw_law_482 (by decide) (by decide) rfl ?_
  refine jj_al3 dLw_law_483 ?_
  refine ms5 dLw_law_484 csLw_79 (Nat.le_of_ble_eq_true rfl) ?_
  refine jwp_le (w_open (d := 0) hC hWm hJ hsl hZo2 hEv2 (jx ω (6 * k + 1)) (decide (¬ jx ω (6 * k + 2) = 0)) (decide (¬ jx ω (6 * k + 3) = 0)) (fun M1 hC1 hH1 h132 => jk_i ?_)) (by omega)
  have hS1 : MS M1 σ := hS.hi hH1
  refine jj_is5 dLw_law_487 ?_
  refine jj_al2 dLw_law_489 ?_
  refine jj_al0 dLw_law_490 ?_
  refine jj_il4 dLw_law_491 ?_
  refine jj_iconst 1 dLw_law_493 (by decide) ?_
  refine jj_iadd dLw_law_494 ?_
  rw [show nI (6 * k) + (1 : Int32) = nI (6 * k + 1) from nI_add (6 * k) 1]
  refine sl_ld dLw_law_495 (by omega) hL ?_
  refine jj_al0 dLw_law_496 ?_
  refine jj_il4 dLw_law_497 ?_
  refine jj_iconst 2 dLw_law_499 (by decide) ?_
  refine jj_iadd dLw_law_500 ?_
  rw [show nI (6 * k) + (2 : Int32) = nI (6 * k + 2) from nI_add (6 * k) 2]
  refine sl_ld dLw_law_501 (by omega) hL ?_
  refine jj_flag (t1 := 509) (t2 := 510) dLw_law_502 dLw_law_505 dLw_law_506 dLw_law_509 (by decide) (by decide) rfl ?_
  refine jj_al0 dLw_law_510 ?_
  refine jj_il4 dLw_law_511 ?_
  refine jj_iconst 3 dLw_law_513 (by decide) ?_
  refine jj_iadd dLw_law_514 ?_
  rw [show nI (6 * k) + (3 : Int32) = nI (6 * k + 3) from nI_add (6 * k) 3]
  refine sl_ld dLw_law_515 (by omega) hL ?_
  refine jj_flag (t1 := 523) (t2 := 524) dLw_law_516 dLw_law_519 dLw_law_520 dLw_law_523 (by decide) (by decide) rfl ?_
  refine mv3 dLw_law_524 clMd cvLw_82 (s103 _) (Nat.le_of_ble_eq_true rfl) ?_
  refine jwp_le (m_open (d := 0) hS1 hWf.1 hWf.2.1 hWf.2.2.1 hZo2 hEv2 hWf.2.2.2.1 hWf.2.2.2.2.1 hWf.2.2.2.2.2.1 (jx ω (6 * k + 1)) (decide (¬ jx ω (6 * k + 2) = 0)) (decide (¬ jx ω (6 * k + 3) = 0)) (fun M2 v2 hS2 hL2 hT2 hv2 => jk_i ?_)) (by omega)
  have hLI : LI M2 (spOpen σ (jx ω (6 * k + 1)) (decide (¬ jx ω (6 * k + 2) = 0)) (decide (¬ jx ω (6 * k + 3) = 0))).2 (k + 1) (J + xk (spOpen σ (jx ω (6 * k + 1)) (decide (¬ jx ω (6 * k + 2) = 0)) (decide (¬ jx ω (6 * k + 3) = 0))).1) (sl + 6 * xk (spOpen σ (jx ω (6 * k + 1)) (decide (¬ jx ω (6 * k + 2) = 0)) (decide (¬ jx ω (6 * k + 3) = 0))).1) := LI.step ⟨hWf, hC, hS, hEv, hZo, hJ1, hsl1⟩ (gd_open hWf (jx ω (6 * k + 1)) (decide (¬ jx ω (6 * k + 2) = 0)) (decide (¬ jx ω (6 * k + 3) = 0))) (hL2.cs hC1) hS2 (xk_le _)
  refine jj_is6 dLw_law_527 ?_
  refine jj_al2 dLw_law_529 ?_
  refine mv0 dLw_law_530 clMd cvLw_63 (s103 _) (Nat.le_of_ble_eq_true rfl) ?_
  refine jwp_le (c_thrown (d := 0) (jk_i ?_)) (by omega)
  rw [hT2]
  refine jj_il5 dLw_law_533 ?_
  refine jj_icmp_eq 540 dLw_law_535 (by decide) (fun _ => ?_) (fun h => absurd rfl h)
  refine jj_il5 dLw_law_540 ?_
  refine jj_if_ne 557 dLw_law_542 (by decide) (fun _ => ?_) (fun h0 => ?_)
  · refine jj_goto 1002 dLw_law_557 (by decide) ?_
    exact hk _ _ _ _ _ _ hLI
  · have hval : M2 132 0 = v2 := by
      rw [hL2 132 0 (Or.inr rfl)]
      rcases sh_open σ (jx ω (6 * k + 1)) (decide (¬ jx ω (6 * k + 2) = 0)) (decide (¬ jx ω (6 * k + 3) = 0)) with ⟨v9, e⟩ | e | e | e
      · rw [h132 v9 e, hv2 v9 e]
      · exfalso; rw [e] at h0; exact absurd h0 (by decide)
      · exfalso; rw [e] at h0; exact absurd h0 (by decide)
      · exfalso; rw [e] at h0; exact absurd h0 (by decide)
    refine jj_al3 dLw_law_545 ?_
    refine jj_iconst 0 dLw_law_546 (by decide) ?_
    refine mr_lald dLw_law_547 ?_
    refine jj_il6 dLw_law_548 ?_
    refine jj_i2l dLw_law_550 ?_
    refine jj_lcmp dLw_law_551 ?_
    rw [hval, cmp_self]
    refine jj_if_eq 557 dLw_law_552 (by decide) (fun _ => ?_) (fun h => absurd rfl h)
    refine jj_goto 1002 dLw_law_557 (by decide) ?_
    exact hk _ _ _ _ _ _ hLI
set_option maxRecDepth 100000 in
set_option maxHeartbeats 4000000 in
theorem lc_close {ω : jw} {d : Nat} {J sl : Nat} {Q : jr → jh → Prop} {M : Nat → Nat → Int32} {σ : Sg} {k : Nat} (hI : LI M σ k J sl) (hk9 : k < 900) (hi : 6 * k + 6 ≤ jL ω) (hL : jL ω < 2 ^ 31) (c5 c6 : Option Value) (hk : ∀ M' σ' J' sl' c5' c6', LI M' σ' (k + 1) J' sl' → jj ω (d + 15) mLw_law 1002 [some (.ref (jb ω)), some (.ref (jN ω + 0)), some (.ref (jN ω + 103)), some (.ref (jN ω + 132)), some (.int (nI (6 * k))), c5', c6'] [] (jst ω M' J' sl') Q) : jj ω (d + 15) mLw_law 560 [some (.ref (jb ω)), some (.ref (jN ω + 0)), some (.ref (jN ω + 103)), some (.ref (jN ω + 132)), some (.int (nI (6 * k))), c5, c6] [] (jst ω M J sl) Q := by
  obtain ⟨hWf, hC, hS, hEv, hZo, hJ1, hsl1⟩ := hI
  have hWm := hWf.1.1
  have hJ : J < 1000 := by omega
  have hsl : sl < 1000000 := by omega
  have hEv2 : (Ev σ).length + 6 < 2 ^ 30 := by omega
  have hEv3 : (Ev σ).length < 2 ^ 30 := by omega
  have hZo2 : ∀ p, p < 6 → Zo σ p < 2 ^ 30 := fun p hp => by have := hZo p hp; omega
  have hy6 : ∀ p, p < 6 → (Zy σ p).length ≤ 6 := fun p hp => (hS.1 p hp).2.1
  have hr6 : ∀ p, p < 6 → (Zr σ p).length ≤ 6 := fun p hp => (hS.1 p hp).2.2.1
  refine jj_al1 dLw_law_560 ?_
  refine jj_al0 dLw_law_561 ?_
  refine jj_il4 dLw_law_562 ?_
  refine jj_iconst 1 dLw_law_564 (by decide) ?_
  refine jj_iadd dLw_law_565 ?_
  rw [show nI (6 * k) + (1 : Int32) = nI (6 * k + 1) from nI_add (6 * k) 1]
  refine sl_ld dLw_law_566 (by omega) hL ?_
  refine jj_al3 dLw_law_567 ?_
  refine ms3 dLw_law_568 csLw_83 (Nat.le_of_ble_eq_true rfl) ?_
  refine jwp_le (w_close (d := 0) hC hWm hJ hsl hZo2 hWf.2.2.2.1.1 (fun p hp => (hWf.2.2.2.2.1 p (hWf.2.2.2.1.2 p hp)).mp hp) hEv2 (jx ω (6 * k + 1)) (fun M1 hC1 hH1 h132 => jk_i ?_)) (by omega)
  have hS1 : MS M1 σ := hS.hi hH1
  refine jj_is5 dLw_law_571 ?_
  refine jj_al2 dLw_law_573 ?_
  refine jj_al0 dLw_law_574 ?_
  refine jj_il4 dLw_law_575 ?_
  refine jj_iconst 1 dLw_law_577 (by decide) ?_
  refine jj_iadd dLw_law_578 ?_
  rw [show nI (6 * k) + (1 : Int32) = nI (6 * k + 1) from nI_add (6 * k) 1]
  refine sl_ld dLw_law_579 (by omega) hL ?_
  refine mv1 dLw_law_580 clMd cvLw_86 (s103 _) (Nat.le_of_ble_eq_true rfl) ?_
  refine jwp_le (m_close (d := 0) hS1 hWm hWf.2.2.1 hZo2 hWf.2.2.2.1 hWf.2.2.2.2.1 hWf.1.2.2.2 hEv2 (fun n hn => zOp_kl hWf hn 5) (fun n hn => kp_closed (zOp σ n (Zo σ n - 1))) (jx ω (6 * k + 1)) (fun M2 v2 hS2 hL2 hT2 hv2 => jk_i ?_)) (by omega)
  have hLI : LI M2 (spClose σ (jx ω (6 * k + 1))).2 (k + 1) (J + xk (spClose σ (jx ω (6 * k + 1))).1) (sl + 6 * xk (spClose σ (jx ω (6 * k + 1))).1) := LI.step ⟨hWf, hC, hS, hEv, hZo, hJ1, hsl1⟩ (gd_close hWf (jx ω (6 * k + 1))) (hL2.cs hC1) hS2 (xk_le _)
  refine jj_is6 dLw_law_583 ?_
  refine jj_al2 dLw_law_585 ?_
  refine mv0 dLw_law_586 clMd cvLw_63 (s103 _) (Nat.le_of_ble_eq_true rfl) ?_
  refine jwp_le (c_thrown (d := 0) (jk_i ?_)) (by omega)
  rw [hT2]
  refine jj_il5 dLw_law_589 ?_
  refine jj_icmp_eq 596 dLw_law_591 (by decide) (fun _ => ?_) (fun h => absurd rfl h)
  refine jj_il5 dLw_law_596 ?_
  refine jj_if_ne 613 dLw_law_598 (by decide) (fun _ => ?_) (fun h0 => ?_)
  · refine jj_goto 1002 dLw_law_613 (by decide) ?_
    exact hk _ _ _ _ _ _ hLI
  · have hval : M2 132 0 = v2 := by
      rw [hL2 132 0 (Or.inr rfl)]
      rcases sh_close σ (jx ω (6 * k + 1)) with ⟨v9, e⟩ | e | e
      · rw [h132 v9 e, hv2 v9 e]
      · exfalso; rw [e] at h0; exact absurd h0 (by decide)
      · exfalso; rw [e] at h0; exact absurd h0 (by decide)
    refine jj_al3 dLw_law_601 ?_
    refine jj_iconst 0 dLw_law_602 (by decide) ?_
    refine mr_lald dLw_law_603 ?_
    refine jj_il6 dLw_law_604 ?_
    refine jj_i2l dLw_law_606 ?_
    refine jj_lcmp dLw_law_607 ?_
    rw [hval, cmp_self]
    refine jj_if_eq 613 dLw_law_608 (by decide) (fun _ => ?_) (fun h => absurd rfl h)
    refine jj_goto 1002 dLw_law_613 (by decide) ?_
    exact hk _ _ _ _ _ _ hLI
set_option maxRecDepth 100000 in
set_option maxHeartbeats 4000000 in
theorem lc_call {ω : jw} {d : Nat} {J sl : Nat} {Q : jr → jh → Prop} {M : Nat → Nat → Int32} {σ : Sg} {k : Nat} (hI : LI M σ k J sl) (hk9 : k < 900) (hi : 6 * k + 6 ≤ jL ω) (hL : jL ω < 2 ^ 31) (c5 c6 : Option Value) (hk : ∀ M' σ' J' sl' c5' c6', LI M' σ' (k + 1) J' sl' → jj ω (d + 15) mLw_law 1002 [some (.ref (jb ω)), some (.ref (jN ω + 0)), some (.ref (jN ω + 103)), some (.ref (jN ω + 132)), some (.int (nI (6 * k))), c5', c6'] [] (jst ω M' J' sl') Q) : jj ω (d + 15) mLw_law 616 [some (.ref (jb ω)), some (.ref (jN ω + 0)), some (.ref (jN ω + 103)), some (.ref (jN ω + 132)), some (.int (nI (6 * k))), c5, c6] [] (jst ω M J sl) Q := by
  obtain ⟨hWf, hC, hS, hEv, hZo, hJ1, hsl1⟩ := hI
  have hWm := hWf.1.1
  have hJ : J < 1000 := by omega
  have hsl : sl < 1000000 := by omega
  have hEv2 : (Ev σ).length + 6 < 2 ^ 30 := by omega
  have hEv3 : (Ev σ).length < 2 ^ 30 := by omega
  have hZo2 : ∀ p, p < 6 → Zo σ p < 2 ^ 30 := fun p hp => by have := hZo p hp; omega
  have hy6 : ∀ p, p < 6 → (Zy σ p).length ≤ 6 := fun p hp => (hS.1 p hp).2.1
  have hr6 : ∀ p, p < 6 → (Zr σ p).length ≤ 6 := fun p hp => (hS.1 p hp).2.2.1
  refine jj_al1 dLw_law_616 ?_
  refine jj_al0 dLw_law_617 ?_
  refine jj_il4 dLw_law_618 ?_
  refine jj_iconst 1 dLw_law_620 (by decide) ?_
  refine jj_iadd dLw_law_621 ?_
  rw [show nI (6 * k) + (1 : Int32) = nI (6 * k + 1) from nI_add (6 * k) 1]
  refine sl_ld dLw_law_622 (by omega) hL ?_
  refine jj_al0 dLw_law_623 ?_
  refine jj_il4 dLw_law_624 ?_
  refine jj_iconst 2 dLw_law_626 (by decide) ?_
  refine jj_iadd dLw_law_627 ?_
  rw [show nI (6 * k) + (2 : Int32) = nI (6 * k + 2) from nI_add (6 * k) 2]
  refine sl_ld dLw_law_628 (by omega) hL ?_
  refine jj_al3 dLw_law_629 ?_
  refine ms4 dLw_law_630 csLw_87 (Nat.le_of_ble_eq_true rfl) ?_
  refine jwp_le (w_call (d := 0) hC hWm hJ hsl (jx ω (6 * k + 1)) (jx ω (6 * k + 2)) (fun M1 hC1 hH1 h132 => jk_i ?_)) (by omega)
  have hS1 : MS M1 σ := hS.hi hH1
  refine jj_is5 dLw_law_633 ?_
  refine jj_al2 dLw_law_635 ?_
  refine jj_al0 dLw_law_636 ?_
  refine jj_il4 dLw_law_637 ?_
  refine jj_iconst 1 dLw_law_639 (by decide) ?_
  refine jj_iadd dLw_law_640 ?_
  rw [show nI (6 * k) + (1 : Int32) = nI (6 * k + 1) from nI_add (6 * k) 1]
  refine sl_ld dLw_law_641 (by omega) hL ?_
  refine jj_al0 dLw_law_642 ?_
  refine jj_il4 dLw_law_643 ?_
  refine jj_iconst 2 dLw_law_645 (by decide) ?_
  refine jj_iadd dLw_law_646 ?_
  rw [show nI (6 * k) + (2 : Int32) = nI (6 * k + 2) from nI_add (6 * k) 2]
  refine sl_ld dLw_law_647 (by omega) hL ?_
  refine mv2 dLw_law_648 clMd cvLw_89 (s103 _) (Nat.le_of_ble_eq_true rfl) ?_
  refine jwp_le (m_call (d := 0) hS1 hWf.1 (jx ω (6 * k + 1)) (jx ω (6 * k + 2)) (fun M2 v2 hS2 hL2 hT2 hv2 => jk_i ?_)) (by omega)
  have hLI : LI M2 (spCall σ (jx ω (6 * k + 1)) (jx ω (6 * k + 2))).2 (k + 1) (J + xk (spCall σ (jx ω (6 * k + 1)) (jx ω (6 * k + 2))).1) (sl + 6 * xk (spCall σ (jx ω (6 * k + 1)) (jx ω (6 * k + 2))).1) := LI.step ⟨hWf, hC, hS, hEv, hZo, hJ1, hsl1⟩ (gd_call hWf hr6 (jx ω (6 * k + 1)) (jx ω (6 * k + 2))) (hL2.cs hC1) hS2 (xk_le _)
  refine jj_is6 dLw_law_651 ?_
  refine jj_al2 dLw_law_653 ?_
  refine mv0 dLw_law_654 clMd cvLw_63 (s103 _) (Nat.le_of_ble_eq_true rfl) ?_
  refine jwp_le (c_thrown (d := 0) (jk_i ?_)) (by omega)
  rw [hT2]
  refine jj_il5 dLw_law_657 ?_
  refine jj_icmp_eq 664 dLw_law_659 (by decide) (fun _ => ?_) (fun h => absurd rfl h)
  refine jj_il5 dLw_law_664 ?_
  refine jj_if_ne 681 dLw_law_666 (by decide) (fun _ => ?_) (fun h0 => ?_)
  · refine jj_goto 1002 dLw_law_681 (by decide) ?_
    exact hk _ _ _ _ _ _ hLI
  · have hval : M2 132 0 = v2 := by
      rw [hL2 132 0 (Or.inr rfl)]
      rcases sh_call σ (jx ω (6 * k + 1)) (jx ω (6 * k + 2)) with ⟨v9, e⟩ | e | e | e | e
      · rw [h132 v9 e, hv2 v9 e]
      · exfalso; rw [e] at h0; exact absurd h0 (by decide)
      · exfalso; rw [e] at h0; exact absurd h0 (by decide)
      · exfalso; rw [e] at h0; exact absurd h0 (by decide)
      · exfalso; rw [e] at h0; exact absurd h0 (by decide)
    refine jj_al3 dLw_law_669 ?_
    refine jj_iconst 0 dLw_law_670 (by decide) ?_
    refine mr_lald dLw_law_671 ?_
    refine jj_il6 dLw_law_672 ?_
    refine jj_i2l dLw_law_674 ?_
    refine jj_lcmp dLw_law_675 ?_
    rw [hval, cmp_self]
    refine jj_if_eq 681 dLw_law_676 (by decide) (fun _ => ?_) (fun h => absurd rfl h)
    refine jj_goto 1002 dLw_law_681 (by decide) ?_
    exact hk _ _ _ _ _ _ hLI
set_option maxRecDepth 100000 in
set_option maxHeartbeats 4000000 in
theorem lc_find {ω : jw} {d : Nat} {J sl : Nat} {Q : jr → jh → Prop} {M : Nat → Nat → Int32} {σ : Sg} {k : Nat} (hI : LI M σ k J sl) (hk9 : k < 900) (hi : 6 * k + 6 ≤ jL ω) (hL : jL ω < 2 ^ 31) (c5 c6 : Option Value) (hk : ∀ M' σ' J' sl' c5' c6', LI M' σ' (k + 1) J' sl' → jj ω (d + 15) mLw_law 1002 [some (.ref (jb ω)), some (.ref (jN ω + 0)), some (.ref (jN ω + 103)), some (.ref (jN ω + 132)), some (.int (nI (6 * k))), c5', c6'] [] (jst ω M' J' sl') Q) : jj ω (d + 15) mLw_law 684 [some (.ref (jb ω)), some (.ref (jN ω + 0)), some (.ref (jN ω + 103)), some (.ref (jN ω + 132)), some (.int (nI (6 * k))), c5, c6] [] (jst ω M J sl) Q := by
  obtain ⟨hWf, hC, hS, hEv, hZo, hJ1, hsl1⟩ := hI
  have hWm := hWf.1.1
  have hJ : J < 1000 := by omega
  have hsl : sl < 1000000 := by omega
  have hEv2 : (Ev σ).length + 6 < 2 ^ 30 := by omega
  have hEv3 : (Ev σ).length < 2 ^ 30 := by omega
  have hZo2 : ∀ p, p < 6 → Zo σ p < 2 ^ 30 := fun p hp => by have := hZo p hp; omega
  have hy6 : ∀ p, p < 6 → (Zy σ p).length ≤ 6 := fun p hp => (hS.1 p hp).2.1
  have hr6 : ∀ p, p < 6 → (Zr σ p).length ≤ 6 := fun p hp => (hS.1 p hp).2.2.1
  refine jj_al1 dLw_law_684 ?_
  refine jj_al0 dLw_law_685 ?_
  refine jj_il4 dLw_law_686 ?_
  refine jj_iconst 1 dLw_law_688 (by decide) ?_
  refine jj_iadd dLw_law_689 ?_
  rw [show nI (6 * k) + (1 : Int32) = nI (6 * k + 1) from nI_add (6 * k) 1]
  refine sl_ld dLw_law_690 (by omega) hL ?_
  refine jj_al0 dLw_law_691 ?_
  refine jj_il4 dLw_law_692 ?_
  refine jj_iconst 2 dLw_law_694 (by decide) ?_
  refine jj_iadd dLw_law_695 ?_
  rw [show nI (6 * k) + (2 : Int32) = nI (6 * k + 2) from nI_add (6 * k) 2]
  refine sl_ld dLw_law_696 (by omega) hL ?_
  refine jj_al3 dLw_law_697 ?_
  refine ms4 dLw_law_698 csLw_90 (Nat.le_of_ble_eq_true rfl) ?_
  refine jwp_le (w_find (d := 0) hC hWm hJ hsl (jx ω (6 * k + 1)) (jx ω (6 * k + 2)) (fun M1 hC1 hH1 h132 => jk_i ?_)) (by omega)
  have hS1 : MS M1 σ := hS.hi hH1
  refine jj_is5 dLw_law_701 ?_
  refine jj_al2 dLw_law_703 ?_
  refine jj_al0 dLw_law_704 ?_
  refine jj_il4 dLw_law_705 ?_
  refine jj_iconst 1 dLw_law_707 (by decide) ?_
  refine jj_iadd dLw_law_708 ?_
  rw [show nI (6 * k) + (1 : Int32) = nI (6 * k + 1) from nI_add (6 * k) 1]
  refine sl_ld dLw_law_709 (by omega) hL ?_
  refine jj_al0 dLw_law_710 ?_
  refine jj_il4 dLw_law_711 ?_
  refine jj_iconst 2 dLw_law_713 (by decide) ?_
  refine jj_iadd dLw_law_714 ?_
  rw [show nI (6 * k) + (2 : Int32) = nI (6 * k + 2) from nI_add (6 * k) 2]
  refine sl_ld dLw_law_715 (by omega) hL ?_
  refine mv2 dLw_law_716 clMd cvLw_92 (s103 _) (Nat.le_of_ble_eq_true rfl) ?_
  refine jwp_le (m_find (d := 0) hS1 hWf.1 hWf.2.2.1 (jx ω (6 * k + 1)) (jx ω (6 * k + 2)) (fun M2 v2 hS2 hL2 hT2 hv2 => jk_i ?_)) (by omega)
  have hLI : LI M2 (spFind σ (jx ω (6 * k + 1)) (jx ω (6 * k + 2))).2 (k + 1) (J + xk (spFind σ (jx ω (6 * k + 1)) (jx ω (6 * k + 2))).1) (sl + 6 * xk (spFind σ (jx ω (6 * k + 1)) (jx ω (6 * k + 2))).1) := LI.step ⟨hWf, hC, hS, hEv, hZo, hJ1, hsl1⟩ (gd_find hWf (jx ω (6 * k + 1)) (jx ω (6 * k + 2))) (hL2.cs hC1) hS2 (xk_le _)
  refine jj_is6 dLw_law_719 ?_
  refine jj_al2 dLw_law_721 ?_
  refine mv0 dLw_law_722 clMd cvLw_63 (s103 _) (Nat.le_of_ble_eq_true rfl) ?_
  refine jwp_le (c_thrown (d := 0) (jk_i ?_)) (by omega)
  rw [hT2]
  refine jj_il5 dLw_law_725 ?_
  refine jj_icmp_eq 732 dLw_law_727 (by decide) (fun _ => ?_) (fun h => absurd rfl h)
  refine jj_il5 dLw_law_732 ?_
  refine jj_if_ne 749 dLw_law_734 (by decide) (fun _ => ?_) (fun h0 => ?_)
  · refine jj_goto 1002 dLw_law_749 (by decide) ?_
    exact hk _ _ _ _ _ _ hLI
  · have hval : M2 132 0 = v2 := by
      rw [hL2 132 0 (Or.inr rfl)]
      rcases sh_find σ (jx ω (6 * k + 1)) (jx ω (6 * k + 2)) with ⟨v9, e⟩ | e | e | e | e
      · rw [h132 v9 e, hv2 v9 e]
      · exfalso; rw [e] at h0; exact absurd h0 (by decide)
      · exfalso; rw [e] at h0; exact absurd h0 (by decide)
      · exfalso; rw [e] at h0; exact absurd h0 (by decide)
      · exfalso; rw [e] at h0; exact absurd h0 (by decide)
    refine jj_al3 dLw_law_737 ?_
    refine jj_iconst 0 dLw_law_738 (by decide) ?_
    refine mr_lald dLw_law_739 ?_
    refine jj_il6 dLw_law_740 ?_
    refine jj_i2l dLw_law_742 ?_
    refine jj_lcmp dLw_law_743 ?_
    rw [hval, cmp_self]
    refine jj_if_eq 749 dLw_law_744 (by decide) (fun _ => ?_) (fun h => absurd rfl h)
    refine jj_goto 1002 dLw_law_749 (by decide) ?_
    exact hk _ _ _ _ _ _ hLI
set_option maxRecDepth 100000 in
set_option maxHeartbeats 4000000 in
theorem lc_word {ω : jw} {d : Nat} {J sl : Nat} {Q : jr → jh → Prop} {M : Nat → Nat → Int32} {σ : Sg} {k : Nat} (hI : LI M σ k J sl) (hk9 : k < 900) (hi : 6 * k + 6 ≤ jL ω) (hL : jL ω < 2 ^ 31) (c5 c6 : Option Value) (hk : ∀ M' σ' J' sl' c5' c6', LI M' σ' (k + 1) J' sl' → jj ω (d + 15) mLw_law 1002 [some (.ref (jb ω)), some (.ref (jN ω + 0)), some (.ref (jN ω + 103)), some (.ref (jN ω + 132)), some (.int (nI (6 * k))), c5', c6'] [] (jst ω M' J' sl') Q) : jj ω (d + 15) mLw_law 752 [some (.ref (jb ω)), some (.ref (jN ω + 0)), some (.ref (jN ω + 103)), some (.ref (jN ω + 132)), some (.int (nI (6 * k))), c5, c6] [] (jst ω M J sl) Q := by
  obtain ⟨hWf, hC, hS, hEv, hZo, hJ1, hsl1⟩ := hI
  have hWm := hWf.1.1
  have hJ : J < 1000 := by omega
  have hsl : sl < 1000000 := by omega
  have hEv2 : (Ev σ).length + 6 < 2 ^ 30 := by omega
  have hEv3 : (Ev σ).length < 2 ^ 30 := by omega
  have hZo2 : ∀ p, p < 6 → Zo σ p < 2 ^ 30 := fun p hp => by have := hZo p hp; omega
  have hy6 : ∀ p, p < 6 → (Zy σ p).length ≤ 6 := fun p hp => (hS.1 p hp).2.1
  have hr6 : ∀ p, p < 6 → (Zr σ p).length ≤ 6 := fun p hp => (hS.1 p hp).2.2.1
  refine jj_al1 dLw_law_752 ?_
  refine jj_al0 dLw_law_753 ?_
  refine jj_il4 dLw_law_754 ?_
  refine jj_iconst 1 dLw_law_756 (by decide) ?_
  refine jj_iadd dLw_law_757 ?_
  rw [show nI (6 * k) + (1 : Int32) = nI (6 * k + 1) from nI_add (6 * k) 1]
  refine sl_ld dLw_law_758 (by omega) hL ?_
  refine jj_al3 dLw_law_759 ?_
  refine ms3 dLw_law_760 csLw_93 (Nat.le_of_ble_eq_true rfl) ?_
  refine jwp_le (w_word (d := 0) hC hWm hJ hsl (jx ω (6 * k + 1)) (fun M1 hC1 hH1 h132 => jk_i ?_)) (by omega)
  have hS1 : MS M1 σ := hS.hi hH1
  refine jj_is5 dLw_law_763 ?_
  refine jj_al2 dLw_law_765 ?_
  refine jj_al0 dLw_law_766 ?_
  refine jj_il4 dLw_law_767 ?_
  refine jj_iconst 1 dLw_law_769 (by decide) ?_
  refine jj_iadd dLw_law_770 ?_
  rw [show nI (6 * k) + (1 : Int32) = nI (6 * k + 1) from nI_add (6 * k) 1]
  refine sl_ld dLw_law_771 (by omega) hL ?_
  refine mv1 dLw_law_772 clMd cvLw_95 (s103 _) (Nat.le_of_ble_eq_true rfl) ?_
  refine jwp_le (m_word (d := 0) hS1 hWm hWf.2.1 (jx ω (6 * k + 1)) (fun M2 v2 hS2 hL2 hT2 hv2 => jk_i ?_)) (by omega)
  have hLI : LI M2 (spWord σ (jx ω (6 * k + 1))).2 (k + 1) (J + xk (spWord σ (jx ω (6 * k + 1))).1) (sl + 6 * xk (spWord σ (jx ω (6 * k + 1))).1) := LI.step ⟨hWf, hC, hS, hEv, hZo, hJ1, hsl1⟩ (show Gd σ (spWord σ (jx ω (6 * k + 1))).2 by unfold spWord; split <;> exact Gd.refl hWf) (hL2.cs hC1) hS2 (xk_le _)
  refine jj_is6 dLw_law_775 ?_
  refine jj_al2 dLw_law_777 ?_
  refine mv0 dLw_law_778 clMd cvLw_63 (s103 _) (Nat.le_of_ble_eq_true rfl) ?_
  refine jwp_le (c_thrown (d := 0) (jk_i ?_)) (by omega)
  rw [hT2]
  refine jj_il5 dLw_law_781 ?_
  refine jj_icmp_eq 788 dLw_law_783 (by decide) (fun _ => ?_) (fun h => absurd rfl h)
  refine jj_il5 dLw_law_788 ?_
  refine jj_if_ne 805 dLw_law_790 (by decide) (fun _ => ?_) (fun h0 => ?_)
  · refine jj_goto 1002 dLw_law_805 (by decide) ?_
    exact hk _ _ _ _ _ _ hLI
  · have hval : M2 132 0 = v2 := by
      rw [hL2 132 0 (Or.inr rfl)]
      rcases sh_word σ (jx ω (6 * k + 1)) with ⟨v9, e⟩ | e
      · rw [h132 v9 e, hv2 v9 e]
      · exfalso; rw [e] at h0; exact absurd h0 (by decide)
    refine jj_al3 dLw_law_793 ?_
    refine jj_iconst 0 dLw_law_794 (by decide) ?_
    refine mr_lald dLw_law_795 ?_
    refine jj_il6 dLw_law_796 ?_
    refine jj_i2l dLw_law_798 ?_
    refine jj_lcmp dLw_law_799 ?_
    rw [hval, cmp_self]
    refine jj_if_eq 805 dLw_law_800 (by decide) (fun _ => ?_) (fun h => absurd rfl h)
    refine jj_goto 1002 dLw_law_805 (by decide) ?_
    exact hk _ _ _ _ _ _ hLI
set_option maxRecDepth 100000 in
set_option maxHeartbeats 4000000 in
theorem lc_event {ω : jw} {d : Nat} {J sl : Nat} {Q : jr → jh → Prop} {M : Nat → Nat → Int32} {σ : Sg} {k : Nat} (hI : LI M σ k J sl) (hk9 : k < 900) (hi : 6 * k + 6 ≤ jL ω) (hL : jL ω < 2 ^ 31) (c5 c6 : Option Value) (hk : ∀ M' σ' J' sl' c5' c6', LI M' σ' (k + 1) J' sl' → jj ω (d + 15) mLw_law 1002 [some (.ref (jb ω)), some (.ref (jN ω + 0)), some (.ref (jN ω + 103)), some (.ref (jN ω + 132)), some (.int (nI (6 * k))), c5', c6'] [] (jst ω M' J' sl') Q) : jj ω (d + 15) mLw_law 933 [some (.ref (jb ω)), some (.ref (jN ω + 0)), some (.ref (jN ω + 103)), some (.ref (jN ω + 132)), some (.int (nI (6 * k))), c5, c6] [] (jst ω M J sl) Q := by
  obtain ⟨hWf, hC, hS, hEv, hZo, hJ1, hsl1⟩ := hI
  have hWm := hWf.1.1
  have hJ : J < 1000 := by omega
  have hsl : sl < 1000000 := by omega
  have hEv2 : (Ev σ).length + 6 < 2 ^ 30 := by omega
  have hEv3 : (Ev σ).length < 2 ^ 30 := by omega
  have hZo2 : ∀ p, p < 6 → Zo σ p < 2 ^ 30 := fun p hp => by have := hZo p hp; omega
  have hy6 : ∀ p, p < 6 → (Zy σ p).length ≤ 6 := fun p hp => (hS.1 p hp).2.1
  have hr6 : ∀ p, p < 6 → (Zr σ p).length ≤ 6 := fun p hp => (hS.1 p hp).2.2.1
  refine jj_al1 dLw_law_933 ?_
  refine jj_al0 dLw_law_934 ?_
  refine jj_il4 dLw_law_935 ?_
  refine jj_iconst 1 dLw_law_937 (by decide) ?_
  refine jj_iadd dLw_law_938 ?_
  rw [show nI (6 * k) + (1 : Int32) = nI (6 * k + 1) from nI_add (6 * k) 1]
  refine sl_ld dLw_law_939 (by omega) hL ?_
  refine jj_al3 dLw_law_940 ?_
  refine ms3 dLw_law_941 csLw_117 (Nat.le_of_ble_eq_true rfl) ?_
  refine jwp_le (w_event (d := 0) hC hWm hJ hsl hEv3 (jx ω (6 * k + 1)) (fun M1 hC1 hH1 h132 => jk_i ?_)) (by omega)
  have hS1 : MS M1 σ := hS.hi hH1
  refine jj_is5 dLw_law_944 ?_
  refine jj_al2 dLw_law_946 ?_
  refine jj_al0 dLw_law_947 ?_
  refine jj_il4 dLw_law_948 ?_
  refine jj_iconst 1 dLw_law_950 (by decide) ?_
  refine jj_iadd dLw_law_951 ?_
  rw [show nI (6 * k) + (1 : Int32) = nI (6 * k + 1) from nI_add (6 * k) 1]
  refine sl_ld dLw_law_952 (by omega) hL ?_
  refine mv1 dLw_law_953 clMd cvLw_119 (s103 _) (Nat.le_of_ble_eq_true rfl) ?_
  refine jwp_le (m_event (d := 0) hS1 hWm hEv3 (jx ω (6 * k + 1)) (fun M2 v2 hS2 hL2 hT2 hv2 => jk_i ?_)) (by omega)
  have hLI : LI M2 (spEvent σ (jx ω (6 * k + 1))).2 (k + 1) (J + xk (spEvent σ (jx ω (6 * k + 1))).1) (sl + 6 * xk (spEvent σ (jx ω (6 * k + 1))).1) := LI.step ⟨hWf, hC, hS, hEv, hZo, hJ1, hsl1⟩ (show Gd σ (spEvent σ (jx ω (6 * k + 1))).2 by unfold spEvent; split <;> exact Gd.refl hWf) (hL2.cs hC1) hS2 (xk_le _)
  refine jj_is6 dLw_law_956 ?_
  refine jj_al2 dLw_law_958 ?_
  refine mv0 dLw_law_959 clMd cvLw_63 (s103 _) (Nat.le_of_ble_eq_true rfl) ?_
  refine jwp_le (c_thrown (d := 0) (jk_i ?_)) (by omega)
  rw [hT2]
  refine jj_il5 dLw_law_962 ?_
  refine jj_icmp_eq 969 dLw_law_964 (by decide) (fun _ => ?_) (fun h => absurd rfl h)
  refine jj_il5 dLw_law_969 ?_
  refine jj_if_ne 986 dLw_law_971 (by decide) (fun _ => ?_) (fun h0 => ?_)
  · refine jj_goto 1002 dLw_law_986 (by decide) ?_
    exact hk _ _ _ _ _ _ hLI
  · have hval : M2 132 0 = v2 := by
      rw [hL2 132 0 (Or.inr rfl)]
      rcases sh_event σ (jx ω (6 * k + 1)) with ⟨v9, e⟩ | e
      · rw [h132 v9 e, hv2 v9 e]
      · exfalso; rw [e] at h0; exact absurd h0 (by decide)
    refine jj_al3 dLw_law_974 ?_
    refine jj_iconst 0 dLw_law_975 (by decide) ?_
    refine mr_lald dLw_law_976 ?_
    refine jj_il6 dLw_law_977 ?_
    refine jj_i2l dLw_law_979 ?_
    refine jj_lcmp dLw_law_980 ?_
    rw [hval, cmp_self]
    refine jj_if_eq 986 dLw_law_981 (by decide) (fun _ => ?_) (fun h => absurd rfl h)
    refine jj_goto 1002 dLw_law_986 (by decide) ?_
    exact hk _ _ _ _ _ _ hLI
set_option maxRecDepth 100000 in
set_option maxHeartbeats 4000000 in
theorem lc_store {ω : jw} {d : Nat} {J sl : Nat} {Q : jr → jh → Prop} {M : Nat → Nat → Int32} {σ : Sg} {k : Nat} (hI : LI M σ k J sl) (hk9 : k < 900) (hi : 6 * k + 6 ≤ jL ω) (hL : jL ω < 2 ^ 31) (c5 c6 : Option Value) (hk : ∀ M' σ' J' sl' c5' c6', LI M' σ' (k + 1) J' sl' → jj ω (d + 15) mLw_law 1002 [some (.ref (jb ω)), some (.ref (jN ω + 0)), some (.ref (jN ω + 103)), some (.ref (jN ω + 132)), some (.int (nI (6 * k))), c5', c6'] [] (jst ω M' J' sl') Q) : jj ω (d + 15) mLw_law 808 [some (.ref (jb ω)), some (.ref (jN ω + 0)), some (.ref (jN ω + 103)), some (.ref (jN ω + 132)), some (.int (nI (6 * k))), c5, c6] [] (jst ω M J sl) Q := by
  obtain ⟨hWf, hC, hS, hEv, hZo, hJ1, hsl1⟩ := hI
  have hWm := hWf.1.1
  have hJ : J < 1000 := by omega
  have hsl : sl < 1000000 := by omega
  have hEv2 : (Ev σ).length + 6 < 2 ^ 30 := by omega
  have hEv3 : (Ev σ).length < 2 ^ 30 := by omega
  have hZo2 : ∀ p, p < 6 → Zo σ p < 2 ^ 30 := fun p hp => by have := hZo p hp; omega
  have hy6 : ∀ p, p < 6 → (Zy σ p).length ≤ 6 := fun p hp => (hS.1 p hp).2.1
  have hr6 : ∀ p, p < 6 → (Zr σ p).length ≤ 6 := fun p hp => (hS.1 p hp).2.2.1
  obtain ⟨v9, e9⟩ : ∃ v9, (spStore σ (jx ω (6 * k + 1)) (jx ω (6 * k + 2))).1 = rI v9 := by unfold spStore; first | exact ⟨_, rfl⟩ | (split <;> exact ⟨_, rfl⟩)
  refine jj_al1 dLw_law_808 ?_
  refine jj_al0 dLw_law_809 ?_
  refine jj_il4 dLw_law_810 ?_
  refine jj_iconst 1 dLw_law_812 (by decide) ?_
  refine jj_iadd dLw_law_813 ?_
  rw [show nI (6 * k) + (1 : Int32) = nI (6 * k + 1) from nI_add (6 * k) 1]
  refine sl_ld dLw_law_814 (by omega) hL ?_
  refine jj_al0 dLw_law_815 ?_
  refine jj_il4 dLw_law_816 ?_
  refine jj_iconst 2 dLw_law_818 (by decide) ?_
  refine jj_iadd dLw_law_819 ?_
  rw [show nI (6 * k) + (2 : Int32) = nI (6 * k + 2) from nI_add (6 * k) 2]
  refine sl_ld dLw_law_820 (by omega) hL ?_
  refine mv2 dLw_law_821 clBO cvLw_96 (s0 _) (Nat.le_of_ble_eq_true rfl) ?_
  refine jwp_le (k_store (d := 0) hC (jx ω (6 * k + 1)) (jx ω (6 * k + 2)) (fun M1 hC1 hH1 => ?_)) (by omega)
  have hS1 : MS M1 σ := hS.hi (fun k i a _ => hH1 k i a)
  rw [e9]
  refine jk_i ?_
  refine jj_al2 dLw_law_824 ?_
  refine jj_al0 dLw_law_825 ?_
  refine jj_il4 dLw_law_826 ?_
  refine jj_iconst 1 dLw_law_828 (by decide) ?_
  refine jj_iadd dLw_law_829 ?_
  rw [show nI (6 * k) + (1 : Int32) = nI (6 * k + 1) from nI_add (6 * k) 1]
  refine sl_ld dLw_law_830 (by omega) hL ?_
  refine jj_al0 dLw_law_831 ?_
  refine jj_il4 dLw_law_832 ?_
  refine jj_iconst 2 dLw_law_834 (by decide) ?_
  refine jj_iadd dLw_law_835 ?_
  rw [show nI (6 * k) + (2 : Int32) = nI (6 * k + 2) from nI_add (6 * k) 2]
  refine sl_ld dLw_law_836 (by omega) hL ?_
  refine mv2 dLw_law_837 clMd cvLw_100 (s103 _) (Nat.le_of_ble_eq_true rfl) ?_
  refine jwp_le (m_store (d := 0) hS1 hWm (jx ω (6 * k + 1)) (jx ω (6 * k + 2)) (fun M2 v2 hS2 hL2 hT2 hv2 => jk_i ?_)) (by omega)
  rw [hv2 v9 e9]
  have hLI : LI M2 (spStore σ (jx ω (6 * k + 1)) (jx ω (6 * k + 2))).2 (k + 1) (J + 0) (sl + 6 * 0) := LI.step ⟨hWf, hC, hS, hEv, hZo, hJ1, hsl1⟩ (gd_store hWf (jx ω (6 * k + 1)) (jx ω (6 * k + 2))) (hL2.cs hC1) hS2 (by omega)
  refine jj_icmp_eq 1002 dLw_law_840 (by decide) (fun _ => ?_) (fun h => absurd rfl h)
  exact hk _ _ _ _ _ _ hLI
set_option maxRecDepth 100000 in
set_option maxHeartbeats 4000000 in
theorem lc_base {ω : jw} {d : Nat} {J sl : Nat} {Q : jr → jh → Prop} {M : Nat → Nat → Int32} {σ : Sg} {k : Nat} (hI : LI M σ k J sl) (hk9 : k < 900) (hi : 6 * k + 6 ≤ jL ω) (hL : jL ω < 2 ^ 31) (c5 c6 : Option Value) (hk : ∀ M' σ' J' sl' c5' c6', LI M' σ' (k + 1) J' sl' → jj ω (d + 15) mLw_law 1002 [some (.ref (jb ω)), some (.ref (jN ω + 0)), some (.ref (jN ω + 103)), some (.ref (jN ω + 132)), some (.int (nI (6 * k))), c5', c6'] [] (jst ω M' J' sl') Q) : jj ω (d + 15) mLw_law 845 [some (.ref (jb ω)), some (.ref (jN ω + 0)), some (.ref (jN ω + 103)), some (.ref (jN ω + 132)), some (.int (nI (6 * k))), c5, c6] [] (jst ω M J sl) Q := by
  obtain ⟨hWf, hC, hS, hEv, hZo, hJ1, hsl1⟩ := hI
  have hWm := hWf.1.1
  have hJ : J < 1000 := by omega
  have hsl : sl < 1000000 := by omega
  have hEv2 : (Ev σ).length + 6 < 2 ^ 30 := by omega
  have hEv3 : (Ev σ).length < 2 ^ 30 := by omega
  have hZo2 : ∀ p, p < 6 → Zo σ p < 2 ^ 30 := fun p hp => by have := hZo p hp; omega
  have hy6 : ∀ p, p < 6 → (Zy σ p).length ≤ 6 := fun p hp => (hS.1 p hp).2.1
  have hr6 : ∀ p, p < 6 → (Zr σ p).length ≤ 6 := fun p hp => (hS.1 p hp).2.2.1
  obtain ⟨v9, e9⟩ : ∃ v9, (spBase σ (jx ω (6 * k + 1))).1 = rI v9 := by unfold spBase; first | exact ⟨_, rfl⟩ | (split <;> exact ⟨_, rfl⟩)
  refine jj_al1 dLw_law_845 ?_
  refine jj_al0 dLw_law_846 ?_
  refine jj_il4 dLw_law_847 ?_
  refine jj_iconst 1 dLw_law_849 (by decide) ?_
  refine jj_iadd dLw_law_850 ?_
  rw [show nI (6 * k) + (1 : Int32) = nI (6 * k + 1) from nI_add (6 * k) 1]
  refine sl_ld dLw_law_851 (by omega) hL ?_
  refine mv1 dLw_law_852 clBO cvLw_101 (s0 _) (Nat.le_of_ble_eq_true rfl) ?_
  refine jwp_le (k_base (d := 0) hC (jx ω (6 * k + 1)) (fun M1 hC1 hH1 => ?_)) (by omega)
  have hS1 : MS M1 σ := hS.hi (fun k i a _ => hH1 k i a)
  rw [e9]
  refine jk_i ?_
  refine jj_al2 dLw_law_855 ?_
  refine jj_al0 dLw_law_856 ?_
  refine jj_il4 dLw_law_857 ?_
  refine jj_iconst 1 dLw_law_859 (by decide) ?_
  refine jj_iadd dLw_law_860 ?_
  rw [show nI (6 * k) + (1 : Int32) = nI (6 * k + 1) from nI_add (6 * k) 1]
  refine sl_ld dLw_law_861 (by omega) hL ?_
  refine mv1 dLw_law_862 clMd cvLw_104 (s103 _) (Nat.le_of_ble_eq_true rfl) ?_
  refine jwp_le (m_base (d := 0) hS1 hWm (jx ω (6 * k + 1)) (fun M2 v2 hS2 hL2 hT2 hv2 => jk_i ?_)) (by omega)
  rw [hv2 v9 e9]
  have hLI : LI M2 (spBase σ (jx ω (6 * k + 1))).2 (k + 1) (J + 0) (sl + 6 * 0) := LI.step ⟨hWf, hC, hS, hEv, hZo, hJ1, hsl1⟩ (show Gd σ (spBase σ (jx ω (6 * k + 1))).2 by unfold spBase; split <;> exact Gd.refl hWf) (hL2.cs hC1) hS2 (by omega)
  refine jj_icmp_eq 1002 dLw_law_865 (by decide) (fun _ => ?_) (fun h => absurd rfl h)
  exact hk _ _ _ _ _ _ hLI
set_option maxRecDepth 100000 in
set_option maxHeartbeats 4000000 in
theorem lc_opened {ω : jw} {d : Nat} {J sl : Nat} {Q : jr → jh → Prop} {M : Nat → Nat → Int32} {σ : Sg} {k : Nat} (hI : LI M σ k J sl) (hk9 : k < 900) (hi : 6 * k + 6 ≤ jL ω) (hL : jL ω < 2 ^ 31) (c5 c6 : Option Value) (hk : ∀ M' σ' J' sl' c5' c6', LI M' σ' (k + 1) J' sl' → jj ω (d + 15) mLw_law 1002 [some (.ref (jb ω)), some (.ref (jN ω + 0)), some (.ref (jN ω + 103)), some (.ref (jN ω + 132)), some (.int (nI (6 * k))), c5', c6'] [] (jst ω M' J' sl') Q) : jj ω (d + 15) mLw_law 870 [some (.ref (jb ω)), some (.ref (jN ω + 0)), some (.ref (jN ω + 103)), some (.ref (jN ω + 132)), some (.int (nI (6 * k))), c5, c6] [] (jst ω M J sl) Q := by
  obtain ⟨hWf, hC, hS, hEv, hZo, hJ1, hsl1⟩ := hI
  have hWm := hWf.1.1
  have hJ : J < 1000 := by omega
  have hsl : sl < 1000000 := by omega
  have hEv2 : (Ev σ).length + 6 < 2 ^ 30 := by omega
  have hEv3 : (Ev σ).length < 2 ^ 30 := by omega
  have hZo2 : ∀ p, p < 6 → Zo σ p < 2 ^ 30 := fun p hp => by have := hZo p hp; omega
  have hy6 : ∀ p, p < 6 → (Zy σ p).length ≤ 6 := fun p hp => (hS.1 p hp).2.1
  have hr6 : ∀ p, p < 6 → (Zr σ p).length ≤ 6 := fun p hp => (hS.1 p hp).2.2.1
  obtain ⟨v9, e9⟩ : ∃ v9, (spOpened σ (jx ω (6 * k + 1))).1 = rI v9 := by unfold spOpened; first | exact ⟨_, rfl⟩ | (split <;> exact ⟨_, rfl⟩)
  refine jj_al1 dLw_law_870 ?_
  refine jj_al0 dLw_law_871 ?_
  refine jj_il4 dLw_law_872 ?_
  refine jj_iconst 1 dLw_law_874 (by decide) ?_
  refine jj_iadd dLw_law_875 ?_
  rw [show nI (6 * k) + (1 : Int32) = nI (6 * k + 1) from nI_add (6 * k) 1]
  refine sl_ld dLw_law_876 (by omega) hL ?_
  refine mv1 dLw_law_877 clBO cvLw_105 (s0 _) (Nat.le_of_ble_eq_true rfl) ?_
  refine jwp_le (k_opened (d := 0) hC (jx ω (6 * k + 1)) (fun M1 hC1 hH1 => ?_)) (by omega)
  have hS1 : MS M1 σ := hS.hi (fun k i a _ => hH1 k i a)
  rw [e9]
  refine jk_i ?_
  refine jj_al2 dLw_law_880 ?_
  refine jj_al0 dLw_law_881 ?_
  refine jj_il4 dLw_law_882 ?_
  refine jj_iconst 1 dLw_law_884 (by decide) ?_
  refine jj_iadd dLw_law_885 ?_
  rw [show nI (6 * k) + (1 : Int32) = nI (6 * k + 1) from nI_add (6 * k) 1]
  refine sl_ld dLw_law_886 (by omega) hL ?_
  refine mv1 dLw_law_887 clMd cvLw_108 (s103 _) (Nat.le_of_ble_eq_true rfl) ?_
  refine jwp_le (m_opened (d := 0) hS1 hWm (jx ω (6 * k + 1)) (fun M2 v2 hS2 hL2 hT2 hv2 => jk_i ?_)) (by omega)
  rw [hv2 v9 e9]
  have hLI : LI M2 (spOpened σ (jx ω (6 * k + 1))).2 (k + 1) (J + 0) (sl + 6 * 0) := LI.step ⟨hWf, hC, hS, hEv, hZo, hJ1, hsl1⟩ (show Gd σ (spOpened σ (jx ω (6 * k + 1))).2 by unfold spOpened; split <;> exact Gd.refl hWf) (hL2.cs hC1) hS2 (by omega)
  refine jj_icmp_eq 1002 dLw_law_890 (by decide) (fun _ => ?_) (fun h => absurd rfl h)
  exact hk _ _ _ _ _ _ hLI
set_option maxRecDepth 100000 in
set_option maxHeartbeats 4000000 in
theorem lc_global {ω : jw} {d : Nat} {J sl : Nat} {Q : jr → jh → Prop} {M : Nat → Nat → Int32} {σ : Sg} {k : Nat} (hI : LI M σ k J sl) (hk9 : k < 900) (hi : 6 * k + 6 ≤ jL ω) (hL : jL ω < 2 ^ 31) (c5 c6 : Option Value) (hk : ∀ M' σ' J' sl' c5' c6', LI M' σ' (k + 1) J' sl' → jj ω (d + 15) mLw_law 1002 [some (.ref (jb ω)), some (.ref (jN ω + 0)), some (.ref (jN ω + 103)), some (.ref (jN ω + 132)), some (.int (nI (6 * k))), c5', c6'] [] (jst ω M' J' sl') Q) : jj ω (d + 15) mLw_law 895 [some (.ref (jb ω)), some (.ref (jN ω + 0)), some (.ref (jN ω + 103)), some (.ref (jN ω + 132)), some (.int (nI (6 * k))), c5, c6] [] (jst ω M J sl) Q := by
  obtain ⟨hWf, hC, hS, hEv, hZo, hJ1, hsl1⟩ := hI
  have hWm := hWf.1.1
  have hJ : J < 1000 := by omega
  have hsl : sl < 1000000 := by omega
  have hEv2 : (Ev σ).length + 6 < 2 ^ 30 := by omega
  have hEv3 : (Ev σ).length < 2 ^ 30 := by omega
  have hZo2 : ∀ p, p < 6 → Zo σ p < 2 ^ 30 := fun p hp => by have := hZo p hp; omega
  have hy6 : ∀ p, p < 6 → (Zy σ p).length ≤ 6 := fun p hp => (hS.1 p hp).2.1
  have hr6 : ∀ p, p < 6 → (Zr σ p).length ≤ 6 := fun p hp => (hS.1 p hp).2.2.1
  obtain ⟨v9, e9⟩ : ∃ v9, (spGlobal σ (jx ω (6 * k + 1))).1 = rI v9 := by unfold spGlobal; first | exact ⟨_, rfl⟩ | (split <;> exact ⟨_, rfl⟩)
  refine jj_al1 dLw_law_895 ?_
  refine jj_al0 dLw_law_896 ?_
  refine jj_il4 dLw_law_897 ?_
  refine jj_iconst 1 dLw_law_899 (by decide) ?_
  refine jj_iadd dLw_law_900 ?_
  rw [show nI (6 * k) + (1 : Int32) = nI (6 * k + 1) from nI_add (6 * k) 1]
  refine sl_ld dLw_law_901 (by omega) hL ?_
  refine mv1 dLw_law_902 clBO cvLw_109 (s0 _) (Nat.le_of_ble_eq_true rfl) ?_
  refine jwp_le (k_global (d := 0) hC (jx ω (6 * k + 1)) (fun M1 hC1 hH1 => ?_)) (by omega)
  have hS1 : MS M1 σ := hS.hi (fun k i a _ => hH1 k i a)
  rw [e9]
  refine jk_i ?_
  refine jj_al2 dLw_law_905 ?_
  refine jj_al0 dLw_law_906 ?_
  refine jj_il4 dLw_law_907 ?_
  refine jj_iconst 1 dLw_law_909 (by decide) ?_
  refine jj_iadd dLw_law_910 ?_
  rw [show nI (6 * k) + (1 : Int32) = nI (6 * k + 1) from nI_add (6 * k) 1]
  refine sl_ld dLw_law_911 (by omega) hL ?_
  refine mv1 dLw_law_912 clMd cvLw_112 (s103 _) (Nat.le_of_ble_eq_true rfl) ?_
  refine jwp_le (m_global (d := 0) hS1 hWm (jx ω (6 * k + 1)) (fun M2 v2 hS2 hL2 hT2 hv2 => jk_i ?_)) (by omega)
  rw [hv2 v9 e9]
  have hLI : LI M2 (spGlobal σ (jx ω (6 * k + 1))).2 (k + 1) (J + 0) (sl + 6 * 0) := LI.step ⟨hWf, hC, hS, hEv, hZo, hJ1, hsl1⟩ (show Gd σ (spGlobal σ (jx ω (6 * k + 1))).2 by unfold spGlobal; split <;> exact Gd.refl hWf) (hL2.cs hC1) hS2 (by omega)
  refine jj_icmp_eq 1002 dLw_law_915 (by decide) (fun _ => ?_) (fun h => absurd rfl h)
  exact hk _ _ _ _ _ _ hLI
set_option maxRecDepth 100000 in
set_option maxHeartbeats 4000000 in
theorem lc_events {ω : jw} {d : Nat} {J sl : Nat} {Q : jr → jh → Prop} {M : Nat → Nat → Int32} {σ : Sg} {k : Nat} (hI : LI M σ k J sl) (hk9 : k < 900) (hi : 6 * k + 6 ≤ jL ω) (hL : jL ω < 2 ^ 31) (c5 c6 : Option Value) (hk : ∀ M' σ' J' sl' c5' c6', LI M' σ' (k + 1) J' sl' → jj ω (d + 15) mLw_law 1002 [some (.ref (jb ω)), some (.ref (jN ω + 0)), some (.ref (jN ω + 103)), some (.ref (jN ω + 132)), some (.int (nI (6 * k))), c5', c6'] [] (jst ω M' J' sl') Q) : jj ω (d + 15) mLw_law 920 [some (.ref (jb ω)), some (.ref (jN ω + 0)), some (.ref (jN ω + 103)), some (.ref (jN ω + 132)), some (.int (nI (6 * k))), c5, c6] [] (jst ω M J sl) Q := by
  obtain ⟨hWf, hC, hS, hEv, hZo, hJ1, hsl1⟩ := hI
  have hWm := hWf.1.1
  have hJ : J < 1000 := by omega
  have hsl : sl < 1000000 := by omega
  have hEv2 : (Ev σ).length + 6 < 2 ^ 30 := by omega
  have hEv3 : (Ev σ).length < 2 ^ 30 := by omega
  have hZo2 : ∀ p, p < 6 → Zo σ p < 2 ^ 30 := fun p hp => by have := hZo p hp; omega
  have hy6 : ∀ p, p < 6 → (Zy σ p).length ≤ 6 := fun p hp => (hS.1 p hp).2.1
  have hr6 : ∀ p, p < 6 → (Zr σ p).length ≤ 6 := fun p hp => (hS.1 p hp).2.2.1
  obtain ⟨v9, e9⟩ : ∃ v9, (spEvents σ).1 = rI v9 := by unfold spEvents; exact ⟨_, rfl⟩
  refine jj_al1 dLw_law_920 ?_
  refine mv0 dLw_law_921 clBO cvLw_113 (s0 _) (Nat.le_of_ble_eq_true rfl) ?_
  refine jwp_le (k_events (d := 0) hC  (fun M1 hC1 hH1 => ?_)) (by omega)
  have hS1 : MS M1 σ := hS.hi (fun k i a _ => hH1 k i a)
  rw [e9]
  refine jk_i ?_
  refine jj_al2 dLw_law_924 ?_
  refine mv0 dLw_law_925 clMd cvLw_116 (s103 _) (Nat.le_of_ble_eq_true rfl) ?_
  refine jwp_le (m_events (d := 0) hS1 hWm  (fun M2 v2 hS2 hL2 hT2 hv2 => jk_i ?_)) (by omega)
  rw [hv2 v9 e9]
  have hLI : LI M2 (spEvents σ).2 (k + 1) (J + 0) (sl + 6 * 0) := LI.step ⟨hWf, hC, hS, hEv, hZo, hJ1, hsl1⟩ (Gd.refl hWf) (hL2.cs hC1) hS2 (by omega)
  refine jj_icmp_eq 1002 dLw_law_928 (by decide) (fun _ => ?_) (fun h => absurd rfl h)
  exact hk _ _ _ _ _ _ hLI
set_option maxRecDepth 100000 in
set_option maxHeartbeats 4000000 in
theorem lc_steps {ω : jw} {d : Nat} {J sl : Nat} {Q : jr → jh → Prop} {M : Nat → Nat → Int32} {σ : Sg} {k : Nat} (hI : LI M σ k J sl) (hk9 : k < 900) (hi : 6 * k + 6 ≤ jL ω) (hL : jL ω < 2 ^ 31) (c5 c6 : Option Value) (hk : ∀ M' σ' J' sl' c5' c6', LI M' σ' (k + 1) J' sl' → jj ω (d + 15) mLw_law 1002 [some (.ref (jb ω)), some (.ref (jN ω + 0)), some (.ref (jN ω + 103)), some (.ref (jN ω + 132)), some (.int (nI (6 * k))), c5', c6'] [] (jst ω M' J' sl') Q) : jj ω (d + 15) mLw_law 989 [some (.ref (jb ω)), some (.ref (jN ω + 0)), some (.ref (jN ω + 103)), some (.ref (jN ω + 132)), some (.int (nI (6 * k))), c5, c6] [] (jst ω M J sl) Q := by
  obtain ⟨hWf, hC, hS, hEv, hZo, hJ1, hsl1⟩ := hI
  have hWm := hWf.1.1
  have hJ : J < 1000 := by omega
  have hsl : sl < 1000000 := by omega
  have hEv2 : (Ev σ).length + 6 < 2 ^ 30 := by omega
  have hEv3 : (Ev σ).length < 2 ^ 30 := by omega
  have hZo2 : ∀ p, p < 6 → Zo σ p < 2 ^ 30 := fun p hp => by have := hZo p hp; omega
  have hy6 : ∀ p, p < 6 → (Zy σ p).length ≤ 6 := fun p hp => (hS.1 p hp).2.1
  have hr6 : ∀ p, p < 6 → (Zr σ p).length ≤ 6 := fun p hp => (hS.1 p hp).2.2.1
  obtain ⟨v9, e9⟩ : ∃ v9, (spSteps σ).1 = rI v9 := by unfold spSteps; exact ⟨_, rfl⟩
  refine jj_al1 dLw_law_989 ?_
  refine mv0 dLw_law_990 clBO cvLw_120 (s0 _) (Nat.le_of_ble_eq_true rfl) ?_
  refine jwp_le (k_steps (d := 0) hC  (fun M1 hC1 hH1 => ?_)) (by omega)
  have hS1 : MS M1 σ := hS.hi (fun k i a _ => hH1 k i a)
  rw [e9]
  refine jk_i ?_
  refine jj_al2 dLw_law_993 ?_
  refine mv0 dLw_law_994 clMd cvLw_123 (s103 _) (Nat.le_of_ble_eq_true rfl) ?_
  refine jwp_le (m_steps (d := 0) hS1 hWm  (fun M2 v2 hS2 hL2 hT2 hv2 => jk_i ?_)) (by omega)
  rw [hv2 v9 e9]
  have hLI : LI M2 (spSteps σ).2 (k + 1) (J + 0) (sl + 6 * 0) := LI.step ⟨hWf, hC, hS, hEv, hZo, hJ1, hsl1⟩ (Gd.refl hWf) (hL2.cs hC1) hS2 (by omega)
  refine jj_icmp_eq 1002 dLw_law_997 (by decide) (fun _ => ?_) (fun h => absurd rfl h)
  exact hk _ _ _ _ _ _ hLI
