section MR2
variable {ω : jw} {d : Nat} {x : jm} {pc : Nat} {ls : List (Option Value)} {st : List Value} {Q : jr → jh → Prop} {M : Nat → Nat → Int32} {J sl : Nat}
theorem mr_last {v : Int32} (hd : decode x.2.1 pc = .ok (.lastore, 1)) (kk : jj ω d x (pc + 1) ls st (jst ω (mup M 132 0 v) J sl) Q) : jj ω d x pc ls (.long v.toInt64 :: .int 0 :: .ref (jN ω + 132) :: st) (jst ω M J sl) Q := by
  refine jj_last hd ((jst_at ω M J sl 132).trans (s132 _)) (by unfold vp_in; decide) ?_
  have he : mcell (jN ω) (jK ω) 132 (upd (M 132) 0 v) = some (.inl (jK ω 2, 1, .inr (.inl (vp_updL (fun i => if i = 0 then (M 132 0).toInt64 else 0) (0 : Int32).toNatClampNeg v.toInt64)))) := by
    rw [s132]
    congr 6
    funext j
    unfold vp_updL
    by_cases hj : j = 0
    · subst hj
      simp [upd]
    · have : ¬ j = (0 : Int32).toNatClampNeg := hj
      rw [if_neg hj, if_neg this]
      exact (if_neg hj).symm
  rw [jst_up ω M J sl 132 0 v he]
  exact kk
theorem mr_lald (hd : decode x.2.1 pc = .ok (.laload, 1)) (kk : jj ω d x (pc + 1) ls (.long (M 132 0).toInt64 :: st) (jst ω M J sl) Q) : jj ω d x pc ls (.int 0 :: .ref (jN ω + 132) :: st) (jst ω M J sl) Q :=
  jj_lald hd ((jst_at ω M J sl 132).trans (s132 _)) (by unfold vp_in; decide) kk
theorem jk_c {y : jm} {k tgt : Nat} {h' : jh} (hx : jHd y pc k tgt) (kk : ∀ a : Nat, jj ω d y tgt ls [.ref a] h' Q) : jk ω d y pc ls st Q (.inr k) h' := Or.inr ⟨tgt, hx, kk⟩
end MR2
/-- the class's side of a call by the law: the state, the out cell -/
def CQ (ω : jw) (J sl : Nat) (M : Nat → Nat → Int32) (Q : jr → jh → Prop) (tc : jr → Nat) (z : jr × Sg) : Prop := ∀ M', CS M' z.2 → (∀ k i, 103 ≤ k → k ≠ 132 → M' k i = M k i) → (∀ w, z.1 = rI w → M' 132 0 = w) → Q (rI (nI (tc z.1))) (jst ω M' (J + xk z.1) (sl + 6 * xk z.1))
theorem CS_hi {M M' : Nat → Nat → Int32} {σ : Sg} (h : CS M σ) (hE : ∀ k i, k < 103 → M' k i = M k i) : CS M' σ := by
  obtain ⟨c1, c2, c3, c4, c5, ⟨l0, c6⟩, c7⟩ := h
  exact ⟨fun q hq => (c1 q hq).eqs (fun k i a b => hE _ _ (by omega)) rfl rfl rfl rfl rfl rfl rfl rfl, c2.eqs (fun i => hE _ _ (by omega)) (fun i => hE _ _ (by omega)) rfl rfl rfl, c3.eqs (fun i => hE _ _ (by omega)) (fun i => hE _ _ (by omega)), c4.eqs (fun i => hE _ _ (by omega)) (fun i => hE _ _ (by omega)), c5.eqs (fun i => hE _ _ (by omega)) (fun i => hE _ _ (by omega)), ⟨l0, c6.eqs (fun i => hE _ _ (by omega)) (fun i => hE _ _ (by omega))⟩, by rw [hE _ _ (by omega)]; exact c7⟩
theorem sh_image (σ : Sg) (a w : Int32) : (spImage σ a w).1 = .inl none ∨ (spImage σ a w).1 = .inr 0 ∨ (spImage σ a w).1 = .inr 1 ∨ (spImage σ a w).1 = .inr 2 := by
  unfold spImage
  repeat' split
  all_goals first | exact Or.inl (rfl) | exact Or.inr (Or.inl (rfl)) | exact Or.inr (Or.inr (Or.inl (rfl))) | exact Or.inr (Or.inr (Or.inr (rfl)))
set_option maxRecDepth 100000 in
set_option maxHeartbeats 4000000 in
theorem w_image {ω : jw} {d : Nat} {M : Nat → Nat → Int32} {J sl : Nat} {Q : jr → jh → Prop} {σ : Sg} (hC : CS M σ) (hW : Wm σ) (hJ : J < 1000) (hsl : sl < 1000000) (a w : Int32) (hq : CQ ω J sl M Q tcA (spImage σ a w)) : jwp ω (d + 4) mLw_image [.ref (jN ω + 0), .int a, .int w] (jst ω M J sl) Q := by
  refine jwp_of (by simp [Value.category]) (Nat.le_of_ble_eq_true rfl) (ls := [some (.ref (jN ω + 0)), some (.int a), some (.int w), none]) rfl ?_
  refine jj_al0 dLw_image_0 ?_
  refine jj_il1 dLw_image_1 ?_
  refine jj_il2 dLw_image_2 ?_
  refine mv2 dLw_image_3 clBO cvLw_7 (s0 _) (Nat.le_of_ble_eq_true rfl) ?_
  refine k_image hC hW hJ hsl a w (fun M1 hC1 hCl1 => ?_)
  rcases sh_image σ a w with e | e | e | e
  · unfold CQ at hq; rw [e] at hq ⊢
    refine jk_v ?_
    refine jj_goto 18 dLw_image_6 (by decide) ?_
    refine jj_iconst 0 dLw_image_18 (by decide) ?_
    exact jj_iret dLw_image_19 rfl rfl (hq M1 hC1 (fun k i a b => hCl1 k i a) (fun w2 h2 => by cases h2))
  · unfold CQ at hq; rw [e] at hq ⊢
    refine jk_c hdLw_image_0 (fun ad => ?_)
    refine jj_as3 dLw_image_9 ?_
    refine jj_iconst 1 dLw_image_10 (by decide) ?_
    exact jj_iret dLw_image_11 rfl rfl (hq M1 hC1 (fun k i a b => hCl1 k i a) (fun w2 h2 => by cases h2))
  · unfold CQ at hq; rw [e] at hq ⊢
    refine jk_c hdLw_image_1 (fun ad => ?_)
    refine jj_as3 dLw_image_12 ?_
    refine jj_iconst 2 dLw_image_13 (by decide) ?_
    exact jj_iret dLw_image_14 rfl rfl (hq M1 hC1 (fun k i a b => hCl1 k i a) (fun w2 h2 => by cases h2))
  · unfold CQ at hq; rw [e] at hq ⊢
    refine jk_c hdLw_image_2 (fun ad => ?_)
    refine jj_as3 dLw_image_15 ?_
    refine jj_iconst 3 dLw_image_16 (by decide) ?_
    exact jj_iret dLw_image_17 rfl rfl (hq M1 hC1 (fun k i a b => hCl1 k i a) (fun w2 h2 => by cases h2))
theorem sh_need (σ : Sg) (a b : Int32) : (∃ v9, (spNeed σ a b).1 = rI v9) ∨ (spNeed σ a b).1 = .inr 0 ∨ (spNeed σ a b).1 = .inr 1 ∨ (spNeed σ a b).1 = .inr 2 := by
  unfold spNeed
  repeat' split
  all_goals first | exact Or.inl (⟨_, rfl⟩) | exact Or.inr (Or.inl (rfl)) | exact Or.inr (Or.inr (Or.inl (rfl))) | exact Or.inr (Or.inr (Or.inr (rfl)))
set_option maxRecDepth 100000 in
set_option maxHeartbeats 4000000 in
theorem w_need {ω : jw} {d : Nat} {M : Nat → Nat → Int32} {J sl : Nat} {Q : jr → jh → Prop} {σ : Sg} (hC : CS M σ) (hW : Wm σ) (hJ : J < 1000) (hsl : sl < 1000000) (a b : Int32) (hq : CQ ω J sl M Q tcA (spNeed σ a b)) : jwp ω (d + 4) mLw_need [.ref (jN ω + 0), .int a, .int b, .ref (jN ω + 132)] (jst ω M J sl) Q := by
  refine jwp_of (by simp [Value.category]) (Nat.le_of_ble_eq_true rfl) (ls := [some (.ref (jN ω + 0)), some (.int a), some (.int b), some (.ref (jN ω + 132)), none]) rfl ?_
  refine jj_al3 dLw_need_0 ?_
  refine jj_iconst 0 dLw_need_1 (by decide) ?_
  refine jj_al0 dLw_need_2 ?_
  refine jj_il1 dLw_need_3 ?_
  refine jj_il2 dLw_need_4 ?_
  refine mv2 dLw_need_5 clBO cvLw_19 (s0 _) (Nat.le_of_ble_eq_true rfl) ?_
  refine k_need hC hW hJ hsl a b (fun M1 hC1 hCl1 => ?_)
  rcases sh_need σ a b with ⟨v9, e⟩ | e | e | e
  · unfold CQ at hq; rw [e] at hq ⊢
    refine jk_i ?_
    refine jj_i2l dLw_need_8 ?_
    refine mr_last dLw_need_9 ?_
    refine jj_goto 25 dLw_need_10 (by decide) ?_
    refine jj_iconst 0 dLw_need_25 (by decide) ?_
    exact jj_iret dLw_need_26 rfl rfl (hq _ (CS_hi hC1 (fun k i h => mup_ne _ _ (by omega))) (fun k i a b => by rw [mup_ne _ _ (by omega)]; exact hCl1 k i a) (fun w2 h2 => by cases h2; exact mup_at _ _ _ _))
  · unfold CQ at hq; rw [e] at hq ⊢
    refine jk_c hdLw_need_0 (fun ad => ?_)
    refine jj_as4 dLw_need_13 ?_
    refine jj_iconst 1 dLw_need_15 (by decide) ?_
    exact jj_iret dLw_need_16 rfl rfl (hq M1 hC1 (fun k i a b => hCl1 k i a) (fun w2 h2 => by cases h2))
  · unfold CQ at hq; rw [e] at hq ⊢
    refine jk_c hdLw_need_1 (fun ad => ?_)
    refine jj_as4 dLw_need_17 ?_
    refine jj_iconst 2 dLw_need_19 (by decide) ?_
    exact jj_iret dLw_need_20 rfl rfl (hq M1 hC1 (fun k i a b => hCl1 k i a) (fun w2 h2 => by cases h2))
  · unfold CQ at hq; rw [e] at hq ⊢
    refine jk_c hdLw_need_2 (fun ad => ?_)
    refine jj_as4 dLw_need_21 ?_
    refine jj_iconst 3 dLw_need_23 (by decide) ?_
    exact jj_iret dLw_need_24 rfl rfl (hq M1 hC1 (fun k i a b => hCl1 k i a) (fun w2 h2 => by cases h2))
theorem sh_symbol (σ : Sg) (a nm w : Int32) (fl : Bool) : (∃ v9, (spSymbol σ a nm w fl).1 = rI v9) ∨ (spSymbol σ a nm w fl).1 = .inr 0 ∨ (spSymbol σ a nm w fl).1 = .inr 1 ∨ (spSymbol σ a nm w fl).1 = .inr 2 := by
  unfold spSymbol
  repeat' split
  all_goals first | exact Or.inl (⟨_, rfl⟩) | exact Or.inr (Or.inl (rfl)) | exact Or.inr (Or.inr (Or.inl (rfl))) | exact Or.inr (Or.inr (Or.inr (rfl)))
set_option maxRecDepth 100000 in
set_option maxHeartbeats 4000000 in
theorem w_symbol {ω : jw} {d : Nat} {M : Nat → Nat → Int32} {J sl : Nat} {Q : jr → jh → Prop} {σ : Sg} (hC : CS M σ) (hW : Wm σ) (hJ : J < 1000) (hsl : sl < 1000000) (a nm w : Int32) (fl : Bool) (hq : CQ ω J sl M Q tcA (spSymbol σ a nm w fl)) : jwp ω (d + 4) mLw_symbol [.ref (jN ω + 0), .int a, .int nm, .int w, .int (b2i fl), .ref (jN ω + 132)] (jst ω M J sl) Q := by
  refine jwp_of (by simp [Value.category]) (Nat.le_of_ble_eq_true rfl) (ls := [some (.ref (jN ω + 0)), some (.int a), some (.int nm), some (.int w), some (.int (b2i fl)), some (.ref (jN ω + 132)), none]) rfl ?_
  refine jj_al5 dLw_symbol_0 ?_
  refine jj_iconst 0 dLw_symbol_2 (by decide) ?_
  refine jj_al0 dLw_symbol_3 ?_
  refine jj_il1 dLw_symbol_4 ?_
  refine jj_il2 dLw_symbol_5 ?_
  refine jj_il3 dLw_symbol_6 ?_
  refine jj_il4 dLw_symbol_7 ?_
  refine mv4 dLw_symbol_9 clBO cvLw_23 (s0 _) (Nat.le_of_ble_eq_true rfl) ?_
  refine k_symbol hC hW hJ hsl a nm w fl (fun M1 hC1 hCl1 => ?_)
  rcases sh_symbol σ a nm w fl with ⟨v9, e⟩ | e | e | e
  · unfold CQ at hq; rw [e] at hq ⊢
    refine jk_i ?_
    refine jj_i2l dLw_symbol_12 ?_
    refine mr_last dLw_symbol_13 ?_
    refine jj_goto 29 dLw_symbol_14 (by decide) ?_
    refine jj_iconst 0 dLw_symbol_29 (by decide) ?_
    exact jj_iret dLw_symbol_30 rfl rfl (hq _ (CS_hi hC1 (fun k i h => mup_ne _ _ (by omega))) (fun k i a b => by rw [mup_ne _ _ (by omega)]; exact hCl1 k i a) (fun w2 h2 => by cases h2; exact mup_at _ _ _ _))
  · unfold CQ at hq; rw [e] at hq ⊢
    refine jk_c hdLw_symbol_0 (fun ad => ?_)
    refine jj_as6 dLw_symbol_17 ?_
    refine jj_iconst 1 dLw_symbol_19 (by decide) ?_
    exact jj_iret dLw_symbol_20 rfl rfl (hq M1 hC1 (fun k i a b => hCl1 k i a) (fun w2 h2 => by cases h2))
  · unfold CQ at hq; rw [e] at hq ⊢
    refine jk_c hdLw_symbol_1 (fun ad => ?_)
    refine jj_as6 dLw_symbol_21 ?_
    refine jj_iconst 2 dLw_symbol_23 (by decide) ?_
    exact jj_iret dLw_symbol_24 rfl rfl (hq M1 hC1 (fun k i a b => hCl1 k i a) (fun w2 h2 => by cases h2))
  · unfold CQ at hq; rw [e] at hq ⊢
    refine jk_c hdLw_symbol_2 (fun ad => ?_)
    refine jj_as6 dLw_symbol_25 ?_
    refine jj_iconst 3 dLw_symbol_27 (by decide) ?_
    exact jj_iret dLw_symbol_28 rfl rfl (hq M1 hC1 (fun k i a b => hCl1 k i a) (fun w2 h2 => by cases h2))
theorem sh_relocation (σ : Sg) (a kd w s ad : Int32) : (∃ v9, (spReloc σ a kd w s ad).1 = rI v9) ∨ (spReloc σ a kd w s ad).1 = .inr 0 ∨ (spReloc σ a kd w s ad).1 = .inr 1 ∨ (spReloc σ a kd w s ad).1 = .inr 2 := by
  unfold spReloc
  repeat' split
  all_goals first | exact Or.inl (⟨_, rfl⟩) | exact Or.inr (Or.inl (rfl)) | exact Or.inr (Or.inr (Or.inl (rfl))) | exact Or.inr (Or.inr (Or.inr (rfl)))
set_option maxRecDepth 100000 in
set_option maxHeartbeats 4000000 in
theorem w_relocation {ω : jw} {d : Nat} {M : Nat → Nat → Int32} {J sl : Nat} {Q : jr → jh → Prop} {σ : Sg} (hC : CS M σ) (hW : Wm σ) (hJ : J < 1000) (hsl : sl < 1000000) (a kd w s ad : Int32) (hq : CQ ω J sl M Q tcA (spReloc σ a kd w s ad)) : jwp ω (d + 4) mLw_relocation [.ref (jN ω + 0), .int a, .int kd, .int w, .int s, .int ad, .ref (jN ω + 132)] (jst ω M J sl) Q := by
  refine jwp_of (by simp [Value.category]) (Nat.le_of_ble_eq_true rfl) (ls := [some (.ref (jN ω + 0)), some (.int a), some (.int kd), some (.int w), some (.int s), some (.int ad), some (.ref (jN ω + 132)), none]) rfl ?_
  refine jj_al6 dLw_relocation_0 ?_
  refine jj_iconst 0 dLw_relocation_2 (by decide) ?_
  refine jj_al0 dLw_relocation_3 ?_
  refine jj_il1 dLw_relocation_4 ?_
  refine jj_il2 dLw_relocation_5 ?_
  refine jj_il3 dLw_relocation_6 ?_
  refine jj_il4 dLw_relocation_7 ?_
  refine jj_il5 dLw_relocation_9 ?_
  refine mv5 dLw_relocation_11 clBO cvLw_27 (s0 _) (Nat.le_of_ble_eq_true rfl) ?_
  refine k_relocation hC hW hJ hsl a kd w s ad (fun M1 hC1 hCl1 => ?_)
  rcases sh_relocation σ a kd w s ad with ⟨v9, e⟩ | e | e | e
  · unfold CQ at hq; rw [e] at hq ⊢
    refine jk_i ?_
    refine jj_i2l dLw_relocation_14 ?_
    refine mr_last dLw_relocation_15 ?_
    refine jj_goto 31 dLw_relocation_16 (by decide) ?_
    refine jj_iconst 0 dLw_relocation_31 (by decide) ?_
    exact jj_iret dLw_relocation_32 rfl rfl (hq _ (CS_hi hC1 (fun k i h => mup_ne _ _ (by omega))) (fun k i a b => by rw [mup_ne _ _ (by omega)]; exact hCl1 k i a) (fun w2 h2 => by cases h2; exact mup_at _ _ _ _))
  · unfold CQ at hq; rw [e] at hq ⊢
    refine jk_c hdLw_relocation_0 (fun ad => ?_)
    refine jj_as7 dLw_relocation_19 ?_
    refine jj_iconst 1 dLw_relocation_21 (by decide) ?_
    exact jj_iret dLw_relocation_22 rfl rfl (hq M1 hC1 (fun k i a b => hCl1 k i a) (fun w2 h2 => by cases h2))
  · unfold CQ at hq; rw [e] at hq ⊢
    refine jk_c hdLw_relocation_1 (fun ad => ?_)
    refine jj_as7 dLw_relocation_23 ?_
    refine jj_iconst 2 dLw_relocation_25 (by decide) ?_
    exact jj_iret dLw_relocation_26 rfl rfl (hq M1 hC1 (fun k i a b => hCl1 k i a) (fun w2 h2 => by cases h2))
  · unfold CQ at hq; rw [e] at hq ⊢
    refine jk_c hdLw_relocation_2 (fun ad => ?_)
    refine jj_as7 dLw_relocation_27 ?_
    refine jj_iconst 3 dLw_relocation_29 (by decide) ?_
    exact jj_iret dLw_relocation_30 rfl rfl (hq M1 hC1 (fun k i a b => hCl1 k i a) (fun w2 h2 => by cases h2))
theorem sh_open (σ : Sg) (a : Int32) (lz gl : Bool) : (∃ v9, (spOpen σ a lz gl).1 = rI v9) ∨ (spOpen σ a lz gl).1 = .inr 0 ∨ (spOpen σ a lz gl).1 = .inr 2 ∨ (spOpen σ a lz gl).1 = .inr 3 := by
  unfold spOpen
  repeat' split
  all_goals first | exact Or.inl (⟨_, rfl⟩) | exact Or.inr (Or.inl (rfl)) | exact Or.inr (Or.inr (Or.inl (rfl))) | exact Or.inr (Or.inr (Or.inr (rfl)))
set_option maxRecDepth 100000 in
set_option maxHeartbeats 4000000 in
theorem w_open {ω : jw} {d : Nat} {M : Nat → Nat → Int32} {J sl : Nat} {Q : jr → jh → Prop} {σ : Sg} (hC : CS M σ) (hW : Wm σ) (hJ : J < 1000) (hsl : sl < 1000000) (hZo : ∀ p, p < 6 → Zo σ p < 2 ^ 30) (hE : (Ev σ).length + 6 < 2 ^ 30) (a : Int32) (lz gl : Bool) (hq : CQ ω J sl M Q tcO (spOpen σ a lz gl)) : jwp ω (d + 14) mLw_open [.ref (jN ω + 0), .int a, .int (b2i lz), .int (b2i gl), .ref (jN ω + 132)] (jst ω M J sl) Q := by
  refine jwp_of (by simp [Value.category]) (Nat.le_of_ble_eq_true rfl) (ls := [some (.ref (jN ω + 0)), some (.int a), some (.int (b2i lz)), some (.int (b2i gl)), some (.ref (jN ω + 132)), none]) rfl ?_
  refine jj_al4 dLw_open_0 ?_
  refine jj_iconst 0 dLw_open_2 (by decide) ?_
  refine jj_al0 dLw_open_3 ?_
  refine jj_il1 dLw_open_4 ?_
  refine jj_il2 dLw_open_5 ?_
  refine jj_il3 dLw_open_6 ?_
  refine mv3 dLw_open_7 clBO cvLw_31 (s0 _) (Nat.le_of_ble_eq_true rfl) ?_
  refine k_open hC hW hJ hsl hZo hE a lz gl (fun M1 hC1 hCl1 => ?_)
  rcases sh_open σ a lz gl with ⟨v9, e⟩ | e | e | e
  · unfold CQ at hq; rw [e] at hq ⊢
    refine jk_i ?_
    refine jj_i2l dLw_open_10 ?_
    refine mr_last dLw_open_11 ?_
    refine jj_goto 27 dLw_open_12 (by decide) ?_
    refine jj_iconst 0 dLw_open_27 (by decide) ?_
    exact jj_iret dLw_open_28 rfl rfl (hq _ (CS_hi hC1 (fun k i h => mup_ne _ _ (by omega))) (fun k i a b => by rw [mup_ne _ _ (by omega)]; exact hCl1 k i a) (fun w2 h2 => by cases h2; exact mup_at _ _ _ _))
  · unfold CQ at hq; rw [e] at hq ⊢
    refine jk_c hdLw_open_0 (fun ad => ?_)
    refine jj_as5 dLw_open_15 ?_
    refine jj_iconst 1 dLw_open_17 (by decide) ?_
    exact jj_iret dLw_open_18 rfl rfl (hq M1 hC1 (fun k i a b => hCl1 k i a) (fun w2 h2 => by cases h2))
  · unfold CQ at hq; rw [e] at hq ⊢
    refine jk_c hdLw_open_2 (fun ad => ?_)
    refine jj_as5 dLw_open_19 ?_
    refine jj_iconst 2 dLw_open_21 (by decide) ?_
    exact jj_iret dLw_open_22 rfl rfl (hq M1 hC1 (fun k i a b => hCl1 k i a) (fun w2 h2 => by cases h2))
  · unfold CQ at hq; rw [e] at hq ⊢
    refine jk_c hdLw_open_3 (fun ad => ?_)
    refine jj_as5 dLw_open_23 ?_
    refine jj_iconst 3 dLw_open_25 (by decide) ?_
    exact jj_iret dLw_open_26 rfl rfl (hq M1 hC1 (fun k i a b => hCl1 k i a) (fun w2 h2 => by cases h2))
theorem sh_close (σ : Sg) (a : Int32) : (∃ v9, (spClose σ a).1 = rI v9) ∨ (spClose σ a).1 = .inr 0 ∨ (spClose σ a).1 = .inr 2 := by
  unfold spClose
  repeat' split
  all_goals first | exact Or.inl (⟨_, rfl⟩) | exact Or.inr (Or.inl (rfl)) | exact Or.inr (Or.inr (rfl))
set_option maxRecDepth 100000 in
set_option maxHeartbeats 4000000 in
theorem w_close {ω : jw} {d : Nat} {M : Nat → Nat → Int32} {J sl : Nat} {Q : jr → jh → Prop} {σ : Sg} (hC : CS M σ) (hW : Wm σ) (hJ : J < 1000) (hsl : sl < 1000000) (hZo : ∀ p, p < 6 → Zo σ p < 2 ^ 30) (hnd : (Bg σ).Nodup) (hL : ∀ p ∈ Bg σ, ¬ Zb σ p = none) (hE : (Ev σ).length + 6 < 2 ^ 30) (a : Int32) (hq : CQ ω J sl M Q tcO (spClose σ a)) : jwp ω (d + 5) mLw_close [.ref (jN ω + 0), .int a, .ref (jN ω + 132)] (jst ω M J sl) Q := by
  refine jwp_of (by simp [Value.category]) (Nat.le_of_ble_eq_true rfl) (ls := [some (.ref (jN ω + 0)), some (.int a), some (.ref (jN ω + 132)), none]) rfl ?_
  refine jj_al2 dLw_close_0 ?_
  refine jj_iconst 0 dLw_close_1 (by decide) ?_
  refine jj_al0 dLw_close_2 ?_
  refine jj_il1 dLw_close_3 ?_
  refine mv1 dLw_close_4 clBO cvLw_37 (s0 _) (Nat.le_of_ble_eq_true rfl) ?_
  refine k_close hC hW hJ hsl hZo hnd hL hE a (fun M1 hC1 hCl1 => ?_)
  rcases sh_close σ a with ⟨v9, e⟩ | e | e
  · unfold CQ at hq; rw [e] at hq ⊢
    refine jk_i ?_
    refine jj_i2l dLw_close_7 ?_
    refine mr_last dLw_close_8 ?_
    refine jj_goto 18 dLw_close_9 (by decide) ?_
    refine jj_iconst 0 dLw_close_18 (by decide) ?_
    exact jj_iret dLw_close_19 rfl rfl (hq _ (CS_hi hC1 (fun k i h => mup_ne _ _ (by omega))) (fun k i a b => by rw [mup_ne _ _ (by omega)]; exact hCl1 k i a) (fun w2 h2 => by cases h2; exact mup_at _ _ _ _))
  · unfold CQ at hq; rw [e] at hq ⊢
    refine jk_c hdLw_close_0 (fun ad => ?_)
    refine jj_as3 dLw_close_12 ?_
    refine jj_iconst 1 dLw_close_13 (by decide) ?_
    exact jj_iret dLw_close_14 rfl rfl (hq M1 hC1 (fun k i a b => hCl1 k i a) (fun w2 h2 => by cases h2))
  · unfold CQ at hq; rw [e] at hq ⊢
    refine jk_c hdLw_close_2 (fun ad => ?_)
    refine jj_as3 dLw_close_15 ?_
    refine jj_iconst 2 dLw_close_16 (by decide) ?_
    exact jj_iret dLw_close_17 rfl rfl (hq M1 hC1 (fun k i a b => hCl1 k i a) (fun w2 h2 => by cases h2))
theorem sh_call (σ : Sg) (a r : Int32) : (∃ v9, (spCall σ a r).1 = rI v9) ∨ (spCall σ a r).1 = .inr 0 ∨ (spCall σ a r).1 = .inr 1 ∨ (spCall σ a r).1 = .inr 2 ∨ (spCall σ a r).1 = .inr 3 := by
  unfold spCall
  repeat' split
  all_goals first | exact Or.inl (⟨_, rfl⟩) | exact Or.inr (Or.inl (rfl)) | exact Or.inr (Or.inr (Or.inl (rfl))) | exact Or.inr (Or.inr (Or.inr (Or.inl (rfl)))) | exact Or.inr (Or.inr (Or.inr (Or.inr (rfl))))
set_option maxRecDepth 100000 in
set_option maxHeartbeats 4000000 in
theorem w_call {ω : jw} {d : Nat} {M : Nat → Nat → Int32} {J sl : Nat} {Q : jr → jh → Prop} {σ : Sg} (hC : CS M σ) (hW : Wm σ) (hJ : J < 1000) (hsl : sl < 1000000) (a r : Int32) (hq : CQ ω J sl M Q tcA (spCall σ a r)) : jwp ω (d + 5) mLw_call [.ref (jN ω + 0), .int a, .int r, .ref (jN ω + 132)] (jst ω M J sl) Q := by
  refine jwp_of (by simp [Value.category]) (Nat.le_of_ble_eq_true rfl) (ls := [some (.ref (jN ω + 0)), some (.int a), some (.int r), some (.ref (jN ω + 132)), none]) rfl ?_
  refine jj_al3 dLw_call_0 ?_
  refine jj_iconst 0 dLw_call_1 (by decide) ?_
  refine jj_al0 dLw_call_2 ?_
  refine jj_il1 dLw_call_3 ?_
  refine jj_il2 dLw_call_4 ?_
  refine mv2 dLw_call_5 clBO cvLw_41 (s0 _) (Nat.le_of_ble_eq_true rfl) ?_
  refine k_call hC hW hJ hsl a r (fun M1 hC1 hCl1 => ?_)
  rcases sh_call σ a r with ⟨v9, e⟩ | e | e | e | e
  · unfold CQ at hq; rw [e] at hq ⊢
    refine jk_i ?_
    refine jj_i2l dLw_call_8 ?_
    refine mr_last dLw_call_9 ?_
    refine jj_goto 29 dLw_call_10 (by decide) ?_
    refine jj_iconst 0 dLw_call_29 (by decide) ?_
    exact jj_iret dLw_call_30 rfl rfl (hq _ (CS_hi hC1 (fun k i h => mup_ne _ _ (by omega))) (fun k i a b => by rw [mup_ne _ _ (by omega)]; exact hCl1 k i a) (fun w2 h2 => by cases h2; exact mup_at _ _ _ _))
  · unfold CQ at hq; rw [e] at hq ⊢
    refine jk_c hdLw_call_0 (fun ad => ?_)
    refine jj_as4 dLw_call_13 ?_
    refine jj_iconst 1 dLw_call_15 (by decide) ?_
    exact jj_iret dLw_call_16 rfl rfl (hq M1 hC1 (fun k i a b => hCl1 k i a) (fun w2 h2 => by cases h2))
  · unfold CQ at hq; rw [e] at hq ⊢
    refine jk_c hdLw_call_1 (fun ad => ?_)
    refine jj_as4 dLw_call_17 ?_
    refine jj_iconst 2 dLw_call_19 (by decide) ?_
    exact jj_iret dLw_call_20 rfl rfl (hq M1 hC1 (fun k i a b => hCl1 k i a) (fun w2 h2 => by cases h2))
  · unfold CQ at hq; rw [e] at hq ⊢
    refine jk_c hdLw_call_2 (fun ad => ?_)
    refine jj_as4 dLw_call_21 ?_
    refine jj_iconst 3 dLw_call_23 (by decide) ?_
    exact jj_iret dLw_call_24 rfl rfl (hq M1 hC1 (fun k i a b => hCl1 k i a) (fun w2 h2 => by cases h2))
  · unfold CQ at hq; rw [e] at hq ⊢
    refine jk_c hdLw_call_3 (fun ad => ?_)
    refine jj_as4 dLw_call_25 ?_
    refine jj_iconst 4 dLw_call_27 (by decide) ?_
    exact jj_iret dLw_call_28 rfl rfl (hq M1 hC1 (fun k i a b => hCl1 k i a) (fun w2 h2 => by cases h2))
theorem sh_find (σ : Sg) (a nm : Int32) : (∃ v9, (spFind σ a nm).1 = rI v9) ∨ (spFind σ a nm).1 = .inr 0 ∨ (spFind σ a nm).1 = .inr 1 ∨ (spFind σ a nm).1 = .inr 2 ∨ (spFind σ a nm).1 = .inr 3 := by
  unfold spFind
  repeat' split
  all_goals first | exact Or.inl (⟨_, rfl⟩) | exact Or.inr (Or.inl (rfl)) | exact Or.inr (Or.inr (Or.inl (rfl))) | exact Or.inr (Or.inr (Or.inr (Or.inl (rfl)))) | exact Or.inr (Or.inr (Or.inr (Or.inr (rfl))))
set_option maxRecDepth 100000 in
set_option maxHeartbeats 4000000 in
theorem w_find {ω : jw} {d : Nat} {M : Nat → Nat → Int32} {J sl : Nat} {Q : jr → jh → Prop} {σ : Sg} (hC : CS M σ) (hW : Wm σ) (hJ : J < 1000) (hsl : sl < 1000000) (a nm : Int32) (hq : CQ ω J sl M Q tcA (spFind σ a nm)) : jwp ω (d + 5) mLw_find [.ref (jN ω + 0), .int a, .int nm, .ref (jN ω + 132)] (jst ω M J sl) Q := by
  refine jwp_of (by simp [Value.category]) (Nat.le_of_ble_eq_true rfl) (ls := [some (.ref (jN ω + 0)), some (.int a), some (.int nm), some (.ref (jN ω + 132)), none]) rfl ?_
  refine jj_al3 dLw_find_0 ?_
  refine jj_iconst 0 dLw_find_1 (by decide) ?_
  refine jj_al0 dLw_find_2 ?_
  refine jj_il1 dLw_find_3 ?_
  refine jj_il2 dLw_find_4 ?_
  refine mv2 dLw_find_5 clBO cvLw_44 (s0 _) (Nat.le_of_ble_eq_true rfl) ?_
  refine k_find hC hW hJ hsl a nm (fun M1 hC1 hCl1 => ?_)
  rcases sh_find σ a nm with ⟨v9, e⟩ | e | e | e | e
  · unfold CQ at hq; rw [e] at hq ⊢
    refine jk_i ?_
    refine jj_i2l dLw_find_8 ?_
    refine mr_last dLw_find_9 ?_
    refine jj_goto 29 dLw_find_10 (by decide) ?_
    refine jj_iconst 0 dLw_find_29 (by decide) ?_
    exact jj_iret dLw_find_30 rfl rfl (hq _ (CS_hi hC1 (fun k i h => mup_ne _ _ (by omega))) (fun k i a b => by rw [mup_ne _ _ (by omega)]; exact hCl1 k i a) (fun w2 h2 => by cases h2; exact mup_at _ _ _ _))
  · unfold CQ at hq; rw [e] at hq ⊢
    refine jk_c hdLw_find_0 (fun ad => ?_)
    refine jj_as4 dLw_find_13 ?_
    refine jj_iconst 1 dLw_find_15 (by decide) ?_
    exact jj_iret dLw_find_16 rfl rfl (hq M1 hC1 (fun k i a b => hCl1 k i a) (fun w2 h2 => by cases h2))
  · unfold CQ at hq; rw [e] at hq ⊢
    refine jk_c hdLw_find_1 (fun ad => ?_)
    refine jj_as4 dLw_find_17 ?_
    refine jj_iconst 2 dLw_find_19 (by decide) ?_
    exact jj_iret dLw_find_20 rfl rfl (hq M1 hC1 (fun k i a b => hCl1 k i a) (fun w2 h2 => by cases h2))
  · unfold CQ at hq; rw [e] at hq ⊢
    refine jk_c hdLw_find_2 (fun ad => ?_)
    refine jj_as4 dLw_find_21 ?_
    refine jj_iconst 3 dLw_find_23 (by decide) ?_
    exact jj_iret dLw_find_24 rfl rfl (hq M1 hC1 (fun k i a b => hCl1 k i a) (fun w2 h2 => by cases h2))
  · unfold CQ at hq; rw [e] at hq ⊢
    refine jk_c hdLw_find_3 (fun ad => ?_)
    refine jj_as4 dLw_find_25 ?_
    refine jj_iconst 4 dLw_find_27 (by decide) ?_
    exact jj_iret dLw_find_28 rfl rfl (hq M1 hC1 (fun k i a b => hCl1 k i a) (fun w2 h2 => by cases h2))
theorem sh_word (σ : Sg) (a : Int32) : (∃ v9, (spWord σ a).1 = rI v9) ∨ (spWord σ a).1 = .inr 0 := by
  unfold spWord
  repeat' split
  all_goals first | exact Or.inl (⟨_, rfl⟩) | exact Or.inr (rfl)
set_option maxRecDepth 100000 in
set_option maxHeartbeats 4000000 in
theorem w_word {ω : jw} {d : Nat} {M : Nat → Nat → Int32} {J sl : Nat} {Q : jr → jh → Prop} {σ : Sg} (hC : CS M σ) (hW : Wm σ) (hJ : J < 1000) (hsl : sl < 1000000) (a : Int32) (hq : CQ ω J sl M Q tcW (spWord σ a)) : jwp ω (d + 1) mLw_word [.ref (jN ω + 0), .int a, .ref (jN ω + 132)] (jst ω M J sl) Q := by
  refine jwp_of (by simp [Value.category]) (Nat.le_of_ble_eq_true rfl) (ls := [some (.ref (jN ω + 0)), some (.int a), some (.ref (jN ω + 132)), none]) rfl ?_
  refine jj_al2 dLw_word_0 ?_
  refine jj_iconst 0 dLw_word_1 (by decide) ?_
  refine jj_al0 dLw_word_2 ?_
  refine jj_il1 dLw_word_3 ?_
  refine mv1 dLw_word_4 clBO cvLw_47 (s0 _) (Nat.le_of_ble_eq_true rfl) ?_
  refine k_word hC hW hJ hsl a (fun M1 hC1 hCl1 => ?_)
  rcases sh_word σ a with ⟨v9, e⟩ | e
  · unfold CQ at hq; rw [e] at hq ⊢
    refine jk_i ?_
    refine jj_i2l dLw_word_7 ?_
    refine mr_last dLw_word_8 ?_
    refine jj_goto 15 dLw_word_9 (by decide) ?_
    refine jj_iconst 0 dLw_word_15 (by decide) ?_
    exact jj_iret dLw_word_16 rfl rfl (hq _ (CS_hi hC1 (fun k i h => mup_ne _ _ (by omega))) (fun k i a b => by rw [mup_ne _ _ (by omega)]; exact hCl1 k i a) (fun w2 h2 => by cases h2; exact mup_at _ _ _ _))
  · unfold CQ at hq; rw [e] at hq ⊢
    refine jk_c hdLw_word_0 (fun ad => ?_)
    refine jj_as3 dLw_word_12 ?_
    refine jj_iconst 1 dLw_word_13 (by decide) ?_
    exact jj_iret dLw_word_14 rfl rfl (hq M1 hC1 (fun k i a b => hCl1 k i a) (fun w2 h2 => by cases h2))
theorem sh_event (σ : Sg) (a : Int32) : (∃ v9, (spEvent σ a).1 = rI v9) ∨ (spEvent σ a).1 = .inr 3 := by
  unfold spEvent
  repeat' split
  all_goals first | exact Or.inl (⟨_, rfl⟩) | exact Or.inr (rfl)
set_option maxRecDepth 100000 in
set_option maxHeartbeats 4000000 in
theorem w_event {ω : jw} {d : Nat} {M : Nat → Nat → Int32} {J sl : Nat} {Q : jr → jh → Prop} {σ : Sg} (hC : CS M σ) (hW : Wm σ) (hJ : J < 1000) (hsl : sl < 1000000) (hev : (Ev σ).length < 2 ^ 30) (a : Int32) (hq : CQ ω J sl M Q tcW (spEvent σ a)) : jwp ω (d + 2) mLw_event [.ref (jN ω + 0), .int a, .ref (jN ω + 132)] (jst ω M J sl) Q := by
  refine jwp_of (by simp [Value.category]) (Nat.le_of_ble_eq_true rfl) (ls := [some (.ref (jN ω + 0)), some (.int a), some (.ref (jN ω + 132)), none]) rfl ?_
  refine jj_al2 dLw_event_0 ?_
  refine jj_iconst 0 dLw_event_1 (by decide) ?_
  refine jj_al0 dLw_event_2 ?_
  refine jj_il1 dLw_event_3 ?_
  refine mv1 dLw_event_4 clBO cvLw_50 (s0 _) (Nat.le_of_ble_eq_true rfl) ?_
  refine k_event hC hW hJ hsl hev a (fun M1 hC1 hCl1 => ?_)
  rcases sh_event σ a with ⟨v9, e⟩ | e
  · unfold CQ at hq; rw [e] at hq ⊢
    refine jk_i ?_
    refine jj_i2l dLw_event_7 ?_
    refine mr_last dLw_event_8 ?_
    refine jj_goto 15 dLw_event_9 (by decide) ?_
    refine jj_iconst 0 dLw_event_15 (by decide) ?_
    exact jj_iret dLw_event_16 rfl rfl (hq _ (CS_hi hC1 (fun k i h => mup_ne _ _ (by omega))) (fun k i a b => by rw [mup_ne _ _ (by omega)]; exact hCl1 k i a) (fun w2 h2 => by cases h2; exact mup_at _ _ _ _))
  · unfold CQ at hq; rw [e] at hq ⊢
    refine jk_c hdLw_event_3 (fun ad => ?_)
    refine jj_as3 dLw_event_12 ?_
    refine jj_iconst 1 dLw_event_13 (by decide) ?_
    exact jj_iret dLw_event_14 rfl rfl (hq M1 hC1 (fun k i a b => hCl1 k i a) (fun w2 h2 => by cases h2))
