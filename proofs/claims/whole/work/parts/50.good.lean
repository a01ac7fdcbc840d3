def Gd (σ σ' : Sg) : Prop := Wf σ' ∧ (Ev σ').length ≤ (Ev σ).length + 6 ∧ ∀ p, p < 6 → Zo σ' p ≤ Zo σ p + 1
theorem Gd.refl {σ : Sg} (h : Wf σ) : Gd σ σ := ⟨h, by omega, fun p _ => by omega⟩
theorem Gd.of {σ σ' : Sg} (h : Wf σ') (e1 : Ev σ' = Ev σ) (e2 : Zo σ' = Zo σ) : Gd σ σ' := ⟨h, by rw [e1]; omega, fun p _ => by rw [e2]; omega⟩
theorem no8 {w : Int32} (h : ¬ (w < 1 ∨ ¬ w ≤ 8)) : iN w ≤ 8 := by
  have h2 : w ≤ 8 := Classical.not_not.mp (fun g => h (Or.inr g))
  have h3 := Int32.le_iff_toInt_le.mp h2
  have e : (8 : Int32).toInt = 8 := by decide
  unfold iN
  omega
theorem inW {w : Int32} {n : Nat} (hn : n < 2 ^ 31) (h : ¬ (w < 0 ∨ nI n ≤ w)) : ∃ i, i < n ∧ w = nI i := ixIn hn (fun g => h (Or.inl g)) (fun g => h (Or.inr g))
theorem gd_image {σ : Sg} (hW : Wf σ) (a w : Int32) : Gd σ (spImage σ a w).2 := by
  unfold spImage
  split
  · exact Gd.refl hW
  · split
    · exact Gd.refl hW
    · rename_i h8
      split
      · exact Gd.refl hW
      · rename_i hb
        exact Gd.of (hW.img (Classical.not_not.mp hb) (no8 h8)) rfl rfl
theorem oN_lt {a : Int32} (h : ¬ oN a) : iN a < 6 := by
  obtain ⟨n, hn, rfl⟩ : ∃ n : Nat, n < 6 ∧ a = nI n := (isObj a).resolve_right h
  rw [iN6 hn]; exact hn
theorem gd_need {σ : Sg} (hW : Wf σ) (a b : Int32) : Gd σ (spNeed σ a b).2 := by
  unfold spNeed
  split
  · exact Gd.refl hW
  · split
    · exact Gd.refl hW
    · rename_i hb
      split
      · exact Gd.refl hW
      · split
        · exact Gd.refl hW
        · rename_i hf
          exact Gd.of (hW.need (Classical.not_not.mp (fun g => hf (Or.inl (Or.inr g)))) (oN_lt hb)) rfl rfl
theorem gd_symbol {σ : Sg} (hW : Wf σ) (a nm w : Int32) (fl : Bool) : Gd σ (spSymbol σ a nm w fl).2 := by
  unfold spSymbol
  split
  · exact Gd.refl hW
  · rename_i ha
    split
    · exact Gd.refl hW
    · rename_i hc
      split
      · exact Gd.refl hW
      · refine Gd.of (hW.sym ?_ (fun g => hc (Or.inr (Or.inl g)))) rfl rfl
        by_cases h1 : w = -1
        · exact Or.inl h1
        · exact Or.inr (inW (by have := hW.1.1.1 (iN a) (oN_lt ha); omega) (fun g => hc (Or.inr (Or.inr ⟨h1, g⟩))))
theorem gd_reloc {σ : Sg} (hW : Wf σ) (hl : ∀ p, p < 6 → (Zy σ p).length ≤ 6) (a kd w s ad : Int32) : Gd σ (spReloc σ a kd w s ad).2 := by
  unfold spReloc
  split
  · exact Gd.refl hW
  · rename_i ha
    split
    · exact Gd.refl hW
    · rename_i hc
      split
      · exact Gd.refl hW
      · rename_i hc2
        split
        · exact Gd.refl hW
        · refine Gd.of (hW.rel ⟨inW (by have := hW.1.1.1 (iN a) (oN_lt ha); omega) (fun g => hc (Or.inr (Or.inr g))), ?_⟩) rfl rfl
          by_cases h1 : kd = 0
          · exact Or.inl h1
          · refine Or.inr ⟨?_, lt32 (fun g => hc2 ⟨h1, Or.inl g⟩) (Classical.not_not.mp (fun g => hc2 ⟨h1, Or.inr g⟩)) (by have := hl (iN a) (oN_lt ha); omega)⟩
            have h2 : ¬ kd < 0 := fun g => hc (Or.inl g)
            have h3 : ¬ (2 : Int32) < kd := fun g => hc (Or.inr (Or.inl g))
            obtain ⟨i, hi, rfl⟩ := lt32 (n := 3) h2 (Int32.lt_iff_toInt_lt.mpr (by
              have h4 := Int32.le_iff_toInt_le.mp (Int32.not_lt.mp h3)
              have e1 : (2 : Int32).toInt = 2 := by decide
              have e2 : (nI 3).toInt = 3 := by decide
              omega)) (by decide)
            have : i = 0 ∨ i = 1 ∨ i = 2 := by omega
            rcases this with rfl | rfl | rfl
            · exact absurd rfl h1
            · exact Or.inl rfl
            · exact Or.inr rfl
theorem gd_call {σ : Sg} (hW : Wf σ) (hl : ∀ p, p < 6 → (Zr σ p).length ≤ 6) (a r : Int32) : Gd σ (spCall σ a r).2 := by
  unfold spCall
  split
  · exact Gd.refl hW
  · rename_i ha
    have hn := oN_lt ha
    split
    · exact Gd.refl hW
    · rename_i hr
      split
      · exact Gd.refl hW
      · split
        · exact Gd.refl hW
        · rename_i hb
          split
          · have hS := rsF_sm σ (iN a) (syAt σ (iN a) (rlAt σ (iN a) r))
            have hWr := hW.rs hn hb (syAt σ (iN a) (rlAt σ (iN a) r))
            split
            · exact Gd.of hWr hS.eqs.2.2.2.1 hS.eqs.2.2.2.2.1
            · refine Gd.of (hWr.wd ?_) hS.eqs.2.2.2.1 hS.eqs.2.2.2.2.1
              rw [hS.tkn]
              obtain ⟨i, hi, rfl⟩ := lt32 (fun g => hr (Or.inl g)) (Classical.not_not.mp (fun g => hr (Or.inr g))) (by have := hl (iN a) hn; omega)
              have hm : rlAt σ (iN a) (nI i) ∈ Zr σ (iN a) := by
                unfold rlAt
                rw [iN_nI (by have := hl (iN a) hn; omega), List.getD_eq_getElem?_getD, List.getElem?_eq_getElem hi]
                exact List.getElem_mem hi
              obtain ⟨⟨w, hw, hwe⟩, _⟩ := hW.1.1.2.2.2.1 (iN a) hn _ hm
              have h8 := hW.1.1.1 (iN a) hn
              obtain ⟨b, hbb⟩ : ∃ b, Zb σ (iN a) = some b := by
                cases hx : Zb σ (iN a) with
                | none => exact absurd hx hb
                | some b => exact ⟨b, rfl⟩
              unfold adAt
              rw [hbb, hwe, iN_nI (by omega)]
              exact tkn_iff.mpr ⟨iN a, hn, b, hbb, Nat.le_add_right _ _, by show b + w < _; omega⟩
          · exact Gd.refl hW
theorem gd_find {σ : Sg} (hW : Wf σ) (a nm : Int32) : Gd σ (spFind σ a nm).2 := by
  unfold spFind
  split
  · exact Gd.refl hW
  · split
    · exact Gd.refl hW
    · split
      · exact Gd.refl hW
      · split
        · exact Gd.of (hW.st _) rfl rfl
        · exact Gd.of (hW.st _) rfl rfl
theorem gd_store {σ : Sg} (hW : Wf σ) (a v : Int32) : Gd σ (spStore σ a v).2 := by
  unfold spStore
  split
  · exact Gd.refl hW
  · rename_i h
    refine Gd.of (hW.wd ?_) rfl rfl
    cases hx : tkn σ (iN a) with
    | true => rfl
    | false => exact absurd (Or.inr (Or.inr hx)) h
theorem gd_close {σ : Sg} (hW : Wf σ) (a : Int32) : Gd σ (spClose σ a).2 := by
  unfold spClose
  split
  · exact Gd.refl hW
  · rename_i ha
    have hn := oN_lt ha
    split
    · exact Gd.refl hW
    · rename_i hz
      obtain ⟨⟨zb, zu, zw, gl, bg, ev, e⟩, _, _, _, _, _, _, f7⟩ := enF_facts (kpF (zOp σ (iN a) (Zo σ (iN a) - 1)) 5) (Bg σ).reverse (zOp σ (iN a) (Zo σ (iN a) - 1))
      refine ⟨hW.close hn hz, ?_, fun p hp => ?_⟩
      · show (Ev (enF _ _ _)).length ≤ _
        rw [f7]
        have h1 : ((Bg σ).reverse.filter (fun p => !kpF (zOp σ (iN a) (Zo σ (iN a) - 1)) 5 p)).length ≤ 6 := Nat.le_trans (List.length_filter_le _ _) (by rw [List.length_reverse]; exact hW.2.2.2.1.len)
        show (Ev σ).length + _ ≤ _
        omega
      · show Zo (enF _ _ _) p ≤ _
        rw [e]
        show va_up (Zo σ) (iN a) (Zo σ (iN a) - 1) p ≤ _
        by_cases hp2 : p = iN a
        · rw [hp2, va_up_self]; omega
        · rw [va_up_ne _ _ hp2]; omega
theorem gd_open {σ : Sg} (hW : Wf σ) (a : Int32) (lz gl : Bool) : Gd σ (spOpen σ a lz gl).2 := by
  unfold spOpen
  split
  · exact Gd.refl hW
  · rename_i ha
    have hn := oN_lt ha
    split
    · exact Gd.refl hW
    · rename_i hz
      have hz2 : ∀ p ∈ clos (Zn σ) (iN a), 1 ≤ Zs σ p := fun p hp => by
        have : ¬ Zs σ p = 0 := fun h => hz ⟨p, hp, h⟩
        omega
      obtain ⟨hl, hol, hlc⟩ := clos_facts hW.2.2.1 hn
      obtain ⟨i1, i2, i3, i4, i5, i6, i7, i8⟩ := ldF_facts (clos (Zn σ) (iN a)) (clos (Zn σ) (iN a)) σ [] hl.2 hW.1.1 hz2 ⟨by simp, by simp⟩ (by simp)
      split
      · obtain ⟨⟨zb, zu, zw, g, e⟩, _⟩ := toF_facts (opL σ (iN a)).2.2 6 0 (opL σ (iN a)).2.1
        refine Gd.of (hW.openF hn hz2) ?_ ?_
        · show Ev (toF _ _ _ _) = _
          rw [e]; exact i4.wm_zs.2.2.2.1
        · show Zo (toF _ _ _ _) = _
          rw [e]; exact i4.wm_zs.2.2.2.2.1
      · rename_i hok
        have hok2 : (opL σ (iN a)).1 = true := by cases hx : (opL σ (iN a)).1 with | true => rfl | false => exact absurd hx hok
        obtain ⟨g1, g2, g3, g4, g5, g6, _⟩ := opG_eqs (o := iN a) i4 gl
        have hSm : Sm (opG σ (iN a) gl) (opR σ (iN a) lz gl).2 := raF_sm lz (opL σ (iN a)).2.2 (clos (Zn σ) (iN a)) (opG σ (iN a) gl)
        split
        · obtain ⟨⟨zb, zu, zw, g, e⟩, _⟩ := toF_facts (opL σ (iN a)).2.2 6 0 (zGl (opR σ (iN a) lz gl).2 ((Gl (opR σ (iN a) lz gl).2).take (Gl σ).length))
          refine Gd.of (hW.openR hn hz2 hok2 lz gl) ?_ ?_
          · show Ev (toF _ _ _ _) = _
            rw [e]; exact hSm.eqs.2.2.2.1.trans g4
          · show Zo (toF _ _ _ _) = _
            rw [e]; exact hSm.eqs.2.2.2.2.1.trans g2
        · obtain ⟨h1, h2, h3, h4⟩ := hW.opnd hn hz2 hok2 lz gl
          refine ⟨h1.op hn h2, h3, fun p hp => ?_⟩
          show va_up (Zo (opB σ (iN a) lz gl)) (iN a) (Zo σ (iN a) + 1) p ≤ _
          by_cases hp2 : p = iN a
          · rw [hp2, va_up_self]; omega
          · rw [va_up_ne _ _ hp2, h4]; omega
