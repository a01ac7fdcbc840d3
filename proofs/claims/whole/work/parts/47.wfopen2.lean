theorem Wf.fail {σ σ2 : Sg} (hW : Wf σ) {nw : List Nat} (h6 : ∀ p ∈ nw, p < 6) (hnw : ∀ z ∈ nw, Zb σ z = none) (hG2 : Wg σ2) (en : Zn σ2 = Zn σ) (eo : Zo σ2 = Zo σ) (eB : Bg σ2 = Bg σ) (hzb : ∀ p, p ∉ nw → Zb σ2 p = Zb σ p) (hzu : ∀ p, p ∉ nw → Zu σ2 p = Zu σ p) : Wf (toF nw 6 0 (zGl σ2 (Gl σ))) := by
  obtain ⟨⟨m, w1, w1b, w1c⟩, w2, w3, w4, w5, w6, w7, w8, w9⟩ := hW
  obtain ⟨⟨m', v1, v1b, v1c⟩, v2, v8⟩ := hG2
  obtain ⟨m1, m2, m3, m4, m5⟩ := m'
  obtain ⟨⟨zb, zu, zw, gl, e⟩, f1, f2, f3, f4, f5, f6⟩ := toF_facts nw 6 0 (zGl σ2 (Gl σ))
  have es : Zs (toF nw 6 0 (zGl σ2 (Gl σ))) = Zs σ2 := by rw [e]; rfl
  have en' : Zn (toF nw 6 0 (zGl σ2 (Gl σ))) = Zn σ := by rw [e]; exact en
  have ey : Zy (toF nw 6 0 (zGl σ2 (Gl σ))) = Zy σ2 := by rw [e]; rfl
  have er : Zr (toF nw 6 0 (zGl σ2 (Gl σ))) = Zr σ2 := by rw [e]; rfl
  have eg : Zg (toF nw 6 0 (zGl σ2 (Gl σ))) = Zg σ2 := by rw [e]; rfl
  have eo' : Zo (toF nw 6 0 (zGl σ2 (Gl σ))) = Zo σ := by rw [e]; exact eo
  have eB' : Bg (toF nw 6 0 (zGl σ2 (Gl σ))) = Bg σ := by rw [e]; exact eB
  have hgl : Gl (toF nw 6 0 (zGl σ2 (Gl σ))) = Gl σ := by
    rw [f3]
    show (Gl σ).filter _ = Gl σ
    rw [List.filter_eq_self]
    intro z hz
    rw [decide_eq_false (fun k => (w1c z hz).2 (hnw z k.1))]; rfl
  have hzb2 : ∀ p, Zb (toF nw 6 0 (zGl σ2 (Gl σ))) p = Zb σ p := fun p => by
    by_cases hp : p ∈ nw
    · rw [(f1 p).1 ((inN60 h6).mpr hp), hnw p hp]
    · rw [(f1 p).2 (fun k => hp k.1)]; exact hzb p hp
  have hsome : ∀ p b, Zb (toF nw 6 0 (zGl σ2 (Gl σ))) p = some b → Zb σ2 p = some b := fun p b h => by
    by_cases hp : p ∈ nw
    · rw [(f1 p).1 ((inN60 h6).mpr hp)] at h; cases h
    · rw [(f1 p).2 (fun k => hp k.1)] at h; exact h
  have hin : ∀ a q, inIm (toF nw 6 0 (zGl σ2 (Gl σ))) a q = true → inIm σ2 a q = true := fun a q h => by
    obtain ⟨b, h1, h2⟩ := inIm_iff.mp h
    rw [es] at h2
    exact inIm_iff.mpr ⟨b, hsome q b h1, h2⟩
  refine ⟨⟨⟨by rw [es]; exact m1, fun p b hp hb => by rw [es]; exact m2 p b hp (hsome p b hb), fun p q a hp hq hne i1 i2 => m3 p q a hp hq hne (hin a p i1) (hin a q i2), fun p hp y hy => ?_, fun p hp y hy => ?_⟩, by rw [ey]; exact v1, by rw [eg]; exact v1b, fun q hq => ?_⟩, ⟨fun a ha ht => ?_, fun p hp hb q hq => ?_⟩, by rw [en']; exact w3, by rw [eB']; exact w4, fun p hp => by rw [eB', hzb2]; exact w5 p hp, by rw [hgl]; exact w6, fun p hp hl q hq => ?_, fun p q hp hu => ?_, fun p hp hzo => ?_⟩
  · rw [er] at hy
    have := m4 p hp y hy
    unfold RlOk at this ⊢
    rw [es, ey]; exact this
  · rw [ey] at hy
    have := m5 p hp y hy
    unfold SyOk at this ⊢
    rw [es]; exact this
  · rw [hgl] at hq
    rw [hzb2]; exact w1c q hq
  · cases htk : tkn σ2 a with
    | false => exact f6 a (v2.1 a ha htk)
    | true =>
      obtain ⟨p, hp, hi⟩ := tkn_ex.mp htk
      by_cases hpn : p ∈ nw
      · exact f5 a p ((inN60 h6).mpr hpn) hi
      · have := tkn_no ht hp
        rw [inIm_zb (show Zb (toF nw 6 0 (zGl σ2 (Gl σ))) p = Zb σ2 p from (f1 p).2 (fun k => hpn k.1)) es, hi] at this
        cases this
  · by_cases hpn : p ∈ nw
    · exact (f2 p).1 ((inN60 h6).mpr hpn) q
    · have hz : Zb (toF nw 6 0 (zGl σ2 (Gl σ))) p = Zb σ2 p := (f1 p).2 (fun k => hpn k.1)
      rw [(f2 p).2 (fun k => hpn k.1)]
      exact v2.2 p hp (by rw [← hz]; exact hb) q hq
  · rw [en'] at hq
    rw [hzb2] at hl ⊢
    exact w7 p hp hl q hq
  · by_cases hpn : p ∈ nw
    · rw [(f2 p).1 ((inN60 h6).mpr hpn) q] at hu; cases hu
    · rw [(f2 p).2 (fun k => hpn k.1)] at hu
      have hu2 : Zu σ2 p q = true := hu
      rw [hzu p hpn] at hu2
      rw [hzb2]
      exact w8 p q hp hu2
  · rw [eo'] at hzo
    rw [hzb2]; exact w9 p hp hzo
theorem Sl.more {σ σ' : Sg} (h : Sl σ σ') : Zy σ' = Zy σ ∧ Zr σ' = Zr σ ∧ Zu σ' = Zu σ ∧ Zw σ' = Zw σ := by obtain ⟨u, w, rfl⟩ := h; exact ⟨rfl, rfl, rfl, rfl⟩
theorem opL_wg {σ : Sg} (hW : Wf σ) {o : Nat} (ho : o < 6) (hz : ∀ p ∈ clos (Zn σ) o, 1 ≤ Zs σ p) : Wg (opL σ o).2.1 := by
  obtain ⟨hR, w2, w3, w4, w5, w6, w7, w8, w9⟩ := hW
  obtain ⟨hl, hol, hlc⟩ := clos_facts w3 ho
  obtain ⟨i1, i2, i3, i4, i5, i6, i7, i8⟩ := ldF_facts (clos (Zn σ) o) (clos (Zn σ) o) σ [] hl.2 hR.1 hz ⟨by simp, by simp⟩ (by simp)
  have hld : ∀ q, ¬ Zb σ q = none → ¬ Zb (opL σ o).2.1 q = none := fun q hq => by
    show ¬ Zb (ldF _ _ _ _).2.1 q = none
    rw [(i6 q (Or.inr hq)).1]; exact hq
  have hy : Zy (opL σ o).2.1 = Zy σ := i4.more.1
  have hu : Zu (opL σ o).2.1 = Zu σ := i4.more.2.2.1
  have hgl : Gl (opL σ o).2.1 = Gl σ := i4.wm_zs.2.2.1
  refine ⟨⟨i1, fun p hp => by rw [hy]; exact hR.2.1 p hp, fun p hp q hq => ?_, fun q hq => ?_⟩, ldF_W0 _ _ _ _ hl.2 w2, fun p q hp h => ?_⟩
  · by_cases hpn : p ∈ (opL σ o).2.2 ∧ Zb σ p = none
    · rw [show Zg (opL σ o).2.1 p = clos (Zn σ) o from i7 p hpn.1 hpn.2] at hq
      exact hl.2 q hq
    · have h := (i6 p (by
        by_cases h1 : p ∈ (opL σ o).2.2
        · exact Or.inr (fun h2 => hpn ⟨h1, h2⟩)
        · exact Or.inl h1)).2
      rw [show Zg (opL σ o).2.1 p = Zg σ p from h] at hq
      exact hR.2.2.1 p hp q hq
  · rw [hgl] at hq; exact ⟨(hR.2.2.2 q hq).1, hld q (hR.2.2.2 q hq).2⟩
  · rw [hu] at h
    exact ⟨(w8 p q hp h).1, hld q (w8 p q hp h).2⟩
theorem opG_wg {σ : Sg} (hW : Wf σ) {o : Nat} (ho : o < 6) (hz : ∀ p ∈ clos (Zn σ) o, 1 ≤ Zs σ p) (hok : (opL σ o).1 = true) (gl : Bool) : Wg (opG σ o gl) := by
  have h1 := opL_wg hW ho hz
  have h2 := opG_rv hW.1 hW.2.2.1 hW.2.2.2.2.2.1 ho hz hok gl
  refine ⟨h2, ?_, ?_⟩
  · unfold opG
    split
    · exact h1.2.1
    · exact h1.2.1
  · unfold opG
    split
    · exact h1.2.2
    · exact h1.2.2
theorem opG_eqs {σ : Sg} {o : Nat} (h : Sl σ (opL σ o).2.1) (gl : Bool) : Zn (opG σ o gl) = Zn σ ∧ Zo (opG σ o gl) = Zo σ ∧ Bg (opG σ o gl) = Bg σ ∧ Ev (opG σ o gl) = Ev σ ∧ Zb (opG σ o gl) = Zb (opL σ o).2.1 ∧ Zu (opG σ o gl) = Zu σ ∧ ∃ t, Gl (opG σ o gl) = Gl σ ++ t := by
  obtain ⟨a1, a2, a3, a4, a5, a6⟩ := h.wm_zs
  unfold opG
  split
  · refine ⟨a2, a5, a6, a4, rfl, h.more.2.2.1, ?_⟩
    show ∃ t, (clos (Zn σ) o).foldl rput (Gl (opL σ o).2.1) = Gl σ ++ t
    rw [a3]
    exact fold_pre _ _
  · exact ⟨a2, a5, a6, a4, rfl, h.more.2.2.1, [], by rw [a3]; simp⟩
theorem Wf.openF {σ : Sg} (hW : Wf σ) {o : Nat} (ho : o < 6) (hz : ∀ p ∈ clos (Zn σ) o, 1 ≤ Zs σ p) : Wf (toF (opL σ o).2.2 6 0 (opL σ o).2.1) := by
  obtain ⟨hl, hol, hlc⟩ := clos_facts hW.2.2.1 ho
  obtain ⟨i1, i2, i3, i4, i5, i6, i7, i8⟩ := ldF_facts (clos (Zn σ) o) (clos (Zn σ) o) σ [] hl.2 hW.1.1 hz ⟨by simp, by simp⟩ (by simp)
  have hgl : Gl (opL σ o).2.1 = Gl σ := i4.wm_zs.2.2.1
  have h := hW.fail (σ2 := (opL σ o).2.1) (nw := (opL σ o).2.2) i2.2 (fun z h => ((i5 z).1 h).elim (fun g => by simp at g) (fun g => g.2)) (opL_wg hW ho hz) i4.wm_zs.2.1 i4.wm_zs.2.2.2.2.1 i4.wm_zs.2.2.2.2.2 (fun p hp => (i6 p (Or.inl hp)).1) (fun p _ => by rw [show Zu (opL σ o).2.1 = Zu σ from i4.more.2.2.1])
  rw [← hgl] at h
  exact h
theorem Wf.openR {σ : Sg} (hW : Wf σ) {o : Nat} (ho : o < 6) (hz : ∀ p ∈ clos (Zn σ) o, 1 ≤ Zs σ p) (hok : (opL σ o).1 = true) (lz gl : Bool) : Wf (toF (opL σ o).2.2 6 0 (zGl (opR σ o lz gl).2 ((Gl (opR σ o lz gl).2).take (Gl σ).length))) := by
  obtain ⟨hl, hol, hlc⟩ := clos_facts hW.2.2.1 ho
  obtain ⟨i1, i2, i3, i4, i5, i6, i7, i8⟩ := ldF_facts (clos (Zn σ) o) (clos (Zn σ) o) σ [] hl.2 hW.1.1 hz ⟨by simp, by simp⟩ (by simp)
  obtain ⟨g1, g2, g3, g4, g5, g6, ⟨t, g7⟩⟩ := opG_eqs (o := o) i4 gl
  have hSm : Sm (opG σ o gl) (opR σ o lz gl).2 := raF_sm lz (opL σ o).2.2 (clos (Zn σ) o) (opG σ o gl)
  obtain ⟨r1, r2⟩ := Wg.ra lz (nw := (opL σ o).2.2) (clos (Zn σ) o) (opG σ o gl) hl.2 (opG_wg hW ho hz hok gl) (by rw [g5]; exact i3)
  have hgl : (Gl (opR σ o lz gl).2).take (Gl σ).length = Gl σ := by rw [hSm.eqs.2.2.1, g7, List.take_left]
  rw [hgl]
  exact hW.fail (σ2 := (opR σ o lz gl).2) i2.2 (fun z h => ((i5 z).1 h).elim (fun g => by simp at g) (fun g => g.2)) r1 (hSm.eqs.2.1.trans g1) (hSm.eqs.2.2.2.2.1.trans g2) (hSm.eqs.2.2.2.2.2.trans g3) (fun p hp => by rw [hSm.zb, g5]; exact (i6 p (Or.inl hp)).1) (fun p hp => by rw [show Zu (opR σ o lz gl).2 p = Zu (opG σ o gl) p from r2 p hp, g6])
theorem Wf.opnd {σ : Sg} (hW : Wf σ) {o : Nat} (ho : o < 6) (hz : ∀ p ∈ clos (Zn σ) o, 1 ≤ Zs σ p) (hok : (opL σ o).1 = true) (lz gl : Bool) : Wf (opB σ o lz gl) ∧ ¬ Zb (opB σ o lz gl) o = none ∧ (Ev (opB σ o lz gl)).length ≤ (Ev σ).length + 6 ∧ Zo (opB σ o lz gl) = Zo σ := by
  obtain ⟨hl, hol, hlc⟩ := clos_facts hW.2.2.1 ho
  obtain ⟨i1, i2, i3, i4, i5, i6, i7, i8⟩ := ldF_facts (clos (Zn σ) o) (clos (Zn σ) o) σ [] hl.2 hW.1.1 hz ⟨by simp, by simp⟩ (by simp)
  obtain ⟨g1, g2, g3, g4, g5, g6, ⟨t, g7⟩⟩ := opG_eqs (o := o) i4 gl
  have hSm : Sm (opG σ o gl) (opR σ o lz gl).2 := raF_sm lz (opL σ o).2.2 (clos (Zn σ) o) (opG σ o gl)
  obtain ⟨r1, r2⟩ := Wg.ra lz (nw := (opL σ o).2.2) (clos (Zn σ) o) (opG σ o gl) hl.2 (opG_wg hW ho hz hok gl) (by rw [g5]; exact i3)
  obtain ⟨⟨m, w1, w1b, w1c⟩, w2, w3, w4, w5, w6, w7, w8, w9⟩ := hW
  have hnw : ∀ z ∈ (opL σ o).2.2, Zb σ z = none := fun z h => ((i5 z).1 h).elim (fun g => by simp at g) (fun g => g.2)
  have hnl : ∀ z ∈ (opL σ o).2.2, z ∈ clos (Zn σ) o := fun z h => ((i5 z).1 h).elim (fun g => by simp at g) (fun g => g.1)
  have hZn : Zn (opR σ o lz gl).2 = Zn σ := hSm.eqs.2.1.trans g1
  have hZo : Zo (opR σ o lz gl).2 = Zo σ := hSm.eqs.2.2.2.2.1.trans g2
  have hBg : Bg (opR σ o lz gl).2 = Bg σ := hSm.eqs.2.2.2.2.2.trans g3
  have hEv : Ev (opR σ o lz gl).2 = Ev σ := hSm.eqs.2.2.2.1.trans g4
  have hZb : Zb (opR σ o lz gl).2 = Zb (opL σ o).2.1 := hSm.zb.trans g5
  have hall : ∀ p ∈ clos (Zn σ) o, ¬ Zb (opR σ o lz gl).2 p = none := fun p hp => by rw [hZb]; exact i8 hok p hp
  have hold : ∀ p, ¬ Zb σ p = none → ¬ Zb (opR σ o lz gl).2 p = none := fun p hp => by rw [hZb]; show ¬ Zb (ldF _ _ _ _).2.1 p = none; rw [(i6 p (Or.inr hp)).1]; exact hp
  have hcase : ∀ p, ¬ Zb (opR σ o lz gl).2 p = none → ¬ Zb σ p = none ∨ p ∈ (opL σ o).2.2 := fun p hp => by
    by_cases h : p ∈ (opL σ o).2.2
    · exact Or.inr h
    · rw [hZb] at hp
      rw [show Zb (opL σ o).2.1 p = Zb σ p from (i6 p (Or.inl h)).1] at hp
      exact Or.inl hp
  have hGl6 : Rw6 (Gl (opR σ o lz gl).2) := by
    rw [hSm.eqs.2.2.1]
    unfold opG
    split
    · show Rw6 ((clos (Zn σ) o).foldl rput (Gl (opL σ o).2.1))
      rw [show Gl (opL σ o).2.1 = Gl σ from i4.wm_zs.2.2.1]
      exact (fold_facts _ _ w6 hl.2).1
    · rw [show Gl (opL σ o).2.1 = Gl σ from i4.wm_zs.2.2.1]; exact w6
  have main : ∀ ls : List Nat, (∀ z, z ∈ ls ↔ z ∈ (opL σ o).2.2) → Wf (zBn (opR σ o lz gl).2 ls) := fun ls hls => by
    have hls6 : ∀ z ∈ ls, z < 6 := fun z h => i2.2 z ((hls z).mp h)
    obtain ⟨b1, b2⟩ := fold_facts ls (Bg σ) w4 hls6
    refine ⟨r1.1, r1.2.1, by rw [← hZn] at w3; exact w3, ?_, fun p hp => ?_, hGl6, fun p hp hlp q hq => ?_, r1.2.2, fun p hp hzo => ?_⟩
    · show Rw6 (ls.foldl rput (Bg (opR σ o lz gl).2))
      rw [hBg]; exact b1
    · show p ∈ ls.foldl rput (Bg (opR σ o lz gl).2) ↔ _
      rw [hBg, b2, w5 p hp, hls]
      constructor
      · rintro (h | h)
        · exact hold p h
        · exact hall p (hnl p h)
      · exact hcase p
    · have hq2 : q ∈ Zn σ p := by rw [← hZn]; exact hq
      rcases hcase p hlp with h | h
      · exact hold q (w7 p hp h q hq2)
      · exact hall q (hlc p (hnl p h) q hq2)
    · have hzo2 : ¬ Zo (opR σ o lz gl).2 p = 0 := hzo
      rw [hZo] at hzo2
      exact hold p (w9 p hp hzo2)
  unfold opB
  by_cases hin : o ∈ (opL σ o).2.2
  · rw [if_pos hin]
    obtain ⟨d1, d2, d3, d4⟩ := dfF_sub (Zn σ) 5 o ((opL σ o).2.2, []) hin
    have d5 := dfF_len (Zn σ) 5 o ((opL σ o).2.2, []) hin
    obtain ⟨v1, v2, v3, v4⟩ := dfF_vis (Zn σ) 5 o ((opL σ o).2.2, []) hin i2.len
    have hR : ∀ x ∈ clos (Zn σ) o, x ∈ clos (Zn σ) o ∧ x ∉ (dfF (Zn σ) 5 o ((opL σ o).2.2, [])).1 := clos_min (P := fun x => x ∈ clos (Zn σ) o ∧ x ∉ (dfF (Zn σ) 5 o ((opL σ o).2.2, [])).1) (fun x hx q hq => ⟨hlc x hx.1 q hq, by
      by_cases hxn : x ∈ (opL σ o).2.2
      · exact v1 x hxn hx.2 q hq
      · have hxl := (hcase x (hall x hx.1)).resolve_right hxn
        exact fun g => w7 x (hl.2 x hx.1) hxl q hq (hnw q (d1 q g))⟩) ⟨hol, v2⟩
    refine ⟨main _ (fun z => ⟨fun h => (d4 z h).elim (fun g => by cases g) (fun g => g.1), fun h => (v3 z h).resolve_left (hR z (hnl z h)).2⟩), hall o hol, ?_, hZo⟩
    show (Ev (opR σ o lz gl).2 ++ ((dfF (Zn σ) 5 o ((opL σ o).2.2, [])).2).map nI).length ≤ _
    rw [List.length_append, List.length_map, hEv]
    have := i2.len
    have d6 : (dfF (Zn σ) 5 o ((opL σ o).2.2, [])).1.length + (dfF (Zn σ) 5 o ((opL σ o).2.2, [])).2.length ≤ (opL σ o).2.2.length + 0 := d5
    have h7 : (opL σ o).2.2.length ≤ 6 := this
    omega
  · rw [if_neg hin]
    have hol2 : ¬ Zb σ o = none := (hcase o (hall o hol)).resolve_right hin
    have hR : ∀ x ∈ clos (Zn σ) o, x < 6 ∧ ¬ Zb σ x = none := clos_min (P := fun x => x < 6 ∧ ¬ Zb σ x = none) (fun x hx q hq => ⟨w3 x hx.1 q hq, w7 x hx.1 hx.2 q hq⟩) ⟨ho, hol2⟩
    have h := main [] (fun z => ⟨fun h => (by cases h), fun h => absurd (hnw z h) (hR z (hnl z h)).2⟩)
    have hz0 : zBn (opR σ o lz gl).2 [] = (opR σ o lz gl).2 := by simp [zBn, zBj]
    rw [hz0] at h
    exact ⟨h, hall o hol, by rw [hEv]; omega, hZo⟩
