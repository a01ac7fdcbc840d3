/-! THE SPECIFICATION of the public methods over the state, and that the class keeps it. -/
abbrev oN (a : Int32) : Prop := a < 0 ∨ (6 : Int32) ≤ a
def xk : jr → Nat
  | .inl _ => 0
  | .inr _ => 1
def CP (ω : jw) (J sl : Nat) (M : Nat → Nat → Int32) (Q : jr → jh → Prop) (z : jr × Sg) : Prop := ∀ M', CS M' z.2 → Cl M M' → Q z.1 (jst ω M' (J + xk z.1) (sl + 6 * xk z.1))
abbrev rI (v : Int32) : jr := .inl (some (.int v))
theorem iN6 {n : Nat} (h : n < 6) : iN (nI n) = n := iN_nI (by omega)
abbrev fixd (σ : Sg) (p : Nat) : Prop := Zs σ p = 0 ∨ ¬ Zb σ p = none
def zImg (σ : Sg) (p w : Nat) : Sg := (va_up (Zs σ) p w, va_up (Zn σ) p [], va_up (Zy σ) p [], va_up (Zr σ) p [], σ.2.2.2.2)
def zNeed (σ : Sg) (p q : Nat) : Sg := (Zs σ, va_up (Zn σ) p (Zn σ p ++ [q]), σ.2.2)
def zSym (σ : Sg) (p : Nat) (y : Sym) : Sg := (Zs σ, Zn σ, va_up (Zy σ) p (Zy σ p ++ [y]), σ.2.2.2)
def zRel (σ : Sg) (p : Nat) (y : Rel) : Sg := (Zs σ, Zn σ, Zy σ, va_up (Zr σ) p (Zr σ p ++ [y]), σ.2.2.2.2)
def zOp (σ : Sg) (p n : Nat) : Sg := (Zs σ, Zn σ, Zy σ, Zr σ, Zb σ, Zg σ, Zu σ, va_up (Zo σ) p n, σ.2.2.2.2.2.2.2.2)
def spImage (σ : Sg) (a w : Int32) : jr × Sg := if oN a then (.inr 0, σ) else if w < 1 ∨ ¬ w ≤ 8 then (.inr 1, σ) else if ¬ Zb σ (iN a) = none then (.inr 2, σ) else (.inl none, zImg σ (iN a) (iN w))
def spNeed (σ : Sg) (a b : Int32) : jr × Sg := if oN a then (.inr 0, σ) else if oN b then (.inr 0, σ) else if a = b ∨ iN b ∈ Zn σ (iN a) then (.inr 1, σ) else if fixd σ (iN a) ∨ ¬ nI (Zn σ (iN a)).length < 3 then (.inr 2, σ) else (rI (nI ((Zn σ (iN a)).length + 1)), zNeed σ (iN a) (iN b))
def spSymbol (σ : Sg) (a nm w : Int32) (fl : Bool) : jr × Sg := if oN a then (.inr 0, σ) else if nmB nm = false ∨ (∃ s ∈ Zy σ (iN a), s.1 = nm) ∨ (¬ w = -1 ∧ (w < 0 ∨ nI (Zs σ (iN a)) ≤ w)) then (.inr 1, σ) else if fixd σ (iN a) ∨ ¬ nI (Zy σ (iN a)).length < 6 then (.inr 2, σ) else (rI (nI (Zy σ (iN a)).length), zSym σ (iN a) (nm, w, fl && decide (w = -1)))
def spReloc (σ : Sg) (a k w s ad : Int32) : jr × Sg := if oN a then (.inr 0, σ) else if k < 0 ∨ (2 : Int32) < k ∨ (w < 0 ∨ nI (Zs σ (iN a)) ≤ w) then (.inr 1, σ) else if ¬ k = 0 ∧ (s < 0 ∨ ¬ s < nI (Zy σ (iN a)).length) then (.inr 1, σ) else if fixd σ (iN a) ∨ ¬ nI (Zr σ (iN a)).length < 6 then (.inr 2, σ) else (rI (nI (Zr σ (iN a)).length), zRel σ (iN a) (k, w, s, ad))
def rlAt (σ : Sg) (p : Nat) (r : Int32) : Rel := (Zr σ p).getD (iN r) (0, 0, 0, 0)
def adAt (σ : Sg) (p : Nat) (y : Rel) : Nat := (Zb σ p).getD 0 + iN y.2.1
def spCall (σ : Sg) (a r : Int32) : jr × Sg := if oN a then (.inr 0, σ) else if r < 0 ∨ ¬ r < nI (Zr σ (iN a)).length then (.inr 0, σ) else if ¬ (rlAt σ (iN a) r).1 = 2 then (.inr 1, σ) else if Zb σ (iN a) = none then (.inr 2, σ) else
  if Zw σ (adAt σ (iN a) (rlAt σ (iN a) r)) = -1 - r then (if (rsF σ (iN a) (syAt σ (iN a) (rlAt σ (iN a) r))).1 = -1 then (.inr 3, (rsF σ (iN a) (syAt σ (iN a) (rlAt σ (iN a) r))).2) else (rI (rsF σ (iN a) (syAt σ (iN a) (rlAt σ (iN a) r))).1, zWd (rsF σ (iN a) (syAt σ (iN a) (rlAt σ (iN a) r))).2 (adAt σ (iN a) (rlAt σ (iN a) r)) (rsF σ (iN a) (syAt σ (iN a) (rlAt σ (iN a) r))).1)) else (rI (Zw σ (adAt σ (iN a) (rlAt σ (iN a) r))), σ)
def spFind (σ : Sg) (a nm : Int32) : jr × Sg := if oN a then (.inr 0, σ) else if nmB nm = false then (.inr 1, σ) else if Zb σ (iN a) = none then (.inr 2, σ) else
  match (fdF σ nm (clos (Zn σ) (iN a)) (Sp σ)).1 with
  | none => (.inr 3, zSt σ (fdF σ nm (clos (Zn σ) (iN a)) (Sp σ)).2)
  | some q => (rI (bI (Zb σ q) + plcF nm (Zy σ q)), zSt σ (fdF σ nm (clos (Zn σ) (iN a)) (Sp σ)).2)
def spWord (σ : Sg) (a : Int32) : jr × Sg := if a < 0 ∨ ¬ a < 32 then (.inr 0, σ) else (rI (Zw σ (iN a)), σ)
def spStore (σ : Sg) (a v : Int32) : jr × Sg := if a < 0 ∨ ¬ a < 32 ∨ tkn σ (iN a) = false then (rI 0, σ) else (rI 1, zWd σ (iN a) v)
def spBase (σ : Sg) (a : Int32) : jr × Sg := if oN a then (rI (-1), σ) else (rI (bI (Zb σ (iN a))), σ)
def spOpened (σ : Sg) (a : Int32) : jr × Sg := if oN a then (rI 0, σ) else (rI (nI (Zo σ (iN a))), σ)
def spGlobal (σ : Sg) (a : Int32) : jr × Sg := if a < 0 ∨ nI (Gl σ).length ≤ a then (rI (-1), σ) else (rI (nI ((Gl σ).getD (iN a) 0)), σ)
def spEvents (σ : Sg) : jr × Sg := (rI (nI (Ev σ).length), σ)
def spEvent (σ : Sg) (a : Int32) : jr × Sg := if a < 0 ∨ (40 : Int32) ≤ a ∨ ¬ a < nI (Ev σ).length then (.inr 3, σ) else (rI ((Ev σ).getD ((Ev σ).length - 1 - iN a) 0), σ)
def spSteps (σ : Sg) : jr × Sg := (rI (Sp σ), σ)
theorem CS_lk {M M' : Nat → Nat → Int32} {σ σ' : Sg} {p : Nat} (hC : CS M σ) (hA : ∀ k i, k < 13 + 15 * p ∨ 13 + 15 * p + 14 < k → M' k i = M k i) (hL : LkIs M' σ' p) (hQ : ∀ q, q ≠ p → Zs σ' q = Zs σ q ∧ Zb σ' q = Zb σ q ∧ Zo σ' q = Zo σ q ∧ Zu σ' q = Zu σ q ∧ Zn σ' q = Zn σ q ∧ Zy σ' q = Zy σ q ∧ Zr σ' q = Zr σ q ∧ Zg σ' q = Zg σ q) (hT : ∀ a, tkn σ' a = tkn σ a) (hE : Zw σ' = Zw σ ∧ Gl σ' = Gl σ ∧ Bg σ' = Bg σ ∧ Ev σ' = Ev σ ∧ Sp σ' = Sp σ) : CS M' σ' := by
  obtain ⟨c1, c2, c3, c4, c5, ⟨l0, c6⟩, c7⟩ := hC
  obtain ⟨e1, e2, e3, e4, e5⟩ := hE
  refine ⟨fun q hq => ?_, fun a ha => ?_, ?_, ?_, ?_, ⟨l0, c6.eqs (fun i => hA _ _ (by omega)) (fun i => hA _ _ (by omega))⟩, ?_⟩
  · by_cases hqp : q = p
    · rw [hqp]; exact hL
    · obtain ⟨g1, g2, g3, g4, g5, g6, g7, g8⟩ := hQ q hqp
      exact (c1 q hq).eqs (fun k i a b => hA _ _ (by omega)) g1 g2 g3 g4 g5 g6 g7 g8
  · obtain ⟨g1, g2⟩ := c2 a ha
    rw [hA _ _ (by omega), hA _ _ (by omega), hT, e1]
    exact ⟨g1, g2⟩
  · rw [e4]; exact c3.eqs (fun i => hA _ _ (by omega)) (fun i => hA _ _ (by omega))
  · rw [e2]; exact c4.eqs (fun i => hA _ _ (by omega)) (fun i => hA _ _ (by omega))
  · rw [e3]; exact c5.eqs (fun i => hA _ _ (by omega)) (fun i => hA _ _ (by omega))
  · rw [e5, hA _ _ (by omega)]; exact c7
theorem CS_img {M M' : Nat → Nat → Int32} {σ : Sg} {p w : Nat} (hC : CS M σ) (hp : p < 6) (hb : Zb σ p = none) (he : M' = mup (mup (mup (mup M (13 + 15 * p) 4 (nI w)) (13 + 15 * p + 1) 1 (if 0 < M (13 + 15 * p + 1) 1 then 0 else M (13 + 15 * p + 1) 1)) (13 + 15 * p + 3) 4 0) (13 + 15 * p + 8) 4 0) : CS M' (zImg σ p w) := by
  subst he
  have hLk := hC.1 p hp
  obtain ⟨h1, h2, h3, h4, h5, h6, h7, h8⟩ := hLk
  have e0 : (if 0 < M (13 + 15 * p + 1) 1 then 0 else M (13 + 15 * p + 1) 1) = nI 0 := by
    rw [h5.1]
    split
    · rfl
    · rename_i hn
      have h6' := h5.2.1
      cases hl : (Zn σ p).length with
      | zero => rfl
      | succ n =>
        rw [hl] at hn h6'
        refine absurd (Int32.lt_iff_toInt_lt.mpr ?_) hn
        rw [nI_toInt (by omega)]
        show (0 : Int) < ((n + 1 : Nat) : Int)
        omega
  rw [e0]
  refine CS_lk hC (p := p) (fun k i hk => by rw [mup_ne _ _ (Or.inl (by omega)), mup_ne _ _ (Or.inl (by omega)), mup_ne _ _ (Or.inl (by omega)), mup_ne _ _ (Or.inl (by omega))]) ⟨?_, ?_, ?_, ?_, ?_, ?_, ?_, ?_⟩ (fun q hq => ⟨va_up_ne _ _ hq, rfl, rfl, rfl, va_up_ne _ _ hq, va_up_ne _ _ hq, va_up_ne _ _ hq, rfl⟩) (fun a => ?_) ⟨rfl, rfl, rfl, rfl, rfl⟩
  · rw [mup_ne _ _ (Or.inl (by omega)), mup_ne _ _ (Or.inl (by omega)), mup_ne _ _ (Or.inl (by omega)), mup_at]
    show _ = nI (va_up (Zs σ) p w p)
    rw [va_up_self]
  · rw [mup_ne _ _ (Or.inl (by omega)), mup_ne _ _ (Or.inl (by omega)), mup_ne _ _ (Or.inl (by omega)), mup_ne _ _ (Or.inr (by omega))]; exact h2
  · rw [mup_ne _ _ (Or.inl (by omega)), mup_ne _ _ (Or.inl (by omega)), mup_ne _ _ (Or.inl (by omega)), mup_ne _ _ (Or.inr (by omega))]; exact h3
  · intro i hi
    rw [mup_ne _ _ (Or.inl (by omega)), mup_ne _ _ (Or.inl (by omega)), mup_ne _ _ (Or.inl (by omega)), mup_ne _ _ (Or.inr (by omega))]; exact h4 i hi
  · show RowIs _ _ (va_up (Zn σ) p [] p)
    rw [va_up_self]
    exact ⟨by rw [mup_ne _ _ (Or.inl (by omega)), mup_ne _ _ (Or.inl (by omega)), mup_at]; rfl, by simp, by simp, by simp⟩
  · show SymIs _ _ (va_up (Zy σ) p [] p)
    rw [va_up_self]
    exact ⟨by rw [mup_ne _ _ (Or.inl (by omega)), mup_at]; rfl, by simp, by simp⟩
  · show RelIs _ _ (va_up (Zr σ) p [] p)
    rw [va_up_self]
    exact ⟨by rw [mup_at]; rfl, by simp, by simp⟩
  · exact h8.eqs (fun i => by rw [mup_ne _ _ (Or.inl (by omega)), mup_ne _ _ (Or.inl (by omega)), mup_ne _ _ (Or.inl (by omega)), mup_ne _ _ (Or.inl (by omega))]) (fun i => by rw [mup_ne _ _ (Or.inl (by omega)), mup_ne _ _ (Or.inl (by omega)), mup_ne _ _ (Or.inl (by omega)), mup_ne _ _ (Or.inl (by omega))])
  · have h : ∀ q, inIm (zImg σ p w) a q = inIm σ a q := fun q => by
      unfold inIm
      show (match Zb σ q with | some b => decide (b ≤ a) && decide (a < b + va_up (Zs σ) p w q) | none => false) = _
      by_cases hq : q = p
      · subst hq; rw [hb]
      · rw [va_up_ne _ _ hq]; cases Zb σ q <;> rfl
    unfold tkn
    congr 1
    funext q
    exact h q
theorem CS_need {M M' : Nat → Nat → Int32} {σ : Sg} {p q : Nat} (hC : CS M σ) (hp : p < 6) (hO : OffRow M M' (13 + 15 * p + 1)) (hR : RowIs M' (13 + 15 * p + 1) (Zn σ p ++ [q])) : CS M' (zNeed σ p q) := by
  obtain ⟨h1, h2, h3, h4, h5, h6, h7, h8⟩ := hC.1 p hp
  refine CS_lk hC (p := p) (fun k i hk => hO _ _ (by omega) (by omega)) ⟨by rw [hO _ _ (by omega) (by omega)]; exact h1, by rw [hO _ _ (by omega) (by omega)]; exact h2, by rw [hO _ _ (by omega) (by omega)]; exact h3, fun i hi => by rw [hO _ _ (by omega) (by omega)]; exact h4 i hi, ?_, h6.eqs (fun k i a b => hO _ _ (by omega) (by omega)), h7.eqs (fun k i a b => hO _ _ (by omega) (by omega)), h8.eqs (fun i => hO _ _ (by omega) (by omega)) (fun i => hO _ _ (by omega) (by omega))⟩ (fun q hq => ⟨rfl, rfl, rfl, rfl, va_up_ne _ _ hq, rfl, rfl, rfl⟩) (fun a => rfl) ⟨rfl, rfl, rfl, rfl, rfl⟩
  show RowIs _ _ (va_up (Zn σ) p (Zn σ p ++ [q]) p)
  rw [va_up_self]
  exact hR
theorem CS_sym {M M' : Nat → Nat → Int32} {σ : Sg} {p : Nat} {y : Sym} (hC : CS M σ) (hp : p < 6) (hO : Off M M' (fun k => 13 + 15 * p + 3 ≤ k ∧ k ≤ 13 + 15 * p + 7)) (hR : SymIs M' p (Zy σ p ++ [y])) : CS M' (zSym σ p y) := by
  obtain ⟨h1, h2, h3, h4, h5, h6, h7, h8⟩ := hC.1 p hp
  refine CS_lk hC (p := p) (fun k i hk => hO _ _ (by omega)) ⟨by rw [hO _ _ (by omega)]; exact h1, by rw [hO _ _ (by omega)]; exact h2, by rw [hO _ _ (by omega)]; exact h3, fun i hi => by rw [hO _ _ (by omega)]; exact h4 i hi, h5.eqs (fun i => hO _ _ (by omega)) (fun i => hO _ _ (by omega)), ?_, h7.eqs (fun k i a b => hO _ _ (by omega)), h8.eqs (fun i => hO _ _ (by omega)) (fun i => hO _ _ (by omega))⟩ (fun q hq => ⟨rfl, rfl, rfl, rfl, rfl, va_up_ne _ _ hq, rfl, rfl⟩) (fun a => rfl) ⟨rfl, rfl, rfl, rfl, rfl⟩
  show SymIs _ _ (va_up (Zy σ) p (Zy σ p ++ [y]) p)
  rw [va_up_self]
  exact hR
theorem CS_rel {M M' : Nat → Nat → Int32} {σ : Sg} {p : Nat} {y : Rel} (hC : CS M σ) (hp : p < 6) (hO : Off M M' (fun k => 13 + 15 * p + 8 ≤ k ∧ k ≤ 13 + 15 * p + 12)) (hR : RelIs M' p (Zr σ p ++ [y])) : CS M' (zRel σ p y) := by
  obtain ⟨h1, h2, h3, h4, h5, h6, h7, h8⟩ := hC.1 p hp
  refine CS_lk hC (p := p) (fun k i hk => hO _ _ (by omega)) ⟨by rw [hO _ _ (by omega)]; exact h1, by rw [hO _ _ (by omega)]; exact h2, by rw [hO _ _ (by omega)]; exact h3, fun i hi => by rw [hO _ _ (by omega)]; exact h4 i hi, h5.eqs (fun i => hO _ _ (by omega)) (fun i => hO _ _ (by omega)), h6.eqs (fun k i a b => hO _ _ (by omega)), ?_, h8.eqs (fun i => hO _ _ (by omega)) (fun i => hO _ _ (by omega))⟩ (fun q hq => ⟨rfl, rfl, rfl, rfl, rfl, rfl, va_up_ne _ _ hq, rfl⟩) (fun a => rfl) ⟨rfl, rfl, rfl, rfl, rfl⟩
  show RelIs _ _ (va_up (Zr σ) p (Zr σ p ++ [y]) p)
  rw [va_up_self]
  exact hR
theorem CS_op {M M' : Nat → Nat → Int32} {σ : Sg} {p n : Nat} (hC : CS M σ) (hp : p < 6) (hA : ∀ k i, k ≠ 13 + 15 * p ∨ i ≠ 6 → M' k i = M k i) (h6 : M' (13 + 15 * p) 6 = nI n) : CS M' (zOp σ p n) := by
  obtain ⟨h1, h2, h3, h4, h5, h7, h8, h9⟩ := hC.1 p hp
  refine CS_lk hC (p := p) (fun k i hk => hA _ _ (by omega)) ⟨by rw [hA _ _ (by omega)]; exact h1, by rw [hA _ _ (by omega)]; exact h2, ?_, fun i hi => by rw [hA _ _ (by omega)]; exact h4 i hi, h5.eqs (fun i => hA _ _ (by omega)) (fun i => hA _ _ (by omega)), h7.eqs (fun k i a b => hA _ _ (by omega)), h8.eqs (fun k i a b => hA _ _ (by omega)), h9.eqs (fun i => hA _ _ (by omega)) (fun i => hA _ _ (by omega))⟩ (fun q hq => ⟨rfl, rfl, va_up_ne _ _ hq, rfl, rfl, rfl, rfl, rfl⟩) (fun a => rfl) ⟨rfl, rfl, rfl, rfl, rfl⟩
  rw [h6]
  show _ = nI (va_up (Zo σ) p n p)
  rw [va_up_self]
theorem fixd_iff {M : Nat → Nat → Int32} {σ : Sg} (hC : CS M σ) (hW : Wm σ) {p : Nat} (hp : p < 6) : (M (13 + 15 * p) 4 = 0 ∨ ¬ M (13 + 15 * p) 5 = -1) ↔ fixd σ p := by
  rw [(hC.1 p hp).1, hC.ld hW.wb hp]
  have : nI (Zs σ p) = 0 ↔ Zs σ p = 0 := by
    rw [← nI_0]
    exact nI_eq (by have := hW.1 p hp; omega) (by decide)
  rw [this]
theorem nI_iN {x : Int32} (h : 0 ≤ x.toInt) : nI (iN x) = x := Int32.toInt_inj.mp (by
  have h2 := Int32.toInt_lt x
  rw [nI_toInt (by unfold iN; omega)]
  unfold iN
  omega)
set_option maxRecDepth 100000 in
set_option maxHeartbeats 4000000 in
theorem c_checkLoaded {ω : jw} {d : Nat} {M : Nat → Nat → Int32} {J sl : Nat} {Q : jr → jh → Prop} {σ : Sg} (hC : CS M σ) (hW : Wm σ) (hJ : J < 1000) (hsl : sl < 1000000) {p : Nat} (hp : p < 6) (ht : ¬ Zb σ p = none → Q (.inl none) (jst ω M J sl)) (hf : Zb σ p = none → Q (.inr 2) (jst ω M (J + 1) (sl + 6))) : jwp ω (d + 1) mBO_checkLoaded [.ref (jN ω + 0), .int (nI p)] (jst ω M J sl) Q := by
  refine jwp_of (by simp [Value.category]) (Nat.le_of_ble_eq_true rfl) (ls := [some (.ref (jN ω + 0)), some (.int (nI p))]) rfl ?_
  refine jj_al0 dBO_checkLoaded_0 ?_
  refine mr_get _ dBO_checkLoaded_1 clBO lkBO_11 (s0 _) rfl ?_
  refine jj_il1 dBO_checkLoaded_4 ?_
  refine mr_aald dBO_checkLoaded_5 (hp) ?_
  refine mv0 dBO_checkLoaded_6 clLk cvBO_57 (sL0 hp _) (Nat.le_of_ble_eq_true rfl) ?_
  refine c_isLoaded hp (fun hld => jk_i ?_) (fun hld => jk_i ?_)
  · refine jj_if_ne 20 dBO_checkLoaded_9 (by decide) (fun _ => ?_) (fun h => absurd h (by decide))
    exact jj_vret dBO_checkLoaded_20 rfl (ht (fun h => hld ((hC.ld hW.wb hp).mpr h)))
  · refine jj_if_ne 20 dBO_checkLoaded_9 (by decide) (fun h => absurd h (by decide)) (fun _ => ?_)
    exact mr_throw 2 dBO_checkLoaded_12 dBO_checkLoaded_15 dBO_checkLoaded_16 dBO_checkLoaded_19 rfl thBO_61 (Nat.le_of_ble_eq_true rfl) hJ hsl (hf ((hC.ld hW.wb hp).mp hld))
set_option maxRecDepth 100000 in
set_option maxHeartbeats 4000000 in
theorem c_checkMayGrow {ω : jw} {d : Nat} {M : Nat → Nat → Int32} {J sl : Nat} {Q : jr → jh → Prop} {σ : Sg} (hC : CS M σ) (hW : Wm σ) (hJ : J < 1000) (hsl : sl < 1000000) {p : Nat} (hp : p < 6) (a b : Int32) (ht : ¬ (fixd σ p ∨ ¬ a < b) → Q (.inl none) (jst ω M J sl)) (hf : (fixd σ p ∨ ¬ a < b) → Q (.inr 2) (jst ω M (J + 1) (sl + 6))) : jwp ω (d + 1) mBO_checkMayGrow [.ref (jN ω + 0), .int (nI p), .int a, .int b] (jst ω M J sl) Q := by
  refine jwp_of (by simp [Value.category]) (Nat.le_of_ble_eq_true rfl) (ls := [some (.ref (jN ω + 0)), some (.int (nI p)), some (.int a), some (.int b), none]) rfl ?_
  refine jj_al0 dBO_checkMayGrow_0 ?_
  refine mr_get _ dBO_checkMayGrow_1 clBO lkBO_11 (s0 _) rfl ?_
  refine jj_il1 dBO_checkMayGrow_4 ?_
  refine mr_aald dBO_checkMayGrow_5 (hp) ?_
  refine jj_as4 dBO_checkMayGrow_6 ?_
  refine jj_al4 dBO_checkMayGrow_8 ?_
  refine mr_get _ dBO_checkMayGrow_10 clLk lkBO_212 (sL0 hp _) rfl ?_
  refine jj_if_eq 29 dBO_checkMayGrow_13 (by decide) (fun q1 => ?_) (fun q1 => ?_)
  · exact mr_throw 2 dBO_checkMayGrow_29 dBO_checkMayGrow_32 dBO_checkMayGrow_33 dBO_checkMayGrow_36 rfl thBO_61 (Nat.le_of_ble_eq_true rfl) hJ hsl (hf (Or.inl ((fixd_iff hC hW hp).mp (Or.inl q1))))
  · refine jj_al4 dBO_checkMayGrow_16 ?_
    refine mv0 dBO_checkMayGrow_18 clLk cvBO_57 (sL0 hp _) (Nat.le_of_ble_eq_true rfl) ?_
    refine c_isLoaded hp (fun hld => jk_i ?_) (fun hld => jk_i ?_)
    · refine jj_if_ne 29 dBO_checkMayGrow_21 (by decide) (fun _ => ?_) (fun h => absurd h (by decide))
      exact mr_throw 2 dBO_checkMayGrow_29 dBO_checkMayGrow_32 dBO_checkMayGrow_33 dBO_checkMayGrow_36 rfl thBO_61 (Nat.le_of_ble_eq_true rfl) hJ hsl (hf (Or.inl ((fixd_iff hC hW hp).mp (Or.inr hld))))
    · refine jj_if_ne 29 dBO_checkMayGrow_21 (by decide) (fun h => absurd h (by decide)) (fun _ => ?_)
      refine jj_il2 dBO_checkMayGrow_24 ?_
      refine jj_il3 dBO_checkMayGrow_25 ?_
      refine jj_icmp_lt 37 dBO_checkMayGrow_26 (by decide) (fun q2 => ?_) (fun q2 => ?_)
      · exact jj_vret dBO_checkMayGrow_37 rfl (ht (fun h => h.elim (fun g => ((fixd_iff hC hW hp).mpr g).elim q1 (fun g2 => g2 hld)) (fun g => g q2)))
      · exact mr_throw 2 dBO_checkMayGrow_29 dBO_checkMayGrow_32 dBO_checkMayGrow_33 dBO_checkMayGrow_36 rfl thBO_61 (Nat.le_of_ble_eq_true rfl) hJ hsl (hf (Or.inr q2))
set_option maxRecDepth 100000 in
set_option maxHeartbeats 4000000 in
theorem k_image {ω : jw} {d : Nat} {M : Nat → Nat → Int32} {J sl : Nat} {Q : jr → jh → Prop} {σ : Sg} (hC : CS M σ) (hW : Wm σ) (hJ : J < 1000) (hsl : sl < 1000000) (a w : Int32) (hq : CP ω J sl M Q (spImage σ a w)) : jwp ω (d + 3) mBO_image [.ref (jN ω + 0), .int a, .int w] (jst ω M J sl) Q := by
  refine c_image a w hJ hsl (fun h => ?_) (fun n hn he h => ?_) (fun n hn he h1 h2 h3 => ?_) (fun n hn he h1 h2 h3 => ?_)
  · rw [spImage, if_pos h] at hq; exact hq M hC (Cl.refl M)
  · subst he
    rw [spImage, if_neg (isObj_no hn), if_pos h] at hq; exact hq M hC (Cl.refl M)
  · subst he
    rw [spImage, if_neg (isObj_no hn), if_neg (fun h => h.elim h1 (fun g => g h2)), iN6 hn, if_pos (fun h => h3 ((hC.ld hW.wb hn).mpr h))] at hq; exact hq M hC (Cl.refl M)
  · subst he
    have hb := (hC.ld hW.wb hn).mp h3
    rw [spImage, if_neg (isObj_no hn), if_neg (fun h => h.elim h1 (fun g => g h2)), iN6 hn, if_neg (fun h => h hb)] at hq
    have hwe : nI (iN w) = w := nI_iN (by
      have a1 : ¬ w.toInt < 1 := fun h => h1 (Int32.lt_iff_toInt_lt.mpr h)
      omega)
    exact hq _ (CS_img hC hn hb (by rw [hwe])) (fun k i a => by rw [mup_ne _ _ (Or.inl (by omega)), mup_ne _ _ (Or.inl (by omega)), mup_ne _ _ (Or.inl (by omega)), mup_ne _ _ (Or.inl (by omega))])
set_option maxRecDepth 100000 in
set_option maxHeartbeats 4000000 in
theorem k_need {ω : jw} {d : Nat} {M : Nat → Nat → Int32} {J sl : Nat} {Q : jr → jh → Prop} {σ : Sg} (hC : CS M σ) (hW : Wm σ) (hJ : J < 1000) (hsl : sl < 1000000) (a b : Int32) (hq : CP ω J sl M Q (spNeed σ a b)) : jwp ω (d + 3) mBO_need [.ref (jN ω + 0), .int a, .int b] (jst ω M J sl) Q := by
  refine jwp_of (by simp [Value.category]) (Nat.le_of_ble_eq_true rfl) (ls := [some (.ref (jN ω + 0)), some (.int a), some (.int b), none]) rfl ?_
  refine jj_il1 dBO_need_0 ?_
  refine ms1 dBO_need_1 csBO_50 (Nat.le_of_ble_eq_true rfl) ?_
  refine c_checkObject a hJ hsl (fun n hn he => jk_v ?_) (fun hno => jk_x rfl (by rw [spNeed, if_pos hno] at hq; exact hq M hC (Cl.refl M)))
  subst he
  refine jj_il2 dBO_need_4 ?_
  refine ms1 dBO_need_5 csBO_50 (Nat.le_of_ble_eq_true rfl) ?_
  refine c_checkObject b hJ hsl (fun m hm he => jk_v ?_) (fun hno => jk_x rfl (by rw [spNeed, if_neg (isObj_no hn), if_pos hno] at hq; exact hq M hC (Cl.refl M)))
  subst he
  rw [spNeed, if_neg (isObj_no hn), if_neg (isObj_no hm), iN6 hn, iN6 hm] at hq
  have hR : RowIs M (13 + 15 * n + 1) (Zn σ n) := (hC.1 n hn).2.2.2.2.1
  have hl6 := hR.2.1
  refine jj_al0 dBO_need_8 ?_
  refine mr_get _ dBO_need_9 clBO lkBO_11 (s0 _) rfl ?_
  refine jj_il1 dBO_need_12 ?_
  refine mr_aald dBO_need_13 (hn) ?_
  refine mr_get _ dBO_need_14 clLk lkBO_67 (sL0 hn _) rfl ?_
  refine jj_as3 dBO_need_17 ?_
  refine jj_il1 dBO_need_18 ?_
  refine jj_il2 dBO_need_19 ?_
  refine jj_icmp_eq 31 dBO_need_20 (by decide) (fun q1 => ?_) (fun q1 => ?_)
  · exact mr_throw 1 dBO_need_31 dBO_need_34 dBO_need_35 dBO_need_38 rfl thBO_54 (Nat.le_of_ble_eq_true rfl) hJ hsl (by rw [if_pos (Or.inl q1)] at hq; exact hq M hC (Cl.refl M))
  · refine jj_al3 dBO_need_23 ?_
    refine jj_il2 dBO_need_24 ?_
    refine mv1 dBO_need_25 clRw cvBO_70 (sL1 hn _) (Nat.le_of_ble_eq_true rfl) ?_
    refine c_has (rowN hn) m hm hR (fun hin => jk_i ?_) (fun hin => jk_i ?_)
    · refine jj_if_eq 39 dBO_need_28 (by decide) (fun h => absurd h (by decide)) (fun _ => ?_)
      exact mr_throw 1 dBO_need_31 dBO_need_34 dBO_need_35 dBO_need_38 rfl thBO_54 (Nat.le_of_ble_eq_true rfl) hJ hsl (by rw [if_pos (Or.inr hin)] at hq; exact hq M hC (Cl.refl M))
    · refine jj_if_eq 39 dBO_need_28 (by decide) (fun _ => ?_) (fun h => absurd h (by decide))
      refine jj_al0 dBO_need_39 ?_
      refine jj_il1 dBO_need_40 ?_
      refine jj_al3 dBO_need_41 ?_
      refine mr_get _ dBO_need_42 clRw lkBO_74 (sL1 hn _) rfl ?_
      rw [hR.1]
      refine jj_iconst 3 dBO_need_45 (by decide) ?_
      refine mv3 dBO_need_46 clBO cvBO_77 (s0 _) (Nat.le_of_ble_eq_true rfl) ?_
      rw [if_neg (fun h => h.elim q1 hin)] at hq
      refine c_checkMayGrow hC hW hJ hsl hn _ _ (fun hg => jk_v ?_) (fun hg => jk_x rfl (by rw [if_pos hg] at hq; exact hq M hC (Cl.refl M)))
      rw [if_neg hg] at hq
      refine jj_al3 dBO_need_49 ?_
      refine jj_il2 dBO_need_50 ?_
      refine mv1 dBO_need_51 clRw cvBO_81 (sL1 hn _) (Nat.le_of_ble_eq_true rfl) ?_
      refine c_put (rowN hn) m hm hR (fun M1 hO1 hR1 => jk_v ?_)
      have h3 : (Zn σ n).length < 3 := by
        have h3 := Int32.lt_iff_toInt_lt.mp (Classical.not_not.mp (fun h => hg (Or.inr h)))
        rw [nI_toInt (by omega)] at h3
        have : (3 : Int32).toInt = 3 := by decide
        omega
      rw [rput_new (by omega) hin] at hR1
      refine jj_al3 dBO_need_54 ?_
      refine mr_get _ dBO_need_55 clRw lkBO_74 (sL1 hn _) rfl ?_
      rw [hR1.1, show (Zn σ n ++ [m]).length = (Zn σ n).length + 1 by simp]
      exact jj_iret dBO_need_58 rfl rfl (hq M1 (CS_need hC hn hO1 hR1) (fun k i h => hO1 _ _ (by omega) (by omega)))
set_option maxRecDepth 100000 in
set_option maxHeartbeats 4000000 in
theorem k_symbol {ω : jw} {d : Nat} {M : Nat → Nat → Int32} {J sl : Nat} {Q : jr → jh → Prop} {σ : Sg} (hC : CS M σ) (hW : Wm σ) (hJ : J < 1000) (hsl : sl < 1000000) (a nm w : Int32) (fl : Bool) (hq : CP ω J sl M Q (spSymbol σ a nm w fl)) : jwp ω (d + 3) mBO_symbol [.ref (jN ω + 0), .int a, .int nm, .int w, .int (b2i fl)] (jst ω M J sl) Q := by
  refine jwp_of (by simp [Value.category]) (Nat.le_of_ble_eq_true rfl) (ls := [some (.ref (jN ω + 0)), some (.int a), some (.int nm), some (.int w), some (.int (b2i fl)), none]) rfl ?_
  refine jj_il1 dBO_symbol_0 ?_
  refine ms1 dBO_symbol_1 csBO_50 (Nat.le_of_ble_eq_true rfl) ?_
  refine c_checkObject a hJ hsl (fun n hn he => jk_v ?_) (fun hno => jk_x rfl (by rw [spSymbol, if_pos hno] at hq; exact hq M hC (Cl.refl M)))
  subst he
  rw [spSymbol, if_neg (isObj_no hn), iN6 hn] at hq
  have hS : SymIs M n (Zy σ n) := (hC.1 n hn).2.2.2.2.2.1
  refine jj_al0 dBO_symbol_4 ?_
  refine mr_get _ dBO_symbol_5 clBO lkBO_11 (s0 _) rfl ?_
  refine jj_il1 dBO_symbol_8 ?_
  refine mr_aald dBO_symbol_9 (hn) ?_
  refine mr_get _ dBO_symbol_10 clLk lkBO_84 (sL0 hn _) rfl ?_
  refine jj_as5 dBO_symbol_13 ?_
  refine jj_il2 dBO_symbol_15 ?_
  refine ms1 dBO_symbol_16 csBO_88 (Nat.le_of_ble_eq_true rfl) ?_
  refine jwp_up (c_isName nm (fun hnm => jk_i ?_) (fun hnm => jk_i ?_))
  · refine jj_if_eq 49 dBO_symbol_19 (by decide) (fun h => absurd h (by decide)) (fun _ => ?_)
    refine jj_al5 dBO_symbol_22 ?_
    refine jj_il2 dBO_symbol_24 ?_
    refine mv1 dBO_symbol_25 clSy cvBO_91 (sL3 hn _) (Nat.le_of_ble_eq_true rfl) ?_
    refine c_shas hn hS nm (fun hin => jk_i ?_) (fun hin => jk_i ?_)
    · refine jj_if_ne 49 dBO_symbol_28 (by decide) (fun _ => ?_) (fun h => absurd h (by decide))
      exact mr_throw 1 dBO_symbol_49 dBO_symbol_52 dBO_symbol_53 dBO_symbol_56 rfl thBO_54 (Nat.le_of_ble_eq_true rfl) hJ hsl (by rw [if_pos (Or.inr (Or.inl hin))] at hq; exact hq M hC (Cl.refl M))
    · refine jj_if_ne 49 dBO_symbol_28 (by decide) (fun h => absurd h (by decide)) (fun _ => ?_)
      refine jj_il3 dBO_symbol_31 ?_
      refine jj_iconst (-1) dBO_symbol_32 (by decide) ?_
      refine jj_icmp_eq 57 dBO_symbol_33 (by decide) (fun q1 => ?_) (fun q1 => ?_)
      · rw [if_neg (fun h => h.elim (fun g => by rw [hnm] at g; cases g) (fun h => h.elim (fun g => by obtain ⟨s, g1, g2⟩ := g; exact hin s g1 g2) (fun g => g.1 q1)))] at hq
        refine jj_al0 dBO_symbol_57 ?_
        refine jj_il1 dBO_symbol_58 ?_
        refine jj_al5 dBO_symbol_59 ?_
        refine mr_get _ dBO_symbol_61 clSy lkBO_97 (sL3 hn _) rfl ?_
        rw [hS.1]
        refine jj_bipush 6 dBO_symbol_64 (by decide) ?_
        refine mv3 dBO_symbol_66 clBO cvBO_77 (s0 _) (Nat.le_of_ble_eq_true rfl) ?_
        refine c_checkMayGrow hC hW hJ hsl hn _ _ (fun hg => jk_v ?_) (fun hg => jk_x rfl (by rw [if_pos hg] at hq; exact hq M hC (Cl.refl M)))
        rw [if_neg hg] at hq
        refine jj_al5 dBO_symbol_69 ?_
        refine jj_il2 dBO_symbol_71 ?_
        refine jj_il3 dBO_symbol_72 ?_
        refine jj_il4 dBO_symbol_73 ?_
        refine mv3 dBO_symbol_75 clSy cvBO_98 (sL3 hn _) (Nat.le_of_ble_eq_true rfl) ?_
        have hl6 := hS.2.1
        have h3 : (Zy σ n).length < 6 := by
          have h3 := Int32.lt_iff_toInt_lt.mp (Classical.not_not.mp (fun h => hg (Or.inr h)))
          rw [nI_toInt (by omega)] at h3
          have : (6 : Int32).toInt = 6 := by decide
          omega
        refine c_sadd hn hS h3 nm w (b2i fl) (fun M1 hO1 hS1 => jk_i ?_)
        rw [show decide (¬ b2i fl = 0) = fl by cases fl <;> rfl] at hS1
        exact jj_iret dBO_symbol_78 rfl rfl (hq M1 (CS_sym hC hn hO1 hS1) (fun k i h => hO1 _ _ (by omega)))
      · refine jj_al0 dBO_symbol_36 ?_
        refine mr_get _ dBO_symbol_37 clBO lkBO_11 (s0 _) rfl ?_
        refine jj_il1 dBO_symbol_40 ?_
        refine mr_aald dBO_symbol_41 (hn) ?_
        refine jj_il3 dBO_symbol_42 ?_
        refine mv1 dBO_symbol_43 clLk cvBO_94 (sL0 hn _) (Nat.le_of_ble_eq_true rfl) ?_
        refine c_hasWord hn w (fun hw1 hw2 => jk_i ?_) (fun hw1 => jk_i ?_)
        · refine jj_if_ne 57 dBO_symbol_46 (by decide) (fun _ => ?_) (fun h => absurd h (by decide))
          rw [if_neg (fun h => h.elim (fun g => by rw [hnm] at g; cases g) (fun h => h.elim (fun g => by obtain ⟨s, g1, g2⟩ := g; exact hin s g1 g2) (fun g => g.2.elim hw1 (fun g2 => hw2 (by rw [(hC.1 n hn).1]; exact g2)))))] at hq
          refine jj_al0 dBO_symbol_57 ?_
          refine jj_il1 dBO_symbol_58 ?_
          refine jj_al5 dBO_symbol_59 ?_
          refine mr_get _ dBO_symbol_61 clSy lkBO_97 (sL3 hn _) rfl ?_
          rw [hS.1]
          refine jj_bipush 6 dBO_symbol_64 (by decide) ?_
          refine mv3 dBO_symbol_66 clBO cvBO_77 (s0 _) (Nat.le_of_ble_eq_true rfl) ?_
          refine c_checkMayGrow hC hW hJ hsl hn _ _ (fun hg => jk_v ?_) (fun hg => jk_x rfl (by rw [if_pos hg] at hq; exact hq M hC (Cl.refl M)))
          rw [if_neg hg] at hq
          refine jj_al5 dBO_symbol_69 ?_
          refine jj_il2 dBO_symbol_71 ?_
          refine jj_il3 dBO_symbol_72 ?_
          refine jj_il4 dBO_symbol_73 ?_
          refine mv3 dBO_symbol_75 clSy cvBO_98 (sL3 hn _) (Nat.le_of_ble_eq_true rfl) ?_
          have hl6 := hS.2.1
          have h3 : (Zy σ n).length < 6 := by
            have h3 := Int32.lt_iff_toInt_lt.mp (Classical.not_not.mp (fun h => hg (Or.inr h)))
            rw [nI_toInt (by omega)] at h3
            have : (6 : Int32).toInt = 6 := by decide
            omega
          refine c_sadd hn hS h3 nm w (b2i fl) (fun M1 hO1 hS1 => jk_i ?_)
          rw [show decide (¬ b2i fl = 0) = fl by cases fl <;> rfl] at hS1
          exact jj_iret dBO_symbol_78 rfl rfl (hq M1 (CS_sym hC hn hO1 hS1) (fun k i h => hO1 _ _ (by omega)))
        · refine jj_if_ne 57 dBO_symbol_46 (by decide) (fun h => absurd h (by decide)) (fun _ => ?_)
          exact mr_throw 1 dBO_symbol_49 dBO_symbol_52 dBO_symbol_53 dBO_symbol_56 rfl thBO_54 (Nat.le_of_ble_eq_true rfl) hJ hsl (by rw [if_pos (Or.inr (Or.inr ⟨q1, by rw [← (hC.1 n hn).1]; exact hw1⟩))] at hq; exact hq M hC (Cl.refl M))
  · refine jj_if_eq 49 dBO_symbol_19 (by decide) (fun _ => ?_) (fun h => absurd h (by decide))
    exact mr_throw 1 dBO_symbol_49 dBO_symbol_52 dBO_symbol_53 dBO_symbol_56 rfl thBO_54 (Nat.le_of_ble_eq_true rfl) hJ hsl (by rw [if_pos (Or.inl hnm)] at hq; exact hq M hC (Cl.refl M))
set_option maxRecDepth 100000 in
set_option maxHeartbeats 4000000 in
theorem k_relocation {ω : jw} {d : Nat} {M : Nat → Nat → Int32} {J sl : Nat} {Q : jr → jh → Prop} {σ : Sg} (hC : CS M σ) (hW : Wm σ) (hJ : J < 1000) (hsl : sl < 1000000) (a kd w s ad : Int32) (hq : CP ω J sl M Q (spReloc σ a kd w s ad)) : jwp ω (d + 3) mBO_relocation [.ref (jN ω + 0), .int a, .int kd, .int w, .int s, .int ad] (jst ω M J sl) Q := by
  refine jwp_of (by simp [Value.category]) (Nat.le_of_ble_eq_true rfl) (ls := [some (.ref (jN ω + 0)), some (.int a), some (.int kd), some (.int w), some (.int s), some (.int ad), none]) rfl ?_
  refine jj_il1 dBO_relocation_0 ?_
  refine ms1 dBO_relocation_1 csBO_50 (Nat.le_of_ble_eq_true rfl) ?_
  refine c_checkObject a hJ hsl (fun n hn he => jk_v ?_) (fun hno => jk_x rfl (by rw [spReloc, if_pos hno] at hq; exact hq M hC (Cl.refl M)))
  subst he
  rw [spReloc, if_neg (isObj_no hn), iN6 hn] at hq
  have hS : RelIs M n (Zr σ n) := (hC.1 n hn).2.2.2.2.2.2.1
  have hY : SymIs M n (Zy σ n) := (hC.1 n hn).2.2.2.2.2.1
  refine jj_al0 dBO_relocation_4 ?_
  refine mr_get _ dBO_relocation_5 clBO lkBO_11 (s0 _) rfl ?_
  refine jj_il1 dBO_relocation_8 ?_
  refine mr_aald dBO_relocation_9 (hn) ?_
  refine jj_as6 dBO_relocation_10 ?_
  refine jj_il2 dBO_relocation_12 ?_
  refine jj_if_lt 30 dBO_relocation_13 (by decide) (fun q1 => ?_) (fun q1 => ?_)
  · exact mr_throw 1 dBO_relocation_30 dBO_relocation_33 dBO_relocation_34 dBO_relocation_37 rfl thBO_54 (Nat.le_of_ble_eq_true rfl) hJ hsl (by rw [if_pos (Or.inl q1)] at hq; exact hq M hC (Cl.refl M))
  · refine jj_il2 dBO_relocation_16 ?_
    refine jj_iconst 2 dBO_relocation_17 (by decide) ?_
    refine jj_icmp_gt 30 dBO_relocation_18 (by decide) (fun q2 => ?_) (fun q2 => ?_)
    · exact mr_throw 1 dBO_relocation_30 dBO_relocation_33 dBO_relocation_34 dBO_relocation_37 rfl thBO_54 (Nat.le_of_ble_eq_true rfl) hJ hsl (by rw [if_pos (Or.inr (Or.inl q2))] at hq; exact hq M hC (Cl.refl M))
    · refine jj_al6 dBO_relocation_21 ?_
      refine jj_il3 dBO_relocation_23 ?_
      refine mv1 dBO_relocation_24 clLk cvBO_94 (sL0 hn _) (Nat.le_of_ble_eq_true rfl) ?_
      refine c_hasWord hn w (fun hw1 hw2 => jk_i ?_) (fun hw1 => jk_i ?_)
      · refine jj_if_ne 38 dBO_relocation_27 (by decide) (fun _ => ?_) (fun h => absurd h (by decide))
        rw [if_neg (fun h => h.elim q1 (fun h => h.elim q2 (fun h => h.elim hw1 (fun g2 => hw2 (by rw [(hC.1 n hn).1]; exact g2)))))] at hq
        refine jj_il2 dBO_relocation_38 ?_
        refine jj_if_eq 68 dBO_relocation_39 (by decide) (fun q3 => ?_) (fun q3 => ?_)
        · rw [if_neg (fun h => h.1 q3)] at hq
          refine jj_al0 dBO_relocation_68 ?_
          refine jj_il1 dBO_relocation_69 ?_
          refine jj_al6 dBO_relocation_70 ?_
          refine mr_get _ dBO_relocation_72 clLk lkBO_102 (sL0 hn _) rfl ?_
          refine mr_get _ dBO_relocation_75 clRl lkBO_106 (sL8 hn _) rfl ?_
          rw [hS.1]
          refine jj_bipush 6 dBO_relocation_78 (by decide) ?_
          refine mv3 dBO_relocation_80 clBO cvBO_77 (s0 _) (Nat.le_of_ble_eq_true rfl) ?_
          refine c_checkMayGrow hC hW hJ hsl hn _ _ (fun hg => jk_v ?_) (fun hg => jk_x rfl (by rw [if_pos hg] at hq; exact hq M hC (Cl.refl M)))
          rw [if_neg hg] at hq
          refine jj_al6 dBO_relocation_83 ?_
          refine mr_get _ dBO_relocation_85 clLk lkBO_102 (sL0 hn _) rfl ?_
          refine jj_il2 dBO_relocation_88 ?_
          refine jj_il3 dBO_relocation_89 ?_
          refine jj_il4 dBO_relocation_90 ?_
          refine jj_il5 dBO_relocation_92 ?_
          refine mv4 dBO_relocation_94 clRl cvBO_109 (sL8 hn _) (Nat.le_of_ble_eq_true rfl) ?_
          have hl6 := hS.2.1
          have h3 : (Zr σ n).length < 6 := by
            have h3 := Int32.lt_iff_toInt_lt.mp (Classical.not_not.mp (fun h => hg (Or.inr h)))
            rw [nI_toInt (by omega)] at h3
            have : (6 : Int32).toInt = 6 := by decide
            omega
          refine c_radd hn hS h3 kd w s ad (fun M1 hO1 hS1 => jk_i ?_)
          exact jj_iret dBO_relocation_97 rfl rfl (hq M1 (CS_rel hC hn hO1 hS1) (fun k i h => hO1 _ _ (by omega)))
        · refine jj_il4 dBO_relocation_42 ?_
          refine jj_if_lt 60 dBO_relocation_44 (by decide) (fun q4 => ?_) (fun q4 => ?_)
          · exact mr_throw 1 dBO_relocation_60 dBO_relocation_63 dBO_relocation_64 dBO_relocation_67 rfl thBO_54 (Nat.le_of_ble_eq_true rfl) hJ hsl (by rw [if_pos ⟨q3, Or.inl q4⟩] at hq; exact hq M hC (Cl.refl M))
          · refine jj_il4 dBO_relocation_47 ?_
            refine jj_al6 dBO_relocation_49 ?_
            refine mr_get _ dBO_relocation_51 clLk lkBO_84 (sL0 hn _) rfl ?_
            refine mr_get _ dBO_relocation_54 clSy lkBO_97 (sL3 hn _) rfl ?_
            rw [hY.1]
            refine jj_icmp_lt 68 dBO_relocation_57 (by decide) (fun q5 => ?_) (fun q5 => ?_)
            · rw [if_neg (fun h => h.2.elim q4 (fun g => g q5))] at hq
              refine jj_al0 dBO_relocation_68 ?_
              refine jj_il1 dBO_relocation_69 ?_
              refine jj_al6 dBO_relocation_70 ?_
              refine mr_get _ dBO_relocation_72 clLk lkBO_102 (sL0 hn _) rfl ?_
              refine mr_get _ dBO_relocation_75 clRl lkBO_106 (sL8 hn _) rfl ?_
              rw [hS.1]
              refine jj_bipush 6 dBO_relocation_78 (by decide) ?_
              refine mv3 dBO_relocation_80 clBO cvBO_77 (s0 _) (Nat.le_of_ble_eq_true rfl) ?_
              refine c_checkMayGrow hC hW hJ hsl hn _ _ (fun hg => jk_v ?_) (fun hg => jk_x rfl (by rw [if_pos hg] at hq; exact hq M hC (Cl.refl M)))
              rw [if_neg hg] at hq
              refine jj_al6 dBO_relocation_83 ?_
              refine mr_get _ dBO_relocation_85 clLk lkBO_102 (sL0 hn _) rfl ?_
              refine jj_il2 dBO_relocation_88 ?_
              refine jj_il3 dBO_relocation_89 ?_
              refine jj_il4 dBO_relocation_90 ?_
              refine jj_il5 dBO_relocation_92 ?_
              refine mv4 dBO_relocation_94 clRl cvBO_109 (sL8 hn _) (Nat.le_of_ble_eq_true rfl) ?_
              have hl6 := hS.2.1
              have h3 : (Zr σ n).length < 6 := by
                have h3 := Int32.lt_iff_toInt_lt.mp (Classical.not_not.mp (fun h => hg (Or.inr h)))
                rw [nI_toInt (by omega)] at h3
                have : (6 : Int32).toInt = 6 := by decide
                omega
              refine c_radd hn hS h3 kd w s ad (fun M1 hO1 hS1 => jk_i ?_)
              exact jj_iret dBO_relocation_97 rfl rfl (hq M1 (CS_rel hC hn hO1 hS1) (fun k i h => hO1 _ _ (by omega)))
            · exact mr_throw 1 dBO_relocation_60 dBO_relocation_63 dBO_relocation_64 dBO_relocation_67 rfl thBO_54 (Nat.le_of_ble_eq_true rfl) hJ hsl (by rw [if_pos ⟨q3, Or.inr q5⟩] at hq; exact hq M hC (Cl.refl M))
      · refine jj_if_ne 38 dBO_relocation_27 (by decide) (fun h => absurd h (by decide)) (fun _ => ?_)
        exact mr_throw 1 dBO_relocation_30 dBO_relocation_33 dBO_relocation_34 dBO_relocation_37 rfl thBO_54 (Nat.le_of_ble_eq_true rfl) hJ hsl (by rw [if_pos (Or.inr (Or.inr (by rw [← (hC.1 n hn).1]; exact hw1)))] at hq; exact hq M hC (Cl.refl M))
