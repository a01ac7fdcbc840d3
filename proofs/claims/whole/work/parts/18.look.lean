def zSt (σ : Sg) (v : Int32) : Sg := (Zs σ, Zn σ, Zy σ, Zr σ, Zb σ, Zg σ, Zu σ, Zo σ, Zw σ, Gl σ, Bg σ, Ev σ, v)
def zUse (σ : Sg) (p q : Nat) : Sg := (Zs σ, Zn σ, Zy σ, Zr σ, Zb σ, Zg σ, va_up (Zu σ) p (va_up (Zu σ p) q true), Zo σ, Zw σ, Gl σ, Bg σ, Ev σ, Sp σ)
def zWd (σ : Sg) (a : Nat) (v : Int32) : Sg := (Zs σ, Zn σ, Zy σ, Zr σ, Zb σ, Zg σ, Zu σ, Zo σ, va_up (Zw σ) a v, Gl σ, Bg σ, Ev σ, Sp σ)
/-- what is placed lies in the space -/
def Wb (σ : Sg) : Prop := ∀ p b, p < 6 → Zb σ p = some b → b < 32 ∧ b + Zs σ p ≤ 32
def St7 (M M' : Nat → Nat → Int32) : Prop := ∀ k i, k ≠ 0 ∨ i ≠ 7 → M' k i = M k i
theorem St7.refl (M : Nat → Nat → Int32) : St7 M M := fun _ _ _ => rfl
theorem St7.trans {M M1 M2 : Nat → Nat → Int32} (h1 : St7 M M1) (h2 : St7 M1 M2) : St7 M M2 := fun k i a => (h2 k i a).trans (h1 k i a)
theorem St7.up (M : Nat → Nat → Int32) (v : Int32) : St7 M (mup M 0 7 v) := fun k i a => mup_ne _ _ a
theorem St7.row {M M' : Nat → Nat → Int32} (h : St7 M M') {k : Nat} {l : List Nat} (hk : 7 ≤ k) (hR : RowIs M k l) : RowIs M' k l := hR.eqs (fun i => h _ _ (Or.inl (by omega))) (fun i => h _ _ (Or.inl (by omega)))
theorem CS_st {M M' : Nat → Nat → Int32} {σ : Sg} {v : Int32} (hC : CS M σ) (h : St7 M M') (hv : M' 0 7 = v) : CS M' (zSt σ v) := by
  obtain ⟨c1, c2, c3, c4, c5, ⟨l0, c6⟩, c7⟩ := hC
  exact ⟨fun q hq => (c1 q hq).eqs (fun k i a b => h _ _ (Or.inl (by omega))) rfl rfl rfl rfl rfl rfl rfl rfl, c2.eqs (fun i => h _ _ (Or.inl (by omega))) (fun i => h _ _ (Or.inl (by omega))) rfl rfl rfl, c3.eqs (fun i => h _ _ (Or.inl (by omega))) (fun i => h _ _ (Or.inl (by omega))), h.row (by omega) c4, h.row (by omega) c5, ⟨l0, h.row (by omega) c6⟩, hv⟩
theorem bt_or1 {x : Int32} {q i : Nat} (hq : q < 32) (hi : i < 32) : bt (x ||| ((1 : Int32) <<< (nI q &&& 31))) i = (bt x i || decide (i = q)) := by
  rw [b_or, bt_one hq hi]
theorem CS_use {M M' : Nat → Nat → Int32} {σ : Sg} {p q : Nat} (hC : CS M σ) (hp : p < 6) (hq : q < 6) (hA : ∀ k i, k ≠ 13 + 15 * p ∨ i ≠ 7 → M' k i = M k i) (h7 : M' (13 + 15 * p) 7 = M (13 + 15 * p) 7 ||| ((1 : Int32) <<< (nI q &&& 31))) : CS M' (zUse σ p q) := by
  obtain ⟨c1, c2, c3, c4, c5, ⟨l0, c6⟩, c7⟩ := hC
  refine ⟨fun r hr => ?_, c2.eqs (fun i => hA _ _ (Or.inl (by omega))) (fun i => hA _ _ (Or.inl (by omega))) rfl rfl rfl, c3.eqs (fun i => hA _ _ (Or.inl (by omega))) (fun i => hA _ _ (Or.inl (by omega))), c4.eqs (fun i => hA _ _ (Or.inl (by omega))) (fun i => hA _ _ (Or.inl (by omega))), c5.eqs (fun i => hA _ _ (Or.inl (by omega))) (fun i => hA _ _ (Or.inl (by omega))), ⟨l0, c6.eqs (fun i => hA _ _ (Or.inl (by omega))) (fun i => hA _ _ (Or.inl (by omega)))⟩, by rw [hA _ _ (Or.inl (by omega))]; exact c7⟩
  by_cases hrp : r = p
  · subst hrp
    obtain ⟨h1, h2, h3, h4, h5, h6, h8, h9⟩ := c1 r hr
    refine ⟨by rw [hA _ _ (Or.inr (by omega))]; exact h1, by rw [hA _ _ (Or.inr (by omega))]; exact h2, by rw [hA _ _ (Or.inr (by omega))]; exact h3, fun i hi => ?_, h5.eqs (fun i => hA _ _ (Or.inl (by omega))) (fun i => hA _ _ (Or.inl (by omega))), h6.eqs (fun k i a b => hA _ _ (Or.inl (by omega))), h8.eqs (fun k i a b => hA _ _ (Or.inl (by omega))), h9.eqs (fun i => hA _ _ (Or.inl (by omega))) (fun i => hA _ _ (Or.inl (by omega)))⟩
    rw [h7, bt_or1 (by omega) hi, h4 i hi]
    show _ = va_up (Zu σ) r (va_up (Zu σ r) q true) r i
    rw [va_up_self]
    by_cases hiq : i = q
    · subst hiq
      rw [va_up_self]; simp
    · rw [va_up_ne _ _ hiq]; simp [hiq]
  · exact (c1 r hr).eqs (fun k i a b => hA _ _ (Or.inl (by omega))) rfl rfl rfl (va_up_ne _ _ hrp) rfl rfl rfl rfl
theorem CS_wd {M : Nat → Nat → Int32} {σ : Sg} {a : Nat} {v : Int32} (hC : CS M σ) : CS (mup M 3 a v) (zWd σ a v) := by
  obtain ⟨c1, c2, c3, c4, c5, ⟨l0, c6⟩, c7⟩ := hC
  have hA : ∀ k i, k ≠ 3 → mup M 3 a v k i = M k i := fun k i hk => mup_ne _ _ (Or.inl hk)
  refine ⟨fun r hr => (c1 r hr).eqs (fun k i _ _ => hA _ _ (by omega)) rfl rfl rfl rfl rfl rfl rfl rfl, fun i hi => ?_, c3.eqs (fun i => hA _ _ (by omega)) (fun i => hA _ _ (by omega)), c4.eqs (fun i => hA _ _ (by omega)) (fun i => hA _ _ (by omega)), c5.eqs (fun i => hA _ _ (by omega)) (fun i => hA _ _ (by omega)), ⟨l0, c6.eqs (fun i => hA _ _ (by omega)) (fun i => hA _ _ (by omega))⟩, by rw [hA _ _ (by omega)]; exact c7⟩
  obtain ⟨g1, g2⟩ := c2 i hi
  refine ⟨?_, by rw [hA _ _ (by omega)]; exact g2⟩
  show _ = va_up (Zw σ) a v i
  by_cases hia : i = a
  · subst hia
    rw [mup_at, va_up_self]
  · rw [mup_ne _ _ (Or.inr hia), va_up_ne _ _ hia]
    exact g1
theorem CS.ld {M : Nat → Nat → Int32} {σ : Sg} (hC : CS M σ) (hW : Wb σ) {p : Nat} (hp : p < 6) : M (13 + 15 * p) 5 = -1 ↔ Zb σ p = none := by
  rw [(hC.1 p hp).2.1]
  exact bI_none (fun b hb => by have := (hW p b hp hb).1; omega)
/-- the first of the row that defines the name, the steps -/
def fdF (σ : Sg) (nm : Int32) : List Nat → Int32 → Option Nat × Int32
  | [], st => (none, st)
  | p :: t, st => if Zb σ p = none then fdF σ nm t st else if plcF nm (Zy σ p) = -1 then fdF σ nm t (st + stpF nm (Zy σ p).reverse) else (some p, st + stpF nm (Zy σ p).reverse)
set_option maxRecDepth 100000 in
set_option maxHeartbeats 4000000 in
theorem c_firstDefining_l {ω : jw} {d : Nat} {J sl : Nat} {Q : jr → jh → Prop} {M0 : Nat → Nat → Int32} {σ : Sg} (hW : Wb σ) {k : Nat} (hk : isRow k) (hk7 : 7 ≤ k) {l : List Nat} (hR0 : RowIs M0 k l) (nm : Int32) :
    ∀ (n i : Nat) (st : Int32) (M : Nat → Nat → Int32) (c5 c6 : Option Value), l.length - i < n → i ≤ l.length → St7 M0 M → CS M (zSt σ st) → (∀ M', St7 M0 M' → CS M' (zSt σ (fdF σ nm (l.drop i) st).2) → Q (.inl (some (.int (bI (fdF σ nm (l.drop i) st).1)))) (jst ω M' J sl)) →
    jj ω (d + 1) mBO_firstDefining 8 [some (.ref (jN ω + 0)), some (.ref (jN ω + k)), some (.int nm), some (.int (chn nm)), some (.int (nI i)), c5, c6] [] (jst ω M J sl) Q := by
  have hl6 := hR0.2.1
  intro n
  induction n with
  | zero => intro i st M c5 c6 hn; omega
  | succ n ih =>
    intro i st M c5 c6 hn hi hO hC hq
    have hR := hO.row hk7 hR0
    have hW' : Wb (zSt σ st) := hW
    refine jj_il4 dBO_firstDefining_8 ?_
    refine jj_al1 dBO_firstDefining_10 ?_
    refine mr_get _ dBO_firstDefining_11 clRw lkBO_74 (hk.1 _ _ _) rfl ?_
    refine jj_icmp_ge 84 dBO_firstDefining_14 (by decide) (fun q1 => ?_) (fun q1 => ?_)
    · refine jj_iconst (-1) dBO_firstDefining_84 (by decide) ?_
      exact jj_iret dBO_firstDefining_85 rfl rfl (by rw [List.drop_eq_nil_of_le (le_le hR.1 q1 (by omega) (by omega))] at hq; exact hq M hO hC)
    · have hi2 : i < l.length := nle_lt hR.1 q1 (by omega) (by omega)
      obtain ⟨p, e1, e2, e3⟩ := hR.at hi2
      rw [List.drop_eq_getElem_cons hi2, show l[i] = p from (List.getElem?_eq_some_iff.mp e1).2] at hq
      refine jj_al1 dBO_firstDefining_17 ?_
      refine mr_get _ dBO_firstDefining_18 clRw lkBO_203 (hk.1 _ _ _) rfl ?_
      refine jj_il4 dBO_firstDefining_21 ?_
      refine mr_iald dBO_firstDefining_23 (hk.2 _ _ _) (by omega) (by decide) ?_
      rw [e3]
      refine jj_is5 dBO_firstDefining_24 ?_
      refine jj_al0 dBO_firstDefining_26 ?_
      refine mr_get _ dBO_firstDefining_27 clBO lkBO_11 (s0 _) rfl ?_
      refine jj_il5 dBO_firstDefining_30 ?_
      refine mr_aald dBO_firstDefining_32 (e2) ?_
      refine jj_as6 dBO_firstDefining_33 ?_
      refine jj_al6 dBO_firstDefining_35 ?_
      refine mv0 dBO_firstDefining_37 clLk cvBO_57 (sL0 e2 _) (Nat.le_of_ble_eq_true rfl) ?_
      refine jwp_le (c_isLoaded (d := 0) e2 (fun hld => jk_i ?_) (fun hld => jk_i ?_)) (Nat.zero_le _)
      · have hbn : ¬ Zb σ p = none := fun h => hld ((hC.ld hW' e2).mpr h)
        refine jj_if_eq 78 dBO_firstDefining_40 (by decide) (fun h => absurd h (by decide)) (fun _ => ?_)
        refine jj_al0 dBO_firstDefining_43 ?_
        refine jj_dup dBO_firstDefining_44 rfl ?_
        refine mr_get _ dBO_firstDefining_45 clBO lkBO_46 (s0 _) rfl ?_
        rw [show M 0 7 = st from hC.2.2.2.2.2.2]
        refine jj_al6 dBO_firstDefining_48 ?_
        refine mr_get _ dBO_firstDefining_50 clLk lkBO_84 (sL0 e2 _) rfl ?_
        refine jj_il2 dBO_firstDefining_53 ?_
        refine jj_il3 dBO_firstDefining_54 ?_
        refine mv2 dBO_firstDefining_55 clSy cvBO_261 (sL3 e2 _) (Nat.le_of_ble_eq_true rfl) ?_
        refine c_stepsTo e2 (hC.1 p e2).2.2.2.2.2.1 nm (jk_i ?_)
        refine jj_iadd dBO_firstDefining_58 ?_
        refine mr_put dBO_firstDefining_59 clBO lkBO_46 rfl rfl (s0 _) (s0 _) (Nat.le_of_ble_eq_true rfl) rfl ?_
        refine jj_al6 dBO_firstDefining_62 ?_
        refine mr_get _ dBO_firstDefining_64 clLk lkBO_84 (sL0 e2 _) rfl ?_
        refine jj_il2 dBO_firstDefining_67 ?_
        refine mv1 dBO_firstDefining_68 clSy cvBO_264 (sL3 e2 _) (Nat.le_of_ble_eq_true rfl) ?_
        have hC2 : CS (mup M 0 7 (st + stpF nm (Zy σ p).reverse)) (zSt σ (st + stpF nm (Zy σ p).reverse)) := CS_st (σ := zSt σ st) hC (St7.up M _) (mup_at _ _ _ _)
        have hO2 := hO.trans (St7.up M (st + stpF nm (Zy σ p).reverse))
        refine c_placeOf e2 (hC2.1 p e2).2.2.2.2.2.1 nm (jk_i ?_)
        refine jj_iconst (-1) dBO_firstDefining_71 (by decide) ?_
        refine jj_icmp_eq 78 dBO_firstDefining_72 (by decide) (fun q2 => ?_) (fun q2 => ?_)
        · refine jj_ii4 (nI (i + 1)) dBO_firstDefining_78 (inc1 i) ?_
          refine jj_goto 8 dBO_firstDefining_81 (by decide) ?_
          exact ih (i + 1) _ _ _ _ (by omega) (by omega) hO2 hC2 (by rw [fdF, if_neg hbn, if_pos (show plcF nm (Zy σ p) = -1 from q2)] at hq; exact hq)
        · refine jj_il5 dBO_firstDefining_75 ?_
          exact jj_iret dBO_firstDefining_77 rfl rfl (by rw [fdF, if_neg hbn, if_neg (show ¬ plcF nm (Zy σ p) = -1 from q2)] at hq; exact hq _ hO2 hC2)
      · have hbn : Zb σ p = none := (hC.ld hW' e2).mp hld
        refine jj_if_eq 78 dBO_firstDefining_40 (by decide) (fun _ => ?_) (fun h => absurd h (by decide))
        refine jj_ii4 (nI (i + 1)) dBO_firstDefining_78 (inc1 i) ?_
        refine jj_goto 8 dBO_firstDefining_81 (by decide) ?_
        exact ih (i + 1) st M _ _ (by omega) (by omega) hO hC (by rw [fdF, if_pos hbn] at hq; exact hq)
set_option maxRecDepth 100000 in
set_option maxHeartbeats 4000000 in
theorem c_firstDefining {ω : jw} {d : Nat} {M : Nat → Nat → Int32} {J sl : Nat} {Q : jr → jh → Prop} {σ : Sg} (hC : CS M σ) (hW : Wb σ) {k : Nat} (hk : isRow k) (hk7 : 7 ≤ k) {l : List Nat} (hR : RowIs M k l) (nm : Int32) (hq : ∀ M', St7 M M' → CS M' (zSt σ (fdF σ nm l (Sp σ)).2) → Q (.inl (some (.int (bI (fdF σ nm l (Sp σ)).1)))) (jst ω M' J sl)) : jwp ω (d + 1) mBO_firstDefining [.ref (jN ω + 0), .ref (jN ω + k), .int nm] (jst ω M J sl) Q := by
  refine jwp_of (by simp [Value.category]) (Nat.le_of_ble_eq_true rfl) (ls := [some (.ref (jN ω + 0)), some (.ref (jN ω + k)), some (.int nm), none, none, none, none]) rfl ?_
  refine jj_il2 dBO_firstDefining_0 ?_
  refine ms1 dBO_firstDefining_1 csBO_258 (Nat.le_of_ble_eq_true rfl) ?_
  refine c_chainOf nm (jk_i ?_)
  refine jj_is3 dBO_firstDefining_4 ?_
  refine jj_iconst 0 dBO_firstDefining_5 (by decide) ?_
  refine jj_is4 dBO_firstDefining_6 ?_
  exact c_firstDefining_l hW hk hk7 hR nm (l.length + 1) 0 (Sp σ) M _ _ (by omega) (by omega) (St7.refl M) hC hq
theorem fdF_st {σ : Sg} {v nm : Int32} {l : List Nat} : ∀ (st : Int32), fdF (zSt σ v) nm l st = fdF σ nm l st := by
  induction l with
  | nil => intro st; rfl
  | cons q l ih =>
    intro st
    unfold fdF
    rw [ih, ih]
    rfl
theorem fdF_lt {σ : Sg} {nm : Int32} {l : List Nat} : ∀ (st : Int32) {p : Nat}, (fdF σ nm l st).1 = some p → p ∈ l ∧ ¬ Zb σ p = none ∧ ¬ plcF nm (Zy σ p) = -1 := by
  induction l with
  | nil => intro st p h; cases h
  | cons q l ih =>
    intro st p h
    unfold fdF at h
    split at h
    · exact ⟨List.mem_cons_of_mem _ (ih _ h).1, (ih _ h).2⟩
    · split at h
      · exact ⟨List.mem_cons_of_mem _ (ih _ h).1, (ih _ h).2⟩
      · cases h
        exact ⟨List.mem_cons_self, by assumption, by assumption⟩
def luF (σ : Sg) (p : Nat) (nm : Int32) (st : Int32) : Option Nat × Int32 := if (fdF σ nm (Gl σ) st).1 = none then fdF σ nm (Zg σ p) (fdF σ nm (Gl σ) st).2 else fdF σ nm (Gl σ) st
theorem bI_ne {x : Option Nat} (h : ¬ x = none) (hb : ∀ b, x = some b → b < 2 ^ 31) : ¬ bI x = -1 := fun he => h ((bI_none hb).mp he)
set_option maxRecDepth 100000 in
set_option maxHeartbeats 4000000 in
theorem c_lookUp {ω : jw} {d : Nat} {M : Nat → Nat → Int32} {J sl : Nat} {Q : jr → jh → Prop} {σ : Sg} (hC : CS M σ) (hW : Wb σ) {p : Nat} (hp : p < 6) (nm : Int32) (hq : ∀ M', St7 M M' → CS M' (zSt σ (luF σ p nm (Sp σ)).2) → Q (.inl (some (.int (bI (luF σ p nm (Sp σ)).1)))) (jst ω M' J sl)) : jwp ω (d + 2) mBO_lookUp [.ref (jN ω + 0), .int (nI p), .int nm] (jst ω M J sl) Q := by
  have hg6 : ∀ b, (fdF σ nm (Gl σ) (Sp σ)).1 = some b → b < 2 ^ 31 := fun b hb => by have := hC.2.2.2.1.2.2.1 b (fdF_lt _ hb).1; omega
  refine jwp_of (by simp [Value.category]) (Nat.le_of_ble_eq_true rfl) (ls := [some (.ref (jN ω + 0)), some (.int (nI p)), some (.int nm), none]) rfl ?_
  refine jj_al0 dBO_lookUp_0 ?_
  refine jj_al0 dBO_lookUp_1 ?_
  refine mr_get _ dBO_lookUp_2 clBO lkBO_32 (s0 _) rfl ?_
  refine jj_il2 dBO_lookUp_5 ?_
  refine mv2 dBO_lookUp_6 clBO cvBO_190 (s0 _) (Nat.le_of_ble_eq_true rfl) ?_
  refine c_firstDefining hC hW row7 (by omega) hC.2.2.2.1 nm (fun M1 hO1 hC1 => jk_i ?_)
  refine jj_is3 dBO_lookUp_9 ?_
  refine jj_il3 dBO_lookUp_10 ?_
  refine jj_iconst (-1) dBO_lookUp_11 (by decide) ?_
  refine jj_icmp_eq 19 dBO_lookUp_12 (by decide) (fun q1 => ?_) (fun q1 => ?_)
  · refine jj_al0 dBO_lookUp_19 ?_
    refine jj_al0 dBO_lookUp_20 ?_
    refine mr_get _ dBO_lookUp_21 clBO lkBO_11 (s0 _) rfl ?_
    refine jj_il1 dBO_lookUp_24 ?_
    refine mr_aald dBO_lookUp_25 (hp) ?_
    refine mr_get _ dBO_lookUp_26 clLk lkBO_226 (sL0 hp _) rfl ?_
    refine jj_il2 dBO_lookUp_29 ?_
    refine mv2 dBO_lookUp_30 clBO cvBO_190 (s0 _) (Nat.le_of_ble_eq_true rfl) ?_
    have hn := (bI_none hg6).mp q1
    rw [luF, if_pos hn] at hq
    refine c_firstDefining hC1 hW (rowG hp) (by omega) (hC1.1 p hp).2.2.2.2.2.2.2 nm (fun M2 hO2 hC2 => jk_i ?_)
    rw [fdF_st] at hC2 ⊢
    exact jj_iret dBO_lookUp_33 rfl rfl (hq M2 (hO1.trans hO2) hC2)
  · refine jj_il3 dBO_lookUp_15 ?_
    refine jj_goto 33 dBO_lookUp_16 (by decide) ?_
    exact jj_iret dBO_lookUp_33 rfl rfl (by rw [luF, if_neg (fun h => q1 ((bI_none hg6).mpr h))] at hq; exact hq M1 hO1 hC1)
set_option maxRecDepth 100000 in
set_option maxHeartbeats 4000000 in
theorem c_addressIn {ω : jw} {d : Nat} {M : Nat → Nat → Int32} {J sl : Nat} {Q : jr → jh → Prop} {σ : Sg} (hC : CS M σ) {p : Nat} (hp : p < 6) (nm : Int32) (hq : Q (.inl (some (.int (bI (Zb σ p) + plcF nm (Zy σ p))))) (jst ω M J sl)) : jwp ω (d + 1) mBO_addressIn [.ref (jN ω + 0), .int (nI p), .int nm] (jst ω M J sl) Q := by
  refine jwp_of (by simp [Value.category]) (Nat.le_of_ble_eq_true rfl) (ls := [some (.ref (jN ω + 0)), some (.int (nI p)), some (.int nm)]) rfl ?_
  refine jj_al0 dBO_addressIn_0 ?_
  refine mr_get _ dBO_addressIn_1 clBO lkBO_11 (s0 _) rfl ?_
  refine jj_il1 dBO_addressIn_4 ?_
  refine mr_aald dBO_addressIn_5 (hp) ?_
  refine mr_get _ dBO_addressIn_6 clLk lkBO_172 (sL0 hp _) rfl ?_
  rw [(hC.1 p hp).2.1]
  refine jj_al0 dBO_addressIn_9 ?_
  refine mr_get _ dBO_addressIn_10 clBO lkBO_11 (s0 _) rfl ?_
  refine jj_il1 dBO_addressIn_13 ?_
  refine mr_aald dBO_addressIn_14 (hp) ?_
  refine mr_get _ dBO_addressIn_15 clLk lkBO_84 (sL0 hp _) rfl ?_
  refine jj_il2 dBO_addressIn_18 ?_
  refine mv1 dBO_addressIn_19 clSy cvBO_264 (sL3 hp _) (Nat.le_of_ble_eq_true rfl) ?_
  refine c_placeOf hp (hC.1 p hp).2.2.2.2.2.1 nm (jk_i ?_)
  refine jj_iadd dBO_addressIn_22 ?_
  exact jj_iret dBO_addressIn_23 rfl rfl (hq)
/-- resolving a symbol of object p: the address, or -1 -/
def rsF (σ : Sg) (p : Nat) (y : Sym) : Int32 × Sg := match (luF σ p y.1 (Sp σ)).1 with
  | none => (if y.2.2 = true then 0 else -1, zSt σ (luF σ p y.1 (Sp σ)).2)
  | some q => (bI (Zb σ q) + plcF y.1 (Zy σ q), if q = p then zSt σ (luF σ p y.1 (Sp σ)).2 else zUse (zSt σ (luF σ p y.1 (Sp σ)).2) p q)
theorem luF_lt {σ : Sg} {p : Nat} {nm st : Int32} {q : Nat} (h : (luF σ p nm st).1 = some q) : (q ∈ Gl σ ∨ q ∈ Zg σ p) ∧ ¬ Zb σ q = none ∧ ¬ plcF nm (Zy σ q) = -1 := by
  unfold luF at h
  split at h
  · exact ⟨Or.inr (fdF_lt _ h).1, (fdF_lt _ h).2⟩
  · exact ⟨Or.inl (fdF_lt _ h).1, (fdF_lt _ h).2⟩
/-- cells 0 (but for the steps), 11, 12 and those above are as they were -/
def Kp (M M' : Nat → Nat → Int32) : Prop := Cl M M' ∧ M' 0 6 = M 0 6 ∧ ∀ k i, k = 11 ∨ k = 12 → M' k i = M k i
theorem Kp.refl (M : Nat → Nat → Int32) : Kp M M := ⟨Cl.refl M, rfl, fun _ _ _ => rfl⟩
theorem Kp.trans {M M1 M2 : Nat → Nat → Int32} (h1 : Kp M M1) (h2 : Kp M1 M2) : Kp M M2 := ⟨h1.1.trans h2.1, h2.2.1.trans h1.2.1, fun k i a => (h2.2.2 k i a).trans (h1.2.2 k i a)⟩
theorem St7.kp {M M' : Nat → Nat → Int32} (h : St7 M M') : Kp M M' := ⟨fun k i a => h k i (Or.inl (by omega)), h 0 6 (Or.inr (by omega)), fun k i a => h k i (Or.inl (by omega))⟩
theorem Kp.up {M : Nat → Nat → Int32} {k i : Nat} (v : Int32) (hk : 0 < k) (hk2 : k < 103) (h11 : k ≠ 11) (h12 : k ≠ 12) : Kp M (mup M k i v) := ⟨fun k' j a => mup_ne _ _ (Or.inl (by omega)), mup_ne _ _ (Or.inl (by omega)), fun k' j a => mup_ne _ _ (Or.inl (by omega))⟩
theorem Kp.r11 {M M' : Nat → Nat → Int32} (h : Kp M M') {l : List Nat} (hR : RowIs M 11 l) : RowIs M' 11 l := hR.eqs (fun i => h.2.2 _ _ (Or.inl rfl)) (fun i => h.2.2 _ _ (Or.inr rfl))
set_option maxRecDepth 100000 in
set_option maxHeartbeats 4000000 in
theorem c_resolve {ω : jw} {d : Nat} {M : Nat → Nat → Int32} {J sl : Nat} {Q : jr → jh → Prop} {σ : Sg} (hC : CS M σ) (hW : Wb σ) {p s : Nat} (hp : p < 6) {y : Sym} (hs : (Zy σ p)[s]? = some y) (hq : ∀ M', Kp M M' → CS M' (rsF σ p y).2 → Q (.inl (some (.int (rsF σ p y).1))) (jst ω M' J sl)) : jwp ω (d + 3) mBO_resolve [.ref (jN ω + 0), .int (nI p), .int (nI s)] (jst ω M J sl) Q := by
  have hLk := hC.1 p hp
  obtain ⟨g1, g2, g3, g4⟩ := hLk.2.2.2.2.2.1.2.2 s y hs
  have hs6 : s < 6 := by have := (List.getElem?_eq_some_iff.mp hs).1; have := hLk.2.2.2.2.2.1.2.1; omega
  have hl6 : ∀ b, (luF σ p y.1 (Sp σ)).1 = some b → b < 6 := fun b hb => by
    rcases (luF_lt hb).1 with h | h
    · exact hC.2.2.2.1.2.2.1 b h
    · exact hLk.2.2.2.2.2.2.2.2.2.1 b h
  refine jwp_of (by simp [Value.category]) (Nat.le_of_ble_eq_true rfl) (ls := [some (.ref (jN ω + 0)), some (.int (nI p)), some (.int (nI s)), none, none, none]) rfl ?_
  refine jj_al0 dBO_resolve_0 ?_
  refine mr_get _ dBO_resolve_1 clBO lkBO_11 (s0 _) rfl ?_
  refine jj_il1 dBO_resolve_4 ?_
  refine mr_aald dBO_resolve_5 (hp) ?_
  refine jj_as3 dBO_resolve_6 ?_
  refine jj_al3 dBO_resolve_7 ?_
  refine mr_get _ dBO_resolve_8 clLk lkBO_84 (sL0 hp _) rfl ?_
  refine mr_get _ dBO_resolve_11 clSy lkBO_248 (sL3 hp _) rfl ?_
  refine jj_il2 dBO_resolve_14 ?_
  refine mr_iald dBO_resolve_15 (sL4 hp _) (hs6) (by decide) ?_
  rw [g1]
  refine jj_is4 dBO_resolve_16 ?_
  refine jj_al0 dBO_resolve_18 ?_
  refine jj_il1 dBO_resolve_19 ?_
  refine jj_il4 dBO_resolve_20 ?_
  refine mv2 dBO_resolve_22 clBO cvBO_251 (s0 _) (Nat.le_of_ble_eq_true rfl) ?_
  refine c_lookUp hC hW hp y.1 (fun M1 hO1 hC1 => jk_i ?_)
  refine jj_is5 dBO_resolve_25 ?_
  refine jj_il5 dBO_resolve_27 ?_
  refine jj_iconst (-1) dBO_resolve_29 (by decide) ?_
  refine jj_icmp_ne 51 dBO_resolve_30 (by decide) (fun q1 => ?_) (fun q1 => ?_)
  · obtain ⟨q, hqs⟩ : ∃ q, (luF σ p y.1 (Sp σ)).1 = some q := by
      cases hx : (luF σ p y.1 (Sp σ)).1 with
      | none => rw [hx] at q1; exact absurd rfl q1
      | some q => exact ⟨q, rfl⟩
    have hq6 := hl6 q hqs
    have hrs : rsF σ p y = (bI (Zb σ q) + plcF y.1 (Zy σ q), if q = p then zSt σ (luF σ p y.1 (Sp σ)).2 else zUse (zSt σ (luF σ p y.1 (Sp σ)).2) p q) := by unfold rsF; rw [hqs]
    rw [hqs, show bI (some q) = nI q from rfl]
    refine jj_il5 dBO_resolve_51 ?_
    refine jj_il1 dBO_resolve_53 ?_
    refine jj_icmp_eq 70 dBO_resolve_54 (by decide) (fun q3 => ?_) (fun q3 => ?_)
    · refine jj_al0 dBO_resolve_70 ?_
      refine jj_il5 dBO_resolve_71 ?_
      refine jj_il4 dBO_resolve_73 ?_
      refine mv2 dBO_resolve_75 clBO cvBO_194 (s0 _) (Nat.le_of_ble_eq_true rfl) ?_
      first
        | (have hC2 : CS (mup M1 (13 + 15 * p) 7 (M1 (13 + 15 * p) 7 ||| ((1 : Int32) <<< (nI q &&& 31)))) (zUse (zSt σ (luF σ p y.1 (Sp σ)).2) p q) := CS_use hC1 hp hq6 (fun k i a => mup_ne _ _ a) (mup_at _ _ _ _)
           refine jwp_up (c_addressIn hC2 hq6 y.1 (jk_i ?_)))
        | refine jwp_up (c_addressIn hC1 hq6 y.1 (jk_i ?_))
      exact jj_iret dBO_resolve_78 rfl rfl (by rw [hrs] at hq; rw [if_pos ((nI6 hq6 hp).mp q3)] at hq; exact hq M1 hO1.kp hC1)
    · refine jj_al3 dBO_resolve_57 ?_
      refine jj_dup dBO_resolve_58 rfl ?_
      refine mr_get _ dBO_resolve_59 clLk lkBO_232 (sL0 hp _) rfl ?_
      refine jj_iconst 1 dBO_resolve_62 (by decide) ?_
      refine jj_il5 dBO_resolve_63 ?_
      refine jj_ishl dBO_resolve_65 ?_
      refine jj_ior dBO_resolve_66 ?_
      refine mr_put dBO_resolve_67 clLk lkBO_232 rfl rfl (sL0 hp _) (sL0 hp _) (Nat.le_of_ble_eq_true rfl) rfl ?_
      refine jj_al0 dBO_resolve_70 ?_
      refine jj_il5 dBO_resolve_71 ?_
      refine jj_il4 dBO_resolve_73 ?_
      refine mv2 dBO_resolve_75 clBO cvBO_194 (s0 _) (Nat.le_of_ble_eq_true rfl) ?_
      first
        | (have hC2 : CS (mup M1 (13 + 15 * p) 7 (M1 (13 + 15 * p) 7 ||| ((1 : Int32) <<< (nI q &&& 31)))) (zUse (zSt σ (luF σ p y.1 (Sp σ)).2) p q) := CS_use hC1 hp hq6 (fun k i a => mup_ne _ _ a) (mup_at _ _ _ _)
           refine jwp_up (c_addressIn hC2 hq6 y.1 (jk_i ?_)))
        | refine jwp_up (c_addressIn hC1 hq6 y.1 (jk_i ?_))
      exact jj_iret dBO_resolve_78 rfl rfl (by rw [hrs] at hq; rw [if_neg (fun h => q3 (by rw [h]))] at hq; exact hq _ (hO1.kp.trans (Kp.up _ (by omega) (by omega) (by omega) (by omega))) hC2)
  · have hn := (bI_none (fun b hb => by have := hl6 b hb; omega)).mp q1
    have hrs : rsF σ p y = (if y.2.2 = true then 0 else -1, zSt σ (luF σ p y.1 (Sp σ)).2) := by unfold rsF; rw [hn]
    refine jj_al3 dBO_resolve_33 ?_
    refine mr_get _ dBO_resolve_34 clLk lkBO_84 (sL0 hp _) rfl ?_
    refine mr_get _ dBO_resolve_37 clSy lkBO_254 (sL3 hp _) rfl ?_
    refine jj_il2 dBO_resolve_40 ?_
    refine mr_zald dBO_resolve_41 (sL7 hp _) (hs6) (by decide) ?_
    rw [hO1 _ _ (Or.inl (by omega)), g4]
    refine jj_if_eq 49 dBO_resolve_42 (by decide) (fun q2 => ?_) (fun q2 => ?_)
    · refine jj_iconst (-1) dBO_resolve_49 (by decide) ?_
      exact jj_iret dBO_resolve_50 rfl rfl (by rw [hrs] at hq; rw [if_neg (fun h => by rw [h] at q2; exact absurd q2 (by decide))] at hq; exact hq M1 hO1.kp hC1)
    · refine jj_iconst 0 dBO_resolve_45 (by decide) ?_
      refine jj_goto 50 dBO_resolve_46 (by decide) ?_
      exact jj_iret dBO_resolve_50 rfl rfl (by rw [hrs] at hq; rw [if_pos (by cases hy : y.2.2; rw [hy] at q2; exact absurd rfl q2; rfl)] at hq; exact hq M1 hO1.kp hC1)
