def zBj (σ : Sg) (bg : List Nat) (ev : List Int32) : Sg := (Zs σ, Zn σ, Zy σ, Zr σ, Zb σ, Zg σ, Zu σ, Zo σ, Zw σ, Gl σ, bg, ev, Sp σ)
def zBn (σ : Sg) (ls : List Nat) : Sg := zBj σ (ls.foldl rput (Bg σ)) (Ev σ ++ ls.map nI)
theorem CS_bj {M M' : Nat → Nat → Int32} {σ : Sg} {bg : List Nat} {ev : List Int32} (hC : CS M σ) (hA : ∀ k i, k ≠ 5 → k ≠ 6 → k ≠ 9 → k ≠ 10 → M' k i = M k i) (hB : RowIs M' 9 bg) (hJ : JrIs M' ev) : CS M' (zBj σ bg ev) := by
  obtain ⟨c1, c2, c3, c4, c5, ⟨l0, c6⟩, c7⟩ := hC
  exact ⟨fun q hq => (c1 q hq).eqs (fun k i a b => hA _ _ (by omega) (by omega) (by omega) (by omega)) rfl rfl rfl rfl rfl rfl rfl rfl, c2.eqs (fun i => hA _ _ (by omega) (by omega) (by omega) (by omega)) (fun i => hA _ _ (by omega) (by omega) (by omega) (by omega)) rfl rfl rfl, hJ, c4.eqs (fun i => hA _ _ (by omega) (by omega) (by omega) (by omega)) (fun i => hA _ _ (by omega) (by omega) (by omega) (by omega)), hB, ⟨l0, c6.eqs (fun i => hA _ _ (by omega) (by omega) (by omega) (by omega)) (fun i => hA _ _ (by omega) (by omega) (by omega) (by omega))⟩, by rw [hA _ _ (by omega) (by omega) (by omega) (by omega)]; exact c7⟩
/-- going into o, the newcomers and those that have begun: f steps of needs deep -/
def dfF (nd : Nat → List Nat) : Nat → Nat → List Nat × List Nat → List Nat × List Nat
  | 0, o, x => (x.1.filter (fun z => decide (z ≠ o)), x.2 ++ [o])
  | f + 1, o, x => (((nd o).foldl (fun x q => if q ∈ x.1 then dfF nd f q x else x) (x.1.filter (fun z => decide (z ≠ o)), x.2)).1, ((nd o).foldl (fun x q => if q ∈ x.1 then dfF nd f q x else x) (x.1.filter (fun z => decide (z ≠ o)), x.2)).2 ++ [o])
def dfL (nd : Nat → List Nat) (f : Nat) (l : List Nat) (x : List Nat × List Nat) : List Nat × List Nat := l.foldl (fun x q => if q ∈ x.1 then dfF nd f q x else x) x
theorem dfF_s (nd : Nat → List Nat) (f o : Nat) (x : List Nat × List Nat) : dfF nd (f + 1) o x = ((dfL nd f (nd o) (x.1.filter (fun z => decide (z ≠ o)), x.2)).1, (dfL nd f (nd o) (x.1.filter (fun z => decide (z ≠ o)), x.2)).2 ++ [o]) := rfl
theorem dfL_c (nd : Nat → List Nat) (f q : Nat) (l : List Nat) (x : List Nat × List Nat) : dfL nd f (q :: l) x = dfL nd f l (if q ∈ x.1 then dfF nd f q x else x) := rfl
theorem filt_lt {l : List Nat} {o : Nat} (h : o ∈ l) : (l.filter (fun z => decide (z ≠ o))).length < l.length := by
  induction l with
  | nil => cases h
  | cons a l ih =>
    have hle := List.length_filter_le (fun z => decide (z ≠ o)) l
    by_cases ha : a = o
    · rw [List.filter_cons_of_neg (by simp [ha])]
      simp only [List.length_cons]; omega
    · rw [List.filter_cons_of_pos (by simp [ha])]
      have := ih ((List.mem_cons.mp h).resolve_left (fun e => ha e.symm))
      simp only [List.length_cons]; omega
theorem dfL_len {nd : Nat → List Nat} {f : Nat} (ih : ∀ o x, o ∈ x.1 → (dfF nd f o x).1.length + (dfF nd f o x).2.length ≤ x.1.length + x.2.length) : ∀ (l : List Nat) (x : List Nat × List Nat), (dfL nd f l x).1.length + (dfL nd f l x).2.length ≤ x.1.length + x.2.length := by
  intro l
  induction l with
  | nil => intro x; exact Nat.le_refl _
  | cons q l ihl =>
    intro x
    rw [dfL_c]
    have h1 := ihl (if q ∈ x.1 then dfF nd f q x else x)
    by_cases hq : q ∈ x.1
    · rw [if_pos hq] at h1 ⊢
      have := ih q x hq
      omega
    · rw [if_neg hq] at h1 ⊢
      exact h1
theorem dfF_len (nd : Nat → List Nat) : ∀ (f o : Nat) (x : List Nat × List Nat), o ∈ x.1 → (dfF nd f o x).1.length + (dfF nd f o x).2.length ≤ x.1.length + x.2.length := by
  intro f
  induction f with
  | zero =>
    intro o x ho
    have := filt_lt ho
    simp only [dfF, List.length_append, List.length_cons, List.length_nil]; omega
  | succ f ih =>
    intro o x ho
    have h1 := filt_lt ho
    have h2 := dfL_len ih (nd o) (x.1.filter (fun z => decide (z ≠ o)), x.2)
    rw [dfF_s]
    simp only [List.length_append, List.length_cons, List.length_nil] at h2 ⊢
    omega
theorem bt_not1 {x : Int32} {q i : Nat} (hq : q < 32) (hi : i < 32) : bt (x &&& (((1 : Int32) <<< (nI q &&& 31)) ^^^ (-1))) i = (bt x i && decide (i ≠ q)) := by
  rw [b_and, b_xor, bt_one hq hi, b_m1 i hi]
  by_cases h : i = q <;> simp [h]
theorem NwIs.del {M M' : Nat → Nat → Int32} {nw : List Nat} {p : Nat} (h : NwIs M nw) (hp : p < 32) (he : M' 0 6 = M 0 6 &&& (((1 : Int32) <<< (nI p &&& 31)) ^^^ (-1))) : NwIs M' (nw.filter (fun z => decide (z ≠ p))) := fun i hi => by
  rw [he, bt_not1 hp hi, h i hi]
  simp only [List.mem_filter, decide_eq_true_eq]
  by_cases h1 : i ∈ nw <;> by_cases h2 : i = p <;> simp [h1, h2]
def GoP (ω : jw) (σ : Sg) (J sl B f : Nat) : Prop := ∀ (d : Nat) (Q : jr → jh → Prop) (o : Nat) (x : List Nat × List Nat) (M : Nat → Nat → Int32), o < 6 → o ∈ x.1 → x.1.length + x.2.length ≤ B → CS M (zBn σ x.2) → NwIs M x.1 → (∀ M', CS M' (zBn σ (dfF (Zn σ) f o x).2) → NwIs M' (dfF (Zn σ) f o x).1 → Cl M M' → Q (.inl none) (jst ω M' J sl)) → jwp ω (d + 2 * f + 2) mBO_goInto [.ref (jN ω + 0), .int (nI o), .int (nI (6 - f))] (jst ω M J sl) Q
set_option maxRecDepth 100000 in
set_option maxHeartbeats 4000000 in
theorem c_gin_l {ω : jw} {d : Nat} {J sl : Nat} {Q : jr → jh → Prop} {σ : Sg} {B f o : Nat} (hf : f < 5) (ih0 : GoP ω σ J sl B f) (ho : o < 6) {M0 : Nat → Nat → Int32} :
    ∀ (n i : Nat) (x : List Nat × List Nat) (M : Nat → Nat → Int32), (Zn σ o).length - i < n → i ≤ (Zn σ o).length → x.1.length + x.2.length ≤ B → CS M (zBn σ x.2) → NwIs M x.1 → Cl M0 M → (∀ M', CS M' (zBn σ (dfL (Zn σ) f ((Zn σ o).drop i) x).2) → NwIs M' (dfL (Zn σ) f ((Zn σ o).drop i) x).1 → Cl M0 M' → Q (.inl none) (jst ω M' J sl)) →
    jj ω (d + 2 * f + 3) mBO_goIntoNeeds 20 [some (.ref (jN ω + 0)), some (.int (nI o)), some (.int (nI (5 - f))), some (.ref (jN ω + (13 + 15 * o + 1))), some (.int (nI i))] [] (jst ω M J sl) Q := by
  intro n
  induction n with
  | zero => intro i x M hn; omega
  | succ n ih =>
    intro i x M hn hi hB hC hN hCl hq
    have hR : RowIs M (13 + 15 * o + 1) (Zn σ o) := (hC.1 o ho).2.2.2.2.1
    have hl6 := hR.2.1
    have hfe : nI (5 - f) + 1 = nI (6 - f) := by rw [show 6 - f = 5 - f + 1 by omega]; exact nI_1 _
    refine jj_il4 dBO_goIntoNeeds_20 ?_
    refine jj_al3 dBO_goIntoNeeds_22 ?_
    refine mr_get _ dBO_goIntoNeeds_23 clRw lkBO_74 (sL1 ho _) rfl ?_
    refine jj_icmp_ge 66 dBO_goIntoNeeds_26 (by decide) (fun q1 => ?_) (fun q1 => ?_)
    · exact jj_vret dBO_goIntoNeeds_66 rfl (by rw [List.drop_eq_nil_of_le (le_le hR.1 q1 (by omega) (by omega))] at hq; exact hq M hC hN hCl)
    · have hi2 : i < (Zn σ o).length := nle_lt hR.1 q1 (by omega) (by omega)
      obtain ⟨p, e1, e2, e3⟩ := hR.at hi2
      rw [List.drop_eq_getElem_cons hi2, show (Zn σ o)[i] = p from (List.getElem?_eq_some_iff.mp e1).2, dfL_c] at hq
      refine jj_al0 dBO_goIntoNeeds_29 ?_
      refine mr_get _ dBO_goIntoNeeds_30 clBO lkBO_42 (s0 _) rfl ?_
      refine jj_al3 dBO_goIntoNeeds_33 ?_
      refine mr_get _ dBO_goIntoNeeds_34 clRw lkBO_203 (sL1 ho _) rfl ?_
      refine jj_il4 dBO_goIntoNeeds_37 ?_
      refine mr_iald dBO_goIntoNeeds_39 (sL2 ho _) (by omega) (by decide) ?_
      rw [e3]
      refine ms2 dBO_goIntoNeeds_40 csBO_144 (Nat.le_of_ble_eq_true rfl) ?_
      refine c_isIn _ (p := p) (by omega) (fun hin => jk_i ?_) (fun hin => jk_i ?_)
      · refine jj_if_eq 60 dBO_goIntoNeeds_43 (by decide) (fun h => absurd h (by decide)) (fun _ => ?_)
        rw [hN p (by omega), decide_eq_true_eq] at hin
        rw [if_pos hin] at hq
        refine jj_al0 dBO_goIntoNeeds_46 ?_
        refine jj_al3 dBO_goIntoNeeds_47 ?_
        refine mr_get _ dBO_goIntoNeeds_48 clRw lkBO_203 (sL1 ho _) rfl ?_
        refine jj_il4 dBO_goIntoNeeds_51 ?_
        refine mr_iald dBO_goIntoNeeds_53 (sL2 ho _) (by omega) (by decide) ?_
        rw [e3]
        refine jj_il2 dBO_goIntoNeeds_54 ?_
        refine jj_iconst 1 dBO_goIntoNeeds_55 (by decide) ?_
        refine jj_iadd dBO_goIntoNeeds_56 ?_
        rw [hfe]
        refine mv2 dBO_goIntoNeeds_57 clBO cvBO_148 (s0 _) (Nat.le_of_ble_eq_true rfl) ?_
        refine ih0 d _ p x M e2 hin hB hC hN (fun M1 hC1 hN1 hCl1 => jk_v ?_)
        refine jj_ii4 (nI (i + 1)) dBO_goIntoNeeds_60 (inc1 i) ?_
        refine jj_goto 20 dBO_goIntoNeeds_63 (by decide) ?_
        exact ih (i + 1) _ M1 (by omega) (by omega) (Nat.le_trans (dfF_len _ f p x hin) hB) hC1 hN1 (hCl.trans hCl1) hq
      · refine jj_if_eq 60 dBO_goIntoNeeds_43 (by decide) (fun _ => ?_) (fun h => absurd h (by decide))
        refine jj_ii4 (nI (i + 1)) dBO_goIntoNeeds_60 (inc1 i) ?_
        refine jj_goto 20 dBO_goIntoNeeds_63 (by decide) ?_
        rw [hN p (by omega), decide_eq_false_iff_not] at hin
        rw [if_neg hin] at hq
        exact ih (i + 1) x M (by omega) (by omega) hB hC hN hCl hq
set_option maxRecDepth 100000 in
set_option maxHeartbeats 4000000 in
theorem c_goInto_tail {ω : jw} {d : Nat} {J sl : Nat} {Q : jr → jh → Prop} {σ : Sg} {o : Nat} (ho : o < 6) {y : List Nat × List Nat} {M : Nat → Nat → Int32} (c2 : Value) (hE : (Ev σ).length + y.2.length < 2 ^ 30) (hC : CS M (zBn σ y.2)) (hN : NwIs M y.1) (hq : ∀ M', CS M' (zBn σ (y.2 ++ [o])) → NwIs M' y.1 → Cl M M' → Q (.inl none) (jst ω M' J sl)) : jj ω (d + 2) mBO_goInto 20 [some (.ref (jN ω + 0)), some (.int (nI o)), some c2] [] (jst ω M J sl) Q := by
  refine jj_al0 dBO_goInto_20 ?_
  refine mr_get _ dBO_goInto_21 clBO lkBO_36 (s0 _) rfl ?_
  refine jj_il1 dBO_goInto_24 ?_
  refine mv1 dBO_goInto_25 clRw cvBO_81 (s9 _) (Nat.le_of_ble_eq_true rfl) ?_
  refine c_put row9 o ho hC.2.2.2.2.1 (fun M1 hO1 hR1 => jk_v ?_)
  refine jj_al0 dBO_goInto_28 ?_
  refine mr_get _ dBO_goInto_29 clBO lkBO_25 (s0 _) rfl ?_
  refine jj_il1 dBO_goInto_32 ?_
  refine mv1 dBO_goInto_33 clJr cvBO_270 (s5 _) (Nat.le_of_ble_eq_true rfl) ?_
  have hJ1 : JrIs M1 (Ev σ ++ y.2.map nI) := hC.2.2.1.eqs (fun i => hO1 _ _ (by omega) (by omega)) (fun i => hO1 _ _ (by omega) (by omega))
  refine c_note_j hJ1 (by simpa using hE) (nI o) (fun M2 hO2 hJ2 => jk_v ?_)
  exact jj_vret dBO_goInto_36 rfl (hq M2 (by
    have h := CS_bj (M' := M2) (bg := (y.2 ++ [o]).foldl rput (Bg σ)) (ev := Ev σ ++ (y.2 ++ [o]).map nI) hC (fun k i a1 a2 a3 a4 => by rw [hO2 k i (by omega), hO1 _ _ a3 a4]) (by
      rw [List.foldl_append]
      exact hR1.eqs (fun i => hO2 _ _ (by omega)) (fun i => hO2 _ _ (by omega))) (by
      rw [List.map_append, ← List.append_assoc]
      exact hJ2)
    exact h) (fun i hi => by rw [hO2 _ _ (by omega), hO1 _ _ (by omega) (by omega)]; exact hN i hi) (fun k i a => by rw [hO2 _ _ (by omega), hO1 _ _ (by omega) (by omega)]))
set_option maxRecDepth 100000 in
set_option maxHeartbeats 4000000 in
theorem c_goInto {ω : jw} {J sl : Nat} {σ : Sg} {B : Nat} (hE : (Ev σ).length + B < 2 ^ 30) : ∀ f, f ≤ 5 → GoP ω σ J sl B f := by
  intro f
  induction f with
  | zero =>
    intro _ d Q o x M ho hin hB hC hN hq
    have hN1 : NwIs (mup M 0 6 (M 0 6 &&& (((1 : Int32) <<< (nI o &&& 31)) ^^^ (-1)))) (x.1.filter (fun z => decide (z ≠ o))) := hN.del (by omega) (mup_at _ _ _ _)
    have hC1 := CS_nw (M' := mup M 0 6 (M 0 6 &&& (((1 : Int32) <<< (nI o &&& 31)) ^^^ (-1)))) hC (fun k i a => mup_ne _ _ a)
    refine jwp_of (by simp [Value.category]) (Nat.le_of_ble_eq_true rfl) (ls := [some (.ref (jN ω + 0)), some (.int (nI o)), some (.int (nI 6))]) rfl ?_
    refine jj_al0 dBO_goInto_0 ?_
    refine jj_dup dBO_goInto_1 rfl ?_
    refine mr_get _ dBO_goInto_2 clBO lkBO_42 (s0 _) rfl ?_
    refine jj_iconst 1 dBO_goInto_5 (by decide) ?_
    refine jj_il1 dBO_goInto_6 ?_
    refine jj_ishl dBO_goInto_7 ?_
    refine jj_iconst (-1) dBO_goInto_8 (by decide) ?_
    refine jj_ixor dBO_goInto_9 ?_
    refine jj_iand dBO_goInto_10 ?_
    refine mr_put dBO_goInto_11 clBO lkBO_42 rfl rfl (s0 _) (s0 _) (Nat.le_of_ble_eq_true rfl) rfl ?_
    refine jj_al0 dBO_goInto_14 ?_
    refine jj_il1 dBO_goInto_15 ?_
    refine jj_il2 dBO_goInto_16 ?_
    refine mv2 dBO_goInto_17 clBO cvBO_267 (s0 _) (Nat.le_of_ble_eq_true rfl) ?_
    refine jwp_of (by simp [Value.category]) (Nat.le_of_ble_eq_true rfl) (ls := [some (.ref (jN ω + 0)), some (.int (nI o)), some (.int (nI 6)), none, none]) rfl ?_
    refine jj_il2 dBO_goIntoNeeds_0 ?_
    refine jj_bipush 6 dBO_goIntoNeeds_1 (by decide) ?_
    refine jj_icmp_lt 7 dBO_goIntoNeeds_3 (by decide) (fun h => absurd h (by decide)) (fun _ => ?_)
    refine jj_vret dBO_goIntoNeeds_6 rfl (jk_v ?_)
    exact c_goInto_tail (d := d) ho (y := (x.1.filter (fun z => decide (z ≠ o)), x.2)) _ (by have := x.1.length; show (Ev σ).length + x.2.length < 2 ^ 30; omega) hC1 hN1 (fun M1 a b c => hq M1 a b (fun k i h => by rw [c k i h, mup_ne _ _ (Or.inl (by omega))]))
  | succ f ih =>
    intro hf d Q o x M ho hin hB hC hN hq
    have hN1 : NwIs (mup M 0 6 (M 0 6 &&& (((1 : Int32) <<< (nI o &&& 31)) ^^^ (-1)))) (x.1.filter (fun z => decide (z ≠ o))) := hN.del (by omega) (mup_at _ _ _ _)
    have hC1 := CS_nw (M' := mup M 0 6 (M 0 6 &&& (((1 : Int32) <<< (nI o &&& 31)) ^^^ (-1)))) hC (fun k i a => mup_ne _ _ a)
    have hlt := filt_lt hin
    rw [show 6 - (f + 1) = 5 - f by omega, show d + 2 * (f + 1) + 2 = d + 2 * f + 4 by omega]
    refine jwp_of (by simp [Value.category]) (Nat.le_of_ble_eq_true rfl) (ls := [some (.ref (jN ω + 0)), some (.int (nI o)), some (.int (nI (5 - f)))]) rfl ?_
    refine jj_al0 dBO_goInto_0 ?_
    refine jj_dup dBO_goInto_1 rfl ?_
    refine mr_get _ dBO_goInto_2 clBO lkBO_42 (s0 _) rfl ?_
    refine jj_iconst 1 dBO_goInto_5 (by decide) ?_
    refine jj_il1 dBO_goInto_6 ?_
    refine jj_ishl dBO_goInto_7 ?_
    refine jj_iconst (-1) dBO_goInto_8 (by decide) ?_
    refine jj_ixor dBO_goInto_9 ?_
    refine jj_iand dBO_goInto_10 ?_
    refine mr_put dBO_goInto_11 clBO lkBO_42 rfl rfl (s0 _) (s0 _) (Nat.le_of_ble_eq_true rfl) rfl ?_
    refine jj_al0 dBO_goInto_14 ?_
    refine jj_il1 dBO_goInto_15 ?_
    refine jj_il2 dBO_goInto_16 ?_
    refine mv2 dBO_goInto_17 clBO cvBO_267 (s0 _) (Nat.le_of_ble_eq_true rfl) ?_
    refine jwp_of (by simp [Value.category]) (Nat.le_of_ble_eq_true rfl) (ls := [some (.ref (jN ω + 0)), some (.int (nI o)), some (.int (nI (5 - f))), none, none]) rfl ?_
    refine jj_il2 dBO_goIntoNeeds_0 ?_
    refine jj_bipush 6 dBO_goIntoNeeds_1 (by decide) ?_
    refine jj_icmp_lt 7 dBO_goIntoNeeds_3 (by decide) (fun _ => ?_) (fun h => absurd (show nI (5 - f) < 6 from Int32.lt_iff_toInt_lt.mpr (by rw [nI_toInt (by omega)]; show ((5 - f : Nat) : Int) < 6; omega)) h)
    refine jj_al0 dBO_goIntoNeeds_7 ?_
    refine mr_get _ dBO_goIntoNeeds_8 clBO lkBO_11 (s0 _) rfl ?_
    refine jj_il1 dBO_goIntoNeeds_11 ?_
    refine mr_aald dBO_goIntoNeeds_12 ho ?_
    refine mr_get _ dBO_goIntoNeeds_13 clLk lkBO_67 (sL0 ho _) rfl ?_
    refine jj_as3 dBO_goIntoNeeds_16 ?_
    refine jj_iconst 0 dBO_goIntoNeeds_17 (by decide) ?_
    refine jj_is4 dBO_goIntoNeeds_18 ?_
    refine c_gin_l (d := d) (by omega) (ih (by omega)) ho ((Zn σ o).length + 1) 0 (x.1.filter (fun z => decide (z ≠ o)), x.2) _ (by omega) (by omega) (by show (x.1.filter (fun z => decide (z ≠ o))).length + x.2.length ≤ B; omega) hC1 hN1 (Cl.refl _) (fun M2 hC2 hN2 hCl2 => jk_v ?_)
    rw [List.drop_zero] at hC2 hN2
    exact c_goInto_tail (d := d + 2 * f + 2) ho _ (by have := dfL_len (dfF_len (Zn σ) f) (Zn σ o) (x.1.filter (fun z => decide (z ≠ o)), x.2); simp only at this; omega) hC2 hN2 (fun M1 a b c => hq M1 a b (fun k i h => by rw [c k i h, hCl2 k i h, mup_ne _ _ (Or.inl (by omega))]))
