theorem jj_ldcw {ω : jw} {d : Nat} {x : jm} {pc : Nat} {ls : List (Option Value)} {st : List Value} {h : jh} {Q : jr → jh → Prop} {i : Nat} (v : Int32) (hd : decode x.2.1 pc = .ok (.ldc_w i, 3)) (hk : Cond.constant x.1.cls i v ∈ jWS) (k : jj ω d x (pc + 3) ls (.int v :: st) h Q) : jj ω d x pc ls st h Q := by
  intro p e R s m args below meth c C H locs cells slots lsm hH hL hc hs hls hlen
  exact lv_ldcw C.1 C.2.1 C.2.2.2.2.2.2.2.1 (C.2.2.2.2.2.2.2.2.1 _ hk) hd (k p e R s m args below meth c C H locs cells slots lsm hH hL hc hs hls hlen)
def us (x : Int32) (n : Int32) : Int32 := (x.toUInt32 >>> (n.toUInt32 &&& Int32.toUInt32 31)).toInt32
def bc1 (x : Int32) : Int32 := x - (us x 1 &&& 1431655765)
def bc2 (x : Int32) : Int32 := (x &&& 858993459) + (us x 2 &&& 858993459)
def bc3 (x : Int32) : Int32 := (x + us x 4) &&& 252645135
def bc4 (x : Int32) : Int32 := x + us x 8
def bc5 (x : Int32) : Int32 := x + us x 16
def bcF (x : Int32) : Int32 := bc5 (bc4 (bc3 (bc2 (bc1 x)))) &&& 63
def x6 (b0 b1 b2 b3 b4 b5 : Bool) : Int32 := (if b0 then 1 else 0) ||| ((if b1 then 2 else 0) ||| ((if b2 then 4 else 0) ||| ((if b3 then 8 else 0) ||| ((if b4 then 16 else 0) ||| (if b5 then 32 else 0)))))
theorem x6_bc : ∀ b0 b1 b2 b3 b4 b5 : Bool, bcF (x6 b0 b1 b2 b3 b4 b5) = nI (b0.toNat + (b1.toNat + (b2.toNat + (b3.toNat + (b4.toNat + b5.toNat))))) := by decide +kernel
theorem x6_lo : ∀ b0 b1 b2 b3 b4 b5 : Bool, bt (x6 b0 b1 b2 b3 b4 b5) 0 = b0 ∧ bt (x6 b0 b1 b2 b3 b4 b5) 1 = b1 ∧ bt (x6 b0 b1 b2 b3 b4 b5) 2 = b2 ∧ bt (x6 b0 b1 b2 b3 b4 b5) 3 = b3 ∧ bt (x6 b0 b1 b2 b3 b4 b5) 4 = b4 ∧ bt (x6 b0 b1 b2 b3 b4 b5) 5 = b5 := by decide +kernel
theorem x6_hi : ∀ b0 b1 b2 b3 b4 b5 : Bool, ∀ i : Fin 32, 6 ≤ i.val → bt (x6 b0 b1 b2 b3 b4 b5) i.val = false := by decide +kernel
def cnt6 (nw : List Nat) : Nat := ((List.range 6).filter (fun i => decide (i ∈ nw))).length
theorem bc_cnt {x : Int32} {nw : List Nat} (h : ∀ i, i < 32 → bt x i = decide (i ∈ nw)) (h6 : ∀ p ∈ nw, p < 6) : bcF x = nI (cnt6 nw) := by
  have hx : x = x6 (decide (0 ∈ nw)) (decide (1 ∈ nw)) (decide (2 ∈ nw)) (decide (3 ∈ nw)) (decide (4 ∈ nw)) (decide (5 ∈ nw)) := b_ext (fun i hi => by
    obtain ⟨e0, e1, e2, e3, e4, e5⟩ := x6_lo (decide (0 ∈ nw)) (decide (1 ∈ nw)) (decide (2 ∈ nw)) (decide (3 ∈ nw)) (decide (4 ∈ nw)) (decide (5 ∈ nw))
    rw [h i hi]
    by_cases h6i : 6 ≤ i
    · rw [x6_hi _ _ _ _ _ _ ⟨i, hi⟩ h6i]
      exact decide_eq_false (fun hm => by have := h6 i hm; omega)
    · have : i = 0 ∨ i = 1 ∨ i = 2 ∨ i = 3 ∨ i = 4 ∨ i = 5 := by omega
      rcases this with rfl | rfl | rfl | rfl | rfl | rfl
      · exact e0.symm
      · exact e1.symm
      · exact e2.symm
      · exact e3.symm
      · exact e4.symm
      · exact e5.symm)
  rw [hx, x6_bc]
  congr 1
  unfold cnt6
  rw [show List.range 6 = [0, 1, 2, 3, 4, 5] from rfl]
  simp only [List.filter_cons, List.filter_nil]
  by_cases h0 : 0 ∈ nw <;> by_cases h1 : 1 ∈ nw <;> by_cases h2 : 2 ∈ nw <;> by_cases h3 : 3 ∈ nw <;> by_cases h4 : 4 ∈ nw <;> by_cases h5 : 5 ∈ nw <;> simp [h0, h1, h2, h3, h4, h5]
set_option maxRecDepth 100000 in
set_option maxHeartbeats 4000000 in
theorem c_bitCount {ω : jw} {d : Nat} {h : jh} {Q : jr → jh → Prop} (x : Int32) (hq : Q (.inl (some (.int (bcF x)))) h) : jwp ω d mIn_bitCount [.int x] h Q := by
  refine jwp_of (by simp [Value.category]) (Nat.le_of_ble_eq_true rfl) (ls := [some (.int x)]) rfl ?_
  refine jj_il0 dIn_bitCount_0 ?_
  refine jj_il0 dIn_bitCount_1 ?_
  refine jj_iconst 1 dIn_bitCount_2 (by decide) ?_
  refine jj_iushr dIn_bitCount_3 ?_
  refine jj_ldcw 1431655765 dIn_bitCount_4 kcIn_265 ?_
  refine jj_iand dIn_bitCount_7 ?_
  refine jj_isub dIn_bitCount_8 ?_
  refine jj_is0 dIn_bitCount_9 ?_
  refine jj_il0 dIn_bitCount_10 ?_
  refine jj_ldcw 858993459 dIn_bitCount_11 kcIn_266 ?_
  refine jj_iand dIn_bitCount_14 ?_
  refine jj_il0 dIn_bitCount_15 ?_
  refine jj_iconst 2 dIn_bitCount_16 (by decide) ?_
  refine jj_iushr dIn_bitCount_17 ?_
  refine jj_ldcw 858993459 dIn_bitCount_18 kcIn_266 ?_
  refine jj_iand dIn_bitCount_21 ?_
  refine jj_iadd dIn_bitCount_22 ?_
  refine jj_is0 dIn_bitCount_23 ?_
  refine jj_il0 dIn_bitCount_24 ?_
  refine jj_il0 dIn_bitCount_25 ?_
  refine jj_iconst 4 dIn_bitCount_26 (by decide) ?_
  refine jj_iushr dIn_bitCount_27 ?_
  refine jj_iadd dIn_bitCount_28 ?_
  refine jj_ldcw 252645135 dIn_bitCount_29 kcIn_267 ?_
  refine jj_iand dIn_bitCount_32 ?_
  refine jj_is0 dIn_bitCount_33 ?_
  refine jj_il0 dIn_bitCount_34 ?_
  refine jj_il0 dIn_bitCount_35 ?_
  refine jj_bipush 8 dIn_bitCount_36 (by decide) ?_
  refine jj_iushr dIn_bitCount_38 ?_
  refine jj_iadd dIn_bitCount_39 ?_
  refine jj_is0 dIn_bitCount_40 ?_
  refine jj_il0 dIn_bitCount_41 ?_
  refine jj_il0 dIn_bitCount_42 ?_
  refine jj_bipush 16 dIn_bitCount_43 (by decide) ?_
  refine jj_iushr dIn_bitCount_45 ?_
  refine jj_iadd dIn_bitCount_46 ?_
  refine jj_is0 dIn_bitCount_47 ?_
  refine jj_il0 dIn_bitCount_48 ?_
  refine jj_bipush 63 dIn_bitCount_49 (by decide) ?_
  refine jj_iand dIn_bitCount_51 ?_
  exact jj_iret dIn_bitCount_52 rfl rfl hq
theorem CS_11 {M M' : Nat → Nat → Int32} {σ : Sg} {l : List Nat} (hC : CS M σ) (hO : OffRow M M' 11) (hR : RowIs M' 11 l) : CS M' σ := by
  obtain ⟨c1, c2, c3, c4, c5, c6, c7⟩ := hC
  exact ⟨fun q hq => (c1 q hq).eqs (fun k i a b => hO _ _ (by omega) (by omega)) rfl rfl rfl rfl rfl rfl rfl rfl, c2.eqs (fun i => hO _ _ (by omega) (by omega)) (fun i => hO _ _ (by omega) (by omega)) rfl rfl rfl, c3.eqs (fun i => hO _ _ (by omega) (by omega)) (fun i => hO _ _ (by omega) (by omega)), c4.eqs (fun i => hO _ _ (by omega) (by omega)) (fun i => hO _ _ (by omega) (by omega)), c5.eqs (fun i => hO _ _ (by omega) (by omega)) (fun i => hO _ _ (by omega) (by omega)), ⟨l, hR⟩, by rw [hO _ _ (by omega) (by omega)]; exact c7⟩
theorem lt32 {a : Int32} {n : Nat} (h0 : ¬ a < 0) (h1 : a < nI n) (hn : n < 2 ^ 31) : ∃ i : Nat, i < n ∧ a = nI i := ixIn hn h0 (fun h => by
  have h2 := Int32.lt_iff_toInt_lt.mp h1
  have h3 := Int32.le_iff_toInt_le.mp h
  omega)
set_option maxRecDepth 100000 in
set_option maxHeartbeats 4000000 in
theorem k_call {ω : jw} {d : Nat} {M : Nat → Nat → Int32} {J sl : Nat} {Q : jr → jh → Prop} {σ : Sg} (hC : CS M σ) (hW : Wm σ) (hJ : J < 1000) (hsl : sl < 1000000) (a r : Int32) (hq : CP ω J sl M Q (spCall σ a r)) : jwp ω (d + 4) mBO_call [.ref (jN ω + 0), .int a, .int r] (jst ω M J sl) Q := by
  refine jwp_of (by simp [Value.category]) (Nat.le_of_ble_eq_true rfl) (ls := [some (.ref (jN ω + 0)), some (.int a), some (.int r), none, none, none, none]) rfl ?_
  refine jj_il1 dBO_call_0 ?_
  refine ms1 dBO_call_1 csBO_50 (Nat.le_of_ble_eq_true rfl) ?_
  refine c_checkObject a hJ hsl (fun n hn he => jk_v ?_) (fun hno => jk_x rfl (by rw [spCall, if_pos hno] at hq; exact hq M hC (Cl.refl M)))
  subst he
  rw [spCall, if_neg (isObj_no hn), iN6 hn] at hq
  have hS : RelIs M n (Zr σ n) := (hC.1 n hn).2.2.2.2.2.2.1
  have hY : SymIs M n (Zy σ n) := (hC.1 n hn).2.2.2.2.2.1
  have hl6 := hS.2.1
  refine jj_al0 dBO_call_4 ?_
  refine mr_get _ dBO_call_5 clBO lkBO_11 (s0 _) rfl ?_
  refine jj_il1 dBO_call_8 ?_
  refine mr_aald dBO_call_9 (hn) ?_
  refine jj_as3 dBO_call_10 ?_
  refine jj_al3 dBO_call_11 ?_
  refine mr_get _ dBO_call_12 clLk lkBO_102 (sL0 hn _) rfl ?_
  refine jj_as4 dBO_call_15 ?_
  refine jj_il2 dBO_call_17 ?_
  refine jj_if_lt 30 dBO_call_18 (by decide) (fun q1 => ?_) (fun q1 => ?_)
  · exact mr_throw 0 dBO_call_30 dBO_call_33 dBO_call_34 dBO_call_37 rfl thBO_162 (Nat.le_of_ble_eq_true rfl) hJ hsl (by rw [if_pos (Or.inl q1)] at hq; exact hq M hC (Cl.refl M))
  · refine jj_il2 dBO_call_21 ?_
    refine jj_al4 dBO_call_22 ?_
    refine mr_get _ dBO_call_24 clRl lkBO_106 (sL8 hn _) rfl ?_
    rw [hS.1]
    refine jj_icmp_lt 38 dBO_call_27 (by decide) (fun q2 => ?_) (fun q2 => ?_)
    · rw [if_neg (fun h => h.elim q1 (fun g => g q2))] at hq
      obtain ⟨k, hk, rfl⟩ := lt32 q1 q2 (by omega)
      have hk6 : k < 6 := by omega
      obtain ⟨y, hy, g1, g2, g3, g4⟩ := hS.at hk
      have hry : rlAt σ n (nI k) = y := by
        unfold rlAt
        rw [iN6 hk6, List.getD_eq_getElem?_getD, hy]
        rfl
      rw [hry] at hq
      refine jj_al4 dBO_call_38 ?_
      refine mr_get _ dBO_call_40 clRl lkBO_165 (sL8 hn _) rfl ?_
      refine jj_il2 dBO_call_43 ?_
      refine mr_iald dBO_call_44 (sL9 hn _) (hk6) (by decide) ?_
      rw [g1]
      refine jj_iconst 2 dBO_call_45 (by decide) ?_
      refine jj_icmp_eq 57 dBO_call_46 (by decide) (fun q3 => ?_) (fun q3 => ?_)
      · rw [if_neg (fun h => h q3)] at hq
        refine jj_al0 dBO_call_57 ?_
        refine jj_il1 dBO_call_58 ?_
        refine mv1 dBO_call_59 clBO cvBO_169 (s0 _) (Nat.le_of_ble_eq_true rfl) ?_
        refine c_checkLoaded hC hW hJ hsl hn (fun hld => jk_v ?_) (fun hld => jk_x rfl (by rw [if_pos hld] at hq; exact hq M hC (Cl.refl M)))
        rw [if_neg hld] at hq
        obtain ⟨b, hb⟩ : ∃ b, Zb σ n = some b := by
          cases hx : Zb σ n with
          | none => exact absurd hx hld
          | some b => exact ⟨b, rfl⟩
        have hbe : M (13 + 15 * n) 5 = nI b := by rw [(hC.1 n hn).2.1, hb]; rfl
        obtain ⟨⟨w, hw, hwe⟩, hkk⟩ := hW.2.2.2.1 n hn y (List.mem_of_getElem? hy)
        have hw8 := hW.1 n hn
        have hbw := (hW.2.1 n b hn hb).1
        have had : adAt σ n y = b + w := by unfold adAt; rw [hb, hwe, iN_nI (by omega)]; rfl
        have hA32 : b + w < 32 := by omega
        rw [had] at hq
        refine jj_al3 dBO_call_62 ?_
        refine mr_get _ dBO_call_63 clLk lkBO_172 (sL0 hn _) rfl ?_
        rw [hbe]
        refine jj_al4 dBO_call_66 ?_
        refine mr_get _ dBO_call_68 clRl lkBO_175 (sL8 hn _) rfl ?_
        refine jj_il2 dBO_call_71 ?_
        refine mr_iald dBO_call_72 (sL10 hn _) (hk6) (by decide) ?_
        rw [g2, hwe]
        refine jj_iadd dBO_call_73 ?_
        rw [nI_add]
        refine jj_is5 dBO_call_74 ?_
        refine jj_al0 dBO_call_76 ?_
        refine mr_get _ dBO_call_77 clBO lkBO_18 (s0 _) rfl ?_
        refine mr_get _ dBO_call_80 clSp lkBO_178 (s2 _) rfl ?_
        refine jj_il5 dBO_call_83 ?_
        refine mr_iald dBO_call_85 (s3 _) (hA32) (by decide) ?_
        rw [(hC.2.1 (b + w) hA32).1]
        refine jj_il2 dBO_call_86 ?_
        refine ms1 dBO_call_87 csBO_181 (Nat.le_of_ble_eq_true rfl) ?_
        refine c_unboundSlot (nI k) (jk_i ?_)
        refine jj_icmp_ne 133 dBO_call_90 (by decide) (fun q4 => ?_) (fun q4 => ?_)
        · refine jj_al0 dBO_call_133 ?_
          refine mr_get _ dBO_call_134 clBO lkBO_18 (s0 _) rfl ?_
          refine mr_get _ dBO_call_137 clSp lkBO_178 (s2 _) rfl ?_
          refine jj_il5 dBO_call_140 ?_
          refine mr_iald dBO_call_142 (s3 _) (hA32) (by decide) ?_
          rw [(hC.2.1 (b + w) hA32).1]
          exact jj_iret dBO_call_143 rfl rfl (by rw [if_neg q4] at hq; exact hq M hC (Cl.refl M))
        · rw [if_pos q4] at hq
          obtain ⟨_, s, hs, hse⟩ := hkk.resolve_left (fun h => by rw [h] at q3; exact absurd q3 (by decide))
          refine jj_al0 dBO_call_93 ?_
          refine jj_il1 dBO_call_94 ?_
          refine jj_al4 dBO_call_95 ?_
          refine mr_get _ dBO_call_97 clRl lkBO_184 (sL8 hn _) rfl ?_
          refine jj_il2 dBO_call_100 ?_
          refine mr_iald dBO_call_101 (sL11 hn _) (hk6) (by decide) ?_
          rw [g3, hse]
          refine mv2 dBO_call_102 clBO cvBO_186 (s0 _) (Nat.le_of_ble_eq_true rfl) ?_
          refine c_resolve hC hW.wb hn (syAt_get hs hse hY.2.1) (fun M1 hO1 hC1 => jk_i ?_)
          refine jj_is6 dBO_call_105 ?_
          refine jj_il6 dBO_call_107 ?_
          refine jj_iconst (-1) dBO_call_109 (by decide) ?_
          refine jj_icmp_ne 121 dBO_call_110 (by decide) (fun q5 => ?_) (fun q5 => ?_)
          · rw [if_neg q5] at hq
            refine jj_al0 dBO_call_121 ?_
            refine mr_get _ dBO_call_122 clBO lkBO_18 (s0 _) rfl ?_
            refine mr_get _ dBO_call_125 clSp lkBO_178 (s2 _) rfl ?_
            refine jj_il5 dBO_call_128 ?_
            refine jj_il6 dBO_call_130 ?_
            refine mr_iast dBO_call_132 (s3) (hA32) (by decide) ?_
            refine jj_al0 dBO_call_133 ?_
            refine mr_get _ dBO_call_134 clBO lkBO_18 (s0 _) rfl ?_
            refine mr_get _ dBO_call_137 clSp lkBO_178 (s2 _) rfl ?_
            refine jj_il5 dBO_call_140 ?_
            refine mr_iald dBO_call_142 (s3 _) (hA32) (by decide) ?_
            rw [mup_at]
            exact jj_iret dBO_call_143 rfl rfl (hq _ (CS_wd hC1) (hO1.1.trans (fun k i h => mup_ne _ _ (Or.inl (by omega)))))
          · exact mr_throw 3 dBO_call_113 dBO_call_116 dBO_call_117 dBO_call_120 rfl thBO_135 (Nat.le_of_ble_eq_true rfl) hJ hsl (by rw [if_pos q5] at hq; exact hq M1 hC1 hO1.1)
      · exact mr_throw 1 dBO_call_49 dBO_call_52 dBO_call_53 dBO_call_56 rfl thBO_54 (Nat.le_of_ble_eq_true rfl) hJ hsl (by rw [if_pos q3] at hq; exact hq M hC (Cl.refl M))
    · exact mr_throw 0 dBO_call_30 dBO_call_33 dBO_call_34 dBO_call_37 rfl thBO_162 (Nat.le_of_ble_eq_true rfl) hJ hsl (by rw [if_pos (Or.inr q2)] at hq; exact hq M hC (Cl.refl M))
set_option maxRecDepth 100000 in
set_option maxHeartbeats 4000000 in
theorem k_find {ω : jw} {d : Nat} {M : Nat → Nat → Int32} {J sl : Nat} {Q : jr → jh → Prop} {σ : Sg} (hC : CS M σ) (hW : Wm σ) (hJ : J < 1000) (hsl : sl < 1000000) (a nm : Int32) (hq : CP ω J sl M Q (spFind σ a nm)) : jwp ω (d + 4) mBO_find [.ref (jN ω + 0), .int a, .int nm] (jst ω M J sl) Q := by
  refine jwp_of (by simp [Value.category]) (Nat.le_of_ble_eq_true rfl) (ls := [some (.ref (jN ω + 0)), some (.int a), some (.int nm), none]) rfl ?_
  refine jj_il1 dBO_find_0 ?_
  refine ms1 dBO_find_1 csBO_50 (Nat.le_of_ble_eq_true rfl) ?_
  refine c_checkObject a hJ hsl (fun n hn he => jk_v ?_) (fun hno => jk_x rfl (by rw [spFind, if_pos hno] at hq; exact hq M hC (Cl.refl M)))
  subst he
  rw [spFind, if_neg (isObj_no hn), iN6 hn] at hq
  refine jj_il2 dBO_find_4 ?_
  refine ms1 dBO_find_5 csBO_88 (Nat.le_of_ble_eq_true rfl) ?_
  refine jwp_ups 2 (c_isName nm (fun hnm => jk_i ?_) (fun hnm => jk_i ?_))
  · refine jj_if_ne 19 dBO_find_8 (by decide) (fun _ => ?_) (fun h => absurd h (by decide))
    refine jj_al0 dBO_find_19 ?_
    refine jj_il1 dBO_find_20 ?_
    refine mv1 dBO_find_21 clBO cvBO_169 (s0 _) (Nat.le_of_ble_eq_true rfl) ?_
    rw [if_neg (by rw [hnm]; decide)] at hq
    refine jwp_ups 2 (c_checkLoaded hC hW hJ hsl hn (fun hld => jk_v ?_) (fun hld => jk_x rfl (by rw [if_pos hld] at hq; exact hq M hC (Cl.refl M))))
    rw [if_neg hld] at hq
    refine jj_al0 dBO_find_24 ?_
    refine jj_il1 dBO_find_25 ?_
    refine mv1 dBO_find_26 clBO cvBO_112 (s0 _) (Nat.le_of_ble_eq_true rfl) ?_
    obtain ⟨l0, hl0⟩ := hC.2.2.2.2.2.1
    refine c_fillClosure (Zn σ) (fun p hp => (hC.1 p hp).2.2.2.2.1) hl0 hn (fun M1 hO1 hR1 => jk_v ?_)
    have hC1 := CS_11 hC hO1 hR1
    have hCl1 : Cl M M1 := fun k i h => hO1 _ _ (by omega) (by omega)
    refine jj_al0 dBO_find_29 ?_
    refine jj_al0 dBO_find_30 ?_
    refine mr_get _ dBO_find_31 clBO lkBO_39 (s0 _) rfl ?_
    refine jj_il2 dBO_find_34 ?_
    refine mv2 dBO_find_35 clBO cvBO_190 (s0 _) (Nat.le_of_ble_eq_true rfl) ?_
    refine jwp_ups 2 (c_firstDefining hC1 hW.wb row11 (by omega) hR1 nm (fun M2 hO2 hC2 => jk_i ?_))
    have hf6 : ∀ b, (fdF σ nm (clos (Zn σ) n) (Sp σ)).1 = some b → b < 6 := fun b hb => hR1.2.2.1 b (fdF_lt _ hb).1
    refine jj_is3 dBO_find_38 ?_
    refine jj_il3 dBO_find_39 ?_
    refine jj_iconst (-1) dBO_find_40 (by decide) ?_
    refine jj_icmp_ne 52 dBO_find_41 (by decide) (fun q1 => ?_) (fun q1 => ?_)
    · obtain ⟨q, hqs⟩ : ∃ q, (fdF σ nm (clos (Zn σ) n) (Sp σ)).1 = some q := by
        cases hx : (fdF σ nm (clos (Zn σ) n) (Sp σ)).1 with
        | none => rw [hx] at q1; exact absurd rfl q1
        | some q => exact ⟨q, rfl⟩
      have hq6 := hf6 q hqs
      rw [hqs] at hq
      rw [hqs, show bI (some q) = nI q from rfl]
      refine jj_al0 dBO_find_52 ?_
      refine jj_il3 dBO_find_53 ?_
      refine jj_il2 dBO_find_54 ?_
      refine mv2 dBO_find_55 clBO cvBO_194 (s0 _) (Nat.le_of_ble_eq_true rfl) ?_
      refine jwp_ups 2 (c_addressIn hC2 hq6 nm (jk_i ?_))
      exact jj_iret dBO_find_58 rfl rfl (hq M2 hC2 (hCl1.trans hO2.kp.1))
    · exact mr_throw 3 dBO_find_44 dBO_find_47 dBO_find_48 dBO_find_51 rfl thBO_135 (Nat.le_of_ble_eq_true rfl) hJ hsl (by rw [(bI_none (fun b hb => by have := hf6 b hb; omega)).mp q1] at hq; exact hq M2 hC2 (hCl1.trans hO2.kp.1))
  · refine jj_if_ne 19 dBO_find_8 (by decide) (fun h => absurd h (by decide)) (fun _ => ?_)
    exact mr_throw 1 dBO_find_11 dBO_find_14 dBO_find_15 dBO_find_18 rfl thBO_54 (Nat.le_of_ble_eq_true rfl) hJ hsl (by rw [if_pos hnm] at hq; exact hq M hC (Cl.refl M))
set_option maxRecDepth 100000 in
set_option maxHeartbeats 4000000 in
theorem k_word {ω : jw} {d : Nat} {M : Nat → Nat → Int32} {J sl : Nat} {Q : jr → jh → Prop} {σ : Sg} (hC : CS M σ) (hW : Wm σ) (hJ : J < 1000) (hsl : sl < 1000000) (a : Int32) (hq : CP ω J sl M Q (spWord σ a)) : jwp ω d mBO_word [.ref (jN ω + 0), .int a] (jst ω M J sl) Q := by
  refine jwp_of (by simp [Value.category]) (Nat.le_of_ble_eq_true rfl) (ls := [some (.ref (jN ω + 0)), some (.int a)]) rfl ?_
  refine jj_il1 dBO_word_0 ?_
  refine jj_if_lt 10 dBO_word_1 (by decide) (fun q1 => ?_) (fun q1 => ?_)
  · exact mr_throw 0 dBO_word_10 dBO_word_13 dBO_word_14 dBO_word_17 rfl thBO_162 (Nat.le_of_ble_eq_true rfl) hJ hsl (by rw [spWord, if_pos (Or.inl q1)] at hq; exact hq M hC (Cl.refl M))
  · refine jj_il1 dBO_word_4 ?_
    refine jj_bipush 32 dBO_word_5 (by decide) ?_
    refine jj_icmp_lt 18 dBO_word_7 (by decide) (fun q2 => ?_) (fun q2 => ?_)
    · obtain ⟨i, hi, rfl⟩ := lt32 (n := 32) q1 q2 (by decide)
      refine jj_al0 dBO_word_18 ?_
      refine mr_get _ dBO_word_19 clBO lkBO_18 (s0 _) rfl ?_
      refine mr_get _ dBO_word_22 clSp lkBO_178 (s2 _) rfl ?_
      refine jj_il1 dBO_word_25 ?_
      refine mr_iald dBO_word_26 (s3 _) (hi) (by decide) ?_
      rw [(hC.2.1 i hi).1]
      exact jj_iret dBO_word_27 rfl rfl (by rw [spWord, if_neg (fun h => h.elim q1 (fun g => g q2)), iN_nI (by omega)] at hq; exact hq M hC (Cl.refl M))
    · exact mr_throw 0 dBO_word_10 dBO_word_13 dBO_word_14 dBO_word_17 rfl thBO_162 (Nat.le_of_ble_eq_true rfl) hJ hsl (by rw [spWord, if_pos (Or.inr q2)] at hq; exact hq M hC (Cl.refl M))
set_option maxRecDepth 100000 in
set_option maxHeartbeats 4000000 in
theorem k_store {ω : jw} {d : Nat} {M : Nat → Nat → Int32} {J sl : Nat} {Q : jr → jh → Prop} {σ : Sg} (hC : CS M σ) (a v : Int32) (hq : CP ω J sl M Q (spStore σ a v)) : jwp ω (d + 1) mBO_store [.ref (jN ω + 0), .int a, .int v] (jst ω M J sl) Q := by
  refine jwp_of (by simp [Value.category]) (Nat.le_of_ble_eq_true rfl) (ls := [some (.ref (jN ω + 0)), some (.int a), some (.int v)]) rfl ?_
  refine jj_al0 dBO_store_0 ?_
  refine mr_get _ dBO_store_1 clBO lkBO_18 (s0 _) rfl ?_
  refine jj_il1 dBO_store_4 ?_
  refine mv1 dBO_store_5 clSp cvBO_197 (s2 _) (Nat.le_of_ble_eq_true rfl) ?_
  refine c_hasImageAt a (fun i hi he hm => jk_i ?_) (fun hno => jk_i ?_)
  · subst he
    rw [(hC.2.1 i hi).2] at hm
    refine jj_if_ne 13 dBO_store_8 (by decide) (fun _ => ?_) (fun h => absurd h (by decide))
    refine jj_al0 dBO_store_13 ?_
    refine mr_get _ dBO_store_14 clBO lkBO_18 (s0 _) rfl ?_
    refine mr_get _ dBO_store_17 clSp lkBO_178 (s2 _) rfl ?_
    refine jj_il1 dBO_store_20 ?_
    refine jj_il2 dBO_store_21 ?_
    refine mr_iast dBO_store_22 (s3) (hi) (by decide) ?_
    refine jj_iconst 1 dBO_store_23 (by decide) ?_
    exact jj_iret dBO_store_24 rfl rfl (by
    rw [spStore, if_neg (fun h => by
      rw [iN_nI (by omega)] at h
      rcases h with h | h | h
      · exact nI_nn i (by omega) h
      · exact h (Int32.lt_iff_toInt_lt.mpr (by rw [nI_toInt (by omega)]; show (i : Int) < 32; omega))
      · exact hm (by rw [h]; rfl)), iN_nI (by omega)] at hq
    exact hq _ (CS_wd hC) (fun k i h => mup_ne _ _ (Or.inl (by omega))))
  · refine jj_if_ne 13 dBO_store_8 (by decide) (fun h => absurd h (by decide)) (fun _ => ?_)
    refine jj_iconst 0 dBO_store_11 (by decide) ?_
    exact jj_iret dBO_store_12 rfl rfl (by
    rw [spStore, if_pos (by
      by_cases h0 : a < 0
      · exact Or.inl h0
      · by_cases h1 : a < 32
        · obtain ⟨i, hi, rfl⟩ := lt32 (n := 32) h0 h1 (by decide)
          have h2 := hno i hi rfl
          rw [(hC.2.1 i hi).2, b2i_0] at h2
          rw [iN_nI (by omega)]
          exact Or.inr (Or.inr h2)
        · exact Or.inr (Or.inl h1))] at hq
    exact hq M hC (Cl.refl M))
set_option maxRecDepth 100000 in
set_option maxHeartbeats 4000000 in
theorem k_base {ω : jw} {d : Nat} {M : Nat → Nat → Int32} {J sl : Nat} {Q : jr → jh → Prop} {σ : Sg} (hC : CS M σ) (a : Int32) (hq : CP ω J sl M Q (spBase σ a)) : jwp ω (d + 1) mBO_base [.ref (jN ω + 0), .int a] (jst ω M J sl) Q := by
  refine jwp_of (by simp [Value.category]) (Nat.le_of_ble_eq_true rfl) (ls := [some (.ref (jN ω + 0)), some (.int a)]) rfl ?_
  refine jj_il1 dBO_base_0 ?_
  refine ms1 dBO_base_1 csBO_200 (Nat.le_of_ble_eq_true rfl) ?_
  refine c_BO_isObject a (fun n hn he => jk_i ?_) (fun hno => jk_i ?_)
  · subst he
    refine jj_if_eq 19 dBO_base_4 (by decide) (fun h => absurd h (by decide)) (fun _ => ?_)
    refine jj_al0 dBO_base_7 ?_
    refine mr_get _ dBO_base_8 clBO lkBO_11 (s0 _) rfl ?_
    refine jj_il1 dBO_base_11 ?_
    refine mr_aald dBO_base_12 (hn) ?_
    refine mr_get _ dBO_base_13 clLk lkBO_172 (sL0 hn _) rfl ?_
    rw [(hC.1 n hn).2.1]
    refine jj_goto 20 dBO_base_16 (by decide) ?_
    exact jj_iret dBO_base_20 rfl rfl (by rw [spBase, if_neg (isObj_no hn), iN6 hn] at hq; exact hq M hC (Cl.refl M))
  · refine jj_if_eq 19 dBO_base_4 (by decide) (fun _ => ?_) (fun h => absurd h (by decide))
    refine jj_iconst (-1) dBO_base_19 (by decide) ?_
    exact jj_iret dBO_base_20 rfl rfl (by rw [spBase, if_pos hno] at hq; exact hq M hC (Cl.refl M))
set_option maxRecDepth 100000 in
set_option maxHeartbeats 4000000 in
theorem k_opened {ω : jw} {d : Nat} {M : Nat → Nat → Int32} {J sl : Nat} {Q : jr → jh → Prop} {σ : Sg} (hC : CS M σ) (a : Int32) (hq : CP ω J sl M Q (spOpened σ a)) : jwp ω (d + 1) mBO_opened [.ref (jN ω + 0), .int a] (jst ω M J sl) Q := by
  refine jwp_of (by simp [Value.category]) (Nat.le_of_ble_eq_true rfl) (ls := [some (.ref (jN ω + 0)), some (.int a)]) rfl ?_
  refine jj_il1 dBO_opened_0 ?_
  refine ms1 dBO_opened_1 csBO_200 (Nat.le_of_ble_eq_true rfl) ?_
  refine c_BO_isObject a (fun n hn he => jk_i ?_) (fun hno => jk_i ?_)
  · subst he
    refine jj_if_eq 19 dBO_opened_4 (by decide) (fun h => absurd h (by decide)) (fun _ => ?_)
    refine jj_al0 dBO_opened_7 ?_
    refine mr_get _ dBO_opened_8 clBO lkBO_11 (s0 _) rfl ?_
    refine jj_il1 dBO_opened_11 ?_
    refine mr_aald dBO_opened_12 (hn) ?_
    refine mr_get _ dBO_opened_13 clLk lkBO_152 (sL0 hn _) rfl ?_
    rw [(hC.1 n hn).2.2.1]
    refine jj_goto 20 dBO_opened_16 (by decide) ?_
    exact jj_iret dBO_opened_20 rfl rfl (by rw [spOpened, if_neg (isObj_no hn), iN6 hn] at hq; exact hq M hC (Cl.refl M))
  · refine jj_if_eq 19 dBO_opened_4 (by decide) (fun _ => ?_) (fun h => absurd h (by decide))
    refine jj_iconst 0 dBO_opened_19 (by decide) ?_
    exact jj_iret dBO_opened_20 rfl rfl (by rw [spOpened, if_pos hno] at hq; exact hq M hC (Cl.refl M))
set_option maxRecDepth 100000 in
set_option maxHeartbeats 4000000 in
theorem k_global {ω : jw} {d : Nat} {M : Nat → Nat → Int32} {J sl : Nat} {Q : jr → jh → Prop} {σ : Sg} (hC : CS M σ) (a : Int32) (hq : CP ω J sl M Q (spGlobal σ a)) : jwp ω d mBO_global [.ref (jN ω + 0), .int a] (jst ω M J sl) Q := by
  have hR := hC.2.2.2.1
  have hl6 := hR.2.1
  refine jwp_of (by simp [Value.category]) (Nat.le_of_ble_eq_true rfl) (ls := [some (.ref (jN ω + 0)), some (.int a)]) rfl ?_
  refine jj_il1 dBO_global_0 ?_
  refine jj_if_lt 27 dBO_global_1 (by decide) (fun q1 => ?_) (fun q1 => ?_)
  · refine jj_iconst (-1) dBO_global_27 (by decide) ?_
    exact jj_iret dBO_global_28 rfl rfl (by rw [spGlobal, if_pos (Or.inl q1)] at hq; exact hq M hC (Cl.refl M))
  · refine jj_il1 dBO_global_4 ?_
    refine jj_al0 dBO_global_5 ?_
    refine mr_get _ dBO_global_6 clBO lkBO_32 (s0 _) rfl ?_
    refine mr_get _ dBO_global_9 clRw lkBO_74 (s7 _) rfl ?_
    rw [hR.1]
    refine jj_icmp_ge 27 dBO_global_12 (by decide) (fun q2 => ?_) (fun q2 => ?_)
    · refine jj_iconst (-1) dBO_global_27 (by decide) ?_
      exact jj_iret dBO_global_28 rfl rfl (by rw [spGlobal, if_pos (Or.inr q2)] at hq; exact hq M hC (Cl.refl M))
    · obtain ⟨i, hi, rfl⟩ := ixIn (n := (Gl σ).length) (by omega) q1 q2
      obtain ⟨p, e1, e2, e3⟩ := hR.at hi
      refine jj_al0 dBO_global_15 ?_
      refine mr_get _ dBO_global_16 clBO lkBO_32 (s0 _) rfl ?_
      refine mr_get _ dBO_global_19 clRw lkBO_203 (s7 _) rfl ?_
      refine jj_il1 dBO_global_22 ?_
      refine mr_iald dBO_global_23 (s8 _) (by omega) (by decide) ?_
      rw [e3]
      refine jj_goto 28 dBO_global_24 (by decide) ?_
      exact jj_iret dBO_global_28 rfl rfl (by rw [spGlobal, if_neg (fun h => h.elim q1 q2), iN_nI (by omega), List.getD_eq_getElem?_getD, e1] at hq; exact hq M hC (Cl.refl M))
set_option maxRecDepth 100000 in
set_option maxHeartbeats 4000000 in
theorem k_events {ω : jw} {d : Nat} {M : Nat → Nat → Int32} {J sl : Nat} {Q : jr → jh → Prop} {σ : Sg} (hC : CS M σ) (hq : CP ω J sl M Q (spEvents σ)) : jwp ω d mBO_events [.ref (jN ω + 0)] (jst ω M J sl) Q := by
  refine jwp_of (by simp [Value.category]) (Nat.le_of_ble_eq_true rfl) (ls := [some (.ref (jN ω + 0))]) rfl ?_
  refine jj_al0 dBO_events_0 ?_
  refine mr_get _ dBO_events_1 clBO lkBO_25 (s0 _) rfl ?_
  refine mr_get _ dBO_events_4 clJr lkBO_206 (s5 _) rfl ?_
  rw [hC.2.2.1.2.1]
  exact jj_iret dBO_events_7 rfl rfl (hq M hC (Cl.refl M))
set_option maxRecDepth 100000 in
set_option maxHeartbeats 4000000 in
theorem k_steps {ω : jw} {d : Nat} {M : Nat → Nat → Int32} {J sl : Nat} {Q : jr → jh → Prop} {σ : Sg} (hC : CS M σ) (hq : CP ω J sl M Q (spSteps σ)) : jwp ω d mBO_steps [.ref (jN ω + 0)] (jst ω M J sl) Q := by
  refine jwp_of (by simp [Value.category]) (Nat.le_of_ble_eq_true rfl) (ls := [some (.ref (jN ω + 0))]) rfl ?_
  refine jj_al0 dBO_steps_0 ?_
  refine mr_get _ dBO_steps_1 clBO lkBO_46 (s0 _) rfl ?_
  rw [show M 0 7 = Sp σ from hC.2.2.2.2.2.2]
  exact jj_iret dBO_steps_4 rfl rfl (hq M hC (Cl.refl M))
set_option maxRecDepth 100000 in
set_option maxHeartbeats 4000000 in
theorem k_event {ω : jw} {d : Nat} {M : Nat → Nat → Int32} {J sl : Nat} {Q : jr → jh → Prop} {σ : Sg} (hC : CS M σ) (hW : Wm σ) (hJ : J < 1000) (hsl : sl < 1000000) (hev : (Ev σ).length < 2 ^ 30) (a : Int32) (hq : CP ω J sl M Q (spEvent σ a)) : jwp ω (d + 1) mBO_event [.ref (jN ω + 0), .int a] (jst ω M J sl) Q := by
  have hJr := hC.2.2.1
  refine jwp_of (by simp [Value.category]) (Nat.le_of_ble_eq_true rfl) (ls := [some (.ref (jN ω + 0)), some (.int a)]) rfl ?_
  refine jj_il1 dBO_event_0 ?_
  refine jj_if_lt 21 dBO_event_1 (by decide) (fun q1 => ?_) (fun q1 => ?_)
  · exact mr_throw 3 dBO_event_21 dBO_event_24 dBO_event_25 dBO_event_28 rfl thBO_135 (Nat.le_of_ble_eq_true rfl) hJ hsl (by rw [spEvent, if_pos (Or.inl q1)] at hq; exact hq M hC (Cl.refl M))
  · refine jj_il1 dBO_event_4 ?_
    refine jj_bipush 40 dBO_event_5 (by decide) ?_
    refine jj_icmp_ge 21 dBO_event_7 (by decide) (fun q2 => ?_) (fun q2 => ?_)
    · exact mr_throw 3 dBO_event_21 dBO_event_24 dBO_event_25 dBO_event_28 rfl thBO_135 (Nat.le_of_ble_eq_true rfl) hJ hsl (by rw [spEvent, if_pos (Or.inr (Or.inl q2))] at hq; exact hq M hC (Cl.refl M))
    · refine jj_il1 dBO_event_10 ?_
      refine jj_al0 dBO_event_11 ?_
      refine mr_get _ dBO_event_12 clBO lkBO_25 (s0 _) rfl ?_
      refine mr_get _ dBO_event_15 clJr lkBO_206 (s5 _) rfl ?_
      rw [hJr.2.1]
      refine jj_icmp_lt 29 dBO_event_18 (by decide) (fun q3 => ?_) (fun q3 => ?_)
      · obtain ⟨k, hk, rfl⟩ := lt32 q1 q3 (by omega)
        have hk40 : k < 40 := nle_lt (a := 40) rfl q2 (by decide) (by omega)
        refine jj_al0 dBO_event_29 ?_
        refine mr_get _ dBO_event_30 clBO lkBO_25 (s0 _) rfl ?_
        refine jj_il1 dBO_event_33 ?_
        refine mv1 dBO_event_34 clJr cvBO_209 (s5 _) (Nat.le_of_ble_eq_true rfl) ?_
        refine c_latestBut ((Ev σ).length % 40) k (by omega) hk40 hJr.1 (jk_i ?_)
        have hj : (Ev σ).length - 1 - k < (Ev σ).length := by omega
        have hm : ((Ev σ).length % 40 + 39 - k) % 40 = ((Ev σ).length - 1 - k) % 40 := by omega
        rw [hm, hJr.2.2 _ _ (List.getElem?_eq_getElem hj) (by omega)]
        exact jj_iret dBO_event_37 rfl rfl (by rw [spEvent, if_neg (fun h => h.elim q1 (fun h => h.elim q2 (fun g => g q3))), iN_nI (by omega), List.getD_eq_getElem?_getD, List.getElem?_eq_getElem hj] at hq; exact hq M hC (Cl.refl M))
      · exact mr_throw 3 dBO_event_21 dBO_event_24 dBO_event_25 dBO_event_28 rfl thBO_135 (Nat.le_of_ble_eq_true rfl) hJ hsl (by rw [spEvent, if_pos (Or.inr (Or.inr q3))] at hq; exact hq M hC (Cl.refl M))
