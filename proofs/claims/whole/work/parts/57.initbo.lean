/-- a new Linkable's fifteen cells, from cell b on -/
def lkB (ω : jw) (b : Nat) : List va_E := [.inr (1, [.ref (jN ω + (b + 1)), .ref (jN ω + (b + 3)), .ref (jN ω + (b + 8)), .ref (jN ω + (b + 13)), .int 0, .int (-1), .int 0, .int 0]), .inr (2, [.ref (jN ω + (b + 2)), .int 0]), .inl (jK ω 0, 6, .inl (fun _ => 0)), .inr (3, [.ref (jN ω + (b + 4)), .ref (jN ω + (b + 5)), .ref (jN ω + (b + 6)), .ref (jN ω + (b + 7)), .int 0]), .inl (jK ω 0, 6, .inl (fun _ => 0)), .inl (jK ω 0, 6, .inl (fun _ => 0)), .inl (jK ω 0, 6, .inl (fun _ => 0)), .inl (jK ω 1, 6, .inl (fun _ => 0)), .inr (4, [.ref (jN ω + (b + 9)), .ref (jN ω + (b + 10)), .ref (jN ω + (b + 11)), .ref (jN ω + (b + 12)), .int 0]), .inl (jK ω 0, 6, .inl (fun _ => 0)), .inl (jK ω 0, 6, .inl (fun _ => 0)), .inl (jK ω 0, 6, .inl (fun _ => 0)), .inl (jK ω 0, 6, .inl (fun _ => 0)), .inr (2, [.ref (jN ω + (b + 14)), .int 0]), .inl (jK ω 0, 6, .inl (fun _ => 0))]
/-- BoundObjects' first thirteen cells -/
def boB (ω : jw) (f : Nat → Option Nat) : List va_E := [.inr (0, [.ref (jN ω + 1), .ref (jN ω + 2), .ref (jN ω + 5), .ref (jN ω + 7), .ref (jN ω + 9), .ref (jN ω + 11), .int 0, .int 0]), .inl (jK ω 3, 6, .inr (.inr (.inr (.inr f)))), .inr (5, [.ref (jN ω + 3), .ref (jN ω + 4)]), .inl (jK ω 0, 32, .inl (fun _ => 0)), .inl (jK ω 1, 32, .inl (fun _ => 0)), .inr (6, [.ref (jN ω + 6), .int 0, .int 0]), .inl (jK ω 0, 40, .inl (fun _ => 0)), .inr (2, [.ref (jN ω + 8), .int 0]), .inl (jK ω 0, 6, .inl (fun _ => 0)), .inr (2, [.ref (jN ω + 10), .int 0]), .inl (jK ω 0, 6, .inl (fun _ => 0)), .inr (2, [.ref (jN ω + 12), .int 0]), .inl (jK ω 0, 6, .inl (fun _ => 0))]
def blk (ω : jw) : Nat → List va_E
  | 0 => []
  | i + 1 => blk ω i ++ lkB ω (13 + 15 * i)
def fI (ω : jw) (i : Nat) : Nat → Option Nat := fun o => if o < i then some (jN ω + (13 + 15 * o)) else none
theorem blk_len (ω : jw) : ∀ i, (blk ω i).length = 15 * i := by
  intro i
  induction i with
  | zero => rfl
  | succ i ih => rw [blk, List.length_append, ih]; show 15 * i + 15 = _; omega
theorem fI_s (ω : jw) (i : Nat) : va_up (fI ω i) i (some (jN ω + (13 + 15 * i))) = fI ω (i + 1) := by
  funext o
  unfold fI
  by_cases h : o = i
  · subst h; rw [va_up_self, if_pos (by omega)]
  · rw [va_up_ne _ _ h]
    by_cases h2 : o < i
    · rw [if_pos h2, if_pos (by omega)]
    · rw [if_neg h2, if_neg (by omega)]
set_option maxRecDepth 100000 in
set_option maxHeartbeats 4000000 in
theorem bo_loop {ω : jw} {d : Nat} {Q : jr → jh → Prop} (hq : ∀ sl', sl' ≤ 5000 → Q (.inl none) (pst ω (boB ω (fI ω 6) ++ blk ω 6) sl')) :
    ∀ (n i sl : Nat), n + i = 6 → sl ≤ 300 + 300 * i → jj ω (d + 2) mBO_init 80 [some (.ref (jN ω + 0)), some (.int (nI i))] [] (pst ω (boB ω (fI ω i) ++ blk ω i) sl) Q := by
  intro n
  induction n with
  | zero =>
    intro i sl hn hs
    have hi : i = 6 := by omega
    subst hi
    refine jj_il1 dBO_init_80 ?_
    refine jj_bipush 6 dBO_init_81 (by decide) ?_
    refine jj_icmp_ge 105 dBO_init_83 (by decide) (fun _ => ?_) (fun h => absurd (by decide) h)
    exact jj_vret dBO_init_105 rfl (hq sl (by omega))
  | succ n ih =>
    intro i sl hn hs
    have hi6 : i < 6 := by omega
    have hlen : (boB ω (fI ω i) ++ blk ω i).length = 13 + 15 * i := by rw [List.length_append, blk_len]; rfl
    refine jj_il1 dBO_init_80 ?_
    refine jj_bipush 6 dBO_init_81 (by decide) ?_
    refine jj_icmp_ge 105 dBO_init_83 (by decide) (fun h => absurd h (fun h => by have := le_le (a := 6) rfl h (by decide) (by omega); omega)) (fun _ => ?_)
    refine jj_al0 dBO_init_86 ?_
    refine jj_get (.ref (jN ω + 1)) dBO_init_87 clBO lkBO_11 (fs := [.ref (jN ω + 1), .ref (jN ω + 2), .ref (jN ω + 5), .ref (jN ω + 7), .ref (jN ω + 9), .ref (jN ω + 11), .int 0, .int 0]) (by rw [pst_at]; rfl) rfl ?_
    refine jj_il1 dBO_init_90 ?_
    rw [← List.append_nil (boB ω (fI ω i) ++ blk ω i)]
    refine q_new (L := boB ω (fI ω i) ++ blk ω i) (l := []) [.null, .null, .null, .null, .int 0, .int 0, .int 0, .int 0] dBO_init_91 clLk nwBO_9 (by decide) (by decide) (by rw [List.append_nil, hlen]; omega) (by omega) ?_
    refine jj_dup dBO_init_94 rfl ?_
    refine jj_I (av := []) dBO_init_95 ciBO_49 (Nat.le_of_ble_eq_true rfl) ?_
    refine i_Lk (d := d) (by rw [hlen]; omega) (by show sl + 8 < 40000; omega) (fun sl2 hs2 => jk_v ?_)
    have hs3 : sl2 ≤ sl + 8 + 200 := hs2
    rw [show ((boB ω (fI ω i) ++ blk ω i).length + ([] : List va_E).length) = 13 + 15 * i from hlen]
    have hE : (boB ω (fI ω i) ++ blk ω i) ++ lkB ω ((boB ω (fI ω i) ++ blk ω i).length) = boB ω (fI ω i) ++ blk ω (i + 1) := by rw [hlen, List.append_assoc]; rfl
    have hH : pst ω ((boB ω (fI ω i) ++ blk ω i) ++ lkB ω ((boB ω (fI ω i) ++ blk ω i).length)) sl2 = pst ω (boB ω (fI ω i) ++ blk ω (i + 1)) sl2 := by rw [hE]
    refine Eq.mp (congrArg (fun h => jj ω (d + 2) mBO_init 98 [some (.ref (jN ω + 0)), some (.int (nI i))] [.ref (jN ω + (13 + 15 * i)), .int (nI i), .ref (jN ω + 1)] h Q) hH.symm) ?_
    have hcell : (boB ω (fI ω i) ++ blk ω (i + 1))[13 + 15 * i]? = some (.inr (1, [.ref (jN ω + ((13 + 15 * i) + 1)), .ref (jN ω + ((13 + 15 * i) + 3)), .ref (jN ω + ((13 + 15 * i) + 8)), .ref (jN ω + ((13 + 15 * i) + 13)), .int 0, .int (-1), .int 0, .int 0])) := by
      rw [List.getElem?_append_right (by show 13 ≤ _; omega), show 13 + 15 * i - (boB ω (fI ω i)).length = 15 * i by show 13 + 15 * i - 13 = _; omega, blk, List.getElem?_append_right (by rw [blk_len]; omega), blk_len, Nat.sub_self]
      rfl
    refine jj_aast (n := 6) (f := fI ω i) dBO_init_98 clLk rfl (by rw [pst_at]; rfl) (by rw [pst_at]; exact hcell) (vp_in_nI hi6 (by decide)) ?_
    rw [nI_clamp (by omega), fI_s, pst_set _ _ _ _ _ (by rw [List.length_append]; show 1 < 13 + _; omega)]
    refine jj_ii1 (nI (i + 1)) dBO_init_99 (inc1 i) ?_
    refine jj_goto 80 dBO_init_102 (by decide) ?_
    exact ih (i + 1) sl2 (by omega) (by omega)
