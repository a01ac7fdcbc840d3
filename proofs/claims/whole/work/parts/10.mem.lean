/-! THE M LAYER: behind the constructors every cell has its place; M k i is the int at place i of cell k. -/
def mlow (N : Nat) (K : Nat → ClassId) (k : Nat) (g : Nat → Int32) : Option va_E := match k with
  | 0 => some (.inr (0, [.ref (N + 1), .ref (N + 2), .ref (N + 5), .ref (N + 7), .ref (N + 9), .ref (N + 11), .int (g 6), .int (g 7)]))
  | 1 => some (.inl (K 3, 6, .inr (.inr (.inr (.inr (fun i => if i < 6 then some (N + (13 + 15 * i)) else none))))))
  | 2 => some (.inr (5, [.ref (N + 3), .ref (N + 4)]))
  | 3 => some (.inl (K 0, 32, .inl g))
  | 4 => some (.inl (K 1, 32, .inl g))
  | 5 => some (.inr (6, [.ref (N + 6), .int (g 1), .int (g 2)]))
  | 6 => some (.inl (K 0, 40, .inl g))
  | 7 => some (.inr (2, [.ref (N + (7 + 1)), .int (g 1)]))
  | 8 => some (.inl (K 0, 6, .inl g))
  | 9 => some (.inr (2, [.ref (N + (9 + 1)), .int (g 1)]))
  | 10 => some (.inl (K 0, 6, .inl g))
  | 11 => some (.inr (2, [.ref (N + (11 + 1)), .int (g 1)]))
  | _ => some (.inl (K 0, 6, .inl g))
def mlk (N : Nat) (K : Nat → ClassId) (b j : Nat) (g : Nat → Int32) : Option va_E := match j with
  | 0 => some (.inr (1, [.ref (N + (b + 1)), .ref (N + (b + 3)), .ref (N + (b + 8)), .ref (N + (b + 13)), .int (g 4), .int (g 5), .int (g 6), .int (g 7)]))
  | 1 => some (.inr (2, [.ref (N + (b + 1 + 1)), .int (g 1)]))
  | 2 => some (.inl (K 0, 6, .inl g))
  | 3 => some (.inr (3, [.ref (N + (b + 4)), .ref (N + (b + 5)), .ref (N + (b + 6)), .ref (N + (b + 7)), .int (g 4)]))
  | 4 => some (.inl (K 0, 6, .inl g))
  | 5 => some (.inl (K 0, 6, .inl g))
  | 6 => some (.inl (K 0, 6, .inl g))
  | 7 => some (.inl (K 1, 6, .inl g))
  | 8 => some (.inr (4, [.ref (N + (b + 9)), .ref (N + (b + 10)), .ref (N + (b + 11)), .ref (N + (b + 12)), .int (g 4)]))
  | 9 => some (.inl (K 0, 6, .inl g))
  | 10 => some (.inl (K 0, 6, .inl g))
  | 11 => some (.inl (K 0, 6, .inl g))
  | 12 => some (.inl (K 0, 6, .inl g))
  | 13 => some (.inr (2, [.ref (N + (b + 13 + 1)), .int (g 1)]))
  | _ => some (.inl (K 0, 6, .inl g))
def mmd (N : Nat) (K : Nat → ClassId) (k : Nat) (g : Nat → Int32) : Option va_E := match k with
  | 103 => some (.inr (7, [.int (g 0), .ref (N + 104), .ref (N + 105), .ref (N + 106), .ref (N + 107), .ref (N + 108), .ref (N + 109), .ref (N + 110), .ref (N + 111), .ref (N + 112), .ref (N + 113), .ref (N + 114), .ref (N + 115), .ref (N + 116), .ref (N + 117), .ref (N + 118), .ref (N + 119), .ref (N + 120), .ref (N + 121), .ref (N + 122), .ref (N + 123), .int (g 21), .ref (N + 124), .ref (N + 125), .int (g 24), .ref (N + 126), .ref (N + 127), .ref (N + 128), .ref (N + 129), .ref (N + 130), .ref (N + 131), .int (g 31), .int (g 32), .int (g 33)]))
  | 104 => some (.inl (K 0, 6, .inl g))
  | 105 => some (.inl (K 0, 18, .inl g))
  | 106 => some (.inl (K 0, 6, .inl g))
  | 107 => some (.inl (K 0, 36, .inl g))
  | 108 => some (.inl (K 0, 36, .inl g))
  | 109 => some (.inl (K 1, 36, .inl g))
  | 110 => some (.inl (K 0, 6, .inl g))
  | 111 => some (.inl (K 0, 36, .inl g))
  | 112 => some (.inl (K 0, 36, .inl g))
  | 113 => some (.inl (K 0, 36, .inl g))
  | 114 => some (.inl (K 0, 36, .inl g))
  | 115 => some (.inl (K 0, 6, .inl g))
  | 116 => some (.inl (K 1, 6, .inl g))
  | 117 => some (.inl (K 0, 6, .inl g))
  | 118 => some (.inl (K 0, 36, .inl g))
  | 119 => some (.inl (K 0, 6, .inl g))
  | 120 => some (.inl (K 1, 36, .inl g))
  | 121 => some (.inl (K 0, 6, .inl g))
  | 122 => some (.inl (K 0, 6, .inl g))
  | 123 => some (.inl (K 0, 6, .inl g))
  | 124 => some (.inl (K 0, 32, .inl g))
  | 125 => some (.inl (K 0, 6, .inl g))
  | 126 => some (.inl (K 1, 6, .inl g))
  | 127 => some (.inl (K 1, 6, .inl g))
  | 128 => some (.inl (K 0, 8, .inl g))
  | 129 => some (.inl (K 0, 8, .inl g))
  | 130 => some (.inl (K 1, 6, .inl g))
  | 131 => some (.inl (K 0, 40, .inl g))
  | 132 => some (.inl (K 2, 1, .inr (.inl (fun i => if i = 0 then (g 0).toInt64 else 0))))
  | _ => none
def mcell (N : Nat) (K : Nat → ClassId) (k : Nat) (g : Nat → Int32) : Option va_E := if k < 13 then mlow N K k g else if k < 103 then mlk N K (13 + 15 * ((k - 13) / 15)) ((k - 13) % 15) g else mmd N K k g
def mup (M : Nat → Nat → Int32) (k i : Nat) (v : Int32) : Nat → Nat → Int32 := fun k' i' => if k' = k ∧ i' = i then v else M k' i'
theorem mup_self (M : Nat → Nat → Int32) (k i : Nat) (v : Int32) : mup M k i v k = upd (M k) i v := by
  funext j
  simp [mup, upd]
theorem mup_at (M : Nat → Nat → Int32) (k i : Nat) (v : Int32) : mup M k i v k i = v := by simp [mup]
theorem mup_ne (M : Nat → Nat → Int32) {k i k' i' : Nat} (v : Int32) (h : k' ≠ k ∨ i' ≠ i) : mup M k i v k' i' = M k' i' := by
  unfold mup
  rw [if_neg (by omega)]
/-- the heap of both, with J exceptions made and sl slots -/
def jst (ω : jw) (M : Nat → Nat → Int32) (J sl : Nat) : jh := (133, J, sl, fun a => if jN ω ≤ a then mcell (jN ω) (jK ω) (a - jN ω) (M (a - jN ω)) else none)
theorem jst_at (ω : jw) (M : Nat → Nat → Int32) (J sl k : Nat) : (jst ω M J sl).2.2.2 (jN ω + k) = mcell (jN ω) (jK ω) k (M k) := by
  show (if jN ω ≤ jN ω + k then _ else _) = _
  rw [if_pos (Nat.le_add_right _ _), Nat.add_sub_cancel_left]
theorem jst_up (ω : jw) (M : Nat → Nat → Int32) (J sl k i : Nat) (v : Int32) {e : va_E} (he : mcell (jN ω) (jK ω) k (upd (M k) i v) = some e) : jup (jst ω M J sl) (jN ω + k) e = jst ω (mup M k i v) J sl := by
  unfold jup jst
  refine congrArg (fun f => (133, J, sl, f)) ?_
  funext a
  by_cases ha : a = jN ω + k
  · subst ha
    rw [va_up_self, if_pos (Nat.le_add_right _ _), Nat.add_sub_cancel_left, mup_self, he]
  · rw [va_up_ne _ _ ha]
    by_cases hN : jN ω ≤ a
    · simp only [if_pos hN]
      have : a - jN ω ≠ k := by omega
      congr 1
      funext j
      rw [mup_ne M v (Or.inl this)]
    · simp only [if_neg hN]
section MS
variable {N : Nat} {K : Nat → ClassId}
theorem ms_lk0 {o : Nat} (ho : o < 6) (g : Nat → Int32) : mcell N K (13 + 15 * o + 0) g = mlk N K (13 + 15 * o) 0 g := by
  unfold mcell
  rw [if_neg (by omega), if_pos (by omega), show (13 + 15 * o + 0 - 13) / 15 = o by omega, show (13 + 15 * o + 0 - 13) % 15 = 0 by omega]
theorem ms_lk1 {o : Nat} (ho : o < 6) (g : Nat → Int32) : mcell N K (13 + 15 * o + 1) g = mlk N K (13 + 15 * o) 1 g := by
  unfold mcell
  rw [if_neg (by omega), if_pos (by omega), show (13 + 15 * o + 1 - 13) / 15 = o by omega, show (13 + 15 * o + 1 - 13) % 15 = 1 by omega]
theorem ms_lk2 {o : Nat} (ho : o < 6) (g : Nat → Int32) : mcell N K (13 + 15 * o + 2) g = mlk N K (13 + 15 * o) 2 g := by
  unfold mcell
  rw [if_neg (by omega), if_pos (by omega), show (13 + 15 * o + 2 - 13) / 15 = o by omega, show (13 + 15 * o + 2 - 13) % 15 = 2 by omega]
theorem ms_lk3 {o : Nat} (ho : o < 6) (g : Nat → Int32) : mcell N K (13 + 15 * o + 3) g = mlk N K (13 + 15 * o) 3 g := by
  unfold mcell
  rw [if_neg (by omega), if_pos (by omega), show (13 + 15 * o + 3 - 13) / 15 = o by omega, show (13 + 15 * o + 3 - 13) % 15 = 3 by omega]
theorem ms_lk4 {o : Nat} (ho : o < 6) (g : Nat → Int32) : mcell N K (13 + 15 * o + 4) g = mlk N K (13 + 15 * o) 4 g := by
  unfold mcell
  rw [if_neg (by omega), if_pos (by omega), show (13 + 15 * o + 4 - 13) / 15 = o by omega, show (13 + 15 * o + 4 - 13) % 15 = 4 by omega]
theorem ms_lk5 {o : Nat} (ho : o < 6) (g : Nat → Int32) : mcell N K (13 + 15 * o + 5) g = mlk N K (13 + 15 * o) 5 g := by
  unfold mcell
  rw [if_neg (by omega), if_pos (by omega), show (13 + 15 * o + 5 - 13) / 15 = o by omega, show (13 + 15 * o + 5 - 13) % 15 = 5 by omega]
theorem ms_lk6 {o : Nat} (ho : o < 6) (g : Nat → Int32) : mcell N K (13 + 15 * o + 6) g = mlk N K (13 + 15 * o) 6 g := by
  unfold mcell
  rw [if_neg (by omega), if_pos (by omega), show (13 + 15 * o + 6 - 13) / 15 = o by omega, show (13 + 15 * o + 6 - 13) % 15 = 6 by omega]
theorem ms_lk7 {o : Nat} (ho : o < 6) (g : Nat → Int32) : mcell N K (13 + 15 * o + 7) g = mlk N K (13 + 15 * o) 7 g := by
  unfold mcell
  rw [if_neg (by omega), if_pos (by omega), show (13 + 15 * o + 7 - 13) / 15 = o by omega, show (13 + 15 * o + 7 - 13) % 15 = 7 by omega]
theorem ms_lk8 {o : Nat} (ho : o < 6) (g : Nat → Int32) : mcell N K (13 + 15 * o + 8) g = mlk N K (13 + 15 * o) 8 g := by
  unfold mcell
  rw [if_neg (by omega), if_pos (by omega), show (13 + 15 * o + 8 - 13) / 15 = o by omega, show (13 + 15 * o + 8 - 13) % 15 = 8 by omega]
theorem ms_lk9 {o : Nat} (ho : o < 6) (g : Nat → Int32) : mcell N K (13 + 15 * o + 9) g = mlk N K (13 + 15 * o) 9 g := by
  unfold mcell
  rw [if_neg (by omega), if_pos (by omega), show (13 + 15 * o + 9 - 13) / 15 = o by omega, show (13 + 15 * o + 9 - 13) % 15 = 9 by omega]
theorem ms_lk10 {o : Nat} (ho : o < 6) (g : Nat → Int32) : mcell N K (13 + 15 * o + 10) g = mlk N K (13 + 15 * o) 10 g := by
  unfold mcell
  rw [if_neg (by omega), if_pos (by omega), show (13 + 15 * o + 10 - 13) / 15 = o by omega, show (13 + 15 * o + 10 - 13) % 15 = 10 by omega]
theorem ms_lk11 {o : Nat} (ho : o < 6) (g : Nat → Int32) : mcell N K (13 + 15 * o + 11) g = mlk N K (13 + 15 * o) 11 g := by
  unfold mcell
  rw [if_neg (by omega), if_pos (by omega), show (13 + 15 * o + 11 - 13) / 15 = o by omega, show (13 + 15 * o + 11 - 13) % 15 = 11 by omega]
theorem ms_lk12 {o : Nat} (ho : o < 6) (g : Nat → Int32) : mcell N K (13 + 15 * o + 12) g = mlk N K (13 + 15 * o) 12 g := by
  unfold mcell
  rw [if_neg (by omega), if_pos (by omega), show (13 + 15 * o + 12 - 13) / 15 = o by omega, show (13 + 15 * o + 12 - 13) % 15 = 12 by omega]
theorem ms_lk13 {o : Nat} (ho : o < 6) (g : Nat → Int32) : mcell N K (13 + 15 * o + 13) g = mlk N K (13 + 15 * o) 13 g := by
  unfold mcell
  rw [if_neg (by omega), if_pos (by omega), show (13 + 15 * o + 13 - 13) / 15 = o by omega, show (13 + 15 * o + 13 - 13) % 15 = 13 by omega]
theorem ms_lk14 {o : Nat} (ho : o < 6) (g : Nat → Int32) : mcell N K (13 + 15 * o + 14) g = mlk N K (13 + 15 * o) 14 g := by
  unfold mcell
  rw [if_neg (by omega), if_pos (by omega), show (13 + 15 * o + 14 - 13) / 15 = o by omega, show (13 + 15 * o + 14 - 13) % 15 = 14 by omega]
theorem ms_lk {o : Nat} (ho : o < 6) (g : Nat → Int32) : mcell N K (13 + 15 * o) g = mlk N K (13 + 15 * o) 0 g := ms_lk0 ho g
end MS
section SH
variable {N : Nat} {K : Nat → ClassId}
theorem s0 (g : Nat → Int32) : mcell N K 0 g = some (.inr (0, [.ref (N + 1), .ref (N + 2), .ref (N + 5), .ref (N + 7), .ref (N + 9), .ref (N + 11), .int (g 6), .int (g 7)])) := rfl
theorem s1 (g : Nat → Int32) : mcell N K 1 g = some (.inl (K 3, 6, .inr (.inr (.inr (.inr (fun i => if i < 6 then some (N + (13 + 15 * i)) else none)))))) := rfl
theorem s2 (g : Nat → Int32) : mcell N K 2 g = some (.inr (5, [.ref (N + 3), .ref (N + 4)])) := rfl
theorem s3 (g : Nat → Int32) : mcell N K 3 g = some (.inl (K 0, 32, .inl g)) := rfl
theorem s4 (g : Nat → Int32) : mcell N K 4 g = some (.inl (K 1, 32, .inl g)) := rfl
theorem s5 (g : Nat → Int32) : mcell N K 5 g = some (.inr (6, [.ref (N + 6), .int (g 1), .int (g 2)])) := rfl
theorem s6 (g : Nat → Int32) : mcell N K 6 g = some (.inl (K 0, 40, .inl g)) := rfl
theorem s7 (g : Nat → Int32) : mcell N K 7 g = some (.inr (2, [.ref (N + (7 + 1)), .int (g 1)])) := rfl
theorem s8 (g : Nat → Int32) : mcell N K 8 g = some (.inl (K 0, 6, .inl g)) := rfl
theorem s9 (g : Nat → Int32) : mcell N K 9 g = some (.inr (2, [.ref (N + (9 + 1)), .int (g 1)])) := rfl
theorem s10 (g : Nat → Int32) : mcell N K 10 g = some (.inl (K 0, 6, .inl g)) := rfl
theorem s11 (g : Nat → Int32) : mcell N K 11 g = some (.inr (2, [.ref (N + (11 + 1)), .int (g 1)])) := rfl
theorem s12 (g : Nat → Int32) : mcell N K 12 g = some (.inl (K 0, 6, .inl g)) := rfl
theorem sL0 {o : Nat} (ho : o < 6) (g : Nat → Int32) : mcell N K (13 + 15 * o) g = some (.inr (1, [.ref (N + (13 + 15 * o + 1)), .ref (N + (13 + 15 * o + 3)), .ref (N + (13 + 15 * o + 8)), .ref (N + (13 + 15 * o + 13)), .int (g 4), .int (g 5), .int (g 6), .int (g 7)])) := ms_lk0 ho g
theorem sL1 {o : Nat} (ho : o < 6) (g : Nat → Int32) : mcell N K (13 + 15 * o + 1) g = some (.inr (2, [.ref (N + (13 + 15 * o + 1 + 1)), .int (g 1)])) := ms_lk1 ho g
theorem sL2 {o : Nat} (ho : o < 6) (g : Nat → Int32) : mcell N K (13 + 15 * o + 2) g = some (.inl (K 0, 6, .inl g)) := ms_lk2 ho g
theorem sL3 {o : Nat} (ho : o < 6) (g : Nat → Int32) : mcell N K (13 + 15 * o + 3) g = some (.inr (3, [.ref (N + (13 + 15 * o + 4)), .ref (N + (13 + 15 * o + 5)), .ref (N + (13 + 15 * o + 6)), .ref (N + (13 + 15 * o + 7)), .int (g 4)])) := ms_lk3 ho g
theorem sL4 {o : Nat} (ho : o < 6) (g : Nat → Int32) : mcell N K (13 + 15 * o + 4) g = some (.inl (K 0, 6, .inl g)) := ms_lk4 ho g
theorem sL5 {o : Nat} (ho : o < 6) (g : Nat → Int32) : mcell N K (13 + 15 * o + 5) g = some (.inl (K 0, 6, .inl g)) := ms_lk5 ho g
theorem sL6 {o : Nat} (ho : o < 6) (g : Nat → Int32) : mcell N K (13 + 15 * o + 6) g = some (.inl (K 0, 6, .inl g)) := ms_lk6 ho g
theorem sL7 {o : Nat} (ho : o < 6) (g : Nat → Int32) : mcell N K (13 + 15 * o + 7) g = some (.inl (K 1, 6, .inl g)) := ms_lk7 ho g
theorem sL8 {o : Nat} (ho : o < 6) (g : Nat → Int32) : mcell N K (13 + 15 * o + 8) g = some (.inr (4, [.ref (N + (13 + 15 * o + 9)), .ref (N + (13 + 15 * o + 10)), .ref (N + (13 + 15 * o + 11)), .ref (N + (13 + 15 * o + 12)), .int (g 4)])) := ms_lk8 ho g
theorem sL9 {o : Nat} (ho : o < 6) (g : Nat → Int32) : mcell N K (13 + 15 * o + 9) g = some (.inl (K 0, 6, .inl g)) := ms_lk9 ho g
theorem sL10 {o : Nat} (ho : o < 6) (g : Nat → Int32) : mcell N K (13 + 15 * o + 10) g = some (.inl (K 0, 6, .inl g)) := ms_lk10 ho g
theorem sL11 {o : Nat} (ho : o < 6) (g : Nat → Int32) : mcell N K (13 + 15 * o + 11) g = some (.inl (K 0, 6, .inl g)) := ms_lk11 ho g
theorem sL12 {o : Nat} (ho : o < 6) (g : Nat → Int32) : mcell N K (13 + 15 * o + 12) g = some (.inl (K 0, 6, .inl g)) := ms_lk12 ho g
theorem sL13 {o : Nat} (ho : o < 6) (g : Nat → Int32) : mcell N K (13 + 15 * o + 13) g = some (.inr (2, [.ref (N + (13 + 15 * o + 13 + 1)), .int (g 1)])) := ms_lk13 ho g
theorem sL14 {o : Nat} (ho : o < 6) (g : Nat → Int32) : mcell N K (13 + 15 * o + 14) g = some (.inl (K 0, 6, .inl g)) := ms_lk14 ho g
theorem s103 (g : Nat → Int32) : mcell N K 103 g = some (.inr (7, [.int (g 0), .ref (N + 104), .ref (N + 105), .ref (N + 106), .ref (N + 107), .ref (N + 108), .ref (N + 109), .ref (N + 110), .ref (N + 111), .ref (N + 112), .ref (N + 113), .ref (N + 114), .ref (N + 115), .ref (N + 116), .ref (N + 117), .ref (N + 118), .ref (N + 119), .ref (N + 120), .ref (N + 121), .ref (N + 122), .ref (N + 123), .int (g 21), .ref (N + 124), .ref (N + 125), .int (g 24), .ref (N + 126), .ref (N + 127), .ref (N + 128), .ref (N + 129), .ref (N + 130), .ref (N + 131), .int (g 31), .int (g 32), .int (g 33)])) := rfl
theorem s104 (g : Nat → Int32) : mcell N K 104 g = some (.inl (K 0, 6, .inl g)) := rfl
theorem s105 (g : Nat → Int32) : mcell N K 105 g = some (.inl (K 0, 18, .inl g)) := rfl
theorem s106 (g : Nat → Int32) : mcell N K 106 g = some (.inl (K 0, 6, .inl g)) := rfl
theorem s107 (g : Nat → Int32) : mcell N K 107 g = some (.inl (K 0, 36, .inl g)) := rfl
theorem s108 (g : Nat → Int32) : mcell N K 108 g = some (.inl (K 0, 36, .inl g)) := rfl
theorem s109 (g : Nat → Int32) : mcell N K 109 g = some (.inl (K 1, 36, .inl g)) := rfl
theorem s110 (g : Nat → Int32) : mcell N K 110 g = some (.inl (K 0, 6, .inl g)) := rfl
theorem s111 (g : Nat → Int32) : mcell N K 111 g = some (.inl (K 0, 36, .inl g)) := rfl
theorem s112 (g : Nat → Int32) : mcell N K 112 g = some (.inl (K 0, 36, .inl g)) := rfl
theorem s113 (g : Nat → Int32) : mcell N K 113 g = some (.inl (K 0, 36, .inl g)) := rfl
theorem s114 (g : Nat → Int32) : mcell N K 114 g = some (.inl (K 0, 36, .inl g)) := rfl
theorem s115 (g : Nat → Int32) : mcell N K 115 g = some (.inl (K 0, 6, .inl g)) := rfl
theorem s116 (g : Nat → Int32) : mcell N K 116 g = some (.inl (K 1, 6, .inl g)) := rfl
theorem s117 (g : Nat → Int32) : mcell N K 117 g = some (.inl (K 0, 6, .inl g)) := rfl
theorem s118 (g : Nat → Int32) : mcell N K 118 g = some (.inl (K 0, 36, .inl g)) := rfl
theorem s119 (g : Nat → Int32) : mcell N K 119 g = some (.inl (K 0, 6, .inl g)) := rfl
theorem s120 (g : Nat → Int32) : mcell N K 120 g = some (.inl (K 1, 36, .inl g)) := rfl
theorem s121 (g : Nat → Int32) : mcell N K 121 g = some (.inl (K 0, 6, .inl g)) := rfl
theorem s122 (g : Nat → Int32) : mcell N K 122 g = some (.inl (K 0, 6, .inl g)) := rfl
theorem s123 (g : Nat → Int32) : mcell N K 123 g = some (.inl (K 0, 6, .inl g)) := rfl
theorem s124 (g : Nat → Int32) : mcell N K 124 g = some (.inl (K 0, 32, .inl g)) := rfl
theorem s125 (g : Nat → Int32) : mcell N K 125 g = some (.inl (K 0, 6, .inl g)) := rfl
theorem s126 (g : Nat → Int32) : mcell N K 126 g = some (.inl (K 1, 6, .inl g)) := rfl
theorem s127 (g : Nat → Int32) : mcell N K 127 g = some (.inl (K 1, 6, .inl g)) := rfl
theorem s128 (g : Nat → Int32) : mcell N K 128 g = some (.inl (K 0, 8, .inl g)) := rfl
theorem s129 (g : Nat → Int32) : mcell N K 129 g = some (.inl (K 0, 8, .inl g)) := rfl
theorem s130 (g : Nat → Int32) : mcell N K 130 g = some (.inl (K 1, 6, .inl g)) := rfl
theorem s131 (g : Nat → Int32) : mcell N K 131 g = some (.inl (K 0, 40, .inl g)) := rfl
theorem s132 (g : Nat → Int32) : mcell N K 132 g = some (.inl (K 2, 1, .inr (.inl (fun i => if i = 0 then (g 0).toInt64 else 0)))) := rfl
end SH
/-- a row of objects: its cell, its array behind it -/
def isRow (k : Nat) : Prop := (∀ (N : Nat) (K : Nat → ClassId) (g : Nat → Int32), mcell N K k g = some (.inr (2, [.ref (N + (k + 1)), .int (g 1)]))) ∧ ∀ (N : Nat) (K : Nat → ClassId) (g : Nat → Int32), mcell N K (k + 1) g = some (.inl (K 0, 6, .inl g))
theorem row7 : isRow 7 := ⟨fun _ _ _ => rfl, fun _ _ _ => rfl⟩
theorem row9 : isRow 9 := ⟨fun _ _ _ => rfl, fun _ _ _ => rfl⟩
theorem row11 : isRow 11 := ⟨fun _ _ _ => rfl, fun _ _ _ => rfl⟩
theorem rowN {o : Nat} (ho : o < 6) : isRow (13 + 15 * o + 1) := ⟨fun _ _ g => sL1 ho g, fun _ _ g => sL2 ho g⟩
theorem rowG {o : Nat} (ho : o < 6) : isRow (13 + 15 * o + 13) := ⟨fun _ _ g => sL13 ho g, fun _ _ g => sL14 ho g⟩
section MR
variable {ω : jw} {d : Nat} {x : jm} {pc : Nat} {ls : List (Option Value)} {st : List Value} {M : Nat → Nat → Int32} {J sl : Nat} {Q : jr → jh → Prop}
theorem mr_get {ci idx j k : Nat} {q : vw_C} {ty : Nat → FieldType} {fs : List Value} (v : Value) (hd : decode x.2.1 pc = .ok (.getfield idx, 3)) (cl : jCl ci q ty) (lk : jLk x.1.cls idx q j) (hk : mcell (jN ω) (jK ω) k (M k) = some (.inr (ci, fs))) (hv : fs[j]? = some v) (kk : jj ω d x (pc + 3) ls (v :: st) (jst ω M J sl) Q) : jj ω d x pc ls (.ref (jN ω + k) :: st) (jst ω M J sl) Q :=
  jj_get v hd cl lk ((jst_at ω M J sl k).trans hk) hv kk
theorem mr_put {ci idx j k : Nat} {q : vw_C} {ty : Nat → FieldType} {fs fs' : List Value} {v : Int32} (hd : decode x.2.1 pc = .ok (.putfield idx, 3)) (cl : jCl ci q ty) (lk : jLk x.1.cls idx q j) (hty : ty j = .int) (hfin : (q.2.1 j).2.2.2 = false) (hk : mcell (jN ω) (jK ω) k (M k) = some (.inr (ci, fs))) (hk' : mcell (jN ω) (jK ω) k (upd (M k) j v) = some (.inr (ci, fs'))) (hl : j < fs.length) (hfs : fs.set j (.int v) = fs') (kk : jj ω d x (pc + 3) ls st (jst ω (mup M k j v) J sl) Q) : jj ω d x pc ls (.int v :: .ref (jN ω + k) :: st) (jst ω M J sl) Q :=
  jj_put fs' hd cl lk hfin ((jst_at ω M J sl k).trans hk) (by rw [hty]; rfl) (by rw [hty]; rfl) hl hfs (by rw [jst_up ω M J sl k j v hk']; exact kk)
theorem mr_iald {k n i : Nat} (hd : decode x.2.1 pc = .ok (.iaload, 1)) (hk : mcell (jN ω) (jK ω) k (M k) = some (.inl (jK ω 0, n, .inl (M k)))) (hi : i < n) (hn : n < 2 ^ 31) (kk : jj ω d x (pc + 1) ls (.int (M k i) :: st) (jst ω M J sl) Q) : jj ω d x pc ls (.int (nI i) :: .ref (jN ω + k) :: st) (jst ω M J sl) Q :=
  jj_iald hd ((jst_at ω M J sl k).trans hk) (vp_in_nI hi hn) (by rw [nI_clamp (by omega)]; exact kk)
theorem mr_zald {k n i : Nat} (hd : decode x.2.1 pc = .ok (.baload, 1)) (hk : mcell (jN ω) (jK ω) k (M k) = some (.inl (jK ω 1, n, .inl (M k)))) (hi : i < n) (hn : n < 2 ^ 31) (kk : jj ω d x (pc + 1) ls (.int (M k i) :: st) (jst ω M J sl) Q) : jj ω d x pc ls (.int (nI i) :: .ref (jN ω + k) :: st) (jst ω M J sl) Q :=
  jj_zald hd ((jst_at ω M J sl k).trans hk) (vp_in_nI hi hn) (by rw [nI_clamp (by omega)]; exact kk)
theorem mr_iast {k n i : Nat} {v : Int32} (hd : decode x.2.1 pc = .ok (.iastore, 1)) (hk : ∀ g, mcell (jN ω) (jK ω) k g = some (.inl (jK ω 0, n, .inl g))) (hi : i < n) (hn : n < 2 ^ 31) (kk : jj ω d x (pc + 1) ls st (jst ω (mup M k i v) J sl) Q) : jj ω d x pc ls (.int v :: .int (nI i) :: .ref (jN ω + k) :: st) (jst ω M J sl) Q :=
  jj_iast hd ((jst_at ω M J sl k).trans (hk _)) (vp_in_nI hi hn) (by rw [nI_clamp (by omega), jst_up ω M J sl k i v (hk _)]; exact kk)
theorem mr_zast {k n i : Nat} {v : Int32} (hd : decode x.2.1 pc = .ok (.bastore, 1)) (hk : ∀ g, mcell (jN ω) (jK ω) k g = some (.inl (jK ω 1, n, .inl g))) (hv : v = 0 ∨ v = 1) (hi : i < n) (hn : n < 2 ^ 31) (kk : jj ω d x (pc + 1) ls st (jst ω (mup M k i v) J sl) Q) : jj ω d x pc ls (.int v :: .int (nI i) :: .ref (jN ω + k) :: st) (jst ω M J sl) Q :=
  jj_zast hd ((jst_at ω M J sl k).trans (hk _)) (vp_in_nI hi hn) (by
    have e : vp_nar .boolean v = v := by rcases hv with rfl | rfl <;> rfl
    rw [nI_clamp (by omega), e, jst_up ω M J sl k i v (hk _)]
    exact kk)
theorem mr_aald {o : Nat} (hd : decode x.2.1 pc = .ok (.aaload, 1)) (ho : o < 6) (kk : jj ω d x (pc + 1) ls (.ref (jN ω + (13 + 15 * o)) :: st) (jst ω M J sl) Q) : jj ω d x pc ls (.int (nI o) :: .ref (jN ω + 1) :: st) (jst ω M J sl) Q :=
  jj_aald hd ((jst_at ω M J sl 1).trans (s1 _)) (vp_in_nI ho (by decide)) (by rw [nI_clamp (by omega), if_pos ho]) kk
theorem mr_throw {ik ic : Nat} (k : Nat) (d0 : decode x.2.1 pc = .ok (.new ik, 3)) (d3 : decode x.2.1 (pc + 3) = .ok (.dup, 1)) (d4 : decode x.2.1 (pc + 4) = .ok (.invokespecial ic, 3)) (d7 : decode x.2.1 (pc + 7) = .ok (.athrow, 1))
    (hx : x.2.2.2.2 = []) (hw : jThw x.1.cls ik ic k) (hst : st.length ≤ 10) (hJ : J < 1000) (hsl : sl < 1000000) (hq : Q (.inr k) (jst ω M (J + 1) (sl + 6))) : jj ω d x pc ls st (jst ω M J sl) Q :=
  jj_throw k d0 d3 d4 d7 hx hw hst (by show 133 + J + 1 ≤ 653699; omega) (by show sl + 6 ≤ 7135006; omega) hq
theorem jk_v {y : jm} {h' : jh} (k : jj ω d y (pc + 3) ls st h' Q) : jk ω d y pc ls st Q (.inl none) h' := k
theorem jk_i {y : jm} {v : Int32} {h' : jh} (k : jj ω d y (pc + 3) ls (.int v :: st) h' Q) : jk ω d y pc ls st Q (.inl (some (.int v))) h' := k
theorem jk_x {y : jm} {k : Nat} {h' : jh} (hx : y.2.2.2.2 = []) (hq : Q (.inr k) h') : jk ω d y pc ls st Q (.inr k) h' := Or.inl ⟨hx, hq⟩
theorem mv0 {idx ci k : Nat} {q : vw_C} {ty : Nat → FieldType} {fs : List Value} {y : jm} (hd : decode x.2.1 pc = .ok (.invokevirtual idx, 3)) (cl : jCl ci q ty) (cv : jCV x.1.cls idx q.1 y 0) (hk : mcell (jN ω) (jK ω) k (M k) = some (.inr (ci, fs))) (hst : st.length ≤ 10) (kk : jwp ω d y (.ref (jN ω + k) :: []) (jst ω M J sl) (jk ω (d + 1) x pc ls st Q)) : jj ω (d + 1) x pc ls (.ref (jN ω + k) :: st) (jst ω M J sl) Q :=
  jj_V (av := []) hd cl cv ((jst_at ω M J sl k).trans hk) hst kk
theorem ms0 {idx : Nat} {y : jm} {h : jh} (hd : decode x.2.1 pc = .ok (.invokestatic idx, 3)) (cv : jCS x.1.cls idx y 0) (hst : st.length ≤ 10) (kk : jwp ω d y [] h (jk ω (d + 1) x pc ls st Q)) : jj ω (d + 1) x pc ls (st) h Q :=
  jj_S (av := []) hd cv hst kk
theorem mv1 {idx ci k : Nat} {q : vw_C} {ty : Nat → FieldType} {fs : List Value} {y : jm} {v1 : Value} (hd : decode x.2.1 pc = .ok (.invokevirtual idx, 3)) (cl : jCl ci q ty) (cv : jCV x.1.cls idx q.1 y 1) (hk : mcell (jN ω) (jK ω) k (M k) = some (.inr (ci, fs))) (hst : st.length ≤ 10) (kk : jwp ω d y (.ref (jN ω + k) :: [v1]) (jst ω M J sl) (jk ω (d + 1) x pc ls st Q)) : jj ω (d + 1) x pc ls (v1 :: .ref (jN ω + k) :: st) (jst ω M J sl) Q :=
  jj_V (av := [v1]) hd cl cv ((jst_at ω M J sl k).trans hk) hst kk
theorem ms1 {idx : Nat} {y : jm} {h : jh} {v1 : Value} (hd : decode x.2.1 pc = .ok (.invokestatic idx, 3)) (cv : jCS x.1.cls idx y 1) (hst : st.length ≤ 10) (kk : jwp ω d y [v1] h (jk ω (d + 1) x pc ls st Q)) : jj ω (d + 1) x pc ls (v1 :: st) h Q :=
  jj_S (av := [v1]) hd cv hst kk
theorem mv2 {idx ci k : Nat} {q : vw_C} {ty : Nat → FieldType} {fs : List Value} {y : jm} {v1 v2 : Value} (hd : decode x.2.1 pc = .ok (.invokevirtual idx, 3)) (cl : jCl ci q ty) (cv : jCV x.1.cls idx q.1 y 2) (hk : mcell (jN ω) (jK ω) k (M k) = some (.inr (ci, fs))) (hst : st.length ≤ 10) (kk : jwp ω d y (.ref (jN ω + k) :: [v1, v2]) (jst ω M J sl) (jk ω (d + 1) x pc ls st Q)) : jj ω (d + 1) x pc ls (v2 :: v1 :: .ref (jN ω + k) :: st) (jst ω M J sl) Q :=
  jj_V (av := [v1, v2]) hd cl cv ((jst_at ω M J sl k).trans hk) hst kk
theorem ms2 {idx : Nat} {y : jm} {h : jh} {v1 v2 : Value} (hd : decode x.2.1 pc = .ok (.invokestatic idx, 3)) (cv : jCS x.1.cls idx y 2) (hst : st.length ≤ 10) (kk : jwp ω d y [v1, v2] h (jk ω (d + 1) x pc ls st Q)) : jj ω (d + 1) x pc ls (v2 :: v1 :: st) h Q :=
  jj_S (av := [v1, v2]) hd cv hst kk
theorem mv3 {idx ci k : Nat} {q : vw_C} {ty : Nat → FieldType} {fs : List Value} {y : jm} {v1 v2 v3 : Value} (hd : decode x.2.1 pc = .ok (.invokevirtual idx, 3)) (cl : jCl ci q ty) (cv : jCV x.1.cls idx q.1 y 3) (hk : mcell (jN ω) (jK ω) k (M k) = some (.inr (ci, fs))) (hst : st.length ≤ 10) (kk : jwp ω d y (.ref (jN ω + k) :: [v1, v2, v3]) (jst ω M J sl) (jk ω (d + 1) x pc ls st Q)) : jj ω (d + 1) x pc ls (v3 :: v2 :: v1 :: .ref (jN ω + k) :: st) (jst ω M J sl) Q :=
  jj_V (av := [v1, v2, v3]) hd cl cv ((jst_at ω M J sl k).trans hk) hst kk
theorem ms3 {idx : Nat} {y : jm} {h : jh} {v1 v2 v3 : Value} (hd : decode x.2.1 pc = .ok (.invokestatic idx, 3)) (cv : jCS x.1.cls idx y 3) (hst : st.length ≤ 10) (kk : jwp ω d y [v1, v2, v3] h (jk ω (d + 1) x pc ls st Q)) : jj ω (d + 1) x pc ls (v3 :: v2 :: v1 :: st) h Q :=
  jj_S (av := [v1, v2, v3]) hd cv hst kk
theorem mv4 {idx ci k : Nat} {q : vw_C} {ty : Nat → FieldType} {fs : List Value} {y : jm} {v1 v2 v3 v4 : Value} (hd : decode x.2.1 pc = .ok (.invokevirtual idx, 3)) (cl : jCl ci q ty) (cv : jCV x.1.cls idx q.1 y 4) (hk : mcell (jN ω) (jK ω) k (M k) = some (.inr (ci, fs))) (hst : st.length ≤ 10) (kk : jwp ω d y (.ref (jN ω + k) :: [v1, v2, v3, v4]) (jst ω M J sl) (jk ω (d + 1) x pc ls st Q)) : jj ω (d + 1) x pc ls (v4 :: v3 :: v2 :: v1 :: .ref (jN ω + k) :: st) (jst ω M J sl) Q :=
  jj_V (av := [v1, v2, v3, v4]) hd cl cv ((jst_at ω M J sl k).trans hk) hst kk
theorem ms4 {idx : Nat} {y : jm} {h : jh} {v1 v2 v3 v4 : Value} (hd : decode x.2.1 pc = .ok (.invokestatic idx, 3)) (cv : jCS x.1.cls idx y 4) (hst : st.length ≤ 10) (kk : jwp ω d y [v1, v2, v3, v4] h (jk ω (d + 1) x pc ls st Q)) : jj ω (d + 1) x pc ls (v4 :: v3 :: v2 :: v1 :: st) h Q :=
  jj_S (av := [v1, v2, v3, v4]) hd cv hst kk
theorem mv5 {idx ci k : Nat} {q : vw_C} {ty : Nat → FieldType} {fs : List Value} {y : jm} {v1 v2 v3 v4 v5 : Value} (hd : decode x.2.1 pc = .ok (.invokevirtual idx, 3)) (cl : jCl ci q ty) (cv : jCV x.1.cls idx q.1 y 5) (hk : mcell (jN ω) (jK ω) k (M k) = some (.inr (ci, fs))) (hst : st.length ≤ 10) (kk : jwp ω d y (.ref (jN ω + k) :: [v1, v2, v3, v4, v5]) (jst ω M J sl) (jk ω (d + 1) x pc ls st Q)) : jj ω (d + 1) x pc ls (v5 :: v4 :: v3 :: v2 :: v1 :: .ref (jN ω + k) :: st) (jst ω M J sl) Q :=
  jj_V (av := [v1, v2, v3, v4, v5]) hd cl cv ((jst_at ω M J sl k).trans hk) hst kk
theorem ms5 {idx : Nat} {y : jm} {h : jh} {v1 v2 v3 v4 v5 : Value} (hd : decode x.2.1 pc = .ok (.invokestatic idx, 3)) (cv : jCS x.1.cls idx y 5) (hst : st.length ≤ 10) (kk : jwp ω d y [v1, v2, v3, v4, v5] h (jk ω (d + 1) x pc ls st Q)) : jj ω (d + 1) x pc ls (v5 :: v4 :: v3 :: v2 :: v1 :: st) h Q :=
  jj_S (av := [v1, v2, v3, v4, v5]) hd cv hst kk
end MR
