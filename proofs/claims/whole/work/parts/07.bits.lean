/-! ===== Int32 by its bits: bt x i ===== -/
def bt (x : Int32) (i : Nat) : Bool := x.toBitVec.getLsbD i
theorem b_ext {x y : Int32} (h : ∀ i, i < 32 → bt x i = bt y i) : x = y := Int32.toBitVec_inj.mp (BitVec.eq_of_getLsbD_eq (fun i hi => h i hi))
theorem b_or (x y : Int32) (i : Nat) : bt (x ||| y) i = (bt x i || bt y i) := by unfold bt; rw [Int32.toBitVec_or, BitVec.getLsbD_or]
theorem b_and (x y : Int32) (i : Nat) : bt (x &&& y) i = (bt x i && bt y i) := by unfold bt; rw [Int32.toBitVec_and, BitVec.getLsbD_and]
theorem b_xor (x y : Int32) (i : Nat) : bt (x ^^^ y) i = (bt x i ^^ bt y i) := by unfold bt; rw [Int32.toBitVec_xor, BitVec.getLsbD_xor]
theorem b_big {x : Int32} {i : Nat} (h : 32 ≤ i) : bt x i = false := BitVec.getLsbD_of_ge _ _ h
theorem b_255 (i : Nat) : bt 255 i = decide (i < 8) := by
  rcases Nat.lt_or_ge i 32 with h | h
  · exact (by decide +kernel : ∀ i, i < 32 → bt 255 i = decide (i < 8)) i h
  · rw [b_big h, decide_eq_false (by omega)]
theorem b_65535 (i : Nat) : bt 65535 i = decide (i < 16) := by
  rcases Nat.lt_or_ge i 32 with h | h
  · exact (by decide +kernel : ∀ i, i < 32 → bt 65535 i = decide (i < 16)) i h
  · rw [b_big h, decide_eq_false (by omega)]
theorem b_m1 : ∀ i, i < 32 → bt (-1) i = true := by decide +kernel
theorem b_0 (i : Nat) : bt 0 i = false := BitVec.getLsbD_zero
theorem s_l : ∀ n, n < 32 → ((nI n &&& 31).toBitVec.smod 32).toNat = n := by decide +kernel
theorem s_u : ∀ n, n < 32 → (((nI n).toUInt32 &&& Int32.toUInt32 31).toBitVec % 32).toNat = n := by decide +kernel
theorem b_shl (n : Nat) (hn : n < 32) (x : Int32) {i : Nat} (hi : i < 32) : bt (x <<< (nI n &&& 31)) i = (decide (n ≤ i) && bt x (i - n)) := by
  unfold bt
  rw [Int32.toBitVec_shiftLeft]
  show (x.toBitVec <<< ((nI n &&& 31).toBitVec.smod 32).toNat).getLsbD i = _
  rw [s_l n hn, BitVec.getLsbD_shiftLeft]
  rcases Nat.lt_or_ge i n with h | h
  · simp [h, Nat.not_le.mpr h]
  · simp [hi, h, Nat.not_lt.mpr h]
theorem b_ushr (n : Nat) (hn : n < 32) (x : Int32) (i : Nat) : bt ((x.toUInt32 >>> ((nI n).toUInt32 &&& Int32.toUInt32 31)).toInt32) i = bt x (n + i) := by
  show (x.toUInt32 >>> ((nI n).toUInt32 &&& Int32.toUInt32 31)).toBitVec.getLsbD i = x.toUInt32.toBitVec.getLsbD (n + i)
  rw [UInt32.toBitVec_shiftRight]
  show (x.toUInt32.toBitVec >>> (((nI n).toUInt32 &&& Int32.toUInt32 31).toBitVec % 32).toNat).getLsbD i = _
  rw [s_u n hn, BitVec.getLsbD_ushiftRight]
theorem b_sshr (n : Nat) (hn : n < 32) (x : Int32) {i : Nat} (hi : i < 32) : bt (x >>> (nI n &&& 31)) i = if n + i < 32 then bt x (n + i) else bt x 31 := by
  unfold bt
  rw [Int32.toBitVec_shiftRight]
  show (x.toBitVec.sshiftRight ((nI n &&& 31).toBitVec.smod 32).toNat).getLsbD i = _
  rw [s_l n hn, BitVec.getLsbD_sshiftRight, BitVec.msb_eq_getLsbD_last]
  simp [hi]
theorem b_shl8 (x : Int32) {i : Nat} (hi : i < 32) : bt (x <<< ((8 : Int32) &&& 31)) i = (decide (8 ≤ i) && bt x (i - 8)) := b_shl 8 (by omega) x hi
theorem b_shl16 (x : Int32) {i : Nat} (hi : i < 32) : bt (x <<< ((16 : Int32) &&& 31)) i = (decide (16 ≤ i) && bt x (i - 16)) := b_shl 16 (by omega) x hi
theorem b_shl24 (x : Int32) {i : Nat} (hi : i < 32) : bt (x <<< ((24 : Int32) &&& 31)) i = (decide (24 ≤ i) && bt x (i - 24)) := b_shl 24 (by omega) x hi
theorem b_sshr8 (x : Int32) {i : Nat} (hi : i < 32) : bt (x >>> ((8 : Int32) &&& 31)) i = if 8 + i < 32 then bt x (8 + i) else bt x 31 := b_sshr 8 (by omega) x hi
/-! ===== names: the four bytes of an int ===== -/
def by4 (x : Int32) (k : Nat) : Int32 := ((x.toUInt32 >>> ((nI (8 * k)).toUInt32 &&& Int32.toUInt32 31)).toInt32) &&& 255
theorem by4_s (x : Int32) {k : Nat} (hk : k < 4) : (x >>> (nI (8 * k) &&& 31)) &&& 255 = by4 x k := by
  apply b_ext
  intro i hi
  unfold by4
  rw [b_and, b_and, b_sshr _ (by omega) _ hi, b_ushr _ (by omega), b_255]
  by_cases h8 : i < 8
  · rw [if_pos (by omega)]
  · simp [h8]
theorem by4_bt (x : Int32) {k i : Nat} (hk : k < 4) : bt (by4 x k) i = (bt x (8 * k + i) && decide (i < 8)) := by
  unfold by4
  rw [b_and, b_ushr _ (by omega), b_255]
theorem by4_zero {x : Int32} (h : ∀ k, k < 4 → by4 x k = 0) : x = 0 := by
  apply b_ext
  intro i hi
  have h1 := by4_bt x (k := i / 8) (i := i % 8) (by omega)
  rw [h (i / 8) (by omega), b_0, show 8 * (i / 8) + i % 8 = i by omega, decide_eq_true (by omega : i % 8 < 8), Bool.and_true] at h1
  rw [← h1, b_0]
theorem by4_0 (k : Nat) (hk : k < 4) : by4 0 k = 0 := by
  apply b_ext
  intro i hi
  rw [by4_bt 0 hk, b_0, b_0]
  rfl
def ltr (c : Int32) : Bool := decide ((97 : Int32) ≤ c) && decide (c ≤ 122)
def nmOk : Bool → List Int32 → Bool
  | _, [] => true
  | en, c :: cs => if c = 0 then nmOk true cs else if en || !ltr c then false else nmOk false cs
def nmB (x : Int32) : Bool := nmOk false [by4 x 0, by4 x 1, by4 x 2, by4 x 3] && decide (¬ x = 0)
/-- the reference's way: ended, fine so far, letters -/
def nmSt (s : Bool × Bool × Nat) (c : Int32) : Bool × Bool × Nat := (s.1 || decide (c = 0), s.2.1 && (if s.1 || decide (c = 0) then decide (c = 0) else ltr c), if s.1 || decide (c = 0) then s.2.2 else s.2.2 + 1)
theorem ltr_0 : ltr 0 = false := by decide
theorem nm_same (x : Int32) : nmB x = ((([by4 x 0, by4 x 1, by4 x 2, by4 x 3].foldl nmSt (false, true, 0)).2.1) && decide (0 < ([by4 x 0, by4 x 1, by4 x 2, by4 x 3].foldl nmSt (false, true, 0)).2.2)) := by
  have hz : x = 0 → ∀ k, k < 4 → by4 x k = 0 := fun h => by rw [h]; exact by4_0
  unfold nmB
  by_cases h0 : by4 x 0 = 0
  · by_cases hx : x = 0
    · have e1 := hz hx 1 (by omega)
      have e2 := hz hx 2 (by omega)
      have e3 := hz hx 3 (by omega)
      simp [hx, nmSt, by4_0]
    · have hn : ¬ (by4 x 1 = 0 ∧ by4 x 2 = 0 ∧ by4 x 3 = 0) := fun h => hx (by4_zero (fun k hk => by
        rcases (show k = 0 ∨ k = 1 ∨ k = 2 ∨ k = 3 by omega) with rfl | rfl | rfl | rfl
        · exact h0
        · exact h.1
        · exact h.2.1
        · exact h.2.2))
      by_cases h1 : by4 x 1 = 0 <;> by_cases h2 : by4 x 2 = 0 <;> by_cases h3 : by4 x 3 = 0 <;> simp_all [nmOk, nmSt]
  · have hx : ¬ x = 0 := fun h => h0 (hz h 0 (by omega))
    by_cases h1 : by4 x 1 = 0 <;> by_cases h2 : by4 x 2 = 0 <;> by_cases h3 : by4 x 3 = 0 <;> simp [nmOk, nmSt, h0, h1, h2, h3, hx] <;> cases ltr (by4 x 0) <;> cases ltr (by4 x 1) <;> cases ltr (by4 x 2) <;> cases ltr (by4 x 3) <;> simp
