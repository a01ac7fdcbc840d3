def mdB (ω : jw) : List va_E := [.inr (7, [.int 0, .ref (jN ω + (103 + 1)), .ref (jN ω + (103 + 2)), .ref (jN ω + (103 + 3)), .ref (jN ω + (103 + 4)), .ref (jN ω + (103 + 5)), .ref (jN ω + (103 + 6)), .ref (jN ω + (103 + 7)), .ref (jN ω + (103 + 8)), .ref (jN ω + (103 + 9)), .ref (jN ω + (103 + 10)), .ref (jN ω + (103 + 11)), .ref (jN ω + (103 + 12)), .ref (jN ω + (103 + 13)), .ref (jN ω + (103 + 14)), .ref (jN ω + (103 + 15)), .ref (jN ω + (103 + 16)), .ref (jN ω + (103 + 17)), .ref (jN ω + (103 + 18)), .ref (jN ω + (103 + 19)), .ref (jN ω + (103 + 20)), .int 0, .ref (jN ω + (103 + 21)), .ref (jN ω + (103 + 22)), .int 0, .ref (jN ω + (103 + 23)), .ref (jN ω + (103 + 24)), .ref (jN ω + (103 + 25)), .ref (jN ω + (103 + 26)), .ref (jN ω + (103 + 27)), .ref (jN ω + (103 + 28)), .int 0, .int 0, .int 0]), .inl (jK ω 0, 6, .inl (fun _ => 0)), .inl (jK ω 0, 18, .inl (fun _ => 0)), .inl (jK ω 0, 6, .inl (fun _ => 0)), .inl (jK ω 0, 36, .inl (fun _ => 0)), .inl (jK ω 0, 36, .inl (fun _ => 0)), .inl (jK ω 1, 36, .inl (fun _ => 0)), .inl (jK ω 0, 6, .inl (fun _ => 0)), .inl (jK ω 0, 36, .inl (fun _ => 0)), .inl (jK ω 0, 36, .inl (fun _ => 0)), .inl (jK ω 0, 36, .inl (fun _ => 0)), .inl (jK ω 0, 36, .inl (fun _ => 0)), .inl (jK ω 0, 6, .inl (fun _ => 0)), .inl (jK ω 1, 6, .inl (fun _ => 0)), .inl (jK ω 0, 6, .inl (fun _ => 0)), .inl (jK ω 0, 36, .inl (fun _ => 0)), .inl (jK ω 0, 6, .inl (fun _ => 0)), .inl (jK ω 1, 36, .inl (fun _ => 0)), .inl (jK ω 0, 6, .inl (fun _ => 0)), .inl (jK ω 0, 6, .inl (fun _ => 0)), .inl (jK ω 0, 6, .inl (fun _ => 0)), .inl (jK ω 0, 32, .inl (fun _ => 0)), .inl (jK ω 0, 6, .inl (fun _ => 0)), .inl (jK ω 1, 6, .inl (fun _ => 0)), .inl (jK ω 1, 6, .inl (fun _ => 0)), .inl (jK ω 0, 8, .inl (fun _ => 0)), .inl (jK ω 0, 8, .inl (fun _ => 0)), .inl (jK ω 1, 6, .inl (fun _ => 0)), .inl (jK ω 0, 40, .inl (fun _ => 0))]
def M00 (k : Nat) : Nat → Int32 := if 13 ≤ k ∧ k < 103 ∧ (k - 13) % 15 = 0 then (fun i => if i = 5 then -1 else 0) else fun _ => 0
def oB (ω : jw) : va_E := .inl (jK ω 2, 1, .inr (.inl (fun _ => 0)))
def allB (ω : jw) : List va_E := (boB ω (fI ω 6) ++ blk ω 6) ++ (mdB ω ++ [oB ω])
theorem oB_eq (ω : jw) : some (oB ω) = mcell (jN ω) (jK ω) 132 (M00 132) := by
  rw [s132]
  unfold oB
  congr 6
  funext i
  split <;> rfl
set_option maxRecDepth 100000 in
set_option maxHeartbeats 4000000 in
theorem all_at (ω : jw) : ∀ k, (allB ω)[k]? = mcell (jN ω) (jK ω) k (M00 k) := fun k => match k with
  | 0 => rfl
  | 1 => rfl
  | 2 => rfl
  | 3 => rfl
  | 4 => rfl
  | 5 => rfl
  | 6 => rfl
  | 7 => rfl
  | 8 => rfl
  | 9 => rfl
  | 10 => rfl
  | 11 => rfl
  | 12 => rfl
  | 13 => rfl
  | 14 => rfl
  | 15 => rfl
  | 16 => rfl
  | 17 => rfl
  | 18 => rfl
  | 19 => rfl
  | 20 => rfl
  | 21 => rfl
  | 22 => rfl
  | 23 => rfl
  | 24 => rfl
  | 25 => rfl
  | 26 => rfl
  | 27 => rfl
  | 28 => rfl
  | 29 => rfl
  | 30 => rfl
  | 31 => rfl
  | 32 => rfl
  | 33 => rfl
  | 34 => rfl
  | 35 => rfl
  | 36 => rfl
  | 37 => rfl
  | 38 => rfl
  | 39 => rfl
  | 40 => rfl
  | 41 => rfl
  | 42 => rfl
  | 43 => rfl
  | 44 => rfl
  | 45 => rfl
  | 46 => rfl
  | 47 => rfl
  | 48 => rfl
  | 49 => rfl
  | 50 => rfl
  | 51 => rfl
  | 52 => rfl
  | 53 => rfl
  | 54 => rfl
  | 55 => rfl
  | 56 => rfl
  | 57 => rfl
  | 58 => rfl
  | 59 => rfl
  | 60 => rfl
  | 61 => rfl
  | 62 => rfl
  | 63 => rfl
  | 64 => rfl
  | 65 => rfl
  | 66 => rfl
  | 67 => rfl
  | 68 => rfl
  | 69 => rfl
  | 70 => rfl
  | 71 => rfl
  | 72 => rfl
  | 73 => rfl
  | 74 => rfl
  | 75 => rfl
  | 76 => rfl
  | 77 => rfl
  | 78 => rfl
  | 79 => rfl
  | 80 => rfl
  | 81 => rfl
  | 82 => rfl
  | 83 => rfl
  | 84 => rfl
  | 85 => rfl
  | 86 => rfl
  | 87 => rfl
  | 88 => rfl
  | 89 => rfl
  | 90 => rfl
  | 91 => rfl
  | 92 => rfl
  | 93 => rfl
  | 94 => rfl
  | 95 => rfl
  | 96 => rfl
  | 97 => rfl
  | 98 => rfl
  | 99 => rfl
  | 100 => rfl
  | 101 => rfl
  | 102 => rfl
  | 103 => rfl
  | 104 => rfl
  | 105 => rfl
  | 106 => rfl
  | 107 => rfl
  | 108 => rfl
  | 109 => rfl
  | 110 => rfl
  | 111 => rfl
  | 112 => rfl
  | 113 => rfl
  | 114 => rfl
  | 115 => rfl
  | 116 => rfl
  | 117 => rfl
  | 118 => rfl
  | 119 => rfl
  | 120 => rfl
  | 121 => rfl
  | 122 => rfl
  | 123 => rfl
  | 124 => rfl
  | 125 => rfl
  | 126 => rfl
  | 127 => rfl
  | 128 => rfl
  | 129 => rfl
  | 130 => rfl
  | 131 => rfl
  | 132 => oB_eq ω
  | n + 133 => by
    rw [List.getElem?_eq_none (by show 133 ≤ n + 133; omega)]
    unfold mcell
    rw [if_neg (by omega), if_neg (by omega)]
    rfl
