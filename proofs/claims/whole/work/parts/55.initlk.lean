theorem i_Rw2 {ω : jw} {d : Nat} {Q : jr → jh → Prop} {L l : List va_E} {sl : Nat} (hL : L.length + l.length < 500) (hs : sl < 50000) (hq : Q (.inl none) (pst ω (L ++ (l ++ [.inr (2, [.ref (jN ω + (L.length + l.length + 1)), .int 0]), .inl (jK ω 0, 6, .inl (fun _ => 0))])) (sl + 6))) : jwp ω d mRw_init [.ref (jN ω + (L.length + l.length))] (pst ω (L ++ (l ++ [.inr (2, [.null, .int 0])])) sl) Q := by
  have h := i_Rw (ω := ω) (d := d) (Q := Q) (L := L ++ l) (sl := sl) (by rw [List.length_append]; exact hL) hs (by rw [List.append_assoc, List.length_append]; exact hq)
  rw [List.append_assoc, List.length_append] at h
  exact h
theorem i_Sy2 {ω : jw} {d : Nat} {Q : jr → jh → Prop} {L l : List va_E} {sl : Nat} (hL : L.length + l.length < 500) (hs : sl < 50000) (hq : Q (.inl none) (pst ω (L ++ (l ++ [.inr (3, [.ref (jN ω + (L.length + l.length + 1)), .ref (jN ω + (L.length + l.length + 2)), .ref (jN ω + (L.length + l.length + 3)), .ref (jN ω + (L.length + l.length + 4)), .int 0]), .inl (jK ω 0, 6, .inl (fun _ => 0)), .inl (jK ω 0, 6, .inl (fun _ => 0)), .inl (jK ω 0, 6, .inl (fun _ => 0)), .inl (jK ω 1, 6, .inl (fun _ => 0))])) (sl + 6 + 6 + 6 + 6))) : jwp ω d mSy_init [.ref (jN ω + (L.length + l.length))] (pst ω (L ++ (l ++ [.inr (3, [.null, .null, .null, .null, .int 0])])) sl) Q := by
  have h := i_Sy (ω := ω) (d := d) (Q := Q) (L := L ++ l) (sl := sl) (by rw [List.length_append]; exact hL) hs (by rw [List.append_assoc, List.length_append]; exact hq)
  rw [List.append_assoc, List.length_append] at h
  exact h
theorem i_Rl2 {ω : jw} {d : Nat} {Q : jr → jh → Prop} {L l : List va_E} {sl : Nat} (hL : L.length + l.length < 500) (hs : sl < 50000) (hq : Q (.inl none) (pst ω (L ++ (l ++ [.inr (4, [.ref (jN ω + (L.length + l.length + 1)), .ref (jN ω + (L.length + l.length + 2)), .ref (jN ω + (L.length + l.length + 3)), .ref (jN ω + (L.length + l.length + 4)), .int 0]), .inl (jK ω 0, 6, .inl (fun _ => 0)), .inl (jK ω 0, 6, .inl (fun _ => 0)), .inl (jK ω 0, 6, .inl (fun _ => 0)), .inl (jK ω 0, 6, .inl (fun _ => 0))])) (sl + 6 + 6 + 6 + 6))) : jwp ω d mRl_init [.ref (jN ω + (L.length + l.length))] (pst ω (L ++ (l ++ [.inr (4, [.null, .null, .null, .null, .int 0])])) sl) Q := by
  have h := i_Rl (ω := ω) (d := d) (Q := Q) (L := L ++ l) (sl := sl) (by rw [List.length_append]; exact hL) hs (by rw [List.append_assoc, List.length_append]; exact hq)
  rw [List.append_assoc, List.length_append] at h
  exact h
theorem i_Sp2 {ω : jw} {d : Nat} {Q : jr → jh → Prop} {L l : List va_E} {sl : Nat} (hL : L.length + l.length < 500) (hs : sl < 50000) (hq : Q (.inl none) (pst ω (L ++ (l ++ [.inr (5, [.ref (jN ω + (L.length + l.length + 1)), .ref (jN ω + (L.length + l.length + 2))]), .inl (jK ω 0, 32, .inl (fun _ => 0)), .inl (jK ω 1, 32, .inl (fun _ => 0))])) (sl + 32 + 32))) : jwp ω d mSp_init [.ref (jN ω + (L.length + l.length))] (pst ω (L ++ (l ++ [.inr (5, [.null, .null])])) sl) Q := by
  have h := i_Sp (ω := ω) (d := d) (Q := Q) (L := L ++ l) (sl := sl) (by rw [List.length_append]; exact hL) hs (by rw [List.append_assoc, List.length_append]; exact hq)
  rw [List.append_assoc, List.length_append] at h
  exact h
theorem i_Jr2 {ω : jw} {d : Nat} {Q : jr → jh → Prop} {L l : List va_E} {sl : Nat} (hL : L.length + l.length < 500) (hs : sl < 50000) (hq : Q (.inl none) (pst ω (L ++ (l ++ [.inr (6, [.ref (jN ω + (L.length + l.length + 1)), .int 0, .int 0]), .inl (jK ω 0, 40, .inl (fun _ => 0))])) (sl + 40))) : jwp ω d mJr_init [.ref (jN ω + (L.length + l.length))] (pst ω (L ++ (l ++ [.inr (6, [.null, .int 0, .int 0])])) sl) Q := by
  have h := i_Jr (ω := ω) (d := d) (Q := Q) (L := L ++ l) (sl := sl) (by rw [List.length_append]; exact hL) hs (by rw [List.append_assoc, List.length_append]; exact hq)
  rw [List.append_assoc, List.length_append] at h
  exact h
set_option maxRecDepth 100000 in
set_option maxHeartbeats 4000000 in
theorem i_Lk {ω : jw} {d : Nat} {Q : jr → jh → Prop} {L : List va_E} {sl : Nat} (hL : L.length < 400) (hs : sl < 40000) (hq : ∀ sl', sl' ≤ sl + 200 → Q (.inl none) (pst ω (L ++ [.inr (1, [.ref (jN ω + (L.length + 1)), .ref (jN ω + (L.length + 3)), .ref (jN ω + (L.length + 8)), .ref (jN ω + (L.length + 13)), .int 0, .int (-1), .int 0, .int 0]), .inr (2, [.ref (jN ω + (L.length + 2)), .int 0]), .inl (jK ω 0, 6, .inl (fun _ => 0)), .inr (3, [.ref (jN ω + (L.length + 4)), .ref (jN ω + (L.length + 5)), .ref (jN ω + (L.length + 6)), .ref (jN ω + (L.length + 7)), .int 0]), .inl (jK ω 0, 6, .inl (fun _ => 0)), .inl (jK ω 0, 6, .inl (fun _ => 0)), .inl (jK ω 0, 6, .inl (fun _ => 0)), .inl (jK ω 1, 6, .inl (fun _ => 0)), .inr (4, [.ref (jN ω + (L.length + 9)), .ref (jN ω + (L.length + 10)), .ref (jN ω + (L.length + 11)), .ref (jN ω + (L.length + 12)), .int 0]), .inl (jK ω 0, 6, .inl (fun _ => 0)), .inl (jK ω 0, 6, .inl (fun _ => 0)), .inl (jK ω 0, 6, .inl (fun _ => 0)), .inl (jK ω 0, 6, .inl (fun _ => 0)), .inr (2, [.ref (jN ω + (L.length + 14)), .int 0]), .inl (jK ω 0, 6, .inl (fun _ => 0))]) sl')) : jwp ω (d + 1) mLk_init [.ref (jN ω + (L.length + 0))] (pst ω (L ++ [.inr (1, [.null, .null, .null, .null, .int 0, .int 0, .int 0, .int 0])]) sl) Q := by
  refine jwp_of (by simp [Value.category]) (Nat.le_of_ble_eq_true rfl) (ls := [some (.ref (jN ω + (L.length + 0)))]) rfl ?_
  refine jj_al0 dLk_init_0 ?_
  refine jj_obj dLk_init_1 obLk_3 ob_i ob_c (Nat.le_of_ble_eq_true rfl) ?_
  refine jj_al0 dLk_init_4 ?_
  refine q_new [.null, .int 0] dLk_init_5 clRw nwLk_9 (by decide) (by decide) (by simp; omega) (by first | omega | (simp; omega)) ?_
  refine jj_dup dLk_init_8 rfl ?_
  refine jj_I (av := []) dLk_init_9 ciLk_11 (Nat.le_of_ble_eq_true rfl) ?_
  refine i_Rw2 (by simp; omega) (by simp; omega) (jk_v ?_)
  refine q_putF (j := 0) _ dLk_init_12 clLk lfLk_12 rfl rfl rfl rfl rfl rfl (Nat.le_of_ble_eq_true rfl) rfl ?_
  refine jj_al0 dLk_init_15 ?_
  refine q_new [.null, .null, .null, .null, .int 0] dLk_init_16 clSy nwLk_18 (by decide) (by decide) (by simp; omega) (by first | omega | (simp; omega)) ?_
  refine jj_dup dLk_init_19 rfl ?_
  refine jj_I (av := []) dLk_init_20 ciLk_20 (Nat.le_of_ble_eq_true rfl) ?_
  refine i_Sy2 (by simp; omega) (by simp; omega) (jk_v ?_)
  refine q_putF (j := 0) _ dLk_init_23 clLk lfLk_21 rfl rfl rfl rfl rfl rfl (Nat.le_of_ble_eq_true rfl) rfl ?_
  refine jj_al0 dLk_init_26 ?_
  refine q_new [.null, .null, .null, .null, .int 0] dLk_init_27 clRl nwLk_25 (by decide) (by decide) (by simp; omega) (by first | omega | (simp; omega)) ?_
  refine jj_dup dLk_init_30 rfl ?_
  refine jj_I (av := []) dLk_init_31 ciLk_27 (Nat.le_of_ble_eq_true rfl) ?_
  refine i_Rl2 (by simp; omega) (by simp; omega) (jk_v ?_)
  refine q_putF (j := 0) _ dLk_init_34 clLk lfLk_28 rfl rfl rfl rfl rfl rfl (Nat.le_of_ble_eq_true rfl) rfl ?_
  refine jj_al0 dLk_init_37 ?_
  refine q_new [.null, .int 0] dLk_init_38 clRw nwLk_9 (by decide) (by decide) (by simp; omega) (by first | omega | (simp; omega)) ?_
  refine jj_dup dLk_init_41 rfl ?_
  refine jj_I (av := []) dLk_init_42 ciLk_11 (Nat.le_of_ble_eq_true rfl) ?_
  refine i_Rw2 (by simp; omega) (by simp; omega) (jk_v ?_)
  refine q_putF (j := 0) _ dLk_init_45 clLk lfLk_32 rfl rfl rfl rfl rfl rfl (Nat.le_of_ble_eq_true rfl) rfl ?_
  refine jj_al0 dLk_init_48 ?_
  refine jj_iconst 0 dLk_init_49 (by decide) ?_
  refine q_put (j := 0) _ dLk_init_50 clLk lkLk_35 rfl rfl rfl rfl (Nat.le_of_ble_eq_true rfl) rfl ?_
  refine jj_al0 dLk_init_53 ?_
  refine jj_iconst (-1) dLk_init_54 (by decide) ?_
  refine q_put (j := 0) _ dLk_init_55 clLk lkLk_39 rfl rfl rfl rfl (Nat.le_of_ble_eq_true rfl) rfl ?_
  refine jj_al0 dLk_init_58 ?_
  refine jj_iconst 0 dLk_init_59 (by decide) ?_
  refine q_put (j := 0) _ dLk_init_60 clLk lkLk_42 rfl rfl rfl rfl (Nat.le_of_ble_eq_true rfl) rfl ?_
  refine jj_al0 dLk_init_63 ?_
  refine jj_iconst 0 dLk_init_64 (by decide) ?_
  refine q_put (j := 0) _ dLk_init_65 clLk lkLk_45 rfl rfl rfl rfl (Nat.le_of_ble_eq_true rfl) rfl ?_
  exact jj_vret dLk_init_68 rfl (hq _ (by first | (simp; done) | (simp; omega)))
