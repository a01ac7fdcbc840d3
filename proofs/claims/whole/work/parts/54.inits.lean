set_option maxRecDepth 100000 in
set_option maxHeartbeats 4000000 in
theorem i_Rw {ω : jw} {d : Nat} {Q : jr → jh → Prop} {L : List va_E} {sl : Nat} (hL : L.length < 500) (hs : sl < 50000) (hq : Q (.inl none) (pst ω (L ++ [.inr (2, [.ref (jN ω + (L.length + 1)), .int 0]), .inl (jK ω 0, 6, .inl (fun _ => 0))]) (sl + 6))) : jwp ω d mRw_init [.ref (jN ω + (L.length + 0))] (pst ω (L ++ [.inr (2, [.null, .int 0])]) sl) Q := by
  refine jwp_of (by simp [Value.category]) (Nat.le_of_ble_eq_true rfl) (ls := [some (.ref (jN ω + (L.length + 0)))]) rfl ?_
  refine jj_al0 dRw_init_0 ?_
  refine jj_obj dRw_init_1 obRw_3 ob_i ob_c (Nat.le_of_ble_eq_true rfl) ?_
  refine jj_al0 dRw_init_4 ?_
  refine jj_bipush 6 dRw_init_5 (by decide) ?_
  refine q_aI 6 dRw_init_7 (by decide) (by decide) (by decide) (by simp; omega) (by omega) ?_
  refine q_putF _ dRw_init_9 clRw lfRw_9 rfl rfl rfl rfl rfl rfl (Nat.le_of_ble_eq_true rfl) rfl ?_
  refine jj_al0 dRw_init_12 ?_
  refine jj_iconst 0 dRw_init_13 (by decide) ?_
  refine q_put _ dRw_init_14 clRw lkRw_15 rfl rfl rfl rfl (Nat.le_of_ble_eq_true rfl) rfl ?_
  exact jj_vret dRw_init_17 rfl hq
set_option maxRecDepth 100000 in
set_option maxHeartbeats 4000000 in
theorem i_Sy {ω : jw} {d : Nat} {Q : jr → jh → Prop} {L : List va_E} {sl : Nat} (hL : L.length < 500) (hs : sl < 50000) (hq : Q (.inl none) (pst ω (L ++ [.inr (3, [.ref (jN ω + (L.length + 1)), .ref (jN ω + (L.length + 2)), .ref (jN ω + (L.length + 3)), .ref (jN ω + (L.length + 4)), .int 0]), .inl (jK ω 0, 6, .inl (fun _ => 0)), .inl (jK ω 0, 6, .inl (fun _ => 0)), .inl (jK ω 0, 6, .inl (fun _ => 0)), .inl (jK ω 1, 6, .inl (fun _ => 0))]) (sl + 6 + 6 + 6 + 6))) : jwp ω d mSy_init [.ref (jN ω + (L.length + 0))] (pst ω (L ++ [.inr (3, [.null, .null, .null, .null, .int 0])]) sl) Q := by
  refine jwp_of (by simp [Value.category]) (Nat.le_of_ble_eq_true rfl) (ls := [some (.ref (jN ω + (L.length + 0)))]) rfl ?_
  refine jj_al0 dSy_init_0 ?_
  refine jj_obj dSy_init_1 obSy_3 ob_i ob_c (Nat.le_of_ble_eq_true rfl) ?_
  refine jj_al0 dSy_init_4 ?_
  refine jj_bipush 6 dSy_init_5 (by decide) ?_
  refine q_aI 6 dSy_init_7 (by decide) (by decide) (by decide) (by simp; omega) (by omega) ?_
  refine q_putF _ dSy_init_9 clSy lfSy_9 rfl rfl rfl rfl rfl rfl (Nat.le_of_ble_eq_true rfl) rfl ?_
  refine jj_al0 dSy_init_12 ?_
  refine jj_bipush 6 dSy_init_13 (by decide) ?_
  refine q_aI 6 dSy_init_15 (by decide) (by decide) (by decide) (by simp; omega) (by omega) ?_
  refine q_putF _ dSy_init_17 clSy lfSy_15 rfl rfl rfl rfl rfl rfl (Nat.le_of_ble_eq_true rfl) rfl ?_
  refine jj_al0 dSy_init_20 ?_
  refine jj_bipush 6 dSy_init_21 (by decide) ?_
  refine q_aI 6 dSy_init_23 (by decide) (by decide) (by decide) (by simp; omega) (by omega) ?_
  refine q_putF _ dSy_init_25 clSy lfSy_18 rfl rfl rfl rfl rfl rfl (Nat.le_of_ble_eq_true rfl) rfl ?_
  refine jj_al0 dSy_init_28 ?_
  refine jj_bipush 6 dSy_init_29 (by decide) ?_
  refine q_aZ 6 dSy_init_31 (by decide) (by decide) (by decide) (by simp; omega) (by omega) ?_
  refine q_putF _ dSy_init_33 clSy lfSy_21 rfl rfl rfl rfl rfl rfl (Nat.le_of_ble_eq_true rfl) rfl ?_
  refine jj_al0 dSy_init_36 ?_
  refine jj_iconst 0 dSy_init_37 (by decide) ?_
  refine q_put _ dSy_init_38 clSy lkSy_25 rfl rfl rfl rfl (Nat.le_of_ble_eq_true rfl) rfl ?_
  exact jj_vret dSy_init_41 rfl hq
set_option maxRecDepth 100000 in
set_option maxHeartbeats 4000000 in
theorem i_Rl {ω : jw} {d : Nat} {Q : jr → jh → Prop} {L : List va_E} {sl : Nat} (hL : L.length < 500) (hs : sl < 50000) (hq : Q (.inl none) (pst ω (L ++ [.inr (4, [.ref (jN ω + (L.length + 1)), .ref (jN ω + (L.length + 2)), .ref (jN ω + (L.length + 3)), .ref (jN ω + (L.length + 4)), .int 0]), .inl (jK ω 0, 6, .inl (fun _ => 0)), .inl (jK ω 0, 6, .inl (fun _ => 0)), .inl (jK ω 0, 6, .inl (fun _ => 0)), .inl (jK ω 0, 6, .inl (fun _ => 0))]) (sl + 6 + 6 + 6 + 6))) : jwp ω d mRl_init [.ref (jN ω + (L.length + 0))] (pst ω (L ++ [.inr (4, [.null, .null, .null, .null, .int 0])]) sl) Q := by
  refine jwp_of (by simp [Value.category]) (Nat.le_of_ble_eq_true rfl) (ls := [some (.ref (jN ω + (L.length + 0)))]) rfl ?_
  refine jj_al0 dRl_init_0 ?_
  refine jj_obj dRl_init_1 obRl_3 ob_i ob_c (Nat.le_of_ble_eq_true rfl) ?_
  refine jj_al0 dRl_init_4 ?_
  refine jj_bipush 6 dRl_init_5 (by decide) ?_
  refine q_aI 6 dRl_init_7 (by decide) (by decide) (by decide) (by simp; omega) (by omega) ?_
  refine q_putF _ dRl_init_9 clRl lfRl_9 rfl rfl rfl rfl rfl rfl (Nat.le_of_ble_eq_true rfl) rfl ?_
  refine jj_al0 dRl_init_12 ?_
  refine jj_bipush 6 dRl_init_13 (by decide) ?_
  refine q_aI 6 dRl_init_15 (by decide) (by decide) (by decide) (by simp; omega) (by omega) ?_
  refine q_putF _ dRl_init_17 clRl lfRl_15 rfl rfl rfl rfl rfl rfl (Nat.le_of_ble_eq_true rfl) rfl ?_
  refine jj_al0 dRl_init_20 ?_
  refine jj_bipush 6 dRl_init_21 (by decide) ?_
  refine q_aI 6 dRl_init_23 (by decide) (by decide) (by decide) (by simp; omega) (by omega) ?_
  refine q_putF _ dRl_init_25 clRl lfRl_18 rfl rfl rfl rfl rfl rfl (Nat.le_of_ble_eq_true rfl) rfl ?_
  refine jj_al0 dRl_init_28 ?_
  refine jj_bipush 6 dRl_init_29 (by decide) ?_
  refine q_aI 6 dRl_init_31 (by decide) (by decide) (by decide) (by simp; omega) (by omega) ?_
  refine q_putF _ dRl_init_33 clRl lfRl_21 rfl rfl rfl rfl rfl rfl (Nat.le_of_ble_eq_true rfl) rfl ?_
  refine jj_al0 dRl_init_36 ?_
  refine jj_iconst 0 dRl_init_37 (by decide) ?_
  refine q_put _ dRl_init_38 clRl lkRl_24 rfl rfl rfl rfl (Nat.le_of_ble_eq_true rfl) rfl ?_
  exact jj_vret dRl_init_41 rfl hq
set_option maxRecDepth 100000 in
set_option maxHeartbeats 4000000 in
theorem i_Sp {ω : jw} {d : Nat} {Q : jr → jh → Prop} {L : List va_E} {sl : Nat} (hL : L.length < 500) (hs : sl < 50000) (hq : Q (.inl none) (pst ω (L ++ [.inr (5, [.ref (jN ω + (L.length + 1)), .ref (jN ω + (L.length + 2))]), .inl (jK ω 0, 32, .inl (fun _ => 0)), .inl (jK ω 1, 32, .inl (fun _ => 0))]) (sl + 32 + 32))) : jwp ω d mSp_init [.ref (jN ω + (L.length + 0))] (pst ω (L ++ [.inr (5, [.null, .null])]) sl) Q := by
  refine jwp_of (by simp [Value.category]) (Nat.le_of_ble_eq_true rfl) (ls := [some (.ref (jN ω + (L.length + 0)))]) rfl ?_
  refine jj_al0 dSp_init_0 ?_
  refine jj_obj dSp_init_1 obSp_3 ob_i ob_c (Nat.le_of_ble_eq_true rfl) ?_
  refine jj_al0 dSp_init_4 ?_
  refine jj_bipush 32 dSp_init_5 (by decide) ?_
  refine q_aI 32 dSp_init_7 (by decide) (by decide) (by decide) (by simp; omega) (by omega) ?_
  refine q_putF _ dSp_init_9 clSp lfSp_9 rfl rfl rfl rfl rfl rfl (Nat.le_of_ble_eq_true rfl) rfl ?_
  refine jj_al0 dSp_init_12 ?_
  refine jj_bipush 32 dSp_init_13 (by decide) ?_
  refine q_aZ 32 dSp_init_15 (by decide) (by decide) (by decide) (by simp; omega) (by omega) ?_
  refine q_putF _ dSp_init_17 clSp lfSp_15 rfl rfl rfl rfl rfl rfl (Nat.le_of_ble_eq_true rfl) rfl ?_
  exact jj_vret dSp_init_20 rfl hq
set_option maxRecDepth 100000 in
set_option maxHeartbeats 4000000 in
theorem i_Jr {ω : jw} {d : Nat} {Q : jr → jh → Prop} {L : List va_E} {sl : Nat} (hL : L.length < 500) (hs : sl < 50000) (hq : Q (.inl none) (pst ω (L ++ [.inr (6, [.ref (jN ω + (L.length + 1)), .int 0, .int 0]), .inl (jK ω 0, 40, .inl (fun _ => 0))]) (sl + 40))) : jwp ω d mJr_init [.ref (jN ω + (L.length + 0))] (pst ω (L ++ [.inr (6, [.null, .int 0, .int 0])]) sl) Q := by
  refine jwp_of (by simp [Value.category]) (Nat.le_of_ble_eq_true rfl) (ls := [some (.ref (jN ω + (L.length + 0)))]) rfl ?_
  refine jj_al0 dJr_init_0 ?_
  refine jj_obj dJr_init_1 obJr_3 ob_i ob_c (Nat.le_of_ble_eq_true rfl) ?_
  refine jj_al0 dJr_init_4 ?_
  refine jj_bipush 40 dJr_init_5 (by decide) ?_
  refine q_aI 40 dJr_init_7 (by decide) (by decide) (by decide) (by simp; omega) (by omega) ?_
  refine q_putF _ dJr_init_9 clJr lfJr_9 rfl rfl rfl rfl rfl rfl (Nat.le_of_ble_eq_true rfl) rfl ?_
  refine jj_al0 dJr_init_12 ?_
  refine jj_iconst 0 dJr_init_13 (by decide) ?_
  refine q_put _ dJr_init_14 clJr lkJr_15 rfl rfl rfl rfl (Nat.le_of_ble_eq_true rfl) rfl ?_
  refine jj_al0 dJr_init_17 ?_
  refine jj_iconst 0 dJr_init_18 (by decide) ?_
  refine q_put _ dJr_init_19 clJr lkJr_19 rfl rfl rfl rfl (Nat.le_of_ble_eq_true rfl) rfl ?_
  exact jj_vret dJr_init_22 rfl hq
