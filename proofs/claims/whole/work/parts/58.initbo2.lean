theorem q_aL {ω : jw} {d : Nat} {x : jm} {pc : Nat} {ls : List (Option Value)} {st : List Value} {Q : jr → jh → Prop} {L l : List va_E} {sl : Nat} {n : Int32} {idx : Nat} (N : Nat) (hd : decode x.2.1 pc = .ok (.anewarray idx, 3)) (hw : Cond.classLink x.1.cls idx jRL ∈ jWS) (hn : ¬ n < 0) (hN : n.toNatClampNeg = N) (hb : N ≤ 1000) (hc : (L ++ l).length < 1000) (hs : sl < 100000)
    (kk : jj ω d x (pc + 3) ls (.ref (jN ω + (L.length + l.length)) :: st) (pst ω (L ++ (l ++ [.inl (jK ω 3, N, .inr (.inr (.inr (.inr (fun _ => none)))))])) (sl + N)) Q) : jj ω d x pc ls (.int n :: st) (pst ω (L ++ l) sl) Q := by
  refine jj_newaL N hd hw acL hn hN hb rfl (by show (L ++ l).length + 1 ≤ 653699; omega) (by show sl + N ≤ 7135006; omega) ?_
  rw [pst_push, ql, show (pst ω (L ++ l) sl).1 = L.length + l.length from List.length_append]
  exact kk
theorem q_aJ {ω : jw} {d : Nat} {x : jm} {pc : Nat} {ls : List (Option Value)} {st : List Value} {Q : jr → jh → Prop} {L l : List va_E} {sl : Nat} {n : Int32} (N : Nat) (hd : decode x.2.1 pc = .ok (.newarray .long, 2)) (hn : ¬ n < 0) (hN : n.toNatClampNeg = N) (hb : N ≤ 1000) (hc : (L ++ l).length < 1000) (hs : sl < 100000)
    (kk : jj ω d x (pc + 2) ls (.ref (jN ω + (L.length + l.length)) :: st) (pst ω (L ++ (l ++ [.inl (jK ω 2, N, .inr (.inl (fun _ => 0)))])) (sl + N)) Q) : jj ω d x pc ls (.int n :: st) (pst ω (L ++ l) sl) Q := by
  refine jj_newaJ N hd acJ hn hN hb rfl (by show (L ++ l).length + 1 ≤ 653699; omega) (by show sl + N ≤ 7135006; omega) ?_
  rw [pst_push, ql, show (pst ω (L ++ l) sl).1 = L.length + l.length from List.length_append]
  exact kk
set_option maxRecDepth 100000 in
set_option maxHeartbeats 4000000 in
theorem i_BO {ω : jw} {d : Nat} {Q : jr → jh → Prop} {sl : Nat} (hs : sl ≤ 100) (hq : ∀ sl', sl' ≤ 5000 → Q (.inl none) (pst ω (boB ω (fI ω 6) ++ blk ω 6) sl')) : jwp ω (d + 2) mBO_init [.ref (jN ω + 0)] (pst ω ([] ++ [.inr (0, [.null, .null, .null, .null, .null, .null, .int 0, .int 0])]) sl) Q := by
  refine jwp_of (by simp [Value.category]) (Nat.le_of_ble_eq_true rfl) (ls := [some (.ref (jN ω + 0)), none]) rfl ?_
  refine jj_al0 dBO_init_0 ?_
  refine jj_obj dBO_init_1 obBO_1 ob_i ob_c (Nat.le_of_ble_eq_true rfl) ?_
  refine jj_al0 dBO_init_4 ?_
  refine jj_bipush 6 dBO_init_5 (by decide) ?_
  refine q_aL (L := []) (l := [.inr (0, [.null, .null, .null, .null, .null, .null, .int 0, .int 0])]) 6 dBO_init_7 nwL (by decide) (by decide) (by decide) (by simp) (by omega) ?_
  refine q_putF (L := []) (j := 0) _ dBO_init_10 clBO lfBO_11 rfl rfl rfl rfl rfl rfl (Nat.le_of_ble_eq_true rfl) rfl ?_
  refine jj_al0 dBO_init_13 ?_
  refine q_new (L := []) [.null, .null] dBO_init_14 clSp nwBO_15 (by decide) (by decide) (by simp) (by first | omega | (simp; omega)) ?_
  refine jj_dup dBO_init_17 rfl ?_
  refine jj_I (av := []) dBO_init_18 ciBO_17 (Nat.le_of_ble_eq_true rfl) ?_
  refine i_Sp2 (L := []) (by simp) (by simp; omega) (jk_v ?_)
  refine q_putF (L := []) (j := 0) _ dBO_init_21 clBO lfBO_18 rfl rfl rfl rfl rfl rfl (Nat.le_of_ble_eq_true rfl) rfl ?_
  refine jj_al0 dBO_init_24 ?_
  refine q_new (L := []) [.null, .int 0, .int 0] dBO_init_25 clJr nwBO_22 (by decide) (by decide) (by simp) (by first | omega | (simp; omega)) ?_
  refine jj_dup dBO_init_28 rfl ?_
  refine jj_I (av := []) dBO_init_29 ciBO_24 (Nat.le_of_ble_eq_true rfl) ?_
  refine i_Jr2 (L := []) (by simp) (by simp; omega) (jk_v ?_)
  refine q_putF (L := []) (j := 0) _ dBO_init_32 clBO lfBO_25 rfl rfl rfl rfl rfl rfl (Nat.le_of_ble_eq_true rfl) rfl ?_
  refine jj_al0 dBO_init_35 ?_
  refine q_new (L := []) [.null, .int 0] dBO_init_36 clRw nwBO_29 (by decide) (by decide) (by simp) (by first | omega | (simp; omega)) ?_
  refine jj_dup dBO_init_39 rfl ?_
  refine jj_I (av := []) dBO_init_40 ciBO_31 (Nat.le_of_ble_eq_true rfl) ?_
  refine i_Rw2 (L := []) (by simp) (by simp; omega) (jk_v ?_)
  refine q_putF (L := []) (j := 0) _ dBO_init_43 clBO lfBO_32 rfl rfl rfl rfl rfl rfl (Nat.le_of_ble_eq_true rfl) rfl ?_
  refine jj_al0 dBO_init_46 ?_
  refine q_new (L := []) [.null, .int 0] dBO_init_47 clRw nwBO_29 (by decide) (by decide) (by simp) (by first | omega | (simp; omega)) ?_
  refine jj_dup dBO_init_50 rfl ?_
  refine jj_I (av := []) dBO_init_51 ciBO_31 (Nat.le_of_ble_eq_true rfl) ?_
  refine i_Rw2 (L := []) (by simp) (by simp; omega) (jk_v ?_)
  refine q_putF (L := []) (j := 0) _ dBO_init_54 clBO lfBO_36 rfl rfl rfl rfl rfl rfl (Nat.le_of_ble_eq_true rfl) rfl ?_
  refine jj_al0 dBO_init_57 ?_
  refine q_new (L := []) [.null, .int 0] dBO_init_58 clRw nwBO_29 (by decide) (by decide) (by simp) (by first | omega | (simp; omega)) ?_
  refine jj_dup dBO_init_61 rfl ?_
  refine jj_I (av := []) dBO_init_62 ciBO_31 (Nat.le_of_ble_eq_true rfl) ?_
  refine i_Rw2 (L := []) (by simp) (by simp; omega) (jk_v ?_)
  refine q_putF (L := []) (j := 0) _ dBO_init_65 clBO lfBO_39 rfl rfl rfl rfl rfl rfl (Nat.le_of_ble_eq_true rfl) rfl ?_
  refine jj_al0 dBO_init_68 ?_
  refine jj_iconst 0 dBO_init_69 (by decide) ?_
  refine q_put (L := []) (j := 0) _ dBO_init_70 clBO lkBO_42 rfl rfl rfl rfl (Nat.le_of_ble_eq_true rfl) rfl ?_
  refine jj_al0 dBO_init_73 ?_
  refine jj_iconst 0 dBO_init_74 (by decide) ?_
  refine q_put (L := []) (j := 0) _ dBO_init_75 clBO lkBO_46 rfl rfl rfl rfl (Nat.le_of_ble_eq_true rfl) rfl ?_
  refine jj_iconst 0 dBO_init_78 (by decide) ?_
  refine jj_is1 dBO_init_79 ?_
  have hf0 : fI ω 0 = fun _ => none := by funext o; unfold fI; rw [if_neg (by omega)]
  have h := bo_loop (ω := ω) (d := d) hq 6 0 (sl + 6 + 2 + 32 + 32 + 3 + 40 + 2 + 6 + 2 + 6 + 2 + 6) rfl (by omega)
  rw [hf0] at h
  exact h
