theorem jst_all (ω : jw) (sl : Nat) : pst ω (allB ω) sl = jst ω M00 0 sl := by
  unfold pst jst
  refine congrArg (fun f => (133, 0, sl, f)) ?_
  funext a
  rw [all_at]
def σ0 : Sg := (fun _ => 0, fun _ => [], fun _ => [], fun _ => [], fun _ => none, fun _ => [], fun _ _ => false, fun _ => 0, fun _ => 0, [], [], [], 0)
theorem tkn0 (a : Nat) : tkn σ0 a = false := by
  cases h : tkn σ0 a with
  | false => rfl
  | true =>
    obtain ⟨p, _, b, hb, _⟩ := tkn_iff.mp h
    cases hb
theorem Wf0 : Wf σ0 := by
  refine ⟨⟨⟨fun p _ => Nat.zero_le _, fun p b _ hb => (by cases hb), fun p q a _ _ _ i1 _ => (by obtain ⟨b, hb, _⟩ := inIm_iff.mp i1; cases hb), fun p _ y hy => (by cases hy), fun p _ y hy => (by cases hy)⟩, fun p _ => List.nodup_nil, fun p _ q hq => (by cases hq), fun q hq => (by cases hq)⟩, ⟨fun a _ _ => rfl, fun p _ _ q _ => rfl⟩, fun p _ x hx => (by cases hx), ⟨List.nodup_nil, fun x hx => by cases hx⟩, fun p _ => ⟨fun h => (by cases h), fun h => absurd rfl h⟩, ⟨List.nodup_nil, fun x hx => by cases hx⟩, fun p _ h => absurd rfl h, fun p q _ h => (by cases h), fun p _ h => absurd rfl h⟩
theorem M00_z {k : Nat} (h : ¬ (13 ≤ k ∧ k < 103 ∧ (k - 13) % 15 = 0)) (i : Nat) : M00 k i = 0 := by
  unfold M00
  rw [if_neg h]
theorem M00_l {p : Nat} (hp : p < 6) (i : Nat) : M00 (13 + 15 * p) i = if i = 5 then -1 else 0 := by
  unfold M00
  rw [if_pos (by omega)]
theorem row0 {k : Nat} (h : ∀ i, M00 k i = 0) : RowIs M00 k [] := ⟨by rw [h]; rfl, by simp, by simp, by simp⟩
theorem nilAt {α : Type} {i : Nat} {x : α} (h : ([] : List α)[i]? = some x) : False := by simp at h
theorem CS0 : CS M00 σ0 := by
  refine ⟨fun p hp => ⟨?_, ?_, ?_, fun i hi => ?_, row0 (fun i => M00_z (by omega) i), ⟨?_, Nat.zero_le _, fun i s h => (nilAt h).elim⟩, ⟨?_, Nat.zero_le _, fun i s h => (nilAt h).elim⟩, row0 (fun i => M00_z (by omega) i)⟩, fun a ha => ⟨M00_z (by omega) _, ?_⟩, ⟨M00_z (by omega) _, M00_z (by omega) _, fun j e he _ => (nilAt he).elim⟩, row0 (fun i => M00_z (by omega) i), row0 (fun i => M00_z (by omega) i), ⟨[], row0 (fun i => M00_z (by omega) i)⟩, M00_z (by omega) _⟩
  · rw [M00_l hp]; rfl
  · rw [M00_l hp]; rfl
  · rw [M00_l hp]; rfl
  · rw [M00_l hp, if_neg (by omega), b_0]; rfl
  · rw [M00_z (by omega)]; rfl
  · rw [M00_z (by omega)]; rfl
  · rw [M00_z (by omega), tkn0]; rfl
theorem MS0 : MS M00 σ0 := by
  refine ⟨fun p hp => ⟨Nat.zero_le _, Nat.zero_le _, Nat.zero_le _, M00_z (by omega) _, M00_z (by omega) _, fun i q h => (nilAt h).elim, M00_z (by omega) _, fun i q h => (nilAt h).elim, M00_z (by omega) _, fun i q h => (nilAt h).elim⟩, fun p hp => ⟨M00_z (by omega) _, fun b hb => by cases hb⟩, fun p hp => M00_z (by omega) _, ⟨fun _ => 0, fun p hp => (by cases hp), List.Pairwise.nil⟩, ⟨M00_z (by omega) _, Nat.zero_le _, fun i q h => (nilAt h).elim⟩, fun a ha ht => (by rw [tkn0] at ht; cases ht), ⟨M00_z (by omega) _, fun j e he _ => (nilAt he).elim⟩, M00_z (by omega) _⟩
theorem LI0 {sl : Nat} (h : sl ≤ 500000) : LI M00 σ0 0 0 sl := ⟨Wf0, CS0, MS0, Nat.zero_le _, fun p _ => Nat.zero_le _, Nat.le_refl _, by omega⟩
set_option maxRecDepth 100000 in
set_option maxHeartbeats 4000000 in
theorem law_start {ω : jw} {d : Nat} {Q : jr → jh → Prop} (hL : jL ω < 5000) (hq : ∀ h', Q (.inl (some (.int 1))) h') : jwp ω (d + 15) mLw_law [.ref (jb ω)] (pst ω ([] ++ []) 0) Q := by
  refine jwp_of (by simp [Value.category]) (Nat.le_of_ble_eq_true rfl) (ls := [some (.ref (jb ω)), none, none, none, none, none, none]) rfl ?_
  refine q_new (L := []) (l := []) [.null, .null, .null, .null, .null, .null, .int 0, .int 0] dLw_law_0 clBO nwLw_8 (by decide) (by decide) (by simp) (by omega) ?_
  refine jj_dup dLw_law_3 rfl ?_
  refine jj_I (av := []) dLw_law_4 ciLw_53 (Nat.le_of_ble_eq_true rfl) ?_
  refine jwp_le (i_BO (d := 0) (by decide) (fun sl1 hs1 => jk_v ?_)) (by omega)
  refine jj_as1 dLw_law_7 ?_
  have hlen : (boB ω (fI ω 6) ++ blk ω 6).length = 103 := rfl
  rw [← List.append_nil (boB ω (fI ω 6) ++ blk ω 6)]
  refine q_new (L := boB ω (fI ω 6) ++ blk ω 6) (l := []) [.int 0, .null, .null, .null, .null, .null, .null, .null, .null, .null, .null, .null, .null, .null, .null, .null, .null, .null, .null, .null, .null, .int 0, .null, .null, .int 0, .null, .null, .null, .null, .null, .null, .int 0, .int 0, .int 0] dLw_law_8 clMd nwLw_54 (by decide) (by decide) (by rw [List.append_nil, hlen]; decide) (by omega) ?_
  refine jj_dup dLw_law_11 rfl ?_
  refine jj_I (av := []) dLw_law_12 ciLw_56 (Nat.le_of_ble_eq_true rfl) ?_
  refine jwp_le (i_Md (d := 0) (by rw [hlen]; decide) (by show sl1 + 34 < 50000; omega) (jk_v ?_)) (by omega)
  refine jj_as2 dLw_law_15 ?_
  refine jj_iconst 1 dLw_law_16 (by decide) ?_
  refine q_aJ (x := mLw_law) (n := 1) (L := boB ω (fI ω 6) ++ blk ω 6) (l := mdB ω) 1 dLw_law_17 (by decide) (by decide) (by decide) (by show 132 < 1000; decide) (by show sl1 + 34 + 6 + 18 + 6 + 36 + 36 + 36 + 6 + 36 + 36 + 36 + 36 + 6 + 6 + 6 + 36 + 6 + 36 + 6 + 6 + 6 + 32 + 6 + 6 + 6 + 8 + 8 + 6 + 40 < 100000; omega) ?_
  refine jj_as3 dLw_law_19 ?_
  refine jj_iconst 0 dLw_law_20 (by decide) ?_
  refine jj_is4 dLw_law_21 ?_
  have h := law_loop (ω := ω) (d := d) hL hq 5000 0 M00 σ0 0 (sl1 + 34 + 6 + 18 + 6 + 36 + 36 + 36 + 6 + 36 + 36 + 36 + 36 + 6 + 6 + 6 + 36 + 6 + 36 + 6 + 6 + 6 + 32 + 6 + 6 + 6 + 8 + 8 + 6 + 40 + 1) none none (by omega) (by omega) (LI0 (by omega))
  rw [← jst_all] at h
  exact h
