/-! MAKING: the heap as a list of what has been made. -/
def pst (ω : jw) (L : List va_E) (sl : Nat) : jh := (L.length, 0, sl, fun a => if jN ω ≤ a then L[a - jN ω]? else none)
theorem pst_at (ω : jw) (L : List va_E) (sl k : Nat) : (pst ω L sl).2.2.2 (jN ω + k) = L[k]? := by
  show (if jN ω ≤ jN ω + k then _ else _) = _
  rw [if_pos (Nat.le_add_right _ _), Nat.add_sub_cancel_left]
theorem pst_push (ω : jw) (L : List va_E) (sl n : Nat) (e : va_E) : ((pst ω L sl).1 + 1, (pst ω L sl).2.1, (pst ω L sl).2.2.1 + n, va_up (pst ω L sl).2.2.2 (jN ω + (pst ω L sl).1) (some e)) = pst ω (L ++ [e]) (sl + n) := by
  unfold pst
  have hf : va_up (fun a => if jN ω ≤ a then L[a - jN ω]? else none) (jN ω + L.length) (some e) = (fun a => if jN ω ≤ a then (L ++ [e])[a - jN ω]? else none) := by
    funext a
    by_cases h : a = jN ω + L.length
    · subst h
      rw [va_up_self, if_pos (Nat.le_add_right _ _), Nat.add_sub_cancel_left, List.getElem?_append_right (Nat.le_refl _)]
      simp
    · rw [va_up_ne _ _ h]
      by_cases h2 : jN ω ≤ a
      · rw [if_pos h2, if_pos h2]
        by_cases h3 : a - jN ω < L.length
        · rw [List.getElem?_append_left h3]
        · rw [List.getElem?_eq_none (by omega), List.getElem?_eq_none (by simp; omega)]
      · rw [if_neg h2, if_neg h2]
  show (L.length + 1, 0, sl + n, va_up _ (jN ω + L.length) (some e)) = ((L ++ [e]).length, 0, sl + n, _)
  rw [hf, List.length_append]
  rfl
theorem pst_set (ω : jw) (L : List va_E) (sl k : Nat) (e : va_E) (hk : k < L.length) : jup (pst ω L sl) (jN ω + k) e = pst ω (L.set k e) sl := by
  unfold jup pst
  rw [List.length_set]
  refine congrArg (fun f => (L.length, 0, sl, f)) ?_
  funext a
  by_cases h : a = jN ω + k
  · subst h
    rw [if_pos (Nat.le_add_right _ _), Nat.add_sub_cancel_left, List.getElem?_set_self hk]
    simp [va_up]
  · by_cases h2 : jN ω ≤ a
    · rw [if_pos h2, List.getElem?_set_ne (by omega)]
      simp [va_up, h, h2]
    · rw [if_neg h2]
      simp [va_up, h, h2]
section PR
variable {ω : jw} {d : Nat} {x : jm} {pc : Nat} {ls : List (Option Value)} {st : List Value} {Q : jr → jh → Prop} {L l : List va_E} {sl : Nat}
theorem ql (L l : List va_E) (e : va_E) : (L ++ l) ++ [e] = L ++ (l ++ [e]) := List.append_assoc _ _ _
theorem q_aI {n : Int32} (N : Nat) (hd : decode x.2.1 pc = .ok (.newarray .int, 2)) (hn : ¬ n < 0) (hN : n.toNatClampNeg = N) (hb : N ≤ 1000) (hc : (L ++ l).length < 1000) (hs : sl < 100000)
    (kk : jj ω d x (pc + 2) ls (.ref (jN ω + (L.length + l.length)) :: st) (pst ω (L ++ (l ++ [.inl (jK ω 0, N, .inl (fun _ => 0))])) (sl + N)) Q) : jj ω d x pc ls (.int n :: st) (pst ω (L ++ l) sl) Q := by
  refine jj_newaI N hd acI hn hN hb rfl (by show (L ++ l).length + 1 ≤ 653699; omega) (by show sl + N ≤ 7135006; omega) ?_
  rw [pst_push, ql, show (pst ω (L ++ l) sl).1 = L.length + l.length from List.length_append]
  exact kk
theorem q_aZ {n : Int32} (N : Nat) (hd : decode x.2.1 pc = .ok (.newarray .boolean, 2)) (hn : ¬ n < 0) (hN : n.toNatClampNeg = N) (hb : N ≤ 1000) (hc : (L ++ l).length < 1000) (hs : sl < 100000)
    (kk : jj ω d x (pc + 2) ls (.ref (jN ω + (L.length + l.length)) :: st) (pst ω (L ++ (l ++ [.inl (jK ω 1, N, .inl (fun _ => 0))])) (sl + N)) Q) : jj ω d x pc ls (.int n :: st) (pst ω (L ++ l) sl) Q := by
  refine jj_newaZ N hd acZ hn hN hb rfl (by show (L ++ l).length + 1 ≤ 653699; omega) (by show sl + N ≤ 7135006; omega) ?_
  rw [pst_push, ql, show (pst ω (L ++ l) sl).1 = L.length + l.length from List.length_append]
  exact kk
theorem q_put {ci idx k j : Nat} {q : vw_C} {ty : Nat → FieldType} {fs : List Value} {v : Value} (fs' : List Value) (hd : decode x.2.1 pc = .ok (.putfield idx, 3)) (cl : jCl ci q ty) (lk : jLk x.1.cls idx q k) (hfin : (q.2.1 k).2.2.2 = false) (hf : l[j]? = some (.inr (ci, fs))) (hn : narrow (ty k) v = v) (hfit : fits (ty k) v = true) (hl : k < fs.length) (hfs : fs.set k v = fs')
    (kk : jj ω d x (pc + 3) ls st (pst ω (L ++ l.set j (.inr (ci, fs'))) sl) Q) : jj ω d x pc ls (v :: .ref (jN ω + (L.length + j)) :: st) (pst ω (L ++ l) sl) Q := by
  have hj := (List.getElem?_eq_some_iff.mp hf).1
  refine jj_put fs' hd cl lk hfin (by rw [pst_at, List.getElem?_append_right (by omega), Nat.add_sub_cancel_left]; exact hf) hn hfit hl hfs ?_
  rw [pst_set _ _ _ _ _ (by rw [List.length_append]; omega), List.set_append_right _ _ (by omega), Nat.add_sub_cancel_left]
  exact kk
theorem q_putF {ci idx k j : Nat} {q : vw_C} {ty : Nat → FieldType} {fs : List Value} {v : Value} (fs' : List Value) (hd : decode x.2.1 pc = .ok (.putfield idx, 3)) (cl : jCl ci q ty) (lk : k < q.2.2 ∧ Cond.fieldLink x.1.cls idx q.1 (q.2.1 k).2.1 (q.2.1 k).2.2.1 ∈ jWS) (hfin : (q.2.1 k).2.2.2 = true) (hin : x.1.name = "<init>") (hdecl : q.1 = x.1.cls) (hf : l[j]? = some (.inr (ci, fs))) (hn : narrow (ty k) v = v) (hfit : fits (ty k) v = true) (hl : k < fs.length) (hfs : fs.set k v = fs')
    (kk : jj ω d x (pc + 3) ls st (pst ω (L ++ l.set j (.inr (ci, fs'))) sl) Q) : jj ω d x pc ls (v :: .ref (jN ω + (L.length + j)) :: st) (pst ω (L ++ l) sl) Q := by
  have hj := (List.getElem?_eq_some_iff.mp hf).1
  refine jj_putF fs' hd cl lk hfin hin hdecl (by rw [pst_at, List.getElem?_append_right (by omega), Nat.add_sub_cancel_left]; exact hf) hn hfit hl hfs ?_
  rw [pst_set _ _ _ _ _ (by rw [List.length_append]; omega), List.set_append_right _ _ (by omega), Nat.add_sub_cancel_left]
  exact kk
theorem q_new {ci idx : Nat} {q : vw_C} {ty : Nat → FieldType} (fs : List Value) (hd : decode x.2.1 pc = .ok (.new idx, 3)) (cl : jCl ci q ty) (lk : Cond.classLink x.1.cls idx q.1 ∈ jWS) (hfs : ∀ j, j < q.2.2 → defaultValue (ty j) = vp_V fs j) (hq : q.2.2 ≤ 100) (hc : (L ++ l).length < 1000) (hs : sl < 100000)
    (kk : jj ω d x (pc + 3) ls (.ref (jN ω + (L.length + l.length)) :: st) (pst ω (L ++ (l ++ [.inr (ci, fs)])) (sl + q.2.2)) Q) : jj ω d x pc ls st (pst ω (L ++ l) sl) Q := by
  refine jj_new fs hd cl lk hfs rfl (by show (L ++ l).length + 1 ≤ 653699; omega) (by show sl + q.2.2 ≤ 7135006; omega) ?_
  rw [pst_push, ql, show (pst ω (L ++ l) sl).1 = L.length + l.length from List.length_append]
  exact kk
end PR
