section M9
variable {l : Launch} {w : zW} {h : zH} {m : Nat} {N : nT} {a : Nat}
def wrM (N : nT) (a i : Nat) : nT := (((nW N a).take i).filter (fun p => decide (nA N (368 + 8 * p + 6) = nA N 2))).foldl arrN N
def wrK (N : nT) (a i : Nat) : List Nat := ((nW N a).take i).filter (fun p => !decide (nA N (368 + 8 * p + 6) = nA N 2))
def wr (N : nT) (a i : Nat) : nT := uW (wrM N a i) a (wrK N a i ++ (nW N a).drop (wrK N a i).length)
theorem wrK_le {i : Nat} : (wrK N a i).length ≤ i := Nat.le_trans (List.length_filter_le _ _) (List.length_take_le _ _)
theorem wr_in (h : iN [] N) (ha : a < 6) (i : Nat) : iN [] (uW (wrM N a i) a ((nW N a).drop i ++ wrK N a i)) ∧ kw a N (uW (wrM N a i) a ((nW N a).drop i ++ wrK N a i)) := wire_fold_g (X := []) (fun p => decide (nA N (368 + 8 * p + 6) = nA N 2)) ha ((nW N a).take i) N ((nW N a).drop i) (List.take_append_drop _ _).symm h
theorem wr_fit (h : iN [] N) (ha : a < 6) (hW : ∀ a, a < 6 → (nW N a).length ≤ 90) {i : Nat} (hi : i ≤ (nW N a).length) : nFit (wr N a i) := by
  have q := wr_in h ha i
  have hk := @wrK_le N a i
  have hwa := hW a ha
  have f := q.1.fit (fun b hb => by
    by_cases c : b = a
    · subst c
      rw [nW_uW, if_pos rfl, List.length_append, List.length_drop]
      omega
    · rw [q.2.2.1 b c]; exact hW b hb)
  refine ⟨fun b hb => ⟨(f.1 b hb).1, ?_⟩, f.2⟩
  by_cases c : b = a
  · subst c
    show (nW (uW (wrM N b i) b (wrK N b i ++ (nW N b).drop (wrK N b i).length)) b).length ≤ 90
    rw [nW_uW, if_pos rfl, List.length_append, List.length_drop]
    omega
  · have e : nW (wr N a i) b = nW (uW (wrM N a i) a ((nW N a).drop i ++ wrK N a i)) b := by
      unfold wr
      rw [nW_uW, nW_uW, if_neg c, if_neg c]
    rw [e, q.2.2.1 b c]
    exact hW b hb
theorem wr_at {i p : Nat} (hp : (nW N a)[i]? = some p) : (nW (wr N a i) a)[i]? = some p := by
  unfold wr
  rw [nW_uW, if_pos rfl]
  have hk := @wrK_le N a i
  rw [List.getElem?_append_right hk, List.getElem?_drop, show (wrK N a i).length + (i - (wrK N a i).length) = i by omega]
  exact hp
theorem wr_due {i p : Nat} (hp : (nW N a)[i]? = some p) (hd : nA N (368 + 8 * p + 6) = nA N 2) : wr N a (i + 1) = arrN (wr N a i) p ∧ wrK N a (i + 1) = wrK N a i := by
  have e1 : wrK N a (i + 1) = wrK N a i := by
    unfold wrK
    rw [take_succ_some hp, List.filter_append, List.filter_cons_of_neg (by simpa using hd), List.filter_nil, List.append_nil]
  refine ⟨?_, e1⟩
  unfold wr
  rw [e1, arrN_uW]
  unfold wrM
  rw [take_succ_some hp, List.filter_append, List.filter_cons_of_pos (by simpa using hd), List.filter_nil, List.foldl_append]
  rfl
theorem wr_keep {i p : Nat} (hp : (nW N a)[i]? = some p) (hd : ¬ nA N (368 + 8 * p + 6) = nA N 2) : wr N a (i + 1) = uW (wr N a i) a (wrK N a i ++ p :: (nW N a).drop ((wrK N a i).length + 1)) ∧ wrK N a (i + 1) = wrK N a i ++ [p] := by
  have e1 : wrK N a (i + 1) = wrK N a i ++ [p] := by
    unfold wrK
    rw [take_succ_some hp, List.filter_append, List.filter_cons_of_pos (by simpa using hd), List.filter_nil]
  have e2 : wrM N a (i + 1) = wrM N a i := by
    unfold wrM
    rw [take_succ_some hp, List.filter_append, List.filter_cons_of_neg (by simpa using hd), List.filter_nil, List.append_nil]
  refine ⟨?_, e1⟩
  unfold wr
  rw [uW_uW, e1, e2, List.length_append, List.length_singleton, List.append_assoc, List.singleton_append]
theorem wr_end : uW (wr N a (nW N a).length) a (wrK N a (nW N a).length) = wireN N a := by
  unfold wr
  rw [uW_uW]
  unfold wrM wrK
  rw [List.take_length]
  rfl
end M9
