section CY7
variable {N : nT} {X : List Nat} {a i p x f : Nat}
theorem noteN_ne {k : Nat} (hk : k < (248 + 20 * f + 0) ∨ (248 + 20 * f + 20) ≤ k) : nA (noteN N f x) k = nA N k := by
  unfold noteN
  split
  · rw [nA_ne (by omega), nA_ne (by omega), nA_ne (by omega), nA_ne (by omega), nA_ne (by omega)]
  · rw [nA_ne (by omega), nA_ne (by omega), nA_ne (by omega), nA_ne (by omega)]
theorem noteN_1 : nA (noteN N f x) ((248 + 20 * f + 1)) = if nA N ((368 + 8 * x + 7)) = 1 then min (nA N ((248 + 20 * f + 1)) + 1) 9999 else nA N ((248 + 20 * f + 1)) := by
  unfold noteN
  by_cases c : nA N ((368 + 8 * x + 7)) = 1
  · rw [if_pos c, if_pos c, nA_ne (by omega), nA_eq]
  · rw [if_neg c, if_neg c, nA_ne (by omega), nA_ne (by omega), nA_ne (by omega), nA_ne (by omega)]
theorem noteN_6 : nA (noteN N f x) ((248 + 20 * f + 6)) = nA N ((248 + 20 * f + 6)) - 1 := by
  unfold noteN
  split
  · rw [nA_ne (by omega), nA_ne (by omega), nA_ne (by omega), nA_ne (by omega), nA_eq]
  · rw [nA_ne (by omega), nA_ne (by omega), nA_ne (by omega), nA_eq]
theorem noteN_L : nR (noteN N f x) = nR N ∧ nW (noteN N f x) = nW N ∧ nK (noteN N f x) = nK N ∧ nE (noteN N f x) = nE N := by
  unfold noteN
  split
  · exact ⟨rfl, rfl, rfl, rfl⟩
  · exact ⟨rfl, rfl, rfl, rfl⟩
theorem ntin_L {M : nT} (h : ntin N x) (e1 : nR M = nR N) (e2 : nW M = nW N) (e3 : nK M = nK N) : ntin M x := by
  unfold ntin at *
  rw [e1, e2, e3]
  exact h
theorem arM_due (hp : (nK N)[i]? = some p) (hd : nA N ((368 + 8 * p + 6)) = nA N 2) : arM N (i + 1) = retN (arM N i) p ∧ arK N (i + 1) = arK N i := by
  constructor
  · unfold arM
    rw [take_succ_some hp, List.filter_append, List.filter_cons_of_pos (by simpa using hd), List.filter_nil, List.foldl_append]
    rfl
  · unfold arK
    rw [take_succ_some hp, List.filter_append, List.filter_cons_of_neg (by simpa using hd), List.filter_nil, List.append_nil]
theorem arM_keep (hp : (nK N)[i]? = some p) (hd : ¬ nA N ((368 + 8 * p + 6)) = nA N 2) : arM N (i + 1) = arM N i ∧ arK N (i + 1) = arK N i ++ [p] := by
  constructor
  · unfold arM
    rw [take_succ_some hp, List.filter_append, List.filter_cons_of_neg (by simpa using hd), List.filter_nil, List.append_nil]
  · unfold arK
    rw [take_succ_some hp, List.filter_append, List.filter_cons_of_pos (by simpa using hd), List.filter_nil]
theorem arM_end : uK (arM N (nK N).length) ((nK N).drop (nK N).length ++ arK N (nK N).length) = allRetN N := by
  rw [List.drop_length, List.nil_append, ← ar_end]
  rfl
theorem drop_some {L : List Nat} (hp : L[i]? = some p) : L.drop i = p :: L.drop (i + 1) := by
  have hi := (List.getElem?_eq_some_iff.mp hp).1
  rw [List.drop_eq_getElem_cons hi]
  congr 1
  rw [List.getElem?_eq_getElem hi] at hp
  exact Option.some.inj hp
/-- who is due stands in front: the class may stop at the first who isn't -/
theorem wr_stop (hs : nW N a = ((nW N a).filter fun p => decide (nA N ((368 + 8 * p + 6)) = nA N 2)) ++ (nW N a).filter fun p => !decide (nA N ((368 + 8 * p + 6)) = nA N 2)) (hk : wrK N a i = []) (hp : (nW N a)[i]? = some p) (hd : ¬ nA N ((368 + 8 * p + 6)) = nA N 2) : uW (wrM N a i) a ((nW N a).drop i) = wireN N a := by
  have hall : ∀ x, x ∈ (nW N a).take i → nA N ((368 + 8 * x + 6)) = nA N 2 := by
    intro x hx
    apply Classical.byContradiction
    intro q
    have : x ∈ wrK N a i := List.mem_filter.mpr ⟨hx, by simpa using q⟩
    rw [hk] at this
    exact absurd this (by simp)
  generalize hD : ((nW N a).filter fun p => decide (nA N ((368 + 8 * p + 6)) = nA N 2)) = D at hs
  generalize hR : ((nW N a).filter fun p => !decide (nA N ((368 + 8 * p + 6)) = nA N 2)) = R at hs
  have dD : ∀ x, x ∈ D → nA N ((368 + 8 * x + 6)) = nA N 2 := fun x hx => by rw [← hD] at hx; simpa using (List.mem_filter.mp hx).2
  have dR : ∀ x, x ∈ R → ¬ nA N ((368 + 8 * x + 6)) = nA N 2 := fun x hx => by rw [← hR] at hx; simpa using (List.mem_filter.mp hx).2
  have e1 : i = D.length := by
    rcases Nat.lt_trichotomy i D.length with c | c | c
    · rw [hs, List.getElem?_append_left c] at hp
      exact absurd (dD p (List.mem_of_getElem? hp)) hd
    · exact c
    · have hi := (List.getElem?_eq_some_iff.mp hp).1
      rw [hs, List.length_append] at hi
      obtain ⟨y, hy⟩ : ∃ y, R[0]? = some y := ⟨_, List.getElem?_eq_getElem (by omega)⟩
      have hm : y ∈ (nW N a).take i := by
        rw [hs]
        refine List.mem_of_getElem? (i := D.length) ?_
        rw [List.getElem?_take_of_lt c, List.getElem?_append_right (Nat.le_refl _), Nat.sub_self]
        exact hy
      exact absurd (hall y hm) (dR y (List.mem_of_getElem? hy))
  have t1 : (nW N a).take i = D := by rw [hs, e1, List.take_left']; rfl
  have t2 : (nW N a).drop i = R := by rw [hs, e1, List.drop_left']; rfl
  unfold wireN wrM
  rw [t1, t2, hD, hR]
  congr 2
  exact List.filter_eq_self.mpr (fun x hx => by simpa using dD x hx)
theorem wrK_due (hp : (nW N a)[i]? = some p) (hd : nA N ((368 + 8 * p + 6)) = nA N 2) : wrM N a (i + 1) = arrN (wrM N a i) p ∧ wrK N a (i + 1) = wrK N a i := by
  constructor
  · unfold wrM
    rw [take_succ_some hp, List.filter_append, List.filter_cons_of_pos (by simpa using hd), List.filter_nil, List.foldl_append]
    rfl
  · unfold wrK
    rw [take_succ_some hp, List.filter_append, List.filter_cons_of_neg (by simpa using hd), List.filter_nil, List.append_nil]
theorem wr_last (hk : wrK N a (nW N a).length = []) : uW (wrM N a (nW N a).length) a ((nW N a).drop (nW N a).length) = wireN N a := by
  rw [← wr_end, hk, List.drop_length]
  unfold wr
  rw [uW_uW]
theorem go_arr (f6 : flN N x < 6) (h4 : nA N ((368 + 8 * x + 2)) + 1 ≤ 4) : goN (uA N ((368 + 8 * x + 2)) (nA N ((368 + 8 * x + 2)) + 1)) x = arrN N x := by
  have ef : flN (uA N ((368 + 8 * x + 2)) (nA N ((368 + 8 * x + 2)) + 1)) x = flN N x := by unfold flN; rw [nA_ne (by omega)]
  unfold goN arrN
  simp only []
  rw [ef, nA_eq, nA_ne (by omega)]
  by_cases c : nA N ((368 + 8 * x + 2)) + 1 = nA N ((248 + 20 * (flN N x) + 0))
  · rw [if_pos c, if_pos c]
  · rw [if_neg c, if_neg c]
    congr 1
    unfold hopN
    rw [nA_ne (by omega)]
end CY7
