section I10
variable {X : List Nat}
theorem leaveN_uR (N : nT) (a p : Nat) (r : List Nat) : leaveN a (uR N a r) p = uR (leaveN a N p) a r := rfl
theorem foldl_leave_uR {a : Nat} : ∀ (L : List Nat) (N : nT) (r : List Nat), L.foldl (leaveN a) (uR N a r) = uR (L.foldl (leaveN a) N) a r := by
  intro L
  induction L with
  | nil => intro N r; rfl
  | cons p L ih => intro N r; rw [List.foldl_cons, List.foldl_cons, leaveN_uR, ih]
theorem leaveN_ne {N : nT} {a p k : Nat} (h1 : k ≠ (368 + 8 * p + 5)) (h2 : k ≠ (8 + 40 * a + 12)) (h3 : k ≠ (8 + 40 * a + 13)) (h4 : k ≠ (368 + 8 * p + 6)) (h5 : k ≠ (8 + 40 * a + 16)) : nA (leaveN a N p) k = nA N k := by
  unfold leaveN
  rw [nA_ne h5, nA_uW, nA_ne h4, nA_ne h3, nA_ne h2, nA_ne h1]
theorem leaveN_6 {N : nT} {a p : Nat} (ha : a < 6) : nA (leaveN a N p) ((368 + 8 * p + 6)) = nA N 2 + nA N ((8 + 40 * a + 1)) := by
  unfold leaveN
  rw [nA_ne (by omega), nA_uW, nA_eq]
theorem leaveN_16 {N : nT} {a p : Nat} : nA (leaveN a N p) ((8 + 40 * a + 16)) = nA N ((8 + 40 * a + 16)) + 1 := by
  unfold leaveN
  rw [nA_eq]
/-- what one link's row does as packets leave it -/
def kr (a : Nat) (A B : List Nat) (N N' : nT) : Prop := (∀ k, k < 368 → k ≠ (8 + 40 * a + 7) → k ≠ (8 + 40 * a + 12) → k ≠ (8 + 40 * a + 13) → k ≠ (8 + 40 * a + 16) → nA N' k = nA N k) ∧ nA N' ((8 + 40 * a + 16)) = nA N ((8 + 40 * a + 16)) + A.length ∧ (∀ b, nW N' b = if b = a then nW N a ++ A else nW N b) ∧ (∀ b, nR N' b = if b = a then B else nR N b) ∧ (∀ x, x ∈ A → nA N' ((368 + 8 * x + 6)) = nA N 2 + nA N ((8 + 40 * a + 1))) ∧ (∀ x, ¬ x ∈ A → nA N' ((368 + 8 * x + 6)) = nA N ((368 + 8 * x + 6))) ∧ nK N' = nK N
theorem row_fold {a : Nat} (B : List Nat) : ∀ (A : List Nat) (M : nT), nR M a = A ++ B → iN X M → (a : Int) < nA M 0 → nA M ((8 + 40 * a + 16)) + A.length ≤ 360000 → iN X (uR (A.foldl (leaveN a) M) a B) ∧ kr a A B M (uR (A.foldl (leaveN a) M) a B) := by
  intro A
  induction A with
  | nil =>
    intro M hR h ha hw
    rw [List.nil_append] at hR
    rw [List.foldl_nil, ← hR, uR_nR]
    refine ⟨h, fun _ _ _ _ _ _ => rfl, by simp, fun b => ?_, fun b => ?_, fun x hx => absurd hx (by simp), fun _ _ => rfl, rfl⟩
    · split
      · rename_i c; rw [c, List.append_nil]
      · rfl
    · split
      · rename_i c; rw [c]
      · rfl
  | cons p A ih =>
    intro M hR h ha hw
    have h0 := h.H.1
    have ha6 : a < 6 := by omega
    rw [List.length_cons] at hw
    have h1 := h.leave ha hR (by omega)
    have e0 : nA (uR (leaveN a M p) a (A ++ B)) 0 = nA M 0 := by
      rw [nA_uR]
      exact leaveN_ne (by omega) (by omega) (by omega) (by omega) (by omega)
    have e16 : nA (uR (leaveN a M p) a (A ++ B)) ((8 + 40 * a + 16)) = nA M ((8 + 40 * a + 16)) + 1 := leaveN_16
    have e2 : nA (uR (leaveN a M p) a (A ++ B)) 2 = nA M 2 := by
      rw [nA_uR]
      exact leaveN_ne (by omega) (by omega) (by omega) (by omega) (by omega)
    have e1 : nA (uR (leaveN a M p) a (A ++ B)) ((8 + 40 * a + 1)) = nA M ((8 + 40 * a + 1)) := leaveN_ne (by omega) (by omega) (by omega) (by omega) (by omega)
    have i := ih (uR (leaveN a M p) a (A ++ B)) (by rw [nR_uR, if_pos rfl]) h1 (by rw [e0]; exact ha) (by rw [e16]; omega)
    rw [foldl_leave_uR, uR_uR] at i
    rw [List.foldl_cons]
    have hpA : ¬ p ∈ A := by
      intro q
      have c1 := h.C.le p
      have c2 := @nC_R X M p a ha6
      rw [hR, List.cons_append, List.count_cons_self, List.count_append] at c2
      have c3 := count_pos q
      omega
    obtain ⟨i0, i1, i2, i3, i4, i5, i6, i7⟩ := i
    refine ⟨i0, fun k q q7 q12 q13 q16 => ?_, ?_, fun b => ?_, fun b => ?_, fun x hx => ?_, fun x hx => ?_, i7⟩
    · rw [i1 k q q7 q12 q13 q16]
      exact leaveN_ne (by omega) q12 q13 (by omega) q16
    · rw [i2, e16, List.length_cons]
      omega
    · rw [i3]
      split
      · show (if a = a then nW M a ++ [p] else nW M a) ++ A = nW M a ++ p :: A
        rw [if_pos rfl, List.append_assoc, List.singleton_append]
      · rename_i c
        show (if b = a then nW M a ++ [p] else nW M b) = nW M b
        rw [if_neg c]
    · rw [i4]
      split
      · rfl
      · rename_i c
        show (if b = a then A ++ B else nR M b) = nR M b
        rw [if_neg c]
    · rcases List.mem_cons.mp hx with q | q
      · subst q
        rw [i6 x hpA]
        exact leaveN_6 ha6
      · rw [i5 x q, e2, e1]
    · have q1 : ¬ x ∈ A := fun q => hx (List.mem_cons_of_mem _ q)
      have q2 : x ≠ p := fun q => hx (by rw [q]; exact List.mem_cons_self)
      rw [i6 x q1]
      exact leaveN_ne (by omega) (by omega) (by omega) (by omega) (by omega)
/-- how many of a row leave -/
def rowC (N : nT) (a : Nat) : Nat := min (nA N ((8 + 40 * a + 0))).toNat (nR N a).length
theorem rowN_eq (N : nT) (a : Nat) : rowN N a = uA (uR (((nR N a).take (rowC N a)).foldl (leaveN a) N) a ((nR N a).drop (rowC N a))) ((8 + 40 * a + 7)) (min (nA N ((8 + 40 * a + 7))) (((nR N a).length - rowC N a : Nat) : Int)) := rfl
theorem iN.row {N : nT} {a : Nat} (h : iN X N) (ha : (a : Int) < nA N 0) (hw : nA N ((8 + 40 * a + 16)) ≤ 359990) : iN X (rowN N a) ∧ kr a ((nR N a).take (rowC N a)) ((nR N a).drop (rowC N a)) N (rowN N a) ∧ rowC N a ≤ 9 := by
  have h0 := h.H.1
  have hL := h.L a ha
  have l1 := hL.1
  have l2 := hL.2.1
  have n9 : rowC N a ≤ 9 := by unfold rowC; omega
  have f := row_fold (X := X) (a := a) ((nR N a).drop (rowC N a)) ((nR N a).take (rowC N a)) N (List.take_append_drop _ _).symm h ha (by rw [List.length_take]; omega)
  obtain ⟨i0, i1, i2, i3, i4, i5, i6, i7⟩ := f
  rw [rowN_eq]
  refine ⟨?_, ⟨fun k q q7 q12 q13 q16 => ?_, ?_, i3, i4, fun x hx => ?_, fun x hx => ?_, i7⟩, n9⟩
  · refine i0.low ?_ (by omega)
    rw [i1 0 (by omega) (by omega) (by omega) (by omega) (by omega)]
    exact ha
  · rw [nA_ne q7]
    exact i1 k q q7 q12 q13 q16
  · rw [nA_ne (by omega)]
    exact i2
  · rw [nA_ne (by omega)]
    exact i5 x hx
  · rw [nA_ne (by omega)]
    exact i6 x hx
end I10
