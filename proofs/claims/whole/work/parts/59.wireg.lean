section I16
variable {X : List Nat} {N : nT}
theorem iN.rotW {p a : Nat} {rest : List Nat} (h : iN X N) (ha : a < 6) (hW : nW N a = p :: rest) : iN X (uW N a (rest ++ [p])) := by
  have hl : (a : Int) < nA N 0 := by
    apply Classical.byContradiction
    intro c
    rw [(h.Z a ha (by omega)).2] at hW
    exact absurd hW (by simp)
  refine ⟨h.H, h.B, ?_, h.Y, h.F, h.L, h.P, ?_, h.E, ?_⟩
  · intro x
    have c1 := h.C x
    have c2 := @nC_uW X N x a (rest ++ [p]) ha
    rw [hW, List.count_cons, List.count_append, List.count_singleton] at c2
    show nC X (uW N a (rest ++ [p])) x = if x < 480 ∧ 0 < nA N ((368 + 8 * x + 0)) then 1 else 0
    omega
  · intro b hb x hx
    rw [nW_uW] at hx
    show nA N ((368 + 8 * x + 2)) < nA N ((248 + 20 * (flN N x) + 0))
    refine h.O b hb x ?_
    by_cases c : b = a
    · subst c
      rw [if_pos rfl] at hx
      rcases hx with q | q
      · exact Or.inl q
      · refine Or.inr ?_
        rw [hW]
        rcases List.mem_append.mp q with q | q
        · exact List.mem_cons_of_mem _ q
        · rw [List.mem_singleton.mp q]; exact List.mem_cons_self
    · rw [if_neg c] at hx; exact hx
  · intro b hb q
    rw [nW_uW, if_neg (by intro e; subst e; exact absurd hl (by have : nA N 0 ≤ (b : Int) := q; omega))]
    exact h.Z b hb q
/-- what a wire's step leaves, whatever the order of what stays -/
def kw (b : Nat) (N N' : nT) : Prop := (∀ k, stK k ∨ k = 2 → nA N' k = nA N k) ∧ (∀ a, a ≠ b → nW N' a = nW N a) ∧ ∀ x, x ∈ nW N' b → nA N' ((368 + 8 * x + 6)) = nA N ((368 + 8 * x + 6))
theorem comeN_W {p a : Nat} : nW (comeN N p a) = nW N := by
  rw [comeN_eq]
  split <;> rfl
theorem arrN_W {p : Nat} : nW (arrN N p) = nW N := by
  unfold arrN
  simp only []
  split
  · rfl
  · exact comeN_W
theorem wire_fold_g (g : Nat → Bool) {b : Nat} (hb : b < 6) : ∀ (A : List Nat) (M : nT) (kept : List Nat), nW M b = A ++ kept → iN X M → iN X (uW ((A.filter g).foldl arrN M) b (kept ++ A.filter fun x => !g x)) ∧ kw b M (uW ((A.filter g).foldl arrN M) b (kept ++ A.filter fun x => !g x)) := by
  intro A
  induction A with
  | nil =>
    intro M kept hK h
    have e : uW (([].filter g).foldl arrN M) b (kept ++ [].filter fun x => !g x) = M := by
      rw [List.filter_nil, List.filter_nil, List.append_nil, List.foldl_nil]
      rw [List.nil_append] at hK
      rw [← hK, uW_nW]
    rw [e]
    exact ⟨h, fun _ _ => rfl, fun _ _ => rfl, fun _ _ => rfl⟩
  | cons p A ih =>
    intro M kept hK h
    cases c : g p
    · have h1 := h.rotW hb hK
      have i := ih (uW M b ((A ++ kept) ++ [p])) (kept ++ [p]) (by rw [nW_uW, if_pos rfl, List.append_assoc]) h1
      rw [List.filter_cons_of_neg (by rw [c]; decide), List.filter_cons_of_pos (by rw [c]; rfl)]
      have e : kept ++ [p] ++ A.filter (fun x => !g x) = kept ++ p :: A.filter (fun x => !g x) := by rw [List.append_assoc, List.singleton_append]
      rw [foldl_arr_uW, uW_uW, e] at i
      refine ⟨i.1, i.2.1, fun a ha => (i.2.2.1 a ha).trans (by rw [nW_uW, if_neg ha]), i.2.2.2⟩
    · have h1 := h.offW hb hK
      have hh : nA M ((368 + 8 * p + 2)) < nA M ((248 + 20 * (flN M p) + 0)) := h.O b hb p (Or.inr (by rw [hK]; exact List.mem_cons_self))
      have h2 := h1.arr hh
      have r := h1.arr_kp hh
      rw [arrN_uW] at h2 r
      have i := ih (uW (arrN M p) b (A ++ kept)) kept (by rw [nW_uW, if_pos rfl]) h2
      rw [List.filter_cons_of_pos c, List.filter_cons_of_neg (by rw [c]; decide), List.foldl_cons]
      rw [foldl_arr_uW, uW_uW] at i
      refine ⟨i.1, fun k hk => (i.2.1 k hk).trans (r.1.1 k hk), fun a ha => (i.2.2.1 a ha).trans (by rw [nW_uW, if_neg ha, arrN_W]), fun x hx => ?_⟩
      have e1 := i.2.2.2 x hx
      have hx2 : x ∈ A ++ kept := by
        rw [nW_uW, if_pos rfl] at hx
        rcases List.mem_append.mp hx with q | q
        · exact List.mem_append_right _ q
        · exact List.mem_append_left _ (List.mem_filter.mp q).1
      exact e1.trans ((r.1.2.2.1 b hb).2 x (by rw [nW_uW, if_pos rfl]; exact hx2))
end I16
