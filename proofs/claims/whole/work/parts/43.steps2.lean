section I3
variable {N : nT} {X : List Nat}
/-- one in transit is not in a row, nor on a wire -/
theorem iN.away {p : Nat} (h : iN (p :: X) N) {a x : Nat} (ha : a < 6) (hx : x ∈ nR N a ∨ x ∈ nW N a) : x ≠ p := by
  have hp := h.C.memX (List.mem_cons_self)
  have hone := h.C p
  rw [nC_cons, if_pos rfl, if_pos hp] at hone
  rintro rfl
  rcases hx with q | q
  · have c1 := count_pos q
    have c2 := @nC_R X N x a ha
    omega
  · have c1 := count_pos q
    have c2 := @nC_W X N x a ha
    omega
theorem iN.memRW (h : iN X N) {a x : Nat} (ha : a < 6) (hx : x ∈ nR N a ∨ x ∈ nW N a) : x < 480 ∧ 0 < nA N ((368 + 8 * x + 0)) := by
  rcases hx with q | q
  · exact h.C.memR ha q
  · exact h.C.memW ha q
/-- one in transit tells otherwise -/
theorem iN.pkt {N' : nT} {p : Nat} (h : iN (p :: X) N) (e : ∀ k, (k ≤ (368 + 8 * p + 0) ∨ (368 + 8 * p + 8) ≤ k) → nA N' k = nA N k) (hP : iP N' p) (hB : nBd N') (eR : nR N' = nR N) (eW : nW N' = nW N) (eK : nK N' = nK N) (eE : nE N' = nE N) (eP : nP N' = nP N) : iN (p :: X) N' := by
  have h0 := h.H.1
  have h1 := h.H.2.1
  have ef : ∀ x, flN N' x = flN N x := fun x => by
    unfold flN
    rw [e _ (by omega)]
  refine ⟨?_, hB, ?_, ?_, ?_, ?_, ?_, ?_, by rw [eE, eP]; exact h.E, ?_⟩
  · unfold iH
    rw [e 0 (by omega), e 1 (by omega), e 2 (by omega), e 7 (by omega)]
    exact h.H
  · intro x
    have c2 : nC (p :: X) N' x = nC (p :: X) N x := by unfold nC; rw [eR, eW, eK]
    rw [c2, e _ (by omega)]
    exact h.C x
  · intro f hf
    rw [e _ (by omega), nFly_congr (fun x _ => e _ (by omega))]
    exact h.Y f hf
  · intro f hf
    rw [e 1 (by omega)] at hf
    exact iF_congr (e 0 (by omega)) (fun k _ => e _ (by omega)) (h.F f hf)
  · intro a ha
    rw [e 0 (by omega)] at ha
    exact iL_congr (e 1 (by omega)) (by rw [eR]) (fun k _ => e _ (by omega)) (h.L a ha)
  · intro x hx hl
    rw [e _ (by omega)] at hl
    by_cases c : x = p
    · subst c; exact hP
    · have f9 := h.fl hx hl
      have q := h.P x hx hl
      unfold iP
      rw [ef, e 1 (by omega), e 2 (by omega), e ((248 + 20 * (flN N x) + 0)) (by omega), e ((368 + 8 * x + 0)) (by omega), e ((368 + 8 * x + 1)) (by omega), e ((368 + 8 * x + 2)) (by omega), e ((368 + 8 * x + 3)) (by omega), e ((368 + 8 * x + 4)) (by omega), e ((368 + 8 * x + 5)) (by omega), e ((368 + 8 * x + 7)) (by omega)]
      exact q
  · intro a ha x hx
    rw [eR, eW] at hx
    have hc := h.away ha hx
    have hx2 := h.memRW ha hx
    have f9 := h.fl hx2.1 hx2.2
    rw [ef, e ((368 + 8 * x + 2)) (by omega), e ((248 + 20 * (flN N x) + 0)) (by omega)]
    exact h.O a ha x hx
  · intro a ha q
    rw [e 0 (by omega)] at q
    rw [eR, eW]
    exact h.Z a ha q
/-- the first of a wire is taken off -/
theorem iN.offW {p a : Nat} {rest : List Nat} (h : iN X N) (ha : a < 6) (hW : nW N a = p :: rest) : iN (p :: X) (uW N a rest) := by
  have hl : (a : Int) < nA N 0 := by
    apply Classical.byContradiction
    intro c
    rw [(h.Z a ha (by omega)).2] at hW
    exact absurd hW (by simp)
  refine ⟨h.H, h.B, ?_, h.Y, h.F, h.L, h.P, ?_, h.E, ?_⟩
  · intro x
    have c1 := h.C x
    have c2 := @nC_uW X N x a rest ha
    rw [nC_cons]
    rw [hW, List.count_cons] at c2
    simp only [beq_iff_eq] at c2
    show nC X (uW N a rest) x + _ = if x < 480 ∧ 0 < nA N ((368 + 8 * x + 0)) then 1 else 0
    omega
  · intro b hb x hx
    rw [nW_uW] at hx
    show nA N ((368 + 8 * x + 2)) < nA N ((248 + 20 * (flN N x) + 0))
    refine h.O b hb x ?_
    by_cases c : b = a
    · subst c
      rw [if_pos rfl] at hx
      rcases hx with q | q
      · exact Or.inl q
      · exact Or.inr (by rw [hW]; exact List.mem_cons_of_mem _ q)
    · rw [if_neg c] at hx; exact hx
  · intro b hb q
    rw [nW_uW, if_neg (by intro e; subst e; exact absurd hl (by have : nA N 0 ≤ (b : Int) := q; omega))]
    exact h.Z b hb q
theorem iN.offK {p : Nat} {rest : List Nat} (h : iN X N) (hK : nK N = p :: rest) : iN (p :: X) (uK N rest) := by
  refine ⟨h.H, h.B, ?_, h.Y, h.F, h.L, h.P, h.O, h.E, h.Z⟩
  intro x
  have c1 := h.C x
  have c2 := @nC_uK X N x rest
  rw [nC_cons]
  rw [hK, List.count_cons] at c2
  simp only [beq_iff_eq] at c2
  show nC X (uK N rest) x + _ = if x < 480 ∧ 0 < nA N ((368 + 8 * x + 0)) then 1 else 0
  omega
theorem iN.rotK {p : Nat} {rest : List Nat} (h : iN X N) (hK : nK N = p :: rest) : iN X (uK N (rest ++ [p])) := by
  refine ⟨h.H, h.B, ?_, h.Y, h.F, h.L, h.P, h.O, h.E, h.Z⟩
  intro x
  have c1 := h.C x
  have c2 := @nC_uK X N x (rest ++ [p])
  rw [hK, List.count_cons, List.count_append, List.count_singleton] at c2
  show nC X (uK N (rest ++ [p])) x = if x < 480 ∧ 0 < nA N ((368 + 8 * x + 0)) then 1 else 0
  omega
theorem iN.hop {p : Nat} (h : iN (p :: X) N) (hh : nA N ((368 + 8 * p + 2)) < nA N ((248 + 20 * (flN N p) + 0))) : iN (p :: X) (uA N ((368 + 8 * p + 2)) (nA N ((368 + 8 * p + 2)) + 1)) := by
  have hp := h.C.memX (List.mem_cons_self)
  have hf := h.fl hp.1 hp.2
  have q := h.P p hp.1 hp.2
  have q2 := q.2.2.1
  have hF := (h.F _ hf.2.1).1
  have e : ∀ k, k ≠ (368 + 8 * p + 2) → nA (uA N ((368 + 8 * p + 2)) (nA N ((368 + 8 * p + 2)) + 1)) k = nA N k := fun k hk => nA_ne hk
  have e9 : flN (uA N ((368 + 8 * p + 2)) (nA N ((368 + 8 * p + 2)) + 1)) p = flN N p := by unfold flN; rw [e _ (by omega)]
  refine h.pkt (fun k hk => e k (by omega)) ?_ (nBd_uA h.B (by omega)) rfl rfl rfl rfl rfl
  unfold iP
  rw [e9, nA_eq, e 1 (by omega), e 2 (by omega), e ((248 + 20 * (flN N p) + 0)) (by omega), e ((368 + 8 * p + 0)) (by omega), e ((368 + 8 * p + 1)) (by omega), e ((368 + 8 * p + 3)) (by omega), e ((368 + 8 * p + 4)) (by omega), e ((368 + 8 * p + 5)) (by omega), e ((368 + 8 * p + 7)) (by omega)]
  exact ⟨q.1, q.2.1, by omega, q.2.2.2⟩
theorem iN.arr {p : Nat} (h : iN (p :: X) N) (hh : nA N ((368 + 8 * p + 2)) < nA N ((248 + 20 * (flN N p) + 0))) : iN X (arrN N p) := by
  have hp := h.C.memX (List.mem_cons_self)
  have hf := h.fl hp.1 hp.2
  have q2 := (h.P p hp.1 hp.2).2.2.1
  have hF := h.F _ hf.2.1
  have F1 := hF.1
  have e9 : flN (uA N ((368 + 8 * p + 2)) (nA N ((368 + 8 * p + 2)) + 1)) p = flN N p := by unfold flN; rw [nA_ne (by omega)]
  have hn := h.hop hh
  unfold arrN
  simp only []
  split
  · exact hn.cb (Or.inl rfl)
  · have F2 := hF.2.1 (nA N ((368 + 8 * p + 2)) + 1).toNat (by omega)
    refine hn.come ?_ ?_
    · rw [nA_ne (by omega)]
      unfold hopN
      omega
    · rw [e9, nA_eq, nA_ne (by omega)]
      omega
end I3
