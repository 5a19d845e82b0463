section I4
variable {N : nT} {X : List Nat}
theorem iL.q {a : Nat} (h : iL N a) : nLq N a := by
  have q := h.2.2.1
  refine ⟨by omega, by omega, by omega, by omega, ?_, ?_⟩
  · have : nA N ((8 + 40 * a + 10)) * nA N ((8 + 40 * a + 8)) ≤ 5000000000000 * 11000 := Int.mul_le_mul (by omega) (by omega) (by omega) (by omega)
    omega
  · have : nA N ((8 + 40 * a + 11)) * nA N ((8 + 40 * a + 9)) ≤ 370000 * 15000000 := Int.mul_le_mul (by omega) (by omega) (by omega) (by omega)
    omega
/-- a share is small -/
theorem iL.share {a p : Nat} (h : iL N a) (hB : nBd N) (hP : iP N p) : -15011000 ≤ shareN N a p ∧ shareN N a p ≤ 15011000 := by
  have q := h.2.2.1
  have hq := h.q
  have h3 := hP.2.2.2.1
  have h4 := hP.2.2.2.2.1
  have b1 := div_bd (gotN_bd hB hq (p := p) (by omega) (by omega)) hq.1.1 hq.2.1.1
  have b2 := div_bd hq.2.2.1 hq.1.1 hq.2.1.1
  have b3 := div_bd (tookN_bd hq) hq.1.2 hq.2.1.2
  have b4 := div_bd hq.2.2.2.1 hq.1.2 hq.2.1.2
  unfold shareN plusN minusN
  omega
/-- a link's own numbers change -/
theorem iN.link {N' : nT} {a : Nat} (h : iN X N) (e : ∀ k, (k < (8 + 40 * a + 0) ∨ (8 + 40 * a + 40) ≤ k) → nA N' k = nA N k) (ha : (a : Int) < nA N 0) (hL : iL N' a) (hB : nBd N') (eR : nR N' = nR N) (eW : nW N' = nW N) (eK : nK N' = nK N) (eE : (nE N').length ≤ 24) (eP : nP N' = nP N) : iN X N' := by
  have h0 := h.H.1
  have h1 := h.H.2.1
  have ef : ∀ x, flN N' x = flN N x := fun x => by
    unfold flN
    rw [e _ (by omega)]
  refine ⟨?_, hB, ?_, ?_, ?_, ?_, ?_, ?_, ⟨eE, by rw [eP]; exact h.E.2⟩, ?_⟩
  · unfold iH
    rw [e 0 (by omega), e 1 (by omega), e 2 (by omega), e 7 (by omega)]
    exact h.H
  · intro x
    have c2 : nC X N' x = nC X N x := by unfold nC; rw [eR, eW, eK]
    rw [c2, e _ (by omega)]
    exact h.C x
  · intro f hf
    rw [e _ (by omega), nFly_congr (fun x _ => e _ (by omega))]
    exact h.Y f hf
  · intro f hf
    rw [e 1 (by omega)] at hf
    exact iF_congr (e 0 (by omega)) (fun k _ => e _ (by omega)) (h.F f hf)
  · intro b hb
    rw [e 0 (by omega)] at hb
    by_cases c : b = a
    · subst c; exact hL
    · exact iL_congr (e 1 (by omega)) (by rw [eR]) (fun k _ => e _ (by omega)) (h.L b hb)
  · intro x hx hl
    rw [e _ (by omega)] at hl
    exact iP_congr (e 1 (by omega)) (e 2 (by omega)) (fun k _ _ => e _ (by omega)) (fun f => e _ (by omega)) (h.P x hx hl)
  · intro b hb x hx
    rw [eR, eW] at hx
    rw [ef, e _ (by omega), e _ (by omega)]
    exact h.O b hb x hx
  · intro b hb q
    rw [e 0 (by omega)] at q
    rw [eR, eW]
    exact h.Z b hb q
/-- the first of a row goes on the wire -/
theorem iN.leave {p a : Nat} {rest : List Nat} (h : iN X N) (ha : (a : Int) < nA N 0) (hR : nR N a = p :: rest) (hw : nA N ((8 + 40 * a + 16)) < 360000) : iN X (uR (leaveN a N p) a rest) := by
  have h0 := h.H.1
  have h1 := h.H.2.1
  have h2 := h.H.2.2.1
  have ha6 : a < 6 := by omega
  have hm : p ∈ nR N a := by rw [hR]; exact List.mem_cons_self
  have hp := h.C.memR ha6 hm
  have hf := h.fl hp.1 hp.2
  have hP := h.P p hp.1 hp.2
  have hL := h.L a ha
  have hq := hL.q
  have hS := hL.share h.B hP
  have h3 := hP.2.2.2.1
  have h4 := hP.2.2.2.2.1
  have h5 := hP.2.2.2.2.2.1
  have hg := gotN_bd h.B hq (p := p) (by omega) (by omega)
  have ht := tookN_bd hq
  have lag := hL.1.2.1
  have l2 := hL.2.1
  have l3 := hL.2.2.1
  have e : ∀ k, k ≠ (368 + 8 * p + 5) → k ≠ (8 + 40 * a + 12) → k ≠ (8 + 40 * a + 13) → k ≠ (368 + 8 * p + 6) → k ≠ (8 + 40 * a + 16) → nA (uR (leaveN a N p) a rest) k = nA N k := fun k _ _ _ _ _ => by
    unfold leaveN
    rw [nA_uR, nA_ne (by omega), nA_uW, nA_ne (by omega), nA_ne (by omega), nA_ne (by omega), nA_ne (by omega)]
  have e12 : nA (uR (leaveN a N p) a rest) ((8 + 40 * a + 12)) = gotN N a p := by
    unfold leaveN
    rw [nA_uR, nA_ne (by omega), nA_uW, nA_ne (by omega), nA_ne (by omega), nA_eq]
  have e13 : nA (uR (leaveN a N p) a rest) ((8 + 40 * a + 13)) = tookN N a := by
    unfold leaveN
    rw [nA_uR, nA_ne (by omega), nA_uW, nA_ne (by omega), nA_eq]
  have e16 : nA (uR (leaveN a N p) a rest) ((8 + 40 * a + 16)) = nA N ((8 + 40 * a + 16)) + 1 := by
    unfold leaveN
    rw [nA_uR, nA_eq]
  have e5 : nA (uR (leaveN a N p) a rest) ((368 + 8 * p + 5)) = min (nA N ((368 + 8 * p + 5))) (shareN N a p) := by
    unfold leaveN
    rw [nA_uR, nA_ne (by omega), nA_uW, nA_ne (by omega), nA_ne (by omega), nA_ne (by omega), nA_eq]
  have ef : ∀ x, flN (uR (leaveN a N p) a rest) x = flN N x := fun x => by
    unfold flN
    rw [e _ (by omega) (by omega) (by omega) (by omega) (by omega)]
  have eR : ∀ b, nR (uR (leaveN a N p) a rest) b = if b = a then rest else nR N b := fun b => rfl
  have eW : ∀ b, nW (uR (leaveN a N p) a rest) b = if b = a then nW N a ++ [p] else nW N b := fun b => rfl
  refine ⟨?_, ?_, ?_, ?_, ?_, ?_, ?_, ?_, h.E, ?_⟩
  · unfold iH
    rw [e 0 (by omega) (by omega) (by omega) (by omega) (by omega), e 1 (by omega) (by omega) (by omega) (by omega) (by omega), e 2 (by omega) (by omega) (by omega) (by omega) (by omega), e 7 (by omega) (by omega) (by omega) (by omega) (by omega)]
    exact h.H
  · show nBd (leaveN a N p)
    unfold leaveN
    refine nBd_uA (N := uW _ _ _) (nBd_uA (nBd_uA (nBd_uA (nBd_uA h.B ?_) ?_) ?_) ?_) ?_ <;> omega
  · intro x
    have c1 := h.C x
    have c2 := @nC_uR X (leaveN a N p) x a rest ha6
    have c3 := @nC_uW X N x a (nW N a ++ [p]) ha6
    have c4 : nC X (leaveN a N p) x = nC X (uW N a (nW N a ++ [p])) x := rfl
    have c5 : nR (leaveN a N p) a = p :: rest := hR
    rw [e _ (by omega) (by omega) (by omega) (by omega) (by omega), ← c1]
    rw [c4, c5, List.count_cons] at c2
    rw [List.count_append, List.count_singleton] at c3
    omega
  · intro f hf
    rw [e _ (by omega) (by omega) (by omega) (by omega) (by omega), nFly_congr (fun x _ => e _ (by omega) (by omega) (by omega) (by omega) (by omega))]
    exact h.Y f hf
  · intro f hf
    rw [e 1 (by omega) (by omega) (by omega) (by omega) (by omega)] at hf
    exact iF_congr (e 0 (by omega) (by omega) (by omega) (by omega) (by omega)) (fun k _ => e _ (by omega) (by omega) (by omega) (by omega) (by omega)) (h.F f hf)
  · intro b hb
    rw [e 0 (by omega) (by omega) (by omega) (by omega) (by omega)] at hb
    by_cases c : b = a
    · subst c
      have g : ∀ k, k < 40 → k ≠ 12 → k ≠ 13 → k ≠ 16 → nA (uR (leaveN b N p) b rest) ((8 + 40 * b + k)) = nA N ((8 + 40 * b + k)) := fun k _ _ _ _ => e _ (by omega) (by omega) (by omega) (by omega) (by omega)
      have hlen : (nR N b).length = rest.length + 1 := by rw [hR]; rfl
      unfold iL
      rw [e 1 (by omega) (by omega) (by omega) (by omega) (by omega), g 0 (by omega) (by omega) (by omega) (by omega), g 1 (by omega) (by omega) (by omega) (by omega), g 2 (by omega) (by omega) (by omega) (by omega), g 3 (by omega) (by omega) (by omega) (by omega), g 6 (by omega) (by omega) (by omega) (by omega), g 7 (by omega) (by omega) (by omega) (by omega), g 8 (by omega) (by omega) (by omega) (by omega), g 9 (by omega) (by omega) (by omega) (by omega), g 10 (by omega) (by omega) (by omega) (by omega), g 11 (by omega) (by omega) (by omega) (by omega), g 14 (by omega) (by omega) (by omega) (by omega), g 15 (by omega) (by omega) (by omega) (by omega), g 17 (by omega) (by omega) (by omega) (by omega), g 18 (by omega) (by omega) (by omega) (by omega), e12, e13, e16, eR, if_pos rfl]
      refine ⟨hL.1, by omega, by omega, hL.2.2.2.1, fun f hf6 => ?_⟩
      rw [g (20 + f) (by omega) (by omega) (by omega) (by omega), g (26 + f) (by omega) (by omega) (by omega) (by omega), g (32 + f) (by omega) (by omega) (by omega) (by omega)]
      exact hL.2.2.2.2 f hf6
    · exact iL_congr (e 1 (by omega) (by omega) (by omega) (by omega) (by omega)) (by rw [eR, if_neg c]) (fun k _ => e _ (by omega) (by omega) (by omega) (by omega) (by omega)) (h.L b hb)
  · intro x hx hl
    rw [e _ (by omega) (by omega) (by omega) (by omega) (by omega)] at hl
    have q := h.P x hx hl
    have f9 := h.fl hx hl
    unfold iP
    rw [ef, e 1 (by omega) (by omega) (by omega) (by omega) (by omega), e 2 (by omega) (by omega) (by omega) (by omega) (by omega), e ((248 + 20 * (flN N x) + 0)) (by omega) (by omega) (by omega) (by omega) (by omega), e ((368 + 8 * x + 0)) (by omega) (by omega) (by omega) (by omega) (by omega), e ((368 + 8 * x + 1)) (by omega) (by omega) (by omega) (by omega) (by omega), e ((368 + 8 * x + 2)) (by omega) (by omega) (by omega) (by omega) (by omega), e ((368 + 8 * x + 3)) (by omega) (by omega) (by omega) (by omega) (by omega), e ((368 + 8 * x + 4)) (by omega) (by omega) (by omega) (by omega) (by omega), e ((368 + 8 * x + 7)) (by omega) (by omega) (by omega) (by omega) (by omega)]
    refine ⟨q.1, q.2.1, q.2.2.1, q.2.2.2.1, q.2.2.2.2.1, ?_, q.2.2.2.2.2.2⟩
    by_cases c : x = p
    · subst c; rw [e5]; omega
    · rw [e _ (by omega) (by omega) (by omega) (by omega) (by omega)]; exact q.2.2.2.2.2.1
  · intro b hb x hx
    have hx2 : x ∈ nR N b ∨ x ∈ nW N b ∨ (b = a ∧ x = p) := by
      rw [eR, eW] at hx
      by_cases c : b = a
      · subst c
        rw [if_pos rfl, if_pos rfl] at hx
        rcases hx with q | q
        · exact Or.inl (by rw [hR]; exact List.mem_cons_of_mem _ q)
        · rcases List.mem_append.mp q with q | q
          · exact Or.inr (Or.inl q)
          · exact Or.inr (Or.inr ⟨rfl, List.mem_singleton.mp q⟩)
      · rw [if_neg c, if_neg c] at hx
        rcases hx with q | q
        · exact Or.inl q
        · exact Or.inr (Or.inl q)
    have hx3 : x ∈ nR N b ∨ x ∈ nW N b := by
      rcases hx2 with q | q | q
      · exact Or.inl q
      · exact Or.inr q
      · rw [q.1, q.2]; exact Or.inl hm
    have hx4 := h.memRW hb hx3
    have f9 := h.fl hx4.1 hx4.2
    rw [ef, e _ (by omega) (by omega) (by omega) (by omega) (by omega), e _ (by omega) (by omega) (by omega) (by omega) (by omega)]
    exact h.O b hb x hx3
  · intro b hb q
    rw [e 0 (by omega) (by omega) (by omega) (by omega) (by omega)] at q
    rw [eR, eW, if_neg (by omega), if_neg (by omega)]
    exact h.Z b hb q
end I4
