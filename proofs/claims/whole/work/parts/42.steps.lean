section I2
variable {N : nT} {X : List Nat}
theorem nA_ev {k q f : Int} {j : Nat} : nA (evN N k q f) j = nA N j := rfl
theorem nBd_ev {k q f : Int} (h : nBd N) : nBd (evN N k q f) := h
theorem ev_len {k q f : Int} (h : (nE N).length ≤ 24) : (nE (evN N k q f)).length ≤ 24 := by
  show (_ ++ [_] : List _).length ≤ 24
  rw [List.length_append]
  split
  · rw [List.length_drop]; simp; omega
  · simp; omega
/-- a flow takes one back -/
theorem iN.took {N' : nT} {p : Nat} (h : iN (p :: X) N) (e : ∀ k, (k < (248 + 20 * (flN N p) + 0) ∨ (248 + 20 * (flN N p) + 20) ≤ k) → k ≠ (368 + 8 * p + 0) → nA N' k = nA N k) (ez : nA N' ((368 + 8 * p + 0)) = 0) (e6 : nA N' ((248 + 20 * (flN N p) + 6)) = nA N ((248 + 20 * (flN N p) + 6)) - 1) (e0 : nA N' ((248 + 20 * (flN N p) + 0)) = nA N ((248 + 20 * (flN N p) + 0))) (hF : iF N' (flN N p)) (hB : nBd N') (eR : nR N' = nR N) (eW : nW N' = nW N) (eK : nK N' = nK N) (eE : (nE N').length ≤ 24) (eP : nP N' = nP N) : iN X N' := by
  have hp := h.C.memX (List.mem_cons_self)
  have hf := h.fl hp.1 hp.2
  have h0 := h.H.1
  have h1 := h.H.2.1
  have ef : ∀ x, x ≠ p → flN N' x = flN N x := fun x hx => by unfold flN; rw [e _ (by omega) (by omega)]
  have e00 : ∀ f, f < 6 → nA N' ((248 + 20 * f + 0)) = nA N ((248 + 20 * f + 0)) := fun f hf6 => by
    by_cases c : f = flN N p
    · subst c; exact e0
    · exact e _ (by omega) (by omega)
  have hone := h.C p
  rw [nC_cons, if_pos rfl, if_pos hp] at hone
  refine ⟨?_, hB, ?_, ?_, ?_, ?_, ?_, ?_, ⟨eE, by rw [eP]; exact h.E.2⟩, ?_⟩
  · unfold iH
    rw [e 0 (by omega) (by omega), e 1 (by omega) (by omega), e 2 (by omega) (by omega), e 7 (by omega) (by omega)]
    exact h.H
  · intro x
    have c1 := h.C x
    rw [nC_cons] at c1
    have c2 : nC X N' x = nC X N x := by unfold nC; rw [eR, eW, eK]
    rw [c2]
    by_cases c : p = x
    · subst c
      rw [ez, if_neg (by omega)]
      omega
    · rw [if_neg c] at c1
      rw [e _ (by omega) (by omega)]
      exact c1
  · intro f hf6
    have q := h.Y f hf6
    have u := @nFly_upd N p f 0 hp.1
    have u2 : nFly N' f = nFly (uA N ((368 + 8 * p + 0)) 0) f := nFly_congr (fun x hx => by
      by_cases c : x = p
      · subst c; rw [ez, nA_eq]
      · rw [nA_ne (by omega), e _ (by omega) (by omega)])
    rw [u2]
    rw [if_neg (show ¬ (0 : Int) = (f : Int) + 1 by omega)] at u
    by_cases c : f = flN N p
    · subst c
      rw [if_pos hf.1] at u
      rw [e6]
      omega
    · rw [if_neg (by omega)] at u
      rw [e _ (by omega) (by omega)]
      omega
  · intro f hf1
    rw [e 1 (by omega) (by omega)] at hf1
    by_cases c : f = flN N p
    · subst c; exact hF
    · exact iF_congr (e 0 (by omega) (by omega)) (fun k _ => e _ (by omega) (by omega)) (h.F f hf1)
  · intro a ha
    rw [e 0 (by omega) (by omega)] at ha
    exact iL_congr (e 1 (by omega) (by omega)) (by rw [eR]) (fun k _ => e _ (by omega) (by omega)) (h.L a ha)
  · intro x hx hl
    by_cases c : x = p
    · subst c; rw [ez] at hl; omega
    · rw [e _ (by omega) (by omega)] at hl
      have f9 := h.fl hx hl
      have q := h.P x hx hl
      unfold iP
      rw [ef x c, e00 _ f9.2.2, e 1 (by omega) (by omega), e 2 (by omega) (by omega), e ((368 + 8 * x + 0)) (by omega) (by omega), e ((368 + 8 * x + 1)) (by omega) (by omega), e ((368 + 8 * x + 2)) (by omega) (by omega), e ((368 + 8 * x + 3)) (by omega) (by omega), e ((368 + 8 * x + 4)) (by omega) (by omega), e ((368 + 8 * x + 5)) (by omega) (by omega), e ((368 + 8 * x + 7)) (by omega) (by omega)]
      exact q
  · intro a ha x hx
    rw [eR, eW] at hx
    have hc : x ≠ p := by
      rintro rfl
      rcases hx with q | q
      · have c1 := count_pos q
        have c2 := @nC_R X N x a ha
        omega
      · have c1 := count_pos q
        have c2 := @nC_W X N x a ha
        omega
    have hx2 : x < 480 ∧ 0 < nA N ((368 + 8 * x + 0)) := by
      rcases hx with q | q
      · exact h.C.memR ha q
      · exact h.C.memW ha q
    have f9 := h.fl hx2.1 hx2.2
    rw [ef x hc, e00 _ f9.2.2, e _ (by omega) (by omega)]
    exact h.O a ha x hx
  · intro a ha q
    rw [e 0 (by omega) (by omega)] at q
    rw [eR, eW]
    exact h.Z a ha q
/-- what a flow gains -/
def gainN (N : nT) (p : Nat) : Int := if nA N ((248 + 20 * (flN N p) + 2)) = 1 ∧ (if nA N 7 = 1 then 10000 / nA N ((248 + 20 * (flN N p) + 5)) else nA N ((368 + 8 * p + 5))) < 0 then 0 else if nA N 7 = 1 then 10000 / nA N ((248 + 20 * (flN N p) + 5)) else nA N ((368 + 8 * p + 5))
theorem iN.ret {p : Nat} (h : iN (p :: X) N) : iN X (retN N p) := by
  have hp := h.C.memX (List.mem_cons_self)
  have hf := h.fl hp.1 hp.2
  have hq := h.P p hp.1 hp.2
  have hF := h.F _ hf.2.1
  have hY := h.Y _ hf.2.2
  have hB := h.B
  have h2 := h.H.2.2.1
  have hone := h.C p
  have hfly : 1 ≤ nFly N (flN N p) := by
    have u := @nFly_upd N p (flN N p) 0 hp.1
    rw [if_pos hf.1, if_neg (by omega)] at u
    omega
  have q1 := hq.2.1
  have F1 := hF.2.2.1
  have F5 := hF.2.2.2.2.2.1
  have F8 := hF.2.2.2.2.2.2.2
  by_cases c : nA N ((368 + 8 * p + 7)) = 1
  · have e : retN N p = uA (uA (uA (uA (uA (uA N ((248 + 20 * (flN N p) + 6)) (nA N ((248 + 20 * (flN N p) + 6)) - 1)) ((248 + 20 * (flN N p) + 7)) (nA N 2 - nA N ((368 + 8 * p + 1)))) ((248 + 20 * (flN N p) + 10)) (nA N ((248 + 20 * (flN N p) + 10)) + 1)) ((248 + 20 * (flN N p) + 1)) (min 9999 (nA N ((248 + 20 * (flN N p) + 1)) + 1))) ((248 + 20 * (flN N p) + 5)) (max 100 (min 4000 (nA N ((248 + 20 * (flN N p) + 5)) / 2)))) ((368 + 8 * p + 0)) 0 := by
      unfold retN; rw [if_pos c]
    rw [e]
    refine h.took (fun k hk hk0 => ?_) nA_eq ?_ ?_ ?_ ?_ rfl rfl rfl h.E.1 rfl
    · rw [nA_ne hk0, nA_ne (by omega), nA_ne (by omega), nA_ne (by omega), nA_ne (by omega), nA_ne (by omega)]
    · rw [nA_ne (by omega), nA_ne (by omega), nA_ne (by omega), nA_ne (by omega), nA_ne (by omega), nA_eq]
    · rw [nA_ne (by omega), nA_ne (by omega), nA_ne (by omega), nA_ne (by omega), nA_ne (by omega), nA_ne (by omega)]
    · unfold iF
      have g : ∀ k, k < 20 → k ≠ 1 → k ≠ 5 → k ≠ 6 → k ≠ 7 → k ≠ 10 → nA (uA (uA (uA (uA (uA (uA N ((248 + 20 * (flN N p) + 6)) (nA N ((248 + 20 * (flN N p) + 6)) - 1)) ((248 + 20 * (flN N p) + 7)) (nA N 2 - nA N ((368 + 8 * p + 1)))) ((248 + 20 * (flN N p) + 10)) (nA N ((248 + 20 * (flN N p) + 10)) + 1)) ((248 + 20 * (flN N p) + 1)) (min 9999 (nA N ((248 + 20 * (flN N p) + 1)) + 1))) ((248 + 20 * (flN N p) + 5)) (max 100 (min 4000 (nA N ((248 + 20 * (flN N p) + 5)) / 2)))) ((368 + 8 * p + 0)) 0) ((248 + 20 * (flN N p) + k)) = nA N ((248 + 20 * (flN N p) + k)) := fun k _ _ _ _ _ _ => by
        rw [nA_ne (by omega), nA_ne (by omega), nA_ne (by omega), nA_ne (by omega), nA_ne (by omega), nA_ne (by omega)]
      rw [g 0 (by omega) (by omega) (by omega) (by omega) (by omega) (by omega), g 2 (by omega) (by omega) (by omega) (by omega) (by omega) (by omega), g 3 (by omega) (by omega) (by omega) (by omega) (by omega) (by omega), g 8 (by omega) (by omega) (by omega) (by omega) (by omega) (by omega), g 9 (by omega) (by omega) (by omega) (by omega) (by omega) (by omega)]
      refine ⟨hF.1, fun i hi => ?_, ?_, hF.2.2.2.1, hF.2.2.2.2.1, ?_, ?_, ?_⟩
      · have := hF.1
        rw [g (12 + i) (by omega) (by omega) (by omega) (by omega) (by omega) (by omega), nA_ne (k := (368 + 8 * p + 0)) (by omega), nA_ne (by omega), nA_ne (by omega), nA_ne (by omega), nA_ne (by omega), nA_ne (by omega)]
        exact hF.2.1 i hi
      · rw [nA_ne (by omega), nA_ne (by omega), nA_eq]; omega
      · rw [nA_ne (by omega), nA_eq]; omega
      · rw [nA_ne (by omega), nA_ne (by omega), nA_ne (by omega), nA_ne (by omega), nA_eq]; omega
      · rw [nA_ne (j := (248 + 20 * (flN N p) + 10)) (by omega), nA_ne (j := (248 + 20 * (flN N p) + 10)) (by omega), nA_ne (j := (248 + 20 * (flN N p) + 10)) (by omega), nA_eq, nA_ne (by omega), nA_ne (by omega), nA_ne (by omega), nA_ne (by omega), nA_ne (by omega), nA_eq]; omega
    · have := hB ((248 + 20 * (flN N p) + 6)) (by omega)
      refine nBd_uA (nBd_uA (nBd_uA (nBd_uA (nBd_uA (nBd_uA hB ?_) ?_) ?_) ?_) ?_) ?_ <;> omega
  · have d1 : (if nA N 7 = 1 then 10000 / nA N ((248 + 20 * (flN N p) + 5)) else nA N ((368 + 8 * p + 5))) = (if nA N 7 = 1 then 10000 / nA N ((248 + 20 * (flN N p) + 5)) else nA N ((368 + 8 * p + 5))) := rfl
    have key : ∀ N3 : nT, (∀ k, nA N3 k = nA (uA (uA (uA N ((248 + 20 * (flN N p) + 6)) (nA N ((248 + 20 * (flN N p) + 6)) - 1)) ((248 + 20 * (flN N p) + 7)) (nA N 2 - nA N ((368 + 8 * p + 1)))) ((248 + 20 * (flN N p) + 9)) (nA N ((248 + 20 * (flN N p) + 9)) + 1)) k) → nR N3 = nR N → nW N3 = nW N → nK N3 = nK N → (nE N3).length ≤ 24 → nP N3 = nP N → ∀ z, iN X (uA (uA N3 ((248 + 20 * (flN N p) + 5)) (max 100 (min 4000 z))) ((368 + 8 * p + 0)) 0) := by
      intro N3 e3 r1 r2 r3 r4 r5 z
      have g : ∀ k, k ≠ (248 + 20 * (flN N p) + 5) → k ≠ (248 + 20 * (flN N p) + 6) → k ≠ (248 + 20 * (flN N p) + 7) → k ≠ (248 + 20 * (flN N p) + 9) → k ≠ (368 + 8 * p + 0) → nA (uA (uA N3 ((248 + 20 * (flN N p) + 5)) (max 100 (min 4000 z))) ((368 + 8 * p + 0)) 0) k = nA N k := fun k _ _ _ _ _ => by
        rw [nA_ne (by omega), nA_ne (by omega), e3, nA_ne (by omega), nA_ne (by omega), nA_ne (by omega)]
      have g6 : nA (uA (uA N3 ((248 + 20 * (flN N p) + 5)) (max 100 (min 4000 z))) ((368 + 8 * p + 0)) 0) ((248 + 20 * (flN N p) + 6)) = nA N ((248 + 20 * (flN N p) + 6)) - 1 := by
        rw [nA_ne (by omega), nA_ne (by omega), e3, nA_ne (by omega), nA_ne (by omega), nA_eq]
      have g7 : nA (uA (uA N3 ((248 + 20 * (flN N p) + 5)) (max 100 (min 4000 z))) ((368 + 8 * p + 0)) 0) ((248 + 20 * (flN N p) + 7)) = nA N 2 - nA N ((368 + 8 * p + 1)) := by
        rw [nA_ne (by omega), nA_ne (by omega), e3, nA_ne (by omega), nA_eq]
      have g9 : nA (uA (uA N3 ((248 + 20 * (flN N p) + 5)) (max 100 (min 4000 z))) ((368 + 8 * p + 0)) 0) ((248 + 20 * (flN N p) + 9)) = nA N ((248 + 20 * (flN N p) + 9)) + 1 := by
        rw [nA_ne (by omega), nA_ne (by omega), e3, nA_eq]
      have g5 : nA (uA (uA N3 ((248 + 20 * (flN N p) + 5)) (max 100 (min 4000 z))) ((368 + 8 * p + 0)) 0) ((248 + 20 * (flN N p) + 5)) = max 100 (min 4000 z) := by
        rw [nA_ne (by omega), nA_eq]
      refine h.took (fun k hk hk0 => g k (by omega) (by omega) (by omega) (by omega) hk0) nA_eq g6 (g _ (by omega) (by omega) (by omega) (by omega) (by omega)) ?_ ?_ r1 r2 r3 r4 r5
      · unfold iF
        rw [g5, g6, g7, g9, g 0 (by omega) (by omega) (by omega) (by omega) (by omega), g ((248 + 20 * (flN N p) + 0)) (by omega) (by omega) (by omega) (by omega) (by omega), g ((248 + 20 * (flN N p) + 1)) (by omega) (by omega) (by omega) (by omega) (by omega), g ((248 + 20 * (flN N p) + 2)) (by omega) (by omega) (by omega) (by omega) (by omega), g ((248 + 20 * (flN N p) + 3)) (by omega) (by omega) (by omega) (by omega) (by omega), g ((248 + 20 * (flN N p) + 8)) (by omega) (by omega) (by omega) (by omega) (by omega), g ((248 + 20 * (flN N p) + 10)) (by omega) (by omega) (by omega) (by omega) (by omega)]
        refine ⟨hF.1, fun i hi => ?_, F1, hF.2.2.2.1, hF.2.2.2.2.1, by omega, by omega, by omega⟩
        have := hF.1
        rw [g ((248 + 20 * (flN N p) + (12 + i))) (by omega) (by omega) (by omega) (by omega) (by omega)]
        exact hF.2.1 i hi
      · intro k hk
        rw [nA_uA]
        split
        · omega
        · rw [nA_uA]
          split
          · omega
          · rw [e3]
            have := hB ((248 + 20 * (flN N p) + 6)) (by omega)
            refine nBd_uA (nBd_uA (nBd_uA hB ?_) ?_) ?_ k hk <;> omega
    unfold retN
    rw [if_neg c]
    simp only []
    split
    · exact key (evN (uA (uA (uA N ((248 + 20 * (flN N p) + 6)) (nA N ((248 + 20 * (flN N p) + 6)) - 1)) ((248 + 20 * (flN N p) + 7)) (nA N 2 - nA N ((368 + 8 * p + 1)))) ((248 + 20 * (flN N p) + 9)) (nA N ((248 + 20 * (flN N p) + 9)) + 1)) 4 (-1) (flN N p)) (fun k => rfl) rfl rfl rfl (ev_len (N := (uA (uA (uA N ((248 + 20 * (flN N p) + 6)) (nA N ((248 + 20 * (flN N p) + 6)) - 1)) ((248 + 20 * (flN N p) + 7)) (nA N 2 - nA N ((368 + 8 * p + 1)))) ((248 + 20 * (flN N p) + 9)) (nA N ((248 + 20 * (flN N p) + 9)) + 1))) h.E.1) rfl _
    · exact key _ (fun k => rfl) rfl rfl rfl h.E.1 rfl _
end I2
