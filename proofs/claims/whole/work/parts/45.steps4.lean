section I5
variable {N : nT} {X : List Nat}
theorem flN_ev {k q f : Int} {x : Nat} : flN (evN N k q f) x = flN N x := rfl
theorem iN.born {N' : nT} {p f : Nat} (h : iN X N) (hp : p < 480) (hz : ¬ 0 < nA N ((368 + 8 * p + 0))) (hf : (f : Int) < nA N 1) (e : ∀ k, (k < (248 + 20 * f + 0) ∨ (248 + 20 * f + 20) ≤ k) → (k < (368 + 8 * p + 0) ∨ (368 + 8 * p + 8) ≤ k) → nA N' k = nA N k) (ez : nA N' ((368 + 8 * p + 0)) = (f : Int) + 1) (e6 : nA N' ((248 + 20 * f + 6)) = nA N ((248 + 20 * f + 6)) + 1) (h80 : nFly N f < 80) (e0 : nA N' ((248 + 20 * f + 0)) = nA N ((248 + 20 * f + 0))) (hF : iF N' f) (hP : iP N' p) (hB : nBd N') (eR : nR N' = nR N) (eW : nW N' = nW N) (eK : nK N' = nK N) (eE : nE N' = nE N) (eP : nP N' = nP N) : iN (p :: X) N' := by
  have h0 := h.H.1
  have h1 := h.H.2.1
  have ef : ∀ x, x ≠ p → flN N' x = flN N x := fun x hx => by unfold flN; rw [e _ (by omega) (by omega)]
  have e00 : ∀ g, g < 6 → nA N' ((248 + 20 * g + 0)) = nA N ((248 + 20 * g + 0)) := fun g hg => by
    by_cases c : g = f
    · subst c; exact e0
    · exact e _ (by omega) (by omega)
  have hone := h.C p
  rw [if_neg (by omega)] at hone
  refine ⟨?_, hB, ?_, ?_, ?_, ?_, ?_, ?_, by rw [eE, eP]; exact h.E, ?_⟩
  · unfold iH
    rw [e 0 (by omega) (by omega), e 1 (by omega) (by omega), e 2 (by omega) (by omega), e 7 (by omega) (by omega)]
    exact h.H
  · intro x
    have c1 := h.C x
    have c2 : nC X N' x = nC X N x := by unfold nC; rw [eR, eW, eK]
    rw [nC_cons, c2]
    by_cases c : p = x
    · subst c
      rw [ez, if_pos rfl, if_pos (by omega)]
      omega
    · rw [if_neg c, e _ (by omega) (by omega)]
      exact c1
  · intro g hg
    have q := h.Y g hg
    have u := @nFly_upd N p g ((f : Int) + 1) hp
    have u2 : nFly N' g = nFly (uA N ((368 + 8 * p + 0)) ((f : Int) + 1)) g := nFly_congr (fun x hx => by
      by_cases c : x = p
      · subst c; rw [ez, nA_eq]
      · rw [nA_ne (by omega), e _ (by omega) (by omega)])
    rw [u2]
    rw [if_neg (show ¬ nA N ((368 + 8 * p + 0)) = (g : Int) + 1 by omega)] at u
    by_cases c : g = f
    · subst c
      rw [if_pos rfl] at u
      rw [e6]
      omega
    · rw [if_neg (by omega)] at u
      rw [e _ (by omega) (by omega)]
      omega
  · intro g hg
    rw [e 1 (by omega) (by omega)] at hg
    by_cases c : g = f
    · subst c; exact hF
    · exact iF_congr (e 0 (by omega) (by omega)) (fun k _ => e _ (by omega) (by omega)) (h.F g hg)
  · intro a ha
    rw [e 0 (by omega) (by omega)] at ha
    exact iL_congr (e 1 (by omega) (by omega)) (by rw [eR]) (fun k _ => e _ (by omega) (by omega)) (h.L a ha)
  · intro x hx hl
    by_cases c : x = p
    · subst c; exact hP
    · rw [e _ (by omega) (by omega)] at hl
      have f9 := h.fl hx hl
      have q := h.P x hx hl
      unfold iP
      rw [ef x c, e00 _ f9.2.2, e 1 (by omega) (by omega), e 2 (by omega) (by omega), e ((368 + 8 * x + 0)) (by omega) (by omega), e ((368 + 8 * x + 1)) (by omega) (by omega), e ((368 + 8 * x + 2)) (by omega) (by omega), e ((368 + 8 * x + 3)) (by omega) (by omega), e ((368 + 8 * x + 4)) (by omega) (by omega), e ((368 + 8 * x + 5)) (by omega) (by omega), e ((368 + 8 * x + 7)) (by omega) (by omega)]
      exact q
  · intro a ha x hx
    rw [eR, eW] at hx
    have hx2 := h.memRW ha hx
    have hc : x ≠ p := by
      rintro rfl
      exact hz hx2.2
    have f9 := h.fl hx2.1 hx2.2
    rw [ef x hc, e00 _ f9.2.2, e _ (by omega) (by omega)]
    exact h.O a ha x hx
  · intro a ha q
    rw [e 0 (by omega) (by omega)] at q
    rw [eR, eW]
    exact h.Z a ha q
theorem iN.places (h : iN X N) {f : Nat} (hf : f < 6) (h80 : nFly N f < 80) : ∃ p, p < 480 ∧ ¬ 0 < nA N ((368 + 8 * p + 0)) := by
  have h1 := h.H.2.1
  refine free_lt (fun x hx hl => ?_) ?_
  · have := (h.P x hx hl).1
    omega
  · have y0 := (h.Y 0 (by omega)).2
    have y1 := (h.Y 1 (by omega)).2
    have y2 := (h.Y 2 (by omega)).2
    have y3 := (h.Y 3 (by omega)).2
    have y4 := (h.Y 4 (by omega)).2
    have y5 := (h.Y 5 (by omega)).2
    have h6 : f = 0 ∨ f = 1 ∨ f = 2 ∨ f = 3 ∨ f = 4 ∨ f = 5 := by omega
    rcases h6 with rfl | rfl | rfl | rfl | rfl | rfl <;> omega
theorem iN.may (h : iN X N) {f : Nat} (hf : (f : Int) < nA N 1) (hm : mayN N f = true) : 0 < nA N ((248 + 20 * f + 1)) ∧ nFly N f < 80 := by
  have h1 := h.H.2.1
  have hF := h.F f hf
  have F5 := hF.2.2.2.2.2.1
  have y := h.Y f (by omega)
  unfold mayN at hm
  rw [Bool.and_eq_true, decide_eq_true_eq, decide_eq_true_eq] at hm
  refine ⟨hm.1, ?_⟩
  have hm2 := hm.2
  split at hm2 <;> omega
/-- a packet as it is sent, ahead of its first link -/
def bornN (N : nT) (f : Nat) : nT := uA (uA (uA (uA (uA (uA (uA (uA (uA (uA N ((248 + 20 * f + 1)) (nA N ((248 + 20 * f + 1)) - 1)) ((248 + 20 * f + 8)) (nA N ((248 + 20 * f + 8)) + 1)) ((248 + 20 * f + 6)) (nA N ((248 + 20 * f + 6)) + 1)) ((368 + 8 * (freeN N) + 0)) (f + 1)) ((368 + 8 * (freeN N) + 1)) (nA N 2)) ((368 + 8 * (freeN N) + 2)) 0) ((368 + 8 * (freeN N) + 3)) (nA N ((248 + 20 * f + 5)))) ((368 + 8 * (freeN N) + 4)) (nA N ((248 + 20 * f + 7)) * (if nA N ((248 + 20 * f + 2)) = 2 then 3 else 1))) ((368 + 8 * (freeN N) + 5)) 1000) ((368 + 8 * (freeN N) + 7)) 0
theorem sendN_eq (N : nT) (f : Nat) : sendN N f = comeN (if nA N ((248 + 20 * f + 1)) - 1 = 0 then evN (bornN N f) 3 (-1) f else bornN N f) (freeN N) (hopN N f 0) := rfl
theorem bornN_ne {f k : Nat} (h1 : k ≠ (248 + 20 * f + 1)) (h8 : k ≠ (248 + 20 * f + 8)) (h6 : k ≠ (248 + 20 * f + 6)) (hp : k < (368 + 8 * (freeN N) + 0) ∨ (368 + 8 * (freeN N) + 8) ≤ k) : nA (bornN N f) k = nA N k := by
  unfold bornN
  rw [nA_ne (by omega), nA_ne (by omega), nA_ne (by omega), nA_ne (by omega), nA_ne (by omega), nA_ne (by omega), nA_ne (by omega), nA_ne h6, nA_ne h8, nA_ne h1]
theorem iN.begot (h : iN X N) {f : Nat} (hf : (f : Int) < nA N 1) (hm : mayN N f = true) (hS : nA N ((248 + 20 * f + 8)) < 80000) : freeN N < 480 ∧ ¬ 0 < nA N ((368 + 8 * (freeN N) + 0)) ∧ iN (freeN N :: X) (bornN N f) ∧ flN (bornN N f) (freeN N) = f ∧ nA (bornN N f) ((368 + 8 * (freeN N) + 2)) = 0 := by
  have h1 := h.H.2.1
  have h2 := h.H.2.2.1
  have hM := h.may hf hm
  have hq := freeN_spec (h.places (f := f) (by omega) hM.2)
  have hF := h.F f hf
  have F1 := hF.2.2.1
  have F5 := hF.2.2.2.2.2.1
  have F7 := hF.2.2.2.2.2.2.1
  have F8 := hF.2.2.2.2.2.2.2
  have y := h.Y f (by omega)
  have tn : 0 ≤ nA N ((248 + 20 * f + 7)) * (if nA N ((248 + 20 * f + 2)) = 2 then 3 else 1) ∧ nA N ((248 + 20 * f + 7)) * (if nA N ((248 + 20 * f + 2)) = 2 then 3 else 1) ≤ 123000 := by split <;> omega
  have b0 : nA (bornN N f) ((368 + 8 * (freeN N) + 0)) = (f : Int) + 1 := by
    unfold bornN
    rw [nA_ne (by omega), nA_ne (by omega), nA_ne (by omega), nA_ne (by omega), nA_ne (by omega), nA_ne (by omega), nA_eq]
  have b1 : nA (bornN N f) ((368 + 8 * (freeN N) + 1)) = nA N 2 := by
    unfold bornN
    rw [nA_ne (by omega), nA_ne (by omega), nA_ne (by omega), nA_ne (by omega), nA_ne (by omega), nA_eq]
  have b2 : nA (bornN N f) ((368 + 8 * (freeN N) + 2)) = 0 := by
    unfold bornN
    rw [nA_ne (by omega), nA_ne (by omega), nA_ne (by omega), nA_ne (by omega), nA_eq]
  have b3 : nA (bornN N f) ((368 + 8 * (freeN N) + 3)) = nA N ((248 + 20 * f + 5)) := by
    unfold bornN
    rw [nA_ne (by omega), nA_ne (by omega), nA_ne (by omega), nA_eq]
  have b4 : nA (bornN N f) ((368 + 8 * (freeN N) + 4)) = nA N ((248 + 20 * f + 7)) * (if nA N ((248 + 20 * f + 2)) = 2 then 3 else 1) := by
    unfold bornN
    rw [nA_ne (by omega), nA_ne (by omega), nA_eq]
  have b5 : nA (bornN N f) ((368 + 8 * (freeN N) + 5)) = 1000 := by
    unfold bornN
    rw [nA_ne (by omega), nA_eq]
  have b7 : nA (bornN N f) ((368 + 8 * (freeN N) + 7)) = 0 := by
    unfold bornN
    rw [nA_eq]
  have g1 : nA (bornN N f) ((248 + 20 * f + 1)) = nA N ((248 + 20 * f + 1)) - 1 := by
    unfold bornN
    rw [nA_ne (by omega), nA_ne (by omega), nA_ne (by omega), nA_ne (by omega), nA_ne (by omega), nA_ne (by omega), nA_ne (by omega), nA_ne (by omega), nA_ne (by omega), nA_eq]
  have g8 : nA (bornN N f) ((248 + 20 * f + 8)) = nA N ((248 + 20 * f + 8)) + 1 := by
    unfold bornN
    rw [nA_ne (by omega), nA_ne (by omega), nA_ne (by omega), nA_ne (by omega), nA_ne (by omega), nA_ne (by omega), nA_ne (by omega), nA_ne (by omega), nA_eq]
  have g6 : nA (bornN N f) ((248 + 20 * f + 6)) = nA N ((248 + 20 * f + 6)) + 1 := by
    unfold bornN
    rw [nA_ne (by omega), nA_ne (by omega), nA_ne (by omega), nA_ne (by omega), nA_ne (by omega), nA_ne (by omega), nA_ne (by omega), nA_eq]
  have hfl : flN (bornN N f) (freeN N) = f := by unfold flN; rw [b0]; omega
  have e : ∀ k, k < (368 + 8 * (freeN N) + 0) → k ≠ (248 + 20 * f + 1) → k ≠ (248 + 20 * f + 8) → k ≠ (248 + 20 * f + 6) → nA (bornN N f) k = nA N k := fun k hk q1 q8 q6 => bornN_ne q1 q8 q6 (by omega)
  refine ⟨hq.1, hq.2.1, ?_, hfl, b2⟩
  refine h.born hq.1 hq.2.1 hf (fun k hk hk2 => bornN_ne (by omega) (by omega) (by omega) hk2) b0 g6 hM.2 (e _ (by omega) (by omega) (by omega) (by omega)) ?_ ?_ ?_ rfl rfl rfl rfl rfl
  · unfold iF
    rw [g1, g6, g8, e 0 (by omega) (by omega) (by omega) (by omega), e ((248 + 20 * f + 0)) (by omega) (by omega) (by omega) (by omega), e ((248 + 20 * f + 2)) (by omega) (by omega) (by omega) (by omega), e ((248 + 20 * f + 3)) (by omega) (by omega) (by omega) (by omega), e ((248 + 20 * f + 5)) (by omega) (by omega) (by omega) (by omega), e ((248 + 20 * f + 7)) (by omega) (by omega) (by omega) (by omega), e ((248 + 20 * f + 9)) (by omega) (by omega) (by omega) (by omega), e ((248 + 20 * f + 10)) (by omega) (by omega) (by omega) (by omega)]
    refine ⟨hF.1, fun i hi => ?_, by omega, hF.2.2.2.1, hF.2.2.2.2.1, F5, F7, by omega⟩
    have := hF.1
    rw [e ((248 + 20 * f + (12 + i))) (by omega) (by omega) (by omega) (by omega)]
    exact hF.2.1 i hi
  · have := hF.1
    unfold iP
    rw [hfl, b0, b1, b2, b3, b4, b5, b7, e 1 (by omega) (by omega) (by omega) (by omega), e 2 (by omega) (by omega) (by omega) (by omega), e ((248 + 20 * f + 0)) (by omega) (by omega) (by omega) (by omega)]
    omega
  · unfold bornN
    refine nBd_uA (nBd_uA (nBd_uA (nBd_uA (nBd_uA (nBd_uA (nBd_uA (nBd_uA (nBd_uA (nBd_uA h.B ?_) ?_) ?_) ?_) ?_) ?_) ?_) ?_) ?_) ?_ <;> omega
theorem iN.send (h : iN X N) {f : Nat} (hf : (f : Int) < nA N 1) (hm : mayN N f = true) (hS : nA N ((248 + 20 * f + 8)) < 80000) : iN X (sendN N f) := by
  have hb := h.begot hf hm hS
  have h1 := h.H.2.1
  have hF := h.F f hf
  have F2 := hF.2.1 0 (by have := hF.1; omega)
  have e0 : nA (bornN N f) 0 = nA N 0 := bornN_ne (by omega) (by omega) (by omega) (by omega)
  have ef : nA (bornN N f) ((248 + 20 * f + 0)) = nA N ((248 + 20 * f + 0)) := bornN_ne (by omega) (by omega) (by omega) (by omega)
  have hop : (hopN N f 0 : Int) < nA N 0 := by unfold hopN; omega
  have F1 := hF.1
  have c1 : (hopN N f 0 : Int) < nA (bornN N f) 0 := by rw [e0]; exact hop
  have c2 : nA (bornN N f) ((368 + 8 * (freeN N) + 2)) < nA (bornN N f) ((248 + 20 * (flN (bornN N f) (freeN N)) + 0)) := by
    rw [hb.2.2.2.1, hb.2.2.2.2, ef]
    omega
  rw [sendN_eq]
  split
  · have hE : iN (freeN N :: X) (evN (bornN N f) 3 (-1) f) := hb.2.2.1.ev
    exact hE.come (by rw [nA_ev]; exact c1) (by rw [nA_ev, flN_ev, nA_ev]; exact c2)
  · exact hb.2.2.1.come c1 c2
end I5
