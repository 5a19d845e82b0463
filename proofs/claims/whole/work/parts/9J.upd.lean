section QL
variable {N : nT} {X : List Nat} {f : Nat}
theorem iN.uF {j : Nat} {z : Int} (h : iN X N) (hf : (f : Int) < nA N 1) (hj : (j = 1 ∧ 0 ≤ z ∧ z ≤ 9999) ∨ (j = 2 ∧ 0 ≤ z ∧ z ≤ 3) ∨ (j = 3 ∧ (z = 0 ∨ z = 1)) ∨ (12 ≤ j ∧ j < 16 ∧ 0 ≤ z ∧ z < nA N 0)) : iN X (uA N ((248 + 20 * f + j)) z) := by
  have H0 := h.H.1
  have H1 := h.H.2.1
  have f6 : f < 6 := by omega
  have e : ∀ k, k ≠ (248 + 20 * f + j) → nA (uA N ((248 + 20 * f + j)) z) k = nA N k := fun k hk => nA_ne hk
  have efl : ∀ x, flN (uA N ((248 + 20 * f + j)) z) x = flN N x := fun x => by unfold flN; rw [e _ (by omega)]
  refine ⟨?_, nBd_uA h.B (by omega), fun x => ?_, fun g hg => ?_, fun g hg => ?_, fun a ha => ?_, fun x hx hl => ?_, fun a ha x hx => ?_, h.E, fun a ha q => ?_⟩
  · unfold iH
    rw [e 0 (by omega), e 1 (by omega), e 2 (by omega), e 7 (by omega)]
    exact h.H
  · have c := h.C x
    show nC X N x = _
    rw [c, e _ (by omega)]
  · have y := h.Y g hg
    unfold nFly at *
    rw [e _ (by omega)]
    have : ((List.range 480).countP fun x => decide (nA (uA N ((248 + 20 * f + j)) z) ((368 + 8 * x + 0)) = (g : Int) + 1)) = (List.range 480).countP fun x => decide (nA N ((368 + 8 * x + 0)) = (g : Int) + 1) := by
      apply List.countP_congr
      intro x _
      rw [e _ (by omega)]
    rw [this]
    exact y
  · rw [e 1 (by omega)] at hg
    have F := h.F g hg
    by_cases c : g = f
    · subst c
      have F1 := F.1
      unfold iF
      rw [e 0 (by omega), e ((248 + 20 * g + 0)) (by omega), e ((248 + 20 * g + 5)) (by omega), e ((248 + 20 * g + 7)) (by omega), e ((248 + 20 * g + 9)) (by omega), e ((248 + 20 * g + 10)) (by omega), e ((248 + 20 * g + 8)) (by omega), e ((248 + 20 * g + 6)) (by omega)]
      refine ⟨F.1, fun i hi => ?_, ?_, ?_, ?_, F.2.2.2.2.2⟩
      · by_cases d : j = 12 + i
        · subst d; rw [nA_eq]; omega
        · rw [e _ (by omega)]; exact F.2.1 i hi
      · by_cases d : j = 1
        · subst d; rw [nA_eq]; omega
        · rw [e _ (by omega)]; exact F.2.2.1
      · by_cases d : j = 2
        · subst d; rw [nA_eq]; omega
        · rw [e _ (by omega)]; exact F.2.2.2.1
      · by_cases d : j = 3
        · subst d; rw [nA_eq]; omega
        · rw [e _ (by omega)]; exact F.2.2.2.2.1
    · unfold iF
      rw [e 0 (by omega), e ((248 + 20 * g + 0)) (by omega), e ((248 + 20 * g + 1)) (by omega), e ((248 + 20 * g + 2)) (by omega), e ((248 + 20 * g + 3)) (by omega), e ((248 + 20 * g + 5)) (by omega), e ((248 + 20 * g + 7)) (by omega), e ((248 + 20 * g + 9)) (by omega), e ((248 + 20 * g + 10)) (by omega), e ((248 + 20 * g + 8)) (by omega), e ((248 + 20 * g + 6)) (by omega)]
      refine ⟨F.1, fun i hi => ?_, F.2.2⟩
      have F1 := F.1
      rw [e _ (by omega)]
      exact F.2.1 i hi
  · rw [e 0 (by omega)] at ha
    have q := h.L a ha
    unfold iL at *
    simp only [show ∀ k, k < 248 → nA (uA N ((248 + 20 * f + j)) z) k = nA N k from fun k hk => e k (by omega), show (1 : Nat) < 248 by decide, show 8 + 40 * a + 0 < 248 by omega, show 8 + 40 * a + 1 < 248 by omega, show 8 + 40 * a + 2 < 248 by omega, show 8 + 40 * a + 3 < 248 by omega, show 8 + 40 * a + 6 < 248 by omega, show 8 + 40 * a + 7 < 248 by omega, show 8 + 40 * a + 8 < 248 by omega, show 8 + 40 * a + 9 < 248 by omega, show 8 + 40 * a + 10 < 248 by omega, show 8 + 40 * a + 11 < 248 by omega, show 8 + 40 * a + 12 < 248 by omega, show 8 + 40 * a + 13 < 248 by omega, show 8 + 40 * a + 14 < 248 by omega, show 8 + 40 * a + 15 < 248 by omega, show 8 + 40 * a + 16 < 248 by omega, show 8 + 40 * a + 17 < 248 by omega, show 8 + 40 * a + 18 < 248 by omega]
    refine ⟨q.1, q.2.1, q.2.2.1, q.2.2.2.1, fun g hg => ?_⟩
    rw [e _ (by omega), e _ (by omega), e _ (by omega)]
    exact q.2.2.2.2 g hg
  · rw [e _ (by omega)] at hl
    have P := h.P x hx hl
    have fl := h.fl hx hl
    have l6 := fl.2.2
    unfold iP at *
    rw [efl, e ((368 + 8 * x + 0)) (by omega), e 1 (by omega), e ((368 + 8 * x + 1)) (by omega), e 2 (by omega), e ((368 + 8 * x + 2)) (by omega), e ((248 + 20 * (flN N x) + 0)) (by omega), e ((368 + 8 * x + 3)) (by omega), e ((368 + 8 * x + 4)) (by omega), e ((368 + 8 * x + 5)) (by omega), e ((368 + 8 * x + 7)) (by omega)]
    exact P
  · have q := h.O a ha x hx
    have lv : x < 480 ∧ 0 < nA N ((368 + 8 * x + 0)) := h.memRW ha hx
    have l6 := (h.fl lv.1 lv.2).2.2
    rw [efl, e _ (by omega), e _ (by omega)]
    exact q
  · rw [e 0 (by omega)] at q
    exact h.Z a ha q
theorem iT.uF {j : Nat} {z : Int} (h : iT N) (hf : (f : Int) < nA N 1) (hj : (j = 1 ∧ 0 ≤ z ∧ z ≤ 9999) ∨ (j = 2 ∧ 0 ≤ z ∧ z ≤ 3) ∨ (j = 3 ∧ (z = 0 ∨ z = 1)) ∨ (12 ≤ j ∧ j < 16 ∧ 0 ≤ z ∧ z < nA N 0)) : iT (uA N ((248 + 20 * f + j)) z) := by
  have H1 := h.1.H.2.1
  have e : ∀ k, k ≠ (248 + 20 * f + j) → nA (uA N ((248 + 20 * f + j)) z) k = nA N k := fun k hk => nA_ne hk
  refine ⟨h.1.uF hf hj, fun g hg => ?_, fun a ha => ?_, fun a ha => ?_⟩
  · rw [e _ (by omega), e _ (by omega)]; exact h.2.1 g hg
  · rw [e _ (by omega), e _ (by omega)]; exact h.2.2.1 a ha
  · rw [e _ (by omega), e _ (by omega)]
    exact iW_same (N := N) rfl (fun k hk => e k (by omega)) (h.2.2.2 a ha)
theorem iT.uL {a j : Nat} {z : Int} (h : iT N) (ha : (a : Int) < nA N 0) (hj : (j = 0 ∧ 1 ≤ z ∧ z ≤ 9) ∨ (j = 2 ∧ 1 ≤ z ∧ z ≤ 60) ∨ (j = 3 ∧ 2 ≤ z ∧ z ≤ 30)) : iT (uA N ((8 + 40 * a + j)) z) := by
  have H0 := h.1.H.1
  have a6 : a < 6 := by omega
  have e : ∀ k, k ≠ (8 + 40 * a + j) → nA (uA N ((8 + 40 * a + j)) z) k = nA N k := fun k hk => nA_ne hk
  have q := h.1.L a ha
  have L : iL (uA N ((8 + 40 * a + j)) z) a := by
    unfold iL at *
    rw [e 1 (by omega), e ((8 + 40 * a + 1)) (by omega), e ((8 + 40 * a + 6)) (by omega), e ((8 + 40 * a + 7)) (by omega), e ((8 + 40 * a + 8)) (by omega), e ((8 + 40 * a + 9)) (by omega), e ((8 + 40 * a + 10)) (by omega), e ((8 + 40 * a + 11)) (by omega), e ((8 + 40 * a + 12)) (by omega), e ((8 + 40 * a + 13)) (by omega), e ((8 + 40 * a + 14)) (by omega), e ((8 + 40 * a + 15)) (by omega), e ((8 + 40 * a + 16)) (by omega), e ((8 + 40 * a + 17)) (by omega), e ((8 + 40 * a + 18)) (by omega)]
    refine ⟨⟨?_, q.1.2.1, ?_, ?_⟩, q.2.1, q.2.2.1, q.2.2.2.1, fun g hg => ?_⟩
    · by_cases d : j = 0
      · subst d; rw [nA_eq]; omega
      · rw [e _ (by omega)]; exact q.1.1
    · by_cases d : j = 2
      · subst d; rw [nA_eq]; omega
      · rw [e _ (by omega)]; exact q.1.2.2.1
    · by_cases d : j = 3
      · subst d; rw [nA_eq]; omega
      · rw [e _ (by omega)]; exact q.1.2.2.2
    · rw [e _ (by omega), e _ (by omega), e _ (by omega)]
      exact q.2.2.2.2 g hg
  refine ⟨h.1.link (fun k hk => e k (by omega)) ha L (nBd_uA h.1.B (by omega)) rfl rfl rfl h.1.E.1 rfl, fun g hg => ?_, fun c hc => ?_, fun c hc => ?_⟩
  · rw [e _ (by omega), e _ (by omega)]; exact h.2.1 g hg
  · rw [e _ (by omega), e _ (by omega)]; exact h.2.2.1 c hc
  · rw [e _ (by omega), e _ (by omega)]
    exact iW_same (N := N) rfl (fun k hk => e k (by omega)) (h.2.2.2 c hc)
end QL
