section I15
variable {N : nT}
def tk0 (N : nT) : nT := uA N 2 (nA N 2 + 1)
def tk1 (N : nT) : nT := allRetN (tk0 N)
def tk2 (N : nT) : nT := (List.range (nA N 0).toNat).foldl wireN (tk1 N)
def tk3 (N : nT) : nT := sendAllN (tk2 N) (nA N 1).toNat
def tk4 (N : nT) : nT := (List.range (nA N 0).toNat).foldl rowN (tk3 N)
def tk5 (N : nT) : nT := (List.range (nA N 0).toNat).foldl dueN (tk4 N)
theorem tickN_eq (N : nT) : tickN N = pastN (tk5 N) := rfl
theorem kp.q {N' : nT} (h : kp N N') (s : ks N N') : kq N N' := ⟨h.1, s⟩
theorem iT.go0 (h : iT N) (ht : nA N 2 < 39990) : iN [] (tk0 N) ∧ nA (tk0 N) 2 = nA N 2 + 1 ∧ (∀ k, k ≠ 2 → nA (tk0 N) k = nA N k) ∧ ∀ a : Nat, a < 6 → iW (tk0 N) a (nA N 2 + 1) (nA N 2 + nA N ((8 + 40 * a + 1))) := by
  have e : ∀ k, k ≠ 2 → nA (tk0 N) k = nA N k := fun k hk => nA_ne hk
  refine ⟨h.1.now (by omega), nA_eq, e, fun a ha => ?_⟩
  exact iW_same (N := N) rfl (fun k hk => e k (by omega)) (h.2.2.2 a ha)
theorem iT.go1 (h : iT N) (ht : nA N 2 < 39990) : iN [] (tk1 N) ∧ kp (tk0 N) (tk1 N) ∧ ks (tk0 N) (tk1 N) := (h.go0 ht).1.allRet
theorem iT.go2 (h : iT N) (ht : nA N 2 < 39990) : iN [] (tk2 N) ∧ kp (tk0 N) (tk2 N) ∧ ks (tk0 N) (tk2 N) ∧ ∀ a : Nat, a < 6 → iW (tk2 N) a (nA N 2 + 2) (nA N 2 + nA N ((8 + 40 * a + 1))) := by
  have h0 := h.1.H.1
  have g0 := h.go0 ht
  have g1 := h.go1 ht
  have e2 : nA (tk1 N) 2 = nA N 2 + 1 := (g1.2.1.1 2 (Or.inr rfl)).trans g0.2.1
  have e0 : nA (tk1 N) 0 = nA N 0 := (g1.2.1.1 0 (Or.inl (by unfold stK; omega))).trans (g0.2.2.1 0 (by omega))
  have w := g1.1.wires (hi := fun a => nA N 2 + nA N ((8 + 40 * a + 1))) (fun a ha => by rw [e2]; exact g1.2.1.W ha (g0.2.2.2 a ha)) (nA N 0).toNat (by omega)
  obtain ⟨w0, w1, w2, w3, w4⟩ := w
  refine ⟨w0, g1.2.1.tr w1, g1.2.2.tr w2, fun a ha => ?_⟩
  by_cases c : a < (nA N 0).toNat
  · have q := w3 a c
    rw [e2] at q
    rw [show nA N 2 + 2 = nA N 2 + 1 + 1 by omega]
    exact q
  · refine iW_nil ?_
    have q := (w1.1 0 (Or.inl (by unfold stK; omega))).trans e0
    exact (w0.Z a ha (by rw [q]; omega)).2
theorem iT.go3 (h : iT N) (ht : nA N 2 < 39990) : iN [] (tk3 N) ∧ kp (tk0 N) (tk3 N) ∧ (∀ f, f < 6 → nA (tk3 N) ((248 + 20 * f + 8)) ≤ nA N ((248 + 20 * f + 8)) + 2) ∧ ∀ a : Nat, a < 6 → iW (tk3 N) a (nA N 2 + 2) (nA N 2 + nA N ((8 + 40 * a + 1))) := by
  have g0 := h.go0 ht
  have g2 := h.go2 ht
  have h1 := h.1.H.2.1
  have e1 : nA (tk2 N) 1 = nA N 1 := (g2.2.1.1 1 (Or.inl (by unfold stK; omega))).trans (g0.2.2.1 1 (by omega))
  have e8 : ∀ f, f < 6 → nA (tk2 N) ((248 + 20 * f + 8)) = nA N ((248 + 20 * f + 8)) := fun f hf => (g2.2.2.1 f hf).trans (g0.2.2.1 _ (by omega))
  have s := g2.1.sendAll (fun f hf => by rw [e8 f hf]; have := h.2.1 f hf; omega) (nA N 1).toNat (by omega)
  refine ⟨s.1, g2.2.1.tr s.2.1, fun f hf => ?_, fun a ha => s.2.1.W ha (g2.2.2.2 a ha)⟩
  have q := s.2.2.1 f hf
  rw [e8 f hf] at q
  exact q
theorem iT.go4 (h : iT N) (ht : nA N 2 < 39990) : iN [] (tk4 N) ∧ kq (tk3 N) (tk4 N) ∧ (∀ a, a < 6 → nA (tk4 N) ((8 + 40 * a + 16)) ≤ nA N ((8 + 40 * a + 16)) + 9) ∧ ∀ a : Nat, a < 6 → iW (tk4 N) a (nA N 2 + 2) (nA N 2 + 1 + nA N ((8 + 40 * a + 1))) := by
  have g0 := h.go0 ht
  have g3 := h.go3 ht
  have h0 := h.1.H.1
  have e2 : nA (tk3 N) 2 = nA N 2 + 1 := (g3.2.1.1 2 (Or.inr rfl)).trans g0.2.1
  have e0 : nA (tk3 N) 0 = nA N 0 := (g3.2.1.1 0 (Or.inl (by unfold stK; omega))).trans (g0.2.2.1 0 (by omega))
  have el : ∀ a, a < 6 → nA (tk3 N) ((8 + 40 * a + 1)) = nA N ((8 + 40 * a + 1)) := fun a ha => (g3.2.1.1 _ (Or.inl (by unfold stK; omega))).trans (g0.2.2.1 _ (by omega))
  have e16 : ∀ a, a < 6 → nA (tk3 N) ((8 + 40 * a + 16)) = nA N ((8 + 40 * a + 16)) := fun a ha => (g3.2.1.2.1 a ha).trans (g0.2.2.1 _ (by omega))
  obtain ⟨r0, r1, r2, r3, r4, r5⟩ := g3.1.rows (fun a ha => by rw [e16 a ha]; have := h.2.2.1 a ha; omega) (fun a ha => by
    have ha6 : a < 6 := by omega
    rw [e2, el a ha6, show nA N 2 + 1 + 1 = nA N 2 + 2 by omega, show nA N 2 + 1 - 1 = nA N 2 by omega]
    exact g3.2.2.2 a ha6) (nA N 0).toNat (by omega)
  refine ⟨r0, r1, fun a ha => ?_, fun a ha => ?_⟩
  · have q := r2 a ha
    rw [e16 a ha] at q
    exact q
  · by_cases c : a < (nA N 0).toNat
    · have q := r4 a c
      rw [e2, el a ha, show nA N 2 + 1 + 1 = nA N 2 + 2 by omega] at q
      exact q
    · refine iW_nil ?_
      have q := (r1.1 0 (Or.inl (by unfold stK; omega))).trans e0
      exact (r0.Z a ha (by rw [q]; omega)).2
theorem iT.tick (h : iT N) (ht : nA N 2 < 39990) : iT (tickN N) ∧ nA (tickN N) 2 = nA N 2 + 1 ∧ ∀ k, stK k → nA (tickN N) k = nA N k := by
  have g0 := h.go0 ht
  have g3 := h.go3 ht
  have g4 := h.go4 ht
  have h0 := h.1.H.1
  have s04 : ∀ k, stK k ∨ k = 2 → nA (tk4 N) k = nA (tk0 N) k := fun k hk => (g4.2.1.1 k hk).trans (g3.2.1.1 k hk)
  have e0 : nA (tk4 N) 0 = nA N 0 := (s04 0 (Or.inl (by unfold stK; omega))).trans (g0.2.2.1 0 (by omega))
  obtain ⟨r0, r1, r2, r3, r4⟩ := g4.1.spends (nA N 0).toNat (by omega)
  have f2 : nA (tickN N) 2 = nA N 2 + 1 := ((r1.1 2 (Or.inr rfl)).trans (s04 2 (Or.inr rfl))).trans g0.2.1
  have fs : ∀ k, stK k → nA (tickN N) k = nA N k := fun k hk => ((r1.1 k (Or.inl hk)).trans (s04 k (Or.inl hk))).trans (g0.2.2.1 k (by unfold stK at hk; omega))
  refine ⟨⟨r0.past, fun f hf => ?_, fun a ha => ?_, fun a ha => ?_⟩, f2, fs⟩
  · rw [f2]
    have q1 : nA (tickN N) ((248 + 20 * f + 8)) = nA (tk3 N) ((248 + 20 * f + 8)) := (r1.2 f hf).trans (g4.2.1.2 f hf)
    have q2 := g3.2.2.1 f hf
    have q3 := h.2.1 f hf
    omega
  · rw [f2]
    have q1 : nA (tickN N) ((8 + 40 * a + 16)) ≤ nA (tk4 N) ((8 + 40 * a + 16)) := r2 a ha
    have q2 := g4.2.2.1 a ha
    have q3 := h.2.2.1 a ha
    omega
  · rw [f2, fs ((8 + 40 * a + 1)) (by unfold stK; omega), show nA N 2 + 1 + 1 = nA N 2 + 2 by omega]
    exact iW_same (N := tk4 N) (N' := tickN N) r3 r4 (g4.2.2.2 a ha)
end I15
