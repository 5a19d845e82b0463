section ST
variable {N : nT} {X : List Nat}
theorem iN.len81 {M : nT} (h : iN X M) (k : ∀ a : Nat, (a : Int) < nA M 0 → ∃ lo hi, iW M a lo hi ∧ hi < lo + 9) : ∀ a, a < 6 → (nW M a).length ≤ 81 := by
  intro a ha
  by_cases c : (a : Int) < nA M 0
  · obtain ⟨lo, hi, w, q⟩ := k a c
    have := w.len (n := 9) q
    omega
  · rw [(h.Z a ha (by omega)).2]
    exact Nat.zero_le _
theorem iN.lag (h : iN X N) {a : Nat} (ha : (a : Int) < nA N 0) : nA N ((8 + 40 * a + 1)) ≤ 9 := (h.L a ha).1.2.1.2
theorem iT.s0 (h : iT N) : ∀ a, a < 6 → (nW N a).length ≤ 81 := h.1.len81 (fun a ha => ⟨_, _, h.2.2.2 a (by have := h.1.H.1; omega), by have := h.1.lag ha; omega⟩)
theorem iT.s1 (h : iT N) (ht : nA N 2 < 39990) : ∀ a, a < 6 → (nW (tk1 N) a).length ≤ 81 := fun a ha => Nat.le_trans ((h.go1 ht).2.1.2.2.1 a ha).1.length_le (h.s0 a ha)
theorem iT.s2 (h : iT N) (ht : nA N 2 < 39990) {i : Nat} (hi : (i : Int) ≤ nA N 0) : iN [] ((List.range i).foldl wireN (tk1 N)) ∧ (∀ a, a < 6 → (nW ((List.range i).foldl wireN (tk1 N)) a).length ≤ 81) ∧ nA ((List.range i).foldl wireN (tk1 N)) 0 = nA N 0 := by
  have h0 := h.1.H.1
  have g0 := h.go0 ht
  have g1 := h.go1 ht
  have e2 : nA (tk1 N) 2 = nA N 2 + 1 := (g1.2.1.1 2 (Or.inr rfl)).trans g0.2.1
  have e0 : nA (tk1 N) 0 = nA N 0 := (g1.2.1.1 0 (Or.inl (by unfold stK; omega))).trans (g0.2.2.1 0 (by omega))
  have w := g1.1.wires (hi := fun a => nA N 2 + nA N ((8 + 40 * a + 1))) (fun a ha => by rw [e2]; exact g1.2.1.W ha (g0.2.2.2 a ha)) i (by omega)
  obtain ⟨w0, w1, -⟩ := w
  exact ⟨w0, fun a ha => Nat.le_trans (w1.2.2.1 a ha).1.length_le (h.s1 ht a ha), (w1.1 0 (Or.inl (by unfold stK; omega))).trans e0⟩
theorem iT.s3 (h : iT N) (ht : nA N 2 < 39990) {i : Nat} (hi : (i : Int) ≤ nA N 1) : iN [] (sendAllN (tk2 N) i) ∧ (∀ a, a < 6 → (nW (sendAllN (tk2 N) i) a).length ≤ 81) ∧ nA (sendAllN (tk2 N) i) 1 = nA N 1 ∧ ∀ f, f < 6 → nA (sendAllN (tk2 N) i) ((248 + 20 * f + 8)) < 79999 := by
  have h1 := h.1.H.2.1
  have g0 := h.go0 ht
  have g2 := h.go2 ht
  have e1 : nA (tk2 N) 1 = nA N 1 := (g2.2.1.1 1 (Or.inl (by unfold stK; omega))).trans (g0.2.2.1 1 (by omega))
  have e8 : ∀ f, f < 6 → nA (tk2 N) ((248 + 20 * f + 8)) = nA N ((248 + 20 * f + 8)) := fun f hf => (g2.2.2.1 f hf).trans (g0.2.2.1 _ (by omega))
  have s := g2.1.sendAll (fun f hf => by rw [e8 f hf]; have := h.2.1 f hf; omega) i (by omega)
  refine ⟨s.1, fun a ha => ?_, (s.2.1.1 1 (Or.inl (by unfold stK; omega))).trans e1, fun f hf => ?_⟩
  · have q := h.s2 ht (i := (nA N 0).toNat) (by have := h.1.H.1; omega)
    exact Nat.le_trans (s.2.1.2.2.1 a ha).1.length_le (q.2.1 a ha)
  · have q := s.2.2.1 f hf
    have := h.2.1 f hf
    rw [e8 f hf] at q
    omega
theorem iT.s4 (h : iT N) (ht : nA N 2 < 39990) {i : Nat} (hi : (i : Int) ≤ nA N 0) : iN [] ((List.range i).foldl rowN (tk3 N)) ∧ (∀ a, a < 6 → (nW ((List.range i).foldl rowN (tk3 N)) a).length ≤ 81) ∧ nA ((List.range i).foldl rowN (tk3 N)) 0 = nA N 0 ∧ ∀ a, a < 6 → i ≤ a → nA ((List.range i).foldl rowN (tk3 N)) ((8 + 40 * a + 16)) ≤ 359990 := by
  have h0 := h.1.H.1
  have g0 := h.go0 ht
  have g3 := h.go3 ht
  have e2 : nA (tk3 N) 2 = nA N 2 + 1 := (g3.2.1.1 2 (Or.inr rfl)).trans g0.2.1
  have e0 : nA (tk3 N) 0 = nA N 0 := (g3.2.1.1 0 (Or.inl (by unfold stK; omega))).trans (g0.2.2.1 0 (by omega))
  have el : ∀ a, a < 6 → nA (tk3 N) ((8 + 40 * a + 1)) = nA N ((8 + 40 * a + 1)) := fun a ha => (g3.2.1.1 _ (Or.inl (by unfold stK; omega))).trans (g0.2.2.1 _ (by omega))
  have e16 : ∀ a, a < 6 → nA (tk3 N) ((8 + 40 * a + 16)) = nA N ((8 + 40 * a + 16)) := fun a ha => (g3.2.1.2.1 a ha).trans (g0.2.2.1 _ (by omega))
  obtain ⟨r0, r1, r2, r3, r4, r5⟩ := g3.1.rows (fun a ha => by rw [e16 a ha]; have := h.2.2.1 a ha; omega) (fun a ha => by
    have ha6 : a < 6 := by omega
    rw [e2, el a ha6, show nA N 2 + 1 + 1 = nA N 2 + 2 by omega, show nA N 2 + 1 - 1 = nA N 2 by omega]
    exact g3.2.2.2 a ha6) i (by omega)
  have z0 : nA ((List.range i).foldl rowN (tk3 N)) 0 = nA N 0 := (r1.1 0 (Or.inl (by unfold stK; omega))).trans e0
  refine ⟨r0, r0.len81 (fun a ha => ?_), z0, fun a ha hia => ?_⟩
  · rw [z0] at ha
    have hl := h.1.lag ha
    have a6 : a < 6 := by omega
    by_cases c : a < i
    · exact ⟨_, _, r4 a c, by rw [el a a6]; omega⟩
    · exact ⟨_, _, r5 a (by omega) (by rw [e0]; exact ha), by rw [el a a6]; omega⟩
  · rw [r3 a ha hia, e16 a ha]
    have := h.2.2.1 a ha
    omega
theorem iT.s5 (h : iT N) (ht : nA N 2 < 39990) {i : Nat} (hi : (i : Int) ≤ nA N 0) : iN [] ((List.range i).foldl dueN (tk4 N)) ∧ (∀ a, a < 6 → (nW ((List.range i).foldl dueN (tk4 N)) a).length ≤ 81) ∧ nA ((List.range i).foldl dueN (tk4 N)) 0 = nA N 0 := by
  have h0 := h.1.H.1
  have g4 := h.go4 ht
  have s4 := h.s4 ht (i := (nA N 0).toNat) (by omega)
  obtain ⟨r0, r1, r2, r3, r4⟩ := g4.1.spends i (by have := s4.2.2.1; unfold tk4; omega)
  exact ⟨r0, fun a ha => by rw [r3]; exact s4.2.1 a ha, (r1.1 0 (Or.inl (by unfold stK; omega))).trans s4.2.2.1⟩
end ST
