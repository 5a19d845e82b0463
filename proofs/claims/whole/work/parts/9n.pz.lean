/-! WHAT A TEXT MAKES OF A NET keeps what always holds -/
section PZ
variable {t : Nat → Nat} {n : Nat} {T T' : tkT} {N N' M : nT} {f a : Nat}
def lkZ (N : nT) (a : Nat) : Prop := ((1 ≤ nA N (8 + 40 * a + 0) ∧ nA N (8 + 40 * a + 0) ≤ 9) ∧ (1 ≤ nA N (8 + 40 * a + 1) ∧ nA N (8 + 40 * a + 1) ≤ 9) ∧ (1 ≤ nA N (8 + 40 * a + 2) ∧ nA N (8 + 40 * a + 2) ≤ 60) ∧ (2 ≤ nA N (8 + 40 * a + 3) ∧ nA N (8 + 40 * a + 3) ≤ 30)) ∧ nA N (8 + 40 * a + 7) = nA N (8 + 40 * a + 2) ∧ nA N (8 + 40 * a + 10) = 1 ∧ nA N (8 + 40 * a + 11) = 1 ∧ ∀ j, 4 ≤ j → j < 40 → j ≠ 7 → j ≠ 10 → j ≠ 11 → nA N (8 + 40 * a + j) = 0
def flZ (N : nT) (f : Nat) : Prop := (1 ≤ nA N (248 + 20 * f + 0) ∧ nA N (248 + 20 * f + 0) ≤ 4) ∧ (∀ i : Nat, (i : Int) < nA N (248 + 20 * f + 0) → 0 ≤ nA N (248 + 20 * f + (12 + i)) ∧ nA N (248 + 20 * f + (12 + i)) < nA N 0) ∧ (0 ≤ nA N (248 + 20 * f + 1) ∧ nA N (248 + 20 * f + 1) ≤ 9999) ∧ (0 ≤ nA N (248 + 20 * f + 2) ∧ nA N (248 + 20 * f + 2) ≤ 3) ∧ (nA N (248 + 20 * f + 3) = 0 ∨ nA N (248 + 20 * f + 3) = 1) ∧ nA N (248 + 20 * f + 5) = 200 ∧ nA N (248 + 20 * f + 7) = 2 * backN N f ∧ (∀ j, (j = 4 ∨ j = 6 ∨ (8 ≤ j ∧ j < 12)) → nA N (248 + 20 * f + j) = 0) ∧ ∀ j, 12 ≤ j → j < 20 → 0 ≤ nA N (248 + 20 * f + j) ∧ nA N (248 + 20 * f + j) ≤ 6
def pz (N : nT) : Prop := (0 ≤ nA N 0 ∧ nA N 0 ≤ 6) ∧ (0 ≤ nA N 1 ∧ nA N 1 ≤ 6) ∧ (∀ k, (k = 2 ∨ (4 ≤ k ∧ k < 8) ∨ 368 ≤ k) → nA N k = 0) ∧ (∀ k, 8 + 40 * nLk N ≤ k → k < 248 → nA N k = 0) ∧ (∀ k, 248 + 20 * nFw N ≤ k → k < 368 → nA N k = 0) ∧ (∀ a : Nat, (a : Int) < nA N 0 → lkZ N a) ∧ (∀ f : Nat, (f : Int) < nA N 1 → flZ N f) ∧ N.2 = (fun _ => [], fun _ => [], [], [], [])
theorem lkZ.cg (h : lkZ N a) (e : ∀ j, j < 40 → nA N' (8 + 40 * a + j) = nA N (8 + 40 * a + j)) : lkZ N' a := by
  obtain ⟨h1, h2, h3, h4, h5⟩ := h
  refine ⟨?_, ?_, ?_, ?_, fun j j4 j40 a1 a2 a3 => ?_⟩
  · rw [e 0 (by omega), e 1 (by omega), e 2 (by omega), e 3 (by omega)]; exact h1
  · rw [e 7 (by omega), e 2 (by omega)]; exact h2
  · rw [e 10 (by omega)]; exact h3
  · rw [e 11 (by omega)]; exact h4
  · rw [e j j40]; exact h5 j j4 j40 a1 a2 a3
theorem backN_pt (e0 : nA N' (248 + 20 * f + 0) = nA N (248 + 20 * f + 0)) (e : ∀ i : Nat, (i : Int) < nA N (248 + 20 * f + 0) → nA N' (248 + 20 * f + (12 + i)) = nA N (248 + 20 * f + (12 + i)) ∧ nA N' (8 + 40 * hopN N f i + 1) = nA N (8 + 40 * hopN N f i + 1)) : backN N' f = backN N f := by
  unfold backN
  rw [e0]
  apply congrArg List.sum
  apply List.map_congr_left
  intro i hi
  have hi := List.mem_range.mp hi
  obtain ⟨e1, e2⟩ := e i (by omega)
  have q : hopN N' f i = hopN N f i := by unfold hopN; rw [e1]
  rw [q]
  exact e2
theorem flZ.cg (h : flZ N f) (e : ∀ j, j < 20 → nA N' (248 + 20 * f + j) = nA N (248 + 20 * f + j)) (e0 : nA N 0 ≤ nA N' 0) (el : ∀ c : Nat, (c : Int) < nA N 0 → nA N' (8 + 40 * c + 1) = nA N (8 + 40 * c + 1)) : flZ N' f := by
  obtain ⟨h1, h2, h3, h4, h5, h6, h7, h8, h9⟩ := h
  have eb : backN N' f = backN N f := backN_pt (e 0 (by omega)) (fun i hi => ⟨e (12 + i) (by omega), el _ (by have := h2 i hi; unfold hopN; omega)⟩)
  refine ⟨?_, fun i hi => ?_, ?_, ?_, ?_, ?_, ?_, fun j hj => ?_, fun j j1 j2 => by rw [e j j2]; exact h9 j j1 j2⟩
  · rw [e 0 (by omega)]; exact h1
  · rw [e 0 (by omega)] at hi
    rw [e (12 + i) (by omega)]
    have := h2 i hi
    omega
  · rw [e 1 (by omega)]; exact h3
  · rw [e 2 (by omega)]; exact h4
  · rw [e 3 (by omega)]; exact h5
  · rw [e 5 (by omega)]; exact h6
  · rw [e 7 (by omega), eb]; exact h7
  · rw [e j (by omega)]; exact h8 j hj
theorem pz.zero {q : Int} : pz (zeN q) := by
  have z : ∀ k, k ≠ 3 → nA (zeN q) k = 0 := fun k hk => by unfold zeN nA; exact if_neg hk
  refine ⟨by rw [z 0 (by omega)]; omega, by rw [z 1 (by omega)]; omega, fun k hk => z k (by omega), fun k h1 h2 => z k (by omega), fun k h1 h2 => z k (by omega), fun a ha => ?_, fun f hf => ?_, rfl⟩
  · rw [z 0 (by omega)] at ha; omega
  · rw [z 1 (by omega)] at hf; omega
theorem nLk_lt (h : pz N) (h6 : ¬ nA N 0 = 6) : nLk N < 6 ∧ ((nLk N : Nat) : Int) = nA N 0 := by unfold nLk; have := h.1; omega
theorem nFw_lt (h : pz N) (h6 : ¬ nA N 1 = 6) : nFw N < 6 ∧ ((nFw N : Nat) : Int) = nA N 1 := by unfold nFw; have := h.2.1; omega
/-- a link more -/
theorem pz.lk (h : pz N) (h6 : ¬ nA N 0 = 6) (e : ∀ k, ¬ (8 + 40 * nLk N ≤ k ∧ k < 48 + 40 * nLk N) → nA M k = nA N k) (z : lkZ M (nLk N)) (e2 : M.2 = N.2) : pz (lkE N M) := by
  obtain ⟨l6, lq⟩ := nLk_lt h h6
  obtain ⟨p1, p2, p3, p4, p5, p6, p7, p8⟩ := h
  unfold lkE
  have e0 : nA (uA M 0 (nA N 0 + 1)) 0 = nA N 0 + 1 := nA_eq
  have en : ∀ k, k ≠ 0 → nA (uA M 0 (nA N 0 + 1)) k = nA M k := fun k hk => nA_ne hk
  have eL : nLk (uA M 0 (nA N 0 + 1)) = nLk N + 1 := by unfold nLk at *; rw [e0]; omega
  have eF : nFw (uA M 0 (nA N 0 + 1)) = nFw N := by unfold nFw; rw [en 1 (by omega), e 1 (by omega)]
  refine ⟨by rw [e0]; omega, by rw [en 1 (by omega), e 1 (by omega)]; exact p2, fun k hk => ?_, fun k h1 h2 => ?_, fun k h1 h2 => ?_, fun a ha => ?_, fun f hf => ?_, e2.trans p8⟩
  · rw [en k (by omega), e k (by omega)]; exact p3 k hk
  · rw [eL] at h1
    rw [en k (by omega), e k (by omega)]; exact p4 k (by omega) h2
  · rw [eF] at h1
    rw [en k (by omega), e k (by omega)]; exact p5 k h1 h2
  · rw [e0] at ha
    by_cases c : a = nLk N
    · subst c
      exact z.cg (fun j _ => en _ (by omega))
    · exact (p6 a (by omega)).cg (fun j hj => by rw [en _ (by omega), e _ (by omega)])
  · rw [en 1 (by omega), e 1 (by omega)] at hf
    exact (p7 f hf).cg (fun j hj => by rw [en _ (by omega), e _ (by omega)]) (by rw [e0]; omega) (fun c hc => by rw [en _ (by omega), e _ (by omega)])
/-- a flow more -/
theorem pz.fl (h : pz N) (h6 : ¬ nA N 1 = 6) (e : ∀ k, ¬ (248 + 20 * nFw N ≤ k ∧ k < 268 + 20 * nFw N) → nA M k = nA N k) (z : flZ M (nFw N)) (e2 : M.2 = N.2) : pz (flE M) := by
  obtain ⟨l6, lq⟩ := nFw_lt h h6
  obtain ⟨p1, p2, p3, p4, p5, p6, p7, p8⟩ := h
  unfold flE
  have e1 : nA M 1 = nA N 1 := e 1 (by omega)
  rw [e1]
  have e0 : nA (uA M 1 (nA N 1 + 1)) 1 = nA N 1 + 1 := nA_eq
  have en : ∀ k, k ≠ 1 → nA (uA M 1 (nA N 1 + 1)) k = nA M k := fun k hk => nA_ne hk
  have eF : nFw (uA M 1 (nA N 1 + 1)) = nFw N + 1 := by unfold nFw at *; rw [e0]; omega
  have eL : nLk (uA M 1 (nA N 1 + 1)) = nLk N := by unfold nLk; rw [en 0 (by omega), e 0 (by omega)]
  refine ⟨by rw [en 0 (by omega), e 0 (by omega)]; exact p1, by rw [e0]; omega, fun k hk => ?_, fun k h1 h2 => ?_, fun k h1 h2 => ?_, fun a ha => ?_, fun f hf => ?_, e2.trans p8⟩
  · rw [en k (by omega), e k (by omega)]; exact p3 k hk
  · rw [eL] at h1
    rw [en k (by omega), e k (by omega)]; exact p4 k h1 h2
  · rw [eF] at h1
    rw [en k (by omega), e k (by omega)]; exact p5 k (by omega) h2
  · rw [en 0 (by omega), e 0 (by omega)] at ha
    exact (p6 a ha).cg (fun j hj => by rw [en _ (by omega), e _ (by omega)])
  · rw [e0] at hf
    by_cases c : f = nFw N
    · subst c
      exact z.cg (fun j _ => en _ (by omega)) (by rw [en 0 (by omega)]; exact Int.le_refl _) (fun c hc => en _ (by omega))
    · exact (p7 f (by omega)).cg (fun j hj => by rw [en _ (by omega), e _ (by omega)]) (by rw [en 0 (by omega), e 0 (by omega)]; exact Int.le_refl _) (fun c hc => by rw [en _ (by omega), e _ (by have := p1; omega)])
theorem lk7_ne {v1 v2 v3 : Int} {k : Nat} (hk : ¬ (8 + 40 * a ≤ k ∧ k < 48 + 40 * a)) : nA (lk7 N a v1 v2 v3) k = nA N k := by
  unfold lk7
  rw [nA_ne (by omega), nA_ne (by omega), nA_ne (by omega), nA_ne (by omega), nA_ne (by omega), nA_ne (by omega), nA_ne (by omega)]
theorem lk7_at {v1 v2 v3 : Int} : nA (lk7 N a v1 v2 v3) (8 + 40 * a + 0) = v1 ∧ nA (lk7 N a v1 v2 v3) (8 + 40 * a + 1) = v2 ∧ nA (lk7 N a v1 v2 v3) (8 + 40 * a + 2) = v3 ∧ nA (lk7 N a v1 v2 v3) (8 + 40 * a + 3) = 10 ∧ nA (lk7 N a v1 v2 v3) (8 + 40 * a + 7) = v3 ∧ nA (lk7 N a v1 v2 v3) (8 + 40 * a + 10) = 1 ∧ nA (lk7 N a v1 v2 v3) (8 + 40 * a + 11) = 1 ∧ ∀ j, 4 ≤ j → j ≠ 7 → j ≠ 10 → j ≠ 11 → nA (lk7 N a v1 v2 v3) (8 + 40 * a + j) = nA N (8 + 40 * a + j) := by
  unfold lk7
  refine ⟨?_, ?_, ?_, ?_, ?_, ?_, ?_, fun j h4 h7 h10 h11 => ?_⟩
  · rw [nA_ne (by omega), nA_ne (by omega), nA_ne (by omega), nA_ne (by omega), nA_ne (by omega), nA_ne (by omega), nA_eq]
  · rw [nA_ne (by omega), nA_ne (by omega), nA_ne (by omega), nA_ne (by omega), nA_ne (by omega), nA_eq]
  · rw [nA_ne (by omega), nA_ne (by omega), nA_ne (by omega), nA_ne (by omega), nA_eq]
  · rw [nA_ne (by omega), nA_ne (by omega), nA_ne (by omega), nA_eq]
  · rw [nA_ne (by omega), nA_ne (by omega), nA_eq]
  · rw [nA_ne (by omega), nA_eq]
  · rw [nA_eq]
  · rw [nA_ne (by omega), nA_ne (by omega), nA_ne (by omega), nA_ne (by omega), nA_ne (by omega), nA_ne (by omega), nA_ne (by omega)]
theorem pz.link (h : pz N) (e : linkR t n T N = .inr (T', N')) : pz N' := by
  unfold linkR at e
  split at e
  · cases e
  · rename_i c6
    obtain ⟨l6, lq⟩ := nLk_lt h c6
    have z := h.2.2.2.1
    split at e
    · rename_i o1
      have o1 := okB_t o1
      split at e
      · rename_i o2
        have o2 := okB_t o2
        split at e
        · rename_i o3
          have o3 := okB_t o3
          split at e
          · split at e
            · rename_i o5
              have o5 := okB_t o5
              cases e
              obtain ⟨a0, a1, a2, a3, a7, a10, a11, ar⟩ := lk7_at (N := N) (a := nLk N) (v1 := (nxT t n T).2.2.2) (v2 := (nxT t n (nxT t n T)).2.2.2) (v3 := (nxT t n (nxT t n (nxT t n T))).2.2.2)
              refine h.lk c6 (fun k hk => by rw [nA_ne (by omega), lk7_ne hk]) ⟨⟨?_, ?_, ?_, ?_⟩, ?_, ?_, ?_, fun j h4 h40 h7 h10 h11 => ?_⟩ rfl
              · rw [nA_ne (by omega), a0]; exact o1.2
              · rw [nA_ne (by omega), a1]; exact o2.2
              · rw [nA_ne (by omega), a2]; exact o3.2
              · rw [nA_eq]; exact o5.2
              · rw [nA_ne (by omega), nA_ne (by omega), a7, a2]
              · rw [nA_ne (by omega), a10]
              · rw [nA_ne (by omega), a11]
              · rw [nA_ne (by omega), ar j h4 h7 h10 h11]; exact z _ (by omega) (by omega)
            · cases e
          · cases e
            obtain ⟨a0, a1, a2, a3, a7, a10, a11, ar⟩ := lk7_at (N := N) (a := nLk N) (v1 := (nxT t n T).2.2.2) (v2 := (nxT t n (nxT t n T)).2.2.2) (v3 := (nxT t n (nxT t n (nxT t n T))).2.2.2)
            refine h.lk c6 (fun k hk => by rw [lk7_ne hk]) ⟨⟨?_, ?_, ?_, ?_⟩, ?_, ?_, ?_, fun j h4 h40 h7 h10 h11 => ?_⟩ rfl
            · rw [a0]; exact o1.2
            · rw [a1]; exact o2.2
            · rw [a2]; exact o3.2
            · rw [a3]; omega
            · rw [a7, a2]
            · rw [a10]
            · rw [a11]
            · rw [ar j h4 h7 h10 h11]; exact z _ (by omega) (by omega)
        · cases e
      · cases e
    · cases e
/-- a path on its way: i links so far, all that there are -/
def hpZ (N M : nT) (f : Nat) : Prop := (∀ k, ¬ (248 + 20 * f ≤ k ∧ k < 268 + 20 * f) → nA M k = nA N k) ∧ M.2 = N.2 ∧ (0 ≤ nA M (248 + 20 * f + 0) ∧ nA M (248 + 20 * f + 0) ≤ 4) ∧ (∀ i : Nat, (i : Int) < nA M (248 + 20 * f + 0) → 0 ≤ nA M (248 + 20 * f + (12 + i)) ∧ nA M (248 + 20 * f + (12 + i)) < nA N 0) ∧ (∀ j, 1 ≤ j → j < 12 → nA M (248 + 20 * f + j) = 0) ∧ ∀ j, 12 ≤ j → j < 20 → 0 ≤ nA M (248 + 20 * f + j) ∧ nA M (248 + 20 * f + j) ≤ 6
theorem hpZ.start (h : pz N) (h6 : ¬ nA N 1 = 6) : hpZ N N (nFw N) ∧ nA N (248 + 20 * nFw N + 0) = 0 := by
  obtain ⟨l6, lq⟩ := nFw_lt h h6
  have z := h.2.2.2.2.1
  have z0 : nA N (248 + 20 * nFw N + 0) = 0 := z _ (by omega) (by omega)
  exact ⟨⟨fun _ _ => rfl, rfl, by rw [z0]; omega, fun i hi => by rw [z0] at hi; omega, fun j h1 h2 => z _ (by omega) (by omega), fun j h1 h2 => by rw [z _ (by omega) (by omega)]; omega⟩, z0⟩
theorem hpN_at {v : Int} {i : Nat} (ei : nA M (248 + 20 * f + 0) = (i : Int)) : nA (hpN M f v) (248 + 20 * f + 0) = (i : Int) + 1 ∧ nA (hpN M f v) (248 + 20 * f + (12 + i)) = v ∧ ∀ k, k ≠ 248 + 20 * f + 0 → k ≠ 248 + 20 * f + (12 + i) → nA (hpN M f v) k = nA M k := by
  unfold hpN
  rw [ei, Int.toNat_natCast]
  exact ⟨nA_eq, by rw [nA_ne (by omega), nA_eq], fun k h1 h2 => by rw [nA_ne h1, nA_ne h2]⟩
theorem hpZ.step {v : Int} (h : hpZ N M f) (n06 : nA N 0 ≤ 6) (v0 : 0 ≤ v) (v1 : v < nA N 0) (h4 : ¬ nA M (248 + 20 * f + 0) = 4) : hpZ N (hpN M f v) f := by
  obtain ⟨h1, h2, h3, h5, h6, h7⟩ := h
  obtain ⟨i, ei⟩ : ∃ i : Nat, nA M (248 + 20 * f + 0) = (i : Int) := ⟨_, (Int.toNat_of_nonneg h3.1).symm⟩
  obtain ⟨a0, a1, a2⟩ := hpN_at (M := M) (f := f) (v := v) ei
  refine ⟨fun k hk => ?_, h2, by rw [a0]; omega, fun j hj => ?_, fun j j1 j12 => ?_, fun j j1 j2 => ?_⟩
  · rw [a2 k (by omega) (by omega)]; exact h1 k hk
  · rw [a0] at hj
    by_cases c : j = i
    · subst c; rw [a1]; exact ⟨v0, v1⟩
    · rw [a2 _ (by omega) (by omega)]; exact h5 j (by omega)
  · rw [a2 _ (by omega) (by omega)]; exact h6 j j1 j12
  · by_cases c : j = 12 + i
    · subst c; rw [a1]; omega
    · rw [a2 _ (by omega) (by omega)]; exact h7 j j1 j2
theorem hopsR_z (n06 : nA N 0 ≤ 6) : ∀ (k : Nat) (T : tkT) (M : nT), tkOk n T → hpZ N M f → (nA M (248 + 20 * f + 0) = 0 → T.1 = 2) → nA M (248 + 20 * f + 0) + k = 5 → hopsR t n f k T M = .inr (T', N') → hpZ N N' f ∧ 1 ≤ nA N' (248 + 20 * f + 0) ∧ ¬ T'.1 = 2 := by
  intro k
  induction k with
  | zero =>
    intro T M _ hz _ h5 _
    have := hz.2.2.1
    omega
  | succ k ih =>
    intro T M ht hz h0 h5 e
    have z3 := hz.2.2.1
    rw [hopsR] at e
    split at e
    · rename_i c2
      split at e
      · cases e
      · rename_i c3
        split at e
        · cases e
        · split at e
          · cases e
          · rename_i c4
            have v0 := (ht.2.2.2.2.2 c2).1
            have e0 : nA M 0 = nA N 0 := hz.1 0 (by omega)
            obtain ⟨i, ei⟩ : ∃ i : Nat, nA M (248 + 20 * f + 0) = (i : Int) := ⟨_, (Int.toNat_of_nonneg z3.1).symm⟩
            obtain ⟨a0, a1, a2⟩ := hpN_at (M := M) (f := f) (v := T.2.2.2) ei
            exact ih _ _ (nxT_ok (t := t) ht).1 (hz.step n06 v0 (by omega) c4) (fun q => by rw [a0] at q; omega) (by rw [a0]; omega) e
    · rename_i c2
      have g1 : 1 ≤ nA M (248 + 20 * f + 0) := by
        by_cases q : nA M (248 + 20 * f + 0) = 0
        · exact absurd (h0 q) c2
        · omega
      cases e
      exact ⟨hz, g1, c2⟩
theorem marksR_z : ∀ (k : Nat) (T : tkT) (M : nT) (b1 b2 b3 : Bool), tkOk n T → (0 ≤ nA M (248 + 20 * f + 1) ∧ nA M (248 + 20 * f + 1) ≤ 9999) → (0 ≤ nA M (248 + 20 * f + 2) ∧ nA M (248 + 20 * f + 2) ≤ 3) → (nA M (248 + 20 * f + 3) = 0 ∨ nA M (248 + 20 * f + 3) = 1) → marksR t n f k T M b1 b2 b3 = .inr (T', N') → (0 ≤ nA N' (248 + 20 * f + 1) ∧ nA N' (248 + 20 * f + 1) ≤ 9999) ∧ (0 ≤ nA N' (248 + 20 * f + 2) ∧ nA N' (248 + 20 * f + 2) ≤ 3) ∧ (nA N' (248 + 20 * f + 3) = 0 ∨ nA N' (248 + 20 * f + 3) = 1) ∧ N'.2 = M.2 ∧ ∀ k, k ≠ 248 + 20 * f + 1 → k ≠ 248 + 20 * f + 2 → k ≠ 248 + 20 * f + 3 → nA N' k = nA M k := by
  intro k
  induction k with
  | zero => intro T M b1 b2 b3 _ h1 h2 h3 e; rw [marksR] at e; cases e; exact ⟨h1, h2, h3, rfl, fun _ _ _ _ => rfl⟩
  | succ k ih =>
    intro T M b1 b2 b3 ht h1 h2 h3 e
    have k1 := nxT_ok (t := t) ht
    have k2 := nxT_ok (t := t) k1.1
    have kb := key_bd (t := t) (T := T)
    rw [marksR] at e
    split at e
    · cases e; exact ⟨h1, h2, h3, rfl, fun _ _ _ _ => rfl⟩
    · rename_i c0
      split at e
      · split at e
        · cases e
        · split at e
          · rename_i o
            have o := okB_t o
            obtain ⟨z1, z2, z3, z4, z5⟩ := ih _ _ _ _ _ k2.1 (by rw [nA_eq]; exact o.2) (by rw [nA_ne (by omega)]; exact h2) (by rw [nA_ne (by omega)]; exact h3) e
            exact ⟨z1, z2, z3, z4, fun j j1 j2 j3 => by rw [z5 j j1 j2 j3, nA_ne j1]⟩
          · cases e
      · rename_i c1
        split at e
        · rename_i c2
          split at e
          · cases e
          · obtain ⟨z1, z2, z3, z4, z5⟩ := ih _ _ _ _ _ k1.1 (by rw [nA_ne (by omega)]; exact h1) (by rw [nA_eq]; omega) (by rw [nA_ne (by omega)]; exact h3) e
            exact ⟨z1, z2, z3, z4, fun j j1 j2 j3 => by rw [z5 j j1 j2 j3, nA_ne j2]⟩
        · split at e
          · cases e
          · obtain ⟨z1, z2, z3, z4, z5⟩ := ih _ _ _ _ _ k1.1 (by rw [nA_ne (by omega)]; exact h1) (by rw [nA_ne (by omega)]; exact h2) (by rw [nA_eq]; exact Or.inl rfl) e
            exact ⟨z1, z2, z3, z4, fun j j1 j2 j3 => by rw [z5 j j1 j2 j3, nA_ne j3]⟩
theorem fl4_at : nA (fl4 M f) (248 + 20 * f + 1) = 9999 ∧ nA (fl4 M f) (248 + 20 * f + 3) = 1 ∧ nA (fl4 M f) (248 + 20 * f + 5) = 200 ∧ nA (fl4 M f) (248 + 20 * f + 7) = 2 * backN M f ∧ ∀ k, k ≠ 248 + 20 * f + 1 → k ≠ 248 + 20 * f + 3 → k ≠ 248 + 20 * f + 5 → k ≠ 248 + 20 * f + 7 → nA (fl4 M f) k = nA M k := by
  unfold fl4
  exact ⟨by rw [nA_ne (by omega), nA_ne (by omega), nA_ne (by omega), nA_eq], by rw [nA_ne (by omega), nA_ne (by omega), nA_eq], by rw [nA_ne (by omega), nA_eq], by rw [nA_eq], fun k h1 h3 h5 h7 => by rw [nA_ne h7, nA_ne h5, nA_ne h3, nA_ne h1]⟩
/-- what stands of a flow behind its marks -/
theorem fl_fin (hz : hpZ N M f) (h1 : 1 ≤ nA M (248 + 20 * f + 0)) (n06 : nA N 0 ≤ 6) (z1 : 0 ≤ nA N' (248 + 20 * f + 1) ∧ nA N' (248 + 20 * f + 1) ≤ 9999) (z2 : 0 ≤ nA N' (248 + 20 * f + 2) ∧ nA N' (248 + 20 * f + 2) ≤ 3) (z3 : nA N' (248 + 20 * f + 3) = 0 ∨ nA N' (248 + 20 * f + 3) = 1) (z5 : ∀ k, k ≠ 248 + 20 * f + 1 → k ≠ 248 + 20 * f + 2 → k ≠ 248 + 20 * f + 3 → nA N' k = nA (fl4 M f) k) : flZ N' f ∧ backN N' f = backN M f ∧ ∀ k, ¬ (248 + 20 * f ≤ k ∧ k < 268 + 20 * f) → nA N' k = nA N k := by
  obtain ⟨a1, a3, a5, a7, ar⟩ := fl4_at (M := M) (f := f)
  obtain ⟨q1, q2, q3, q4, q5, q6⟩ := hz
  have eo : ∀ k, ¬ (248 + 20 * f ≤ k ∧ k < 268 + 20 * f) → nA N' k = nA N k := fun k hk => by rw [z5 k (by omega) (by omega) (by omega), ar k (by omega) (by omega) (by omega) (by omega)]; exact q1 k hk
  have e0 : nA N' (248 + 20 * f + 0) = nA M (248 + 20 * f + 0) := by rw [z5 _ (by omega) (by omega) (by omega), ar _ (by omega) (by omega) (by omega) (by omega)]
  have ep : ∀ i, nA N' (248 + 20 * f + (12 + i)) = nA M (248 + 20 * f + (12 + i)) := fun i => by rw [z5 _ (by omega) (by omega) (by omega), ar _ (by omega) (by omega) (by omega) (by omega)]
  have eb : backN N' f = backN M f := backN_pt e0 (fun i hi => ⟨ep i, by
    have z := q4 i hi
    have hh : hopN M f i < 6 := by unfold hopN; omega
    rw [eo _ (by omega), q1 _ (by omega)]⟩)
  refine ⟨⟨by rw [e0]; exact ⟨h1, q3.2⟩, fun i hi => ?_, z1, z2, z3, ?_, ?_, fun j hj => ?_, fun j j1 j2 => ?_⟩, eb, eo⟩
  · rw [e0] at hi
    rw [ep, eo 0 (by omega)]
    exact q4 i hi
  · rw [z5 _ (by omega) (by omega) (by omega), a5]
  · rw [z5 _ (by omega) (by omega) (by omega), a7, eb]
  · rw [z5 _ (by omega) (by omega) (by omega), ar _ (by omega) (by omega) (by omega) (by omega)]; exact q5 j (by omega) (by omega)
  · rw [z5 _ (by omega) (by omega) (by omega), ar _ (by omega) (by omega) (by omega) (by omega)]; exact q6 j j1 j2
theorem pz.flow (h : pz N) (ht : tkOk n T) (e : flowR t n T N = .inr (T', N')) : pz N' := by
  have k1 := nxT_ok (t := t) ht
  unfold flowR at e
  split at e
  · cases e
  · rename_i c6
    split at e
    · rename_i c2
      obtain ⟨T1, N1, e1, e⟩ := bnd_r e
      obtain ⟨T2, N2, e2, e⟩ := bnd_r e
      cases e
      obtain ⟨s1, s2⟩ := hpZ.start h c6
      obtain ⟨hz, h1, -⟩ := hopsR_z h.1.2 5 _ N k1.1 s1 (fun _ => c2) (by omega) e1
      obtain ⟨a1, a3, a5, a7, ar⟩ := fl4_at (M := N1) (f := nFw N)
      obtain ⟨z1, z2, z3, z4, z5⟩ := marksR_z 4 T1 (fl4 N1 (nFw N)) _ _ _ (hopsR_ok _ _ _ k1.1 e1).1 (by rw [a1]; omega) (by rw [ar _ (by omega) (by omega) (by omega) (by omega), hz.2.2.2.2.1 2 (by omega) (by omega)]; omega) (by rw [a3]; exact Or.inr rfl) e2
      obtain ⟨g1, g2, g3⟩ := fl_fin hz h1 h.1.2 z1 z2 z3 z5
      exact h.fl c6 g3 g1 (z4.trans hz.2.1)
    · cases e
theorem pz.line (h : pz N) (ht : tkOk n T) (e : lineR t n T N = .inr (T', N')) : pz N' := by
  unfold lineR at e
  obtain ⟨T1, N1, e1, e⟩ := bnd_r e
  have z : pz N1 := by
    split at e1
    · exact h.link e1
    · split at e1
      · exact h.flow ht e1
      · cases e1
  unfold signR at e
  split at e
  · cases e; exact z
  · cases e
theorem sum9 {g : Nat → Int} : ∀ n : Nat, (∀ i, i < n → 0 ≤ g i ∧ g i ≤ 9) → 0 ≤ ((List.range n).map g).sum ∧ ((List.range n).map g).sum ≤ 9 * n := by
  intro n
  induction n with
  | zero => intro _; exact ⟨Int.le_refl _, Int.le_refl _⟩
  | succ n ih =>
    intro h
    have q := ih (fun i hi => h i (by omega))
    have d := h n (by omega)
    rw [List.range_succ, List.map_append, List.sum_append]
    simp only [List.map_cons, List.map_nil, List.sum_cons, List.sum_nil]
    omega
theorem pz.back (h : pz N) (hf : (f : Int) < nA N 1) : 0 ≤ backN N f ∧ backN N f ≤ 36 := by
  obtain ⟨f1, f2, -⟩ := h.2.2.2.2.2.2.1 f hf
  have q := sum9 (g := fun i => nA N (8 + 40 * hopN N f i + 1)) (nA N (248 + 20 * f + 0)).toNat (fun i hi => by
    have z := f2 i (by omega)
    have y := (h.2.2.2.2.2.1 (hopN N f i) (by unfold hopN; omega)).1.2.1
    omega)
  unfold backN
  omega
theorem pz.ls (h : pz N) : (∀ a, nR N a = [] ∧ nW N a = []) ∧ nK N = [] ∧ nE N = [] ∧ nP N = [] := by
  have e := h.2.2.2.2.2.2.2
  unfold nR nW nK nE nP
  rw [e]
  exact ⟨fun _ => ⟨rfl, rfl⟩, rfl, rfl, rfl⟩
theorem has0 : hasN 0 f = false := by unfold hasN; rw [Int.zero_ediv]; rfl
theorem pz.it (h : pz N) : iT N := by
  obtain ⟨l1, l2, l3, l4⟩ := h.ls
  have p1 := h.1
  have p2 := h.2.1
  have p3 := h.2.2.1
  have p4 := h.2.2.2.1
  have p5 := h.2.2.2.2.1
  have p6 := h.2.2.2.2.2.1
  have p7 := h.2.2.2.2.2.2.1
  have e2 : nA N 2 = 0 := p3 2 (by omega)
  have ex : ∀ x, nA N (368 + 8 * x + 0) = 0 := fun x => p3 _ (by omega)
  have lk : ∀ a, a < 6 → ∀ j, 4 ≤ j → j < 40 → j ≠ 7 → j ≠ 10 → j ≠ 11 → nA N (8 + 40 * a + j) = 0 := fun a a6 j j4 j40 n7 n10 n11 => by
    by_cases c : (a : Int) < nA N 0
    · exact (p6 a c).2.2.2.2 j j4 j40 n7 n10 n11
    · exact p4 _ (by unfold nLk; omega) (by omega)
  have fl : ∀ f, f < 6 → ∀ j, (j = 4 ∨ j = 6 ∨ (8 ≤ j ∧ j < 12)) → nA N (248 + 20 * f + j) = 0 := fun f f6 j hj => by
    by_cases c : (f : Int) < nA N 1
    · exact (p7 f c).2.2.2.2.2.2.2.1 j hj
    · exact p5 _ (by unfold nFw; omega) (by omega)
  have fly : ∀ f, nFly N f = 0 := fun f => by
    unfold nFly
    rw [List.countP_eq_zero]
    intro x _
    rw [ex x]
    simp only [decide_eq_true_eq]
    omega
  refine ⟨⟨⟨p1, p2, by rw [e2]; omega, Or.inl (p3 7 (by omega))⟩, fun k hk => ?_, fun x => ?_, fun f f6 => ?_, fun f hf => ?_, fun a ha => ?_, fun x _ hx => ?_, fun a _ x hx => ?_, ?_, fun a _ _ => l1 a⟩, fun f f6 => ?_, fun a a6 => ?_, fun a a6 => ?_⟩
  · by_cases c1 : k < 8
    · by_cases c0 : k = 0
      · subst c0; omega
      · by_cases c2 : k = 1
        · subst c2; omega
        · rw [p3 k (by omega)]; omega
    · by_cases c2 : k < 248
      · have ek : k = 8 + 40 * ((k - 8) / 40) + (k - 8) % 40 := by omega
        generalize (k - 8) / 40 = a at ek
        have hj : (k - 8) % 40 < 40 := by omega
        generalize (k - 8) % 40 = j at ek hj
        subst ek
        by_cases c : (a : Int) < nA N 0
        · obtain ⟨⟨q0, q1, q2, q3⟩, q7, q10, q11, qr⟩ := p6 a c
          by_cases j0 : j = 0
          · subst j0; omega
          · by_cases j1 : j = 1
            · subst j1; omega
            · by_cases j2 : j = 2
              · subst j2; omega
              · by_cases j3 : j = 3
                · subst j3; omega
                · by_cases j7 : j = 7
                  · subst j7; omega
                  · by_cases j10 : j = 10
                    · subst j10; omega
                    · by_cases j11 : j = 11
                      · subst j11; omega
                      · rw [qr j (by omega) hj j7 j10 j11]; omega
        · rw [p4 _ (by unfold nLk; omega) c2]; omega
      · by_cases c3 : k < 368
        · have ek : k = 248 + 20 * ((k - 248) / 20) + (k - 248) % 20 := by omega
          generalize (k - 248) / 20 = f at ek
          have hj : (k - 248) % 20 < 20 := by omega
          generalize (k - 248) % 20 = j at ek hj
          subst ek
          by_cases c : (f : Int) < nA N 1
          · have qb := h.back c
            obtain ⟨q0, qp, q1, q2, q3, q5, q7, q8, q9⟩ := p7 f c
            by_cases j0 : j = 0
            · subst j0; omega
            · by_cases j1 : j = 1
              · subst j1; omega
              · by_cases j2 : j = 2
                · subst j2; omega
                · by_cases j3 : j = 3
                  · subst j3; omega
                  · by_cases j5 : j = 5
                    · subst j5; omega
                    · by_cases j7 : j = 7
                      · subst j7; omega
                      · by_cases j12 : j < 12
                        · rw [q8 j (by omega)]; omega
                        · have := q9 j (by omega) hj; omega
          · rw [p5 _ (by unfold nFw; omega) c3]; omega
        · rw [p3 k (by omega)]; omega
  · rw [if_neg (fun q => by rw [ex x] at q; omega)]
    unfold nC
    rw [(l1 0).1, (l1 1).1, (l1 2).1, (l1 3).1, (l1 4).1, (l1 5).1, (l1 0).2, (l1 1).2, (l1 2).2, (l1 3).2, (l1 4).2, (l1 5).2, l2]
    rfl
  · rw [fl f f6 6 (by omega), fly f]; omega
  · have qb := h.back hf
    obtain ⟨q0, qp, q1, q2, q3, q5, q7, q8, q9⟩ := p7 f hf
    refine ⟨q0, qp, q1, q2, q3, by rw [q5]; omega, by rw [q7]; omega, ?_⟩
    rw [q8 9 (by omega), q8 10 (by omega), q8 8 (by omega), q8 6 (by omega)]
    omega
  · obtain ⟨⟨q0, q1, q2, q3⟩, q7, q10, q11, qr⟩ := p6 a ha
    have r6 := qr 6 (by omega) (by omega) (by omega) (by omega) (by omega)
    have r8 := qr 8 (by omega) (by omega) (by omega) (by omega) (by omega)
    have r9 := qr 9 (by omega) (by omega) (by omega) (by omega) (by omega)
    have r12 := qr 12 (by omega) (by omega) (by omega) (by omega) (by omega)
    have r13 := qr 13 (by omega) (by omega) (by omega) (by omega) (by omega)
    have r14 := qr 14 (by omega) (by omega) (by omega) (by omega) (by omega)
    have r15 := qr 15 (by omega) (by omega) (by omega) (by omega) (by omega)
    have r16 := qr 16 (by omega) (by omega) (by omega) (by omega) (by omega)
    have r17 := qr 17 (by omega) (by omega) (by omega) (by omega) (by omega)
    have r18 := qr 18 (by omega) (by omega) (by omega) (by omega) (by omega)
    have eR : (nR N a).length = 0 := by rw [(l1 a).1]; rfl
    refine ⟨⟨q0, q1, q2, q3⟩, ⟨by omega, by omega, by omega, by omega, by omega, by omega, by omega⟩, ⟨by omega, by omega, by omega, by omega, by omega, by omega⟩, ⟨by omega, fun f _ _ => by rw [r14]; exact has0, by omega⟩, fun f f6 => ?_⟩
    have s0 := qr (20 + f) (by omega) (by omega) (by omega) (by omega) (by omega)
    have s1 := qr (26 + f) (by omega) (by omega) (by omega) (by omega) (by omega)
    have s2 := qr (32 + f) (by omega) (by omega) (by omega) (by omega) (by omega)
    exact ⟨by omega, by omega, by omega, fun _ => s0⟩
  · rw [ex x] at hx; omega
  · rw [(l1 a).1, (l1 a).2] at hx
    rcases hx with q | q <;> cases q
  · rw [l3, l4]; exact ⟨by decide, by decide⟩
  · rw [fl f f6 8 (by omega), e2]; omega
  · rw [lk a a6 16 (by omega) (by omega) (by omega) (by omega) (by omega), e2]; omega
  · unfold iW
    rw [(l1 a).2]
    exact ⟨List.Pairwise.nil, fun x q => (by cases q), fun d => by rw [List.countP_nil]; omega⟩
end PZ
