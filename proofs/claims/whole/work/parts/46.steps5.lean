section I6
variable {N : nT} {X : List Nat}
theorem bits_all : ∀ n : Nat, n < 64 → ∀ f : Nat, f < 6 → ∀ g : Nat, g < 6 → ((hasN (n : Int) f || (decide ((n : Int) + 2 ^ f < 64) && hasN ((n : Int) + 2 ^ f) f && (decide (g = f) || (hasN ((n : Int) + 2 ^ f) g == hasN (n : Int) g)))) && (!hasN (n : Int) f || (decide (0 ≤ (n : Int) - 2 ^ f) && !hasN ((n : Int) - 2 ^ f) f && (decide (g = f) || (hasN ((n : Int) - 2 ^ f) g == hasN (n : Int) g))))) = true := by decide +kernel
theorem bits_set {n f : Nat} (hn : n < 64) (hf : f < 6) (h : hasN (n : Int) f = false) : (n : Int) + 2 ^ f < 64 ∧ hasN ((n : Int) + 2 ^ f) f = true ∧ ∀ g : Nat, g < 6 → ¬ g = f → hasN ((n : Int) + 2 ^ f) g = hasN (n : Int) g := by
  have q := bits_all n hn f hf
  have q0 := q f hf
  simp only [h, Bool.false_or, Bool.and_eq_true, decide_eq_true_eq] at q0
  refine ⟨q0.1.1.1, q0.1.1.2, fun g hg c => ?_⟩
  have q1 := q g hg
  simp only [h, Bool.false_or, Bool.and_eq_true, Bool.or_eq_true, decide_eq_true_eq, beq_iff_eq] at q1
  exact q1.1.2.resolve_left c
theorem bits_clr {n f : Nat} (hn : n < 64) (hf : f < 6) (h : hasN (n : Int) f = true) : 0 ≤ (n : Int) - 2 ^ f ∧ hasN ((n : Int) - 2 ^ f) f = false ∧ ∀ g : Nat, g < 6 → ¬ g = f → hasN ((n : Int) - 2 ^ f) g = hasN (n : Int) g := by
  have q := bits_all n hn f hf
  have q0 := q f hf
  simp only [h, Bool.not_true, Bool.false_or, Bool.true_or, Bool.true_and, Bool.and_eq_true, decide_eq_true_eq, Bool.not_eq_true'] at q0
  refine ⟨q0.1.1, q0.1.2, fun g hg c => ?_⟩
  have q1 := q g hg
  simp only [h, Bool.not_true, Bool.false_or, Bool.true_or, Bool.true_and, Bool.and_eq_true, Bool.or_eq_true, decide_eq_true_eq, beq_iff_eq] at q1
  exact q1.2.resolve_left c
/-- the set of those caught, as a span ends for one flow -/
def setN (N : nT) (a f : Nat) : Int := if isN N a f = hasN (nA N ((8 + 40 * a + 14))) f then nA N ((8 + 40 * a + 14)) else if isN N a f then nA N ((8 + 40 * a + 14)) + 2 ^ f else nA N ((8 + 40 * a + 14)) - 2 ^ f
theorem setN_ok {a f : Nat} (hf : f < 6) (hs : 0 ≤ nA N ((8 + 40 * a + 14)) ∧ nA N ((8 + 40 * a + 14)) < 64) : (0 ≤ setN N a f ∧ setN N a f < 64) ∧ hasN (setN N a f) f = isN N a f ∧ ∀ g : Nat, g < 6 → ¬ g = f → hasN (setN N a f) g = hasN (nA N ((8 + 40 * a + 14))) g := by
  have e : nA N ((8 + 40 * a + 14)) = ((nA N ((8 + 40 * a + 14))).toNat : Int) := by omega
  have p2 : (0 : Int) < 2 ^ f := Int.pow_pos (by omega)
  unfold setN
  by_cases c : isN N a f = hasN (nA N ((8 + 40 * a + 14))) f
  · rw [if_pos c]
    exact ⟨hs, c.symm, fun _ _ _ => rfl⟩
  · rw [if_neg c]
    cases ci : isN N a f
    · have h1 : hasN (nA N ((8 + 40 * a + 14))) f = true := by
        cases q : hasN (nA N ((8 + 40 * a + 14))) f
        · rw [ci, q] at c; exact absurd rfl c
        · rfl
      rw [e] at h1
      have b := bits_clr (by omega) hf h1
      rw [← e] at b
      rw [if_neg (by decide)]
      exact ⟨by omega, b.2⟩
    · have h1 : hasN (nA N ((8 + 40 * a + 14))) f = false := by
        cases q : hasN (nA N ((8 + 40 * a + 14))) f
        · rfl
        · rw [ci, q] at c; exact absurd rfl c
      rw [e] at h1
      have b := bits_set (by omega) hf h1
      rw [← e] at b
      rw [if_pos rfl]
      exact ⟨by omega, b.2⟩
theorem catchN_ne {a f k : Nat} (h1 : k ≠ (8 + 40 * a + 14)) (h2 : k ≠ (8 + 40 * a + (20 + f))) : nA (catchN a N f) k = nA N k := by
  unfold catchN
  simp only []
  rw [nA_ne h2]
  split
  · rfl
  · rw [nA_ev, nA_ne h1]
theorem catchN_20 {a f : Nat} : nA (catchN a N f) ((8 + 40 * a + (20 + f))) = 0 := by
  unfold catchN
  simp only []
  rw [nA_eq]
theorem catchN_14 {a f : Nat} (hf : f < 6) : nA (catchN a N f) ((8 + 40 * a + 14)) = setN N a f := by
  unfold catchN setN
  simp only []
  rw [nA_ne (by omega)]
  split
  · rfl
  · rw [nA_ev, nA_eq]
theorem catchN_R {a f : Nat} : nR (catchN a N f) = nR N ∧ nW (catchN a N f) = nW N ∧ nK (catchN a N f) = nK N ∧ nP (catchN a N f) = nP N := by
  unfold catchN
  simp only []
  split <;> exact ⟨rfl, rfl, rfl, rfl⟩
theorem catchN_E {a f : Nat} (h : (nE N).length ≤ 24) : (nE (catchN a N f)).length ≤ 24 := by
  unfold catchN
  simp only []
  rw [nE_uA]
  split
  · exact h
  · exact ev_len (N := uA _ _ _) h
theorem iN.catch {a f : Nat} (h : iN X N) (ha : (a : Int) < nA N 0) (hf : (f : Int) < nA N 1) : iN X (catchN a N f) := by
  have h0 := h.H.1
  have h1 := h.H.2.1
  have hf6 : f < 6 := by omega
  have hL := h.L a ha
  have hs := setN_ok (N := N) (a := a) hf6 hL.2.2.2.1.1
  have r := catchN_R (N := N) (a := a) (f := f)
  have g : ∀ k, k < 20 → k ≠ 14 → nA (catchN a N f) ((8 + 40 * a + k)) = nA N ((8 + 40 * a + k)) := fun k _ _ => catchN_ne (by omega) (by omega)
  refine h.link (fun k hk => catchN_ne (by omega) (by omega)) ha ?_ ?_ r.1 r.2.1 r.2.2.1 (catchN_E h.E.1) r.2.2.2
  · have l2 := hL.2.1
    unfold iL
    rw [r.1, catchN_ne (k := 1) (by omega) (by omega), catchN_14 hf6, g 0 (by omega) (by omega), g 1 (by omega) (by omega), g 2 (by omega) (by omega), g 3 (by omega) (by omega), g 6 (by omega) (by omega), g 7 (by omega) (by omega), g 8 (by omega) (by omega), g 9 (by omega) (by omega), g 10 (by omega) (by omega), g 11 (by omega) (by omega), g 12 (by omega) (by omega), g 13 (by omega) (by omega), g 15 (by omega) (by omega), g 16 (by omega) (by omega), g 17 (by omega) (by omega), g 18 (by omega) (by omega)]
    refine ⟨hL.1, l2, hL.2.2.1, ⟨hs.1, fun k hk hk2 => ?_, hL.2.2.2.1.2.2⟩, fun k hk => ?_⟩
    · rw [hs.2.2 k hk (by omega)]
      exact hL.2.2.2.1.2.1 k hk hk2
    · have d := hL.2.2.2.2 k hk
      rw [catchN_ne (k := (8 + 40 * a + (26 + k))) (by omega) (by omega), catchN_ne (k := (8 + 40 * a + (32 + k))) (by omega) (by omega)]
      by_cases c : k = f
      · subst c
        rw [catchN_20]
        omega
      · rw [catchN_ne (k := (8 + 40 * a + (20 + k))) (by omega) (by omega)]
        exact d
  · intro k hk
    by_cases c : k = (8 + 40 * a + 14)
    · rw [c, catchN_14 hf6]; omega
    · by_cases c2 : k = (8 + 40 * a + (20 + f))
      · rw [c2, catchN_20]; omega
      · rw [catchN_ne c c2]; exact h.B k hk
theorem catch_fold {a : Nat} : ∀ (L : List Nat) (M : nT), iN X M → (a : Int) < nA M 0 → (∀ f, f ∈ L → (f : Int) < nA M 1) → iN X (L.foldl (catchN a) M) ∧ (∀ k, k ≠ (8 + 40 * a + 14) → (k < (8 + 40 * a + 20) ∨ (8 + 40 * a + 26) ≤ k) → nA (L.foldl (catchN a) M) k = nA M k) ∧ (∀ f, f ∈ L ∨ nA M ((8 + 40 * a + (20 + f))) = 0 → nA (L.foldl (catchN a) M) ((8 + 40 * a + (20 + f))) = 0) ∧ nR (L.foldl (catchN a) M) = nR M ∧ nW (L.foldl (catchN a) M) = nW M ∧ nK (L.foldl (catchN a) M) = nK M ∧ nP (L.foldl (catchN a) M) = nP M := by
  intro L
  induction L with
  | nil =>
    intro M h ha hf
    refine ⟨h, fun _ _ _ => rfl, fun f q => ?_, rfl, rfl, rfl, rfl⟩
    rcases q with q | q
    · exact absurd q (by simp)
    · exact q
  | cons x L ih =>
    intro M h ha hf
    have h0 := h.H.1
    have h1 := h.H.2.1
    have hx := hf x List.mem_cons_self
    have r := catchN_R (N := M) (a := a) (f := x)
    have e0 : nA (catchN a M x) 0 = nA M 0 := catchN_ne (by omega) (by omega)
    have e1 : nA (catchN a M x) 1 = nA M 1 := catchN_ne (by omega) (by omega)
    have i := ih (catchN a M x) (h.catch ha hx) (by rw [e0]; exact ha) (fun f q => by rw [e1]; exact hf f (List.mem_cons_of_mem _ q))
    refine ⟨i.1, fun k q1 q2 => ?_, fun f q => ?_, i.2.2.2.1.trans r.1, i.2.2.2.2.1.trans r.2.1, i.2.2.2.2.2.1.trans r.2.2.1, i.2.2.2.2.2.2.trans r.2.2.2⟩
    · rw [List.foldl_cons, i.2.1 k q1 q2]
      exact catchN_ne q1 (by omega)
    · rw [List.foldl_cons]
      apply i.2.2.1
      by_cases c : f = x
      · subst c
        exact Or.inr catchN_20
      · rcases q with q | q
        · rcases List.mem_cons.mp q with q | q
          · exact absurd q c
          · exact Or.inl q
        · exact Or.inr (by rw [catchN_ne (by omega) (by omega)]; exact q)
end I6
