section CZ5
variable {N : nT} {X : List Nat} {a f i : Nat}
theorem bits_ext : ∀ m : Nat, m < 64 → ∀ n : Nat, n < 64 → (hasN (m : Int) 0 = hasN (n : Int) 0 ∧ hasN (m : Int) 1 = hasN (n : Int) 1 ∧ hasN (m : Int) 2 = hasN (n : Int) 2 ∧ hasN (m : Int) 3 = hasN (n : Int) 3 ∧ hasN (m : Int) 4 = hasN (n : Int) 4 ∧ hasN (m : Int) 5 = hasN (n : Int) 5) → m = n := by decide +kernel
theorem bits_eq {x y : Int} (hx : 0 ≤ x ∧ x < 64) (hy : 0 ≤ y ∧ y < 64) (e : ∀ f, f < 6 → hasN x f = hasN y f) : x = y := by
  obtain ⟨m, rfl⟩ : ∃ m : Nat, x = (m : Int) := ⟨x.toNat, (Int.toNat_of_nonneg hx.1).symm⟩
  obtain ⟨n, rfl⟩ : ∃ n : Nat, y = (n : Int) := ⟨y.toNat, (Int.toNat_of_nonneg hy.1).symm⟩
  exact congrArg _ (bits_ext m (by omega) n (by omega) ⟨e 0 (by omega), e 1 (by omega), e 2 (by omega), e 3 (by omega), e 4 (by omega), e 5 (by omega)⟩)
theorem p2_pos : ∀ n : Nat, (0 : Int) < 2 ^ n := by
  intro n
  induction n with
  | zero => decide
  | succ n ih => rw [Int.pow_succ]; omega
theorem p2_le {j f : Nat} (h : j ≤ f) : (2 : Int) ^ j ≤ 2 ^ f := by
  induction f with
  | zero => rw [show j = 0 by omega]; exact Int.le_refl _
  | succ f ih =>
    have p := p2_pos f
    by_cases c : j = f + 1
    · rw [c]; exact Int.le_refl _
    · have := ih (by omega)
      rw [Int.pow_succ]
      omega
/-- who is caught, as the class adds it up -/
def csN (N : nT) (a : Nat) : Nat → Int
  | 0 => 0
  | i + 1 => if isN N a i then csN N a i + 2 ^ i else csN N a i
theorem csN_bd : ∀ i, 0 ≤ csN N a i ∧ csN N a i < 2 ^ i := by
  intro i
  induction i with
  | zero => exact ⟨Int.le_refl 0, p2_pos 0⟩
  | succ i ih =>
    have e : (2 : Int) ^ (i + 1) = 2 ^ i + 2 ^ i := by rw [Int.pow_succ]; omega
    unfold csN
    rw [e]
    split <;> omega
theorem hasN_low {s : Int} {j f : Nat} (hs : 0 ≤ s ∧ s < 2 ^ j) (hj : j ≤ f) : hasN s f = false := by
  unfold hasN
  have : s / 2 ^ f = 0 := Int.ediv_eq_zero_of_lt hs.1 (Int.lt_of_lt_of_le hs.2 (p2_le hj))
  rw [this]
  rfl
theorem csN_bits : ∀ i, i ≤ 6 → ∀ f, f < i → hasN (csN N a i) f = isN N a f := by
  intro i
  induction i with
  | zero => intro _ f hf; exact absurd hf (by omega)
  | succ i ih =>
    intro hi f hf
    have bd := @csN_bd N a i
    have b64 : csN N a i < 64 := Int.lt_of_lt_of_le bd.2 (by have : (2 : Int) ^ i ≤ 2 ^ 6 := p2_le (by omega); exact this)
    obtain ⟨n, en⟩ : ∃ n : Nat, csN N a i = (n : Int) := ⟨(csN N a i).toNat, (Int.toNat_of_nonneg bd.1).symm⟩
    have lo : hasN (n : Int) i = false := by rw [← en]; exact hasN_low bd (Nat.le_refl _)
    unfold csN
    by_cases c : isN N a i = true
    · rw [if_pos c, en]
      have q := bits_set (n := n) (f := i) (by omega) (by omega) lo
      by_cases d : f = i
      · rw [d, q.2.1, c]
      · rw [q.2.2 f (by omega) d, ← en]; exact ih (by omega) f (by omega)
    · rw [if_neg c]
      by_cases d : f = i
      · rw [d, en, lo]
        cases g : isN N a i
        · rfl
        · exact absurd g c
      · exact ih (by omega) f (by omega)
theorem isN_zero (h20 : nA N ((8 + 40 * a + (20 + f))) = 0) (h26 : 0 ≤ nA N ((8 + 40 * a + (26 + f)))) (h32 : 0 ≤ nA N ((8 + 40 * a + (32 + f)))) (h3 : 0 ≤ nA N ((8 + 40 * a + 3))) : isN N a f = false := by
  unfold isN
  rw [h20]
  apply decide_eq_false
  have e : 0 ≤ (if nA N ((8 + 40 * a + (32 + f))) = 0 then 0 else nA N ((8 + 40 * a + (26 + f))) * nA N ((8 + 40 * a + 3)) / (100 * nA N ((8 + 40 * a + (32 + f))))) := by
    split
    · exact Int.le_refl 0
    · exact Int.ediv_nonneg (Int.mul_nonneg h26 h3) (by omega)
  generalize (if nA N ((8 + 40 * a + (32 + f))) = 0 then 0 else nA N ((8 + 40 * a + (26 + f))) * nA N ((8 + 40 * a + 3)) / (100 * nA N ((8 + 40 * a + (32 + f))))) = q at e
  omega
theorem isN_same {M : nT} (e3 : nA M ((8 + 40 * a + 3)) = nA N ((8 + 40 * a + 3))) (e20 : nA M ((8 + 40 * a + (20 + f))) = nA N ((8 + 40 * a + (20 + f)))) (e26 : nA M ((8 + 40 * a + (26 + f))) = nA N ((8 + 40 * a + (26 + f)))) (e32 : nA M ((8 + 40 * a + (32 + f))) = nA N ((8 + 40 * a + (32 + f)))) : isN M a f = isN N a f := by
  unfold isN
  rw [e3, e20, e26, e32]
/-- events of the catches -/
def tcE (N : nT) (a : Nat) (E : List (Int × Int × Int × Int)) : Nat → List (Int × Int × Int × Int)
  | 0 => E
  | i + 1 => if isN N a i = hasN (nA N ((8 + 40 * a + 14))) i then tcE N a E i else evL (tcE N a E i) (if isN N a i then 1 else 2, nA N 2, (a : Int), (i : Int))
theorem cf_bits (h : iN [] N) (ha : (a : Int) < nA N 0) : ∀ i : Nat, (i : Int) ≤ nA N 1 → (0 ≤ nA (cfN N a i) ((8 + 40 * a + 14)) ∧ nA (cfN N a i) ((8 + 40 * a + 14)) < 64) ∧ (∀ f, f < 6 → hasN (nA (cfN N a i) ((8 + 40 * a + 14))) f = if f < i then isN N a f else hasN (nA N ((8 + 40 * a + 14))) f) ∧ nE (cfN N a i) = tcE N a (nE N) i := by
  have L := h.L a ha
  have H1 := h.H.2.1
  intro i
  induction i with
  | zero =>
    intro _
    have e14 : nA (cfN N a 0) ((8 + 40 * a + 14)) = nA N ((8 + 40 * a + 14)) := sp1_ne (by omega)
    rw [e14]
    exact ⟨L.2.2.2.1.1, fun f hf => by rw [if_neg (by omega)], rfl⟩
  | succ i ih =>
    intro hi
    obtain ⟨i1, i2, i3⟩ := ih (by omega)
    have C := cfN_in h ha (i := i) (by omega)
    have i6 : i < 6 := by omega
    have es : isN (cfN N a i) a i = isN N a i := isN_same (C.2.1 _ (by omega) (by omega)) (C.2.1 _ (by omega) (by omega)) (C.2.1 _ (by omega) (by omega)) (C.2.1 _ (by omega) (by omega))
    have eh : hasN (nA (cfN N a i) ((8 + 40 * a + 14))) i = hasN (nA N ((8 + 40 * a + 14))) i := by rw [i2 i i6, if_neg (by omega)]
    have e2 : nA (cfN N a i) 2 = nA N 2 := C.2.1 2 (by omega) (by omega)
    have so := setN_ok (N := cfN N a i) (a := a) i6 i1
    have e14 : nA (cfN N a (i + 1)) ((8 + 40 * a + 14)) = setN (cfN N a i) a i := by rw [cfN_succ, ← catchN_0]; exact catchN_14 i6
    rw [e14]
    refine ⟨so.1, fun f hf => ?_, ?_⟩
    · by_cases d : f = i
      · rw [d, if_pos (by omega), so.2.1, es]
      · rw [so.2.2 f hf d, i2 f hf]
        by_cases g : f < i
        · rw [if_pos g, if_pos (by omega)]
        · rw [if_neg g, if_neg (by omega)]
    · rw [cfN_succ]
      show nE (catN0 a (cfN N a i) i) = _
      unfold catN0 tcE
      rw [es, eh]
      by_cases g : isN N a i = hasN (nA N ((8 + 40 * a + 14))) i
      · rw [if_pos g, if_pos g]; exact i3
      · rw [if_neg g, if_neg g, evN_L]
        show evL (nE (cfN N a i)) (_, nA (uA (cfN N a i) _ _) 2, _, _) = _
        rw [nA_ne (by omega), e2, i3]
theorem cm6 (h : iN [] N) (ha : (a : Int) < nA N 0) : (cmN N a 6 : Int) = cameN N a := by
  have L := h.L a ha
  have H1 := h.H.2.1
  have k : ∀ n, (nA N 1).toNat + n ≤ 6 → cmN N a ((nA N 1).toNat + n) = cmN N a (nA N 1).toNat := by
    intro n
    induction n with
    | zero => intro _; rfl
    | succ n ih =>
      intro hn
      have z := (L.2.2.2.2 ((nA N 1).toNat + n) (by omega)).2.2.2 (by omega)
      rw [← Nat.add_assoc, cmN_succ, if_neg (by omega), ih (by omega)]
      rfl
  have e := k (6 - (nA N 1).toNat) (by omega)
  rw [show (nA N 1).toNat + (6 - (nA N 1).toNat) = 6 by omega] at e
  rw [e]
  rfl
theorem cs6 (h : iN [] N) (ha : (a : Int) < nA N 0) : nA (sp2 N a) ((8 + 40 * a + 14)) = csN N a 6 := by
  have L := h.L a ha
  have H1 := h.H.2.1
  have B := cf_bits h ha (nA N 1).toNat (by omega)
  have bd := @csN_bd N a 6
  refine bits_eq B.1 ⟨bd.1, bd.2⟩ (fun f hf => ?_)
  rw [csN_bits 6 (Nat.le_refl _) f hf]
  refine (B.2.1 f hf).trans ?_
  by_cases c : f < (nA N 1).toNat
  · rw [if_pos c]
  · rw [if_neg c, L.2.2.2.1.2.1 f hf (by omega)]
    have q := L.2.2.2.2 f hf
    exact (isN_zero (q.2.2.2 (by omega)) q.2.1.1 q.2.2.1.1 (by have := L.1.2.2.2; omega)).symm
theorem nT_ext {M M' : nT} (e : ∀ k, nA M k = nA M' k) (e2 : M.2 = M'.2) : M = M' := by
  rcases M with ⟨A, B⟩
  rcases M' with ⟨A', B'⟩
  have : A = A' := funext e
  subst this
  exact congrArg _ e2
/-- the six counts of a span are 0 -/
def z20 (N : nT) (a : Nat) : nT := (fun k => if 8 + 40 * a + 20 ≤ k ∧ k < 8 + 40 * a + 26 then 0 else nA N k, N.2)
theorem z20_in {k : Nat} (hk : 8 + 40 * a + 20 ≤ k ∧ k < 8 + 40 * a + 26) : nA (z20 N a) k = 0 := if_pos hk
theorem z20_ne {k : Nat} (hk : k < 8 + 40 * a + 20 ∨ 8 + 40 * a + 26 ≤ k) : nA (z20 N a) k = nA N k := if_neg (by omega)
end CZ5
