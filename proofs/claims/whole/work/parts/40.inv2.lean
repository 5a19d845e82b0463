/-! WHAT ALWAYS HOLDS: a packet's, a flow's, a link's numbers -/
def iP (N : nT) (x : Nat) : Prop := nA N ((368 + 8 * x + 0)) ≤ nA N 1 ∧ (0 ≤ nA N ((368 + 8 * x + 1)) ∧ nA N ((368 + 8 * x + 1)) ≤ nA N 2) ∧ (0 ≤ nA N ((368 + 8 * x + 2)) ∧ nA N ((368 + 8 * x + 2)) ≤ nA N ((248 + 20 * (flN N x) + 0))) ∧ (100 ≤ nA N ((368 + 8 * x + 3)) ∧ nA N ((368 + 8 * x + 3)) ≤ 4000) ∧ (0 ≤ nA N ((368 + 8 * x + 4)) ∧ nA N ((368 + 8 * x + 4)) ≤ 123000) ∧ (-20000000 ≤ nA N ((368 + 8 * x + 5)) ∧ nA N ((368 + 8 * x + 5)) ≤ 1000) ∧ (nA N ((368 + 8 * x + 7)) = 0 ∨ nA N ((368 + 8 * x + 7)) = 1)
def iF (N : nT) (f : Nat) : Prop := (1 ≤ nA N ((248 + 20 * f + 0)) ∧ nA N ((248 + 20 * f + 0)) ≤ 4) ∧ (∀ i : Nat, (i : Int) < nA N ((248 + 20 * f + 0)) → 0 ≤ nA N ((248 + 20 * f + (12 + i))) ∧ nA N ((248 + 20 * f + (12 + i))) < nA N 0) ∧ (0 ≤ nA N ((248 + 20 * f + 1)) ∧ nA N ((248 + 20 * f + 1)) ≤ 9999) ∧ (0 ≤ nA N ((248 + 20 * f + 2)) ∧ nA N ((248 + 20 * f + 2)) ≤ 3) ∧ (nA N ((248 + 20 * f + 3)) = 0 ∨ nA N ((248 + 20 * f + 3)) = 1) ∧ (100 ≤ nA N ((248 + 20 * f + 5)) ∧ nA N ((248 + 20 * f + 5)) ≤ 4000) ∧ (0 ≤ nA N ((248 + 20 * f + 7)) ∧ nA N ((248 + 20 * f + 7)) ≤ 41000) ∧ (0 ≤ nA N ((248 + 20 * f + 9)) ∧ 0 ≤ nA N ((248 + 20 * f + 10)) ∧ nA N ((248 + 20 * f + 8)) = nA N ((248 + 20 * f + 9)) + nA N ((248 + 20 * f + 10)) + nA N ((248 + 20 * f + 6)) ∧ nA N ((248 + 20 * f + 8)) ≤ 80000)
def iL (N : nT) (a : Nat) : Prop := ((1 ≤ nA N ((8 + 40 * a + 0)) ∧ nA N ((8 + 40 * a + 0)) ≤ 9) ∧ (1 ≤ nA N ((8 + 40 * a + 1)) ∧ nA N ((8 + 40 * a + 1)) ≤ 9) ∧ (1 ≤ nA N ((8 + 40 * a + 2)) ∧ nA N ((8 + 40 * a + 2)) ≤ 60) ∧ (2 ≤ nA N ((8 + 40 * a + 3)) ∧ nA N ((8 + 40 * a + 3)) ≤ 30)) ∧
  ((nR N a).length ≤ 60 ∧ 0 ≤ nA N ((8 + 40 * a + 6)) ∧ nA N ((8 + 40 * a + 6)) ≤ nA N ((8 + 40 * a + 16)) + (nR N a).length ∧ (0 ≤ nA N ((8 + 40 * a + 7)) ∧ nA N ((8 + 40 * a + 7)) ≤ 60) ∧ (0 ≤ nA N ((8 + 40 * a + 16)) ∧ nA N ((8 + 40 * a + 16)) ≤ 360000) ∧ (0 ≤ nA N ((8 + 40 * a + 17)) ∧ nA N ((8 + 40 * a + 17)) ≤ 360000) ∧ (0 ≤ nA N ((8 + 40 * a + 18)) ∧ nA N ((8 + 40 * a + 18)) ≤ 12400000 * nA N ((8 + 40 * a + 6)))) ∧
  ((0 ≤ nA N ((8 + 40 * a + 8)) ∧ nA N ((8 + 40 * a + 8)) ≤ 11000) ∧ (0 ≤ nA N ((8 + 40 * a + 9)) ∧ nA N ((8 + 40 * a + 9)) ≤ 15000000) ∧ (1 ≤ nA N ((8 + 40 * a + 10)) ∧ nA N ((8 + 40 * a + 10)) ≤ 5000000000000) ∧ (1 ≤ nA N ((8 + 40 * a + 11)) ∧ nA N ((8 + 40 * a + 11)) ≤ 370000) ∧ (0 ≤ nA N ((8 + 40 * a + 12)) ∧ nA N ((8 + 40 * a + 12)) ≤ nA N ((8 + 40 * a + 10))) ∧ (0 ≤ nA N ((8 + 40 * a + 13)) ∧ nA N ((8 + 40 * a + 13)) ≤ nA N ((8 + 40 * a + 11)))) ∧
  ((0 ≤ nA N ((8 + 40 * a + 14)) ∧ nA N ((8 + 40 * a + 14)) < 64) ∧ (∀ f : Nat, f < 6 → nA N 1 ≤ f → hasN (nA N ((8 + 40 * a + 14))) f = false) ∧ (0 ≤ nA N ((8 + 40 * a + 15)) ∧ nA N ((8 + 40 * a + 15)) ≤ 270)) ∧
  (∀ f : Nat, f < 6 → (0 ≤ nA N ((8 + 40 * a + (20 + f))) ∧ nA N ((8 + 40 * a + (20 + f))) ≤ nA N ((8 + 40 * a + 6))) ∧ (0 ≤ nA N ((8 + 40 * a + (26 + f))) ∧ nA N ((8 + 40 * a + (26 + f))) ≤ 4000) ∧ (0 ≤ nA N ((8 + 40 * a + (32 + f))) ∧ nA N ((8 + 40 * a + (32 + f))) ≤ 123000) ∧ (nA N 1 ≤ f → nA N ((8 + 40 * a + (20 + f))) = 0))
/-- the head -/
def iH (N : nT) : Prop := (0 ≤ nA N 0 ∧ nA N 0 ≤ 6) ∧ (0 ≤ nA N 1 ∧ nA N 1 ≤ 6) ∧ (0 ≤ nA N 2 ∧ nA N 2 ≤ 40000) ∧ (nA N 7 = 0 ∨ nA N 7 = 1)
/-- who stands in a row, is on a wire has a link ahead or left its last one just now -/
def iX (N : nT) : Prop := ∀ a, a < 6 → ∀ x, x ∈ nR N a ∨ x ∈ nW N a → nA N ((368 + 8 * x + 2)) < nA N ((248 + 20 * (flN N x) + 0))
/-- how many fly -/
def iY (N : nT) : Prop := ∀ f, f < 6 → nA N ((248 + 20 * f + 6)) = nFly N f ∧ nFly N f ≤ 80
/-- wires: in order, nine at most for one tick -/
def iW (N : nT) (a : Nat) (lo hi : Int) : Prop := (nW N a).Pairwise (fun x y => nA N ((368 + 8 * x + 6)) ≤ nA N ((368 + 8 * y + 6))) ∧ (∀ x, x ∈ nW N a → lo ≤ nA N ((368 + 8 * x + 6)) ∧ nA N ((368 + 8 * x + 6)) ≤ hi) ∧ ∀ d, (nW N a).countP (fun x => decide (nA N ((368 + 8 * x + 6)) = d)) ≤ 9
/-- what holds between any two steps of a tick, with those in transit -/
def iN (X : List Nat) (N : nT) : Prop := iH N ∧ nBd N ∧ iC X N ∧ iY N ∧ (∀ f : Nat, (f : Int) < nA N 1 → iF N f) ∧ (∀ a : Nat, (a : Int) < nA N 0 → iL N a) ∧ (∀ x, x < 480 → 0 < nA N ((368 + 8 * x + 0)) → iP N x) ∧ iX N ∧ ((nE N).length ≤ 24 ∧ (nP N).length ≤ 20) ∧ (∀ a : Nat, a < 6 → nA N 0 ≤ (a : Int) → nR N a = [] ∧ nW N a = [])
theorem iP_congr {N N' : nT} {x : Nat} (e0 : nA N' 1 = nA N 1) (e2 : nA N' 2 = nA N 2) (ex : ∀ k, k < 8 → k ≠ 6 → nA N' ((368 + 8 * x + k)) = nA N ((368 + 8 * x + k))) (ef : ∀ f, nA N' ((248 + 20 * f + 0)) = nA N ((248 + 20 * f + 0))) (h : iP N x) : iP N' x := by
  have e : flN N' x = flN N x := by unfold flN; rw [ex 0 (by omega) (by omega)]
  unfold iP
  rw [e, ef, e0, e2, ex 0 (by omega) (by omega), ex 1 (by omega) (by omega), ex 2 (by omega) (by omega), ex 3 (by omega) (by omega), ex 4 (by omega) (by omega), ex 5 (by omega) (by omega), ex 7 (by omega) (by omega)]
  exact h
theorem iF_congr {N N' : nT} {f : Nat} (e0 : nA N' 0 = nA N 0) (ef : ∀ k, k < 20 → nA N' ((248 + 20 * f + k)) = nA N ((248 + 20 * f + k))) (h : iF N f) : iF N' f := by
  unfold iF
  rw [e0, ef 0 (by omega), ef 1 (by omega), ef 2 (by omega), ef 3 (by omega), ef 5 (by omega), ef 6 (by omega), ef 7 (by omega), ef 8 (by omega), ef 9 (by omega), ef 10 (by omega)]
  refine ⟨h.1, fun i hi => ?_, h.2.2⟩
  have h1 := h.1
  rw [ef (12 + i) (by omega)]
  exact h.2.1 i hi
theorem iL_congr {N N' : nT} {a : Nat} (e1 : nA N' 1 = nA N 1) (eR : (nR N' a).length = (nR N a).length) (el : ∀ k, k < 40 → nA N' ((8 + 40 * a + k)) = nA N ((8 + 40 * a + k))) (h : iL N a) : iL N' a := by
  unfold iL
  rw [e1, eR, el 0 (by omega), el 1 (by omega), el 2 (by omega), el 3 (by omega), el 6 (by omega), el 7 (by omega), el 8 (by omega), el 9 (by omega), el 10 (by omega), el 11 (by omega), el 12 (by omega), el 13 (by omega), el 14 (by omega), el 15 (by omega), el 16 (by omega), el 17 (by omega), el 18 (by omega)]
  refine ⟨h.1, h.2.1, h.2.2.1, h.2.2.2.1, fun f hf => ?_⟩
  rw [el (20 + f) (by omega), el (26 + f) (by omega), el (32 + f) (by omega)]
  exact h.2.2.2.2 f hf
