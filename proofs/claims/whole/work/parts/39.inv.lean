/-! WHAT ALWAYS HOLDS OF THE NET. Counting first. -/
theorem len_of_cover : ∀ (n : Nat) (L : List Nat), (∀ x, x < n → x ∈ L) → n ≤ L.length := by
  intro n
  induction n with
  | zero => intro L _; exact Nat.zero_le _
  | succ n ih =>
    intro L h
    have h1 := ih (L.erase n) (fun x hx => (List.mem_erase_of_ne (by omega)).mpr (h x (by omega)))
    have h2 := List.length_erase_of_mem (h n (by omega))
    have h3 : 0 < L.length := List.length_pos_of_mem (h n (by omega))
    omega
theorem len_of_bound : ∀ (n : Nat) (L : List Nat), L.Nodup → (∀ x, x ∈ L → x < n) → L.length ≤ n := by
  intro n
  induction n with
  | zero =>
    intro L _ h
    cases L with
    | nil => exact Nat.le_refl _
    | cons a L => exact absurd (h a (List.mem_cons_self)) (by omega)
  | succ n ih =>
    intro L hn h
    have h1 := ih (L.erase n) (hn.erase n) (fun x hx => by
      have h2 := hn.mem_erase_iff.mp hx
      have h3 := h x h2.2
      have h4 := h2.1
      omega)
    have h2 : L.length - 1 ≤ (L.erase n).length := by
      rw [List.length_erase]
      split <;> omega
    omega
/-- how often a packet stands anywhere: in transit, in rows, on wires, on its way back -/
def nC (X : List Nat) (N : nT) (x : Nat) : Nat := X.count x + ((nR N 0).count x + (nR N 1).count x + (nR N 2).count x + (nR N 3).count x + (nR N 4).count x + (nR N 5).count x) + ((nW N 0).count x + (nW N 1).count x + (nW N 2).count x + (nW N 3).count x + (nW N 4).count x + (nW N 5).count x) + (nK N).count x
theorem six {a : Nat} (h : a < 6) : a = 0 ∨ a = 1 ∨ a = 2 ∨ a = 3 ∨ a = 4 ∨ a = 5 := by omega
theorem nC_R {X : List Nat} {N : nT} {x a : Nat} (h : a < 6) : X.count x + (nR N a).count x ≤ nC X N x := by
  unfold nC
  rcases six h with rfl | rfl | rfl | rfl | rfl | rfl <;> omega
theorem nC_W {X : List Nat} {N : nT} {x a : Nat} (h : a < 6) : X.count x + (nW N a).count x ≤ nC X N x := by
  unfold nC
  rcases six h with rfl | rfl | rfl | rfl | rfl | rfl <;> omega
theorem nC_K {X : List Nat} {N : nT} {x : Nat} : X.count x + (nK N).count x ≤ nC X N x := by
  unfold nC
  omega
theorem nC_uR {X : List Nat} {N : nT} {x a : Nat} {r : List Nat} (h : a < 6) : nC X (uR N a r) x + (nR N a).count x = nC X N x + r.count x := by
  unfold nC
  simp only [nR_uR, nW_uR, nK_uR]
  rcases six h with rfl | rfl | rfl | rfl | rfl | rfl <;> simp <;> omega
theorem nC_uW {X : List Nat} {N : nT} {x a : Nat} {r : List Nat} (h : a < 6) : nC X (uW N a r) x + (nW N a).count x = nC X N x + r.count x := by
  unfold nC
  simp only [nR_uW, nW_uW, nK_uW]
  rcases six h with rfl | rfl | rfl | rfl | rfl | rfl <;> simp <;> omega
theorem nC_uK {X : List Nat} {N : nT} {x : Nat} {r : List Nat} : nC X (uK N r) x + (nK N).count x = nC X N x + r.count x := by
  unfold nC
  simp only [nR_uK, nW_uK, nK_uK]
  omega
theorem nC_uA {X : List Nat} {N : nT} {x k : Nat} {z : Int} : nC X (uA N k z) x = nC X N x := rfl
theorem nC_ev {X : List Nat} {N : nT} {x : Nat} {k q f : Int} : nC X (evN N k q f) x = nC X N x := rfl
theorem nC_cons {X : List Nat} {N : nT} {x p : Nat} : nC (p :: X) N x = nC X N x + (if p = x then 1 else 0) := by
  unfold nC
  rw [List.count_cons]
  simp only [beq_iff_eq]
  omega
/-- one place at a time, and there if it lives -/
def iC (X : List Nat) (N : nT) : Prop := ∀ x, nC X N x = if x < 480 ∧ 0 < nA N (368 + 8 * x + 0) then 1 else 0
theorem count_pos {x : Nat} {L : List Nat} (h : x ∈ L) : 0 < L.count x := List.count_pos_iff.mpr h
theorem iC.of {X : List Nat} {N : nT} (h : iC X N) {x : Nat} (hx : 0 < nC X N x) : x < 480 ∧ 0 < nA N (368 + 8 * x + 0) := by
  have e := h x
  by_cases c : x < 480 ∧ 0 < nA N (368 + 8 * x + 0)
  · exact c
  · rw [if_neg c] at e; omega
theorem iC.le {X : List Nat} {N : nT} (h : iC X N) (x : Nat) : nC X N x ≤ 1 := by
  rw [h x]; split <;> omega
theorem iC.memX {X : List Nat} {N : nT} (h : iC X N) {x : Nat} (hx : x ∈ X) : x < 480 ∧ 0 < nA N (368 + 8 * x + 0) := h.of (by have := count_pos hx; have := @nC_K X N x; omega)
theorem iC.memR {X : List Nat} {N : nT} (h : iC X N) {x a : Nat} (ha : a < 6) (hx : x ∈ nR N a) : x < 480 ∧ 0 < nA N (368 + 8 * x + 0) := h.of (by have := count_pos hx; have := @nC_R X N x a ha; omega)
theorem iC.memW {X : List Nat} {N : nT} (h : iC X N) {x a : Nat} (ha : a < 6) (hx : x ∈ nW N a) : x < 480 ∧ 0 < nA N (368 + 8 * x + 0) := h.of (by have := count_pos hx; have := @nC_W X N x a ha; omega)
theorem iC.memK {X : List Nat} {N : nT} (h : iC X N) {x : Nat} (hx : x ∈ nK N) : x < 480 ∧ 0 < nA N (368 + 8 * x + 0) := h.of (by have := count_pos hx; have := @nC_K X N x; omega)
theorem iC.lenK {X : List Nat} {N : nT} (h : iC X N) : X.length + (nK N).length ≤ 480 := by
  rw [← List.length_append]
  refine len_of_bound 480 _ (List.nodup_iff_count.mpr fun x => ?_) (fun x hx => ?_)
  · have := h.le x
    have := @nC_K X N x
    rw [List.count_append]
    omega
  · rcases List.mem_append.mp hx with q | q
    · exact (h.memX q).1
    · exact (h.memK q).1
/-- a flow's packets -/
def nFly (N : nT) (f : Nat) : Nat := (List.range 480).countP fun x => decide (nA N (368 + 8 * x + 0) = (f : Int) + 1)
theorem countP_upd {g g' : Nat → Bool} {p : Nat} (e : ∀ x, x ≠ p → g' x = g x) : ∀ n, p < n → (List.range n).countP g' + (if g p then 1 else 0) = (List.range n).countP g + (if g' p then 1 else 0) := by
  have same : ∀ n, n ≤ p → (List.range n).countP g' = (List.range n).countP g := by
    intro n
    induction n with
    | zero => intro _; rfl
    | succ n ih =>
      intro h
      rw [List.range_succ, List.countP_append, List.countP_append, ih (by omega), List.countP_singleton, List.countP_singleton, e n (by omega)]
  intro n
  induction n with
  | zero => intro h; omega
  | succ n ih =>
    intro h
    rw [List.range_succ, List.countP_append, List.countP_append, List.countP_singleton, List.countP_singleton]
    by_cases c : p = n
    · subst c
      rw [same p (Nat.le_refl _)]
      omega
    · have := ih (by omega)
      rw [e n (fun q => c q.symm)]
      omega
/-- a packet's place is marked otherwise -/
theorem nFly_upd {N : nT} {p f : Nat} {z : Int} (hp : p < 480) : nFly (uA N (368 + 8 * p + 0) z) f + (if nA N (368 + 8 * p + 0) = (f : Int) + 1 then 1 else 0) = nFly N f + (if z = (f : Int) + 1 then 1 else 0) := by
  have h := countP_upd (g := fun x => decide (nA N (368 + 8 * x + 0) = (f : Int) + 1)) (g' := fun x => decide (nA (uA N (368 + 8 * p + 0) z) (368 + 8 * x + 0) = (f : Int) + 1)) (p := p) (fun x hx => by
    show decide (nA (uA N (368 + 8 * p + 0) z) (368 + 8 * x + 0) = (f : Int) + 1) = decide (nA N (368 + 8 * x + 0) = (f : Int) + 1)
    rw [nA_ne (by omega)]) 480 hp
  simp only [nA_eq, decide_eq_true_eq] at h
  exact h
theorem nFly_congr {N N' : nT} {f : Nat} (e : ∀ x, x < 480 → nA N' (368 + 8 * x + 0) = nA N (368 + 8 * x + 0)) : nFly N' f = nFly N f := by
  unfold nFly
  refine List.countP_congr fun x hx => ?_
  rw [e x (List.mem_range.mp hx)]
theorem ite_six {z : Int} (h : z = 1 ∨ z = 2 ∨ z = 3 ∨ z = 4 ∨ z = 5 ∨ z = 6) : (if z = ((0 : Nat) : Int) + 1 then 1 else 0) + (if z = ((1 : Nat) : Int) + 1 then 1 else 0) + (if z = ((2 : Nat) : Int) + 1 then 1 else 0) + (if z = ((3 : Nat) : Int) + 1 then 1 else 0) + (if z = ((4 : Nat) : Int) + 1 then 1 else 0) + (if z = ((5 : Nat) : Int) + 1 then 1 else 0) = 1 := by
  rcases h with rfl | rfl | rfl | rfl | rfl | rfl <;> rfl
/-- each of the first n places belongs to one of six flows: so many there are in all -/
theorem fly_all {N : nT} : ∀ n, (∀ x, x < n → 1 ≤ nA N (368 + 8 * x + 0) ∧ nA N (368 + 8 * x + 0) ≤ 6) → n = (List.range n).countP (fun x => decide (nA N (368 + 8 * x + 0) = ((0 : Nat) : Int) + 1)) + (List.range n).countP (fun x => decide (nA N (368 + 8 * x + 0) = ((1 : Nat) : Int) + 1)) + (List.range n).countP (fun x => decide (nA N (368 + 8 * x + 0) = ((2 : Nat) : Int) + 1)) + (List.range n).countP (fun x => decide (nA N (368 + 8 * x + 0) = ((3 : Nat) : Int) + 1)) + (List.range n).countP (fun x => decide (nA N (368 + 8 * x + 0) = ((4 : Nat) : Int) + 1)) + (List.range n).countP (fun x => decide (nA N (368 + 8 * x + 0) = ((5 : Nat) : Int) + 1)) := by
  intro n
  induction n with
  | zero => intro _; rfl
  | succ n ih =>
    intro h
    have h1 := ih (fun x hx => h x (by omega))
    have h2 := h n (by omega)
    rw [List.range_succ]
    simp only [List.countP_append, List.countP_singleton, decide_eq_true_eq]
    have h3 : nA N (368 + 8 * n + 0) = 1 ∨ nA N (368 + 8 * n + 0) = 2 ∨ nA N (368 + 8 * n + 0) = 3 ∨ nA N (368 + 8 * n + 0) = 4 ∨ nA N (368 + 8 * n + 0) = 5 ∨ nA N (368 + 8 * n + 0) = 6 := by omega
    have h4 := ite_six h3
    omega
/-- a place is free -/
theorem free_lt {N : nT} (h6 : ∀ x, x < 480 → 0 < nA N (368 + 8 * x + 0) → nA N (368 + 8 * x + 0) ≤ 6) (hs : nFly N 0 + nFly N 1 + nFly N 2 + nFly N 3 + nFly N 4 + nFly N 5 < 480) : ∃ p, p < 480 ∧ ¬ 0 < nA N (368 + 8 * p + 0) := by
  apply Classical.byContradiction
  intro hn
  have all : ∀ x, x < 480 → 1 ≤ nA N (368 + 8 * x + 0) ∧ nA N (368 + 8 * x + 0) ≤ 6 := by
    intro x hx
    have h0 : 0 < nA N (368 + 8 * x + 0) := Classical.byContradiction fun c => hn ⟨x, hx, c⟩
    exact ⟨h0, h6 x hx h0⟩
  have e := fly_all 480 all
  unfold nFly at hs
  omega
theorem freeN_spec {N : nT} (h : ∃ p, p < 480 ∧ ¬ 0 < nA N (368 + 8 * p + 0)) : freeN N < 480 ∧ ¬ 0 < nA N (368 + 8 * (freeN N) + 0) ∧ ∀ x, x < freeN N → 0 < nA N (368 + 8 * x + 0) := by
  obtain ⟨p, hp, hz⟩ := h
  unfold freeN
  cases e : (List.range 480).find? fun p => !decide (0 < nA N (368 + 8 * p + 0)) with
  | none =>
    have := List.find?_eq_none.mp e p (List.mem_range.mpr hp)
    exact absurd (by simpa using this) hz
  | some q =>
    have h1 := List.find?_some e
    have h2 := List.mem_range.mp (List.mem_of_find?_eq_some e)
    refine ⟨h2, by simpa using h1, fun x hx => ?_⟩
    obtain ⟨_, as, bs, ha, hb⟩ := List.find?_eq_some_iff_append.mp e
    have hl : as.length = q := by
      have h3 : (List.range 480)[as.length]? = some q := by rw [ha]; simp
      rw [List.getElem?_range (by
        have := congrArg List.length ha
        simp at this
        omega)] at h3
      simpa using h3
    have hx2 : x ∈ as := by
      have hx' : x < as.length := by rw [hl]; exact hx
      have h4 : (List.range 480)[x]? = as[x]? := by rw [ha, List.getElem?_append_left hx']
      rw [List.getElem?_range (by omega)] at h4
      exact List.mem_of_getElem? h4.symm
    have := hb x hx2
    simpa using this
