section QG
variable {N : nT} {f : Nat}
def isF (N : nT) (f p : Nat) : Prop := nA N ((368 + 8 * p + 0)) = (f : Int) + 1
def stE (N : nT) (f : Nat) (e : Int) (p : Nat) : Int := if nA N ((368 + 8 * p + 0)) = (f : Int) + 1 ∧ (e = -1 ∨ nA N ((368 + 8 * p + 1)) < e) then nA N ((368 + 8 * p + 1)) else e
def earN (N : nT) (f : Nat) (e : Int) (L : List Nat) : Int := L.foldl (stE N f) e
def isE (N : nT) (f : Nat) (S : Nat → Prop) (r : Int) : Prop := (r = -1 ∧ ∀ p, S p → ¬ isF N f p) ∨ (0 ≤ r ∧ (∃ p, S p ∧ isF N f p ∧ nA N ((368 + 8 * p + 1)) = r) ∧ ∀ p, S p → isF N f p → r ≤ nA N ((368 + 8 * p + 1)))
theorem isE_uni {S S' : Nat → Prop} {r r' : Int} (e : ∀ p, isF N f p → (S p ↔ S' p)) (a : isE N f S r) (b : isE N f S' r') : r = r' := by
  rcases a with ⟨a1, a2⟩ | ⟨a1, ⟨p, a2, a3, a4⟩, a5⟩
  · rcases b with ⟨b1, b2⟩ | ⟨b1, ⟨q, b2, b3, b4⟩, b5⟩
    · omega
    · exact absurd b3 (a2 q ((e q b3).mpr b2))
  · rcases b with ⟨b1, b2⟩ | ⟨b1, ⟨q, b2, b3, b4⟩, b5⟩
    · exact absurd a3 (b2 p ((e p a3).mp a2))
    · have h1 := a5 q ((e q b3).mpr b2) b3
      have h2 := b5 p ((e p a3).mp a2) a3
      omega
theorem isE_nil : isE N f (fun p => p ∈ ([] : List Nat)) (-1) := Or.inl ⟨rfl, fun p hp => absurd hp (by simp)⟩
theorem isE_snoc {L : List Nat} {p : Nat} {r : Int} (h : isE N f (fun q => q ∈ L) r) (hp : isF N f p → 0 ≤ nA N ((368 + 8 * p + 1))) : isE N f (fun q => q ∈ L ++ [p]) (stE N f r p) := by
  unfold stE
  by_cases c : nA N ((368 + 8 * p + 0)) = (f : Int) + 1
  · have hf : isF N f p := c
    have h0 := hp hf
    rcases h with ⟨a1, a2⟩ | ⟨a1, ⟨q, a2, a3, a4⟩, a5⟩
    · rw [if_pos ⟨c, Or.inl a1⟩]
      refine Or.inr ⟨h0, ⟨p, List.mem_append_right _ List.mem_cons_self, hf, rfl⟩, fun q hq hqf => ?_⟩
      rcases List.mem_append.mp hq with z | z
      · exact absurd hqf (a2 q z)
      · rw [List.mem_singleton.mp z]; exact Int.le_refl _
    · by_cases d : nA N ((368 + 8 * p + 1)) < r
      · rw [if_pos ⟨c, Or.inr d⟩]
        refine Or.inr ⟨h0, ⟨p, List.mem_append_right _ List.mem_cons_self, hf, rfl⟩, fun q hq hqf => ?_⟩
        rcases List.mem_append.mp hq with z | z
        · have := a5 q z hqf
          omega
        · rw [List.mem_singleton.mp z]; exact Int.le_refl _
      · rw [if_neg (by omega)]
        refine Or.inr ⟨a1, ⟨q, List.mem_append_left _ a2, a3, a4⟩, fun y hy hyf => ?_⟩
        rcases List.mem_append.mp hy with z | z
        · exact a5 y z hyf
        · rw [List.mem_singleton.mp z]; omega
  · rw [if_neg (fun q => c q.1)]
    rcases h with ⟨a1, a2⟩ | ⟨a1, ⟨q, a2, a3, a4⟩, a5⟩
    · refine Or.inl ⟨a1, fun y hy hyf => ?_⟩
      rcases List.mem_append.mp hy with z | z
      · exact a2 y z hyf
      · rw [List.mem_singleton.mp z] at hyf; exact c hyf
    · refine Or.inr ⟨a1, ⟨q, List.mem_append_left _ a2, a3, a4⟩, fun y hy hyf => ?_⟩
      rcases List.mem_append.mp hy with z | z
      · exact a5 y z hyf
      · rw [List.mem_singleton.mp z] at hyf; exact absurd hyf c
theorem isE_fold : ∀ (L : List Nat) {L0 : List Nat} {r : Int}, isE N f (fun q => q ∈ L0) r → (∀ p, p ∈ L → isF N f p → 0 ≤ nA N ((368 + 8 * p + 1))) → isE N f (fun q => q ∈ L0 ++ L) (earN N f r L) := by
  intro L
  induction L with
  | nil => intro L0 r h _; rw [List.append_nil]; exact h
  | cons p L ih =>
    intro L0 r h hp
    have a := isE_snoc h (hp p List.mem_cons_self)
    have b := ih a (fun q hq => hp q (List.mem_cons_of_mem _ hq))
    rw [List.append_assoc] at b
    exact b
theorem ear_bd : ∀ (L : List Nat) {r : Int}, (-1 ≤ r ∧ r ≤ 40000) → (∀ p, p ∈ L → isF N f p → 0 ≤ nA N ((368 + 8 * p + 1)) ∧ nA N ((368 + 8 * p + 1)) ≤ 40000) → -1 ≤ earN N f r L ∧ earN N f r L ≤ 40000 := by
  intro L
  induction L with
  | nil => intro r h _; exact h
  | cons p L ih =>
    intro r h hp
    refine ih (r := stE N f r p) ?_ (fun q hq => hp q (List.mem_cons_of_mem _ hq))
    unfold stE
    split
    · rename_i c
      have := hp p List.mem_cons_self c.1
      omega
    · exact h
theorem ear_snoc {L : List Nat} {r : Int} {j p : Nat} (hp : L[j]? = some p) : earN N f r (L.take (j + 1)) = stE N f (earN N f r (L.take j)) p := by
  unfold earN
  rw [take_succ_some hp, List.foldl_append]
  rfl
/-- the packets in the order in which the class looks at them -/
def clL (N : nT) : Nat → List Nat
  | 0 => nK N
  | n + 1 => clL N n ++ nR N n ++ nW N n
theorem clL_mem : ∀ n p, p ∈ clL N n ↔ p ∈ nK N ∨ ∃ a, a < n ∧ (p ∈ nR N a ∨ p ∈ nW N a) := by
  intro n
  induction n with
  | zero => intro p; exact ⟨fun h => Or.inl h, fun h => h.elim id (fun ⟨a, h, _⟩ => absurd h (by omega))⟩
  | succ n ih =>
    intro p
    show p ∈ clL N n ++ nR N n ++ nW N n ↔ _
    rw [List.mem_append, List.mem_append, ih p]
    constructor
    · intro hh
      rcases hh with ((h | ⟨a, h, h2⟩) | h) | h
      · exact Or.inl h
      · exact Or.inr ⟨a, by omega, h2⟩
      · exact Or.inr ⟨n, by omega, Or.inl h⟩
      · exact Or.inr ⟨n, by omega, Or.inr h⟩
    · intro hh
      rcases hh with h | ⟨a, h, h2⟩
      · exact Or.inl (Or.inl (Or.inl h))
      · by_cases c : a = n
        · subst c
          rcases h2 with h2 | h2
          · exact Or.inl (Or.inr h2)
          · exact Or.inr h2
        · exact Or.inl (Or.inl (Or.inr ⟨a, by omega, h2⟩))
theorem iN.inl (h : iN [] N) {p : Nat} (hp : p < 480) (h0 : 0 < nA N ((368 + 8 * p + 0))) : p ∈ clL N (nA N 0).toNat := by
  have hc := h.C p
  rw [if_pos ⟨hp, h0⟩] at hc
  unfold nC at hc
  rw [List.count_nil] at hc
  have H0 := h.H.1
  have z : ∀ a, a < 6 → p ∈ nR N a ∨ p ∈ nW N a → p ∈ clL N (nA N 0).toNat := by
    intro a ha hm
    refine (clL_mem _ _).mpr (Or.inr ⟨a, ?_, hm⟩)
    apply Classical.byContradiction
    intro c
    have q := h.Z a ha (by omega)
    rw [q.1, q.2] at hm
    rcases hm with hm | hm <;> exact absurd hm (by simp)
  apply Classical.byContradiction
  intro hn
  have n : ∀ a, a < 6 → (nR N a).count p = 0 ∧ (nW N a).count p = 0 := fun a ha => ⟨List.count_eq_zero.mpr (fun hm => hn (z a ha (Or.inl hm))), List.count_eq_zero.mpr (fun hm => hn (z a ha (Or.inr hm)))⟩
  have k : (nK N).count p = 0 := List.count_eq_zero.mpr (fun hm => hn ((clL_mem _ _).mpr (Or.inl hm)))
  have n0 := n 0 (by omega)
  have n1 := n 1 (by omega)
  have n2 := n 2 (by omega)
  have n3 := n 3 (by omega)
  have n4 := n 4 (by omega)
  have n5 := n 5 (by omega)
  omega
theorem clL_lv (h : iN [] N) : ∀ n p, n ≤ 6 → p ∈ clL N n → p < 480 ∧ 0 < nA N ((368 + 8 * p + 0)) := by
  intro n p hn hp
  rcases (clL_mem n p).mp hp with q | ⟨a, ha, q | q⟩
  · exact h.C.memK q
  · exact h.C.memR (by omega) q
  · exact h.C.memW (by omega) q
/-- both ways of looking find the same -/
theorem eld_eq (h : iN [] N) : earN N f (-1) (List.range 480) = earN N f (-1) (clL N (nA N 0).toNat) := by
  have H0 := h.H.1
  have p1 : ∀ p, p < 480 → isF N f p → 0 ≤ nA N ((368 + 8 * p + 1)) := fun p hp hf => (h.P p hp (by unfold isF at hf; omega)).2.1.1
  have a := isE_fold (N := N) (f := f) (List.range 480) isE_nil (fun p hp => p1 p (List.mem_range.mp hp))
  have b := isE_fold (N := N) (f := f) (clL N (nA N 0).toNat) isE_nil (fun p hp => p1 p (clL_lv h _ p (by omega) hp).1)
  rw [List.nil_append] at a b
  refine isE_uni (fun p hf => ⟨fun hm => ?_, fun hm => ?_⟩) a b
  · exact h.inl (List.mem_range.mp hm) (by unfold isF at hf; omega)
  · exact List.mem_range.mpr (clL_lv h _ p (by omega) hm).1
end QG
