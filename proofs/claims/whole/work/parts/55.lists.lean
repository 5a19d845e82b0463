/-! LISTS OF THE MODEL'S ROW LAID ANEW; how long a wire can be -/
theorem len_due {d : Nat → Int} {lo : Int} : ∀ (n : Nat) (L : List Nat), (∀ x, x ∈ L → lo ≤ d x ∧ d x < lo + n) → (∀ z, L.countP (fun x => decide (d x = z)) ≤ 9) → L.length ≤ 9 * n := by
  intro n
  induction n with
  | zero =>
    intro L h _
    cases L with
    | nil => exact Nat.le_refl _
    | cons a L =>
      have := h a List.mem_cons_self
      omega
  | succ n ih =>
    intro L h hc
    have h1 := ih (L.filter fun x => !decide (d x = lo + n)) (fun x hx => by
      have q := List.mem_filter.mp hx
      have q1 := h x q.1
      have q2 := q.2
      simp only [Bool.not_eq_true', decide_eq_false_iff_not] at q2
      omega) (fun z => Nat.le_trans (List.filter_sublist.countP_le) (hc z))
    have h2 := hc (lo + n)
    have h3 := List.length_eq_countP_add_countP (fun x => decide (d x = lo + n)) (l := L)
    have h4 : (L.filter fun x => !decide (d x = lo + n)).length = L.countP (fun x => !decide (d x = lo + n)) := List.countP_eq_length_filter.symm
    have h5 : L.countP (fun x => !decide (d x = lo + n)) = L.countP (fun x => decide ¬ (decide (d x = lo + n)) = true) := List.countP_congr (fun x _ => by simp)
    omega
theorem iW.len {N : nT} {a n : Nat} {lo hi : Int} (h : iW N a lo hi) (hn : hi < lo + n) : (nW N a).length ≤ 9 * n := len_due (d := fun x => nA N ((368 + 8 * x + 6))) (lo := lo) n (nW N a) (fun x hx => by
  have := h.2.1 x hx
  show lo ≤ nA N ((368 + 8 * x + 6)) ∧ nA N ((368 + 8 * x + 6)) < lo + n
  omega) h.2.2
section L1
variable {g g' : Nat → Int64} {N : nT}
theorem MoR.listK (r : MoR g N) (hF : nFit N) {L : List Nat} (e : ∀ k, k ≠ 5 → (k < 5108 ∨ 5588 ≤ k) → g' k = g k) (e5 : g' 5 = lN L.length) (eL : ∀ (i p : Nat), L[i]? = some p → g' (5108 + i) = lN p) : MoR g' (uK N L) := by
  obtain ⟨r1, r2, r3, r4, r5, r6, r7, r8⟩ := r
  have lt : ∀ {α : Type} {L : List α} {i : Nat} {x : α}, L[i]? = some x → i < L.length := fun h => (List.getElem?_eq_some_iff.mp h).1
  refine ⟨fun j hj hs => ?_, ⟨?_, ?_, e5⟩, fun l hl => ⟨?_, ?_⟩, fun l hl i q hq => ?_, fun l hl i q hq => ?_, eL, fun i q hq => ?_, fun i q hq f hf => ?_⟩
  · rw [e j (fun c => hs (by unfold nSp; omega)) (by omega)]; exact r1 j hj hs
  · rw [e 3 (by omega) (by omega)]; exact r2.1
  · rw [e 4 (by omega) (by omega)]; exact r2.2.1
  · rw [e _ (by omega) (by omega)]; exact (r3 l hl).1
  · rw [e _ (by omega) (by omega)]; exact (r3 l hl).2
  · have h9 := lt hq
    have h8 := (hF.1 l hl).1
    have h9' : i < (nR N l).length := h9
    rw [e _ (by omega) (by omega)]; exact r4 l hl i q hq
  · have h9' : i < (nW N l).length := lt hq
    have h8 := (hF.1 l hl).2
    rw [e _ (by omega) (by omega)]; exact r5 l hl i q hq
  · rw [e _ (by omega) (by omega), e _ (by omega) (by omega), e _ (by omega) (by omega), e _ (by omega) (by omega)]; exact r7 i q hq
  · rw [e _ (by omega) (by omega)]; exact r8 i q hq f hf
theorem MoR.listW {a : Nat} (ha : a < 6) (r : MoR g N) (hF : nFit N) {L : List Nat} (e : ∀ k, k ≠ (8 + 40 * a + 5) → (k < 4568 + 90 * a ∨ 4568 + 90 * a + 90 ≤ k) → g' k = g k) (e5 : g' ((8 + 40 * a + 5)) = lN L.length) (eL : ∀ (i p : Nat), L[i]? = some p → g' (4568 + 90 * a + i) = lN p) : MoR g' (uW N a L) := by
  obtain ⟨r1, r2, r3, r4, r5, r6, r7, r8⟩ := r
  have lt : ∀ {α : Type} {L : List α} {i : Nat} {x : α}, L[i]? = some x → i < L.length := fun h => (List.getElem?_eq_some_iff.mp h).1
  refine ⟨fun j hj hs => ?_, ⟨?_, ?_, ?_⟩, fun l hl => ⟨?_, ?_⟩, fun l hl i q hq => ?_, fun l hl i q hq => ?_, fun i q hq => ?_, fun i q hq => ?_, fun i q hq f hf => ?_⟩
  · rw [e j (fun c => hs (by unfold nSp; omega)) (by omega)]; exact r1 j hj hs
  · rw [e 3 (by omega) (by omega)]; exact r2.1
  · rw [e 4 (by omega) (by omega)]; exact r2.2.1
  · rw [e 5 (by omega) (by omega)]; exact r2.2.2
  · rw [e _ (by omega) (by omega)]; exact (r3 l hl).1
  · rw [nW_uW]
    by_cases c : l = a
    · subst c; rw [if_pos rfl]; exact e5
    · rw [if_neg c, e _ (by omega) (by omega)]; exact (r3 l hl).2
  · have h9' : i < (nR N l).length := lt hq
    have h8 := (hF.1 l hl).1
    rw [e _ (by omega) (by omega)]; exact r4 l hl i q hq
  · rw [nW_uW] at hq
    by_cases c : l = a
    · subst c; rw [if_pos rfl] at hq; exact eL i q hq
    · rw [if_neg c] at hq
      have h9' : i < (nW N l).length := lt hq
      have h8 := (hF.1 l hl).2
      rw [e _ (by omega) (by omega)]; exact r5 l hl i q hq
  · have h9' : i < (nK N).length := lt hq
    have h8 := hF.2.1
    rw [e _ (by omega) (by omega)]; exact r6 i q hq
  · rw [e _ (by omega) (by omega), e _ (by omega) (by omega), e _ (by omega) (by omega), e _ (by omega) (by omega)]; exact r7 i q hq
  · rw [e _ (by omega) (by omega)]; exact r8 i q hq f hf
theorem MoR.listR {a : Nat} (ha : a < 6) (r : MoR g N) (hF : nFit N) {L : List Nat} (e : ∀ k, k ≠ (8 + 40 * a + 4) → (k < 4208 + 60 * a ∨ 4208 + 60 * a + 60 ≤ k) → g' k = g k) (e5 : g' ((8 + 40 * a + 4)) = lN L.length) (eL : ∀ (i p : Nat), L[i]? = some p → g' (4208 + 60 * a + i) = lN p) : MoR g' (uR N a L) := by
  obtain ⟨r1, r2, r3, r4, r5, r6, r7, r8⟩ := r
  have lt : ∀ {α : Type} {L : List α} {i : Nat} {x : α}, L[i]? = some x → i < L.length := fun h => (List.getElem?_eq_some_iff.mp h).1
  refine ⟨fun j hj hs => ?_, ⟨?_, ?_, ?_⟩, fun l hl => ⟨?_, ?_⟩, fun l hl i q hq => ?_, fun l hl i q hq => ?_, fun i q hq => ?_, fun i q hq => ?_, fun i q hq f hf => ?_⟩
  · rw [e j (fun c => hs (by unfold nSp; omega)) (by omega)]; exact r1 j hj hs
  · rw [e 3 (by omega) (by omega)]; exact r2.1
  · rw [e 4 (by omega) (by omega)]; exact r2.2.1
  · rw [e 5 (by omega) (by omega)]; exact r2.2.2
  · rw [nR_uR]
    by_cases c : l = a
    · subst c; rw [if_pos rfl]; exact e5
    · rw [if_neg c, e _ (by omega) (by omega)]; exact (r3 l hl).1
  · rw [e _ (by omega) (by omega)]; exact (r3 l hl).2
  · rw [nR_uR] at hq
    by_cases c : l = a
    · subst c; rw [if_pos rfl] at hq; exact eL i q hq
    · rw [if_neg c] at hq
      have h9' : i < (nR N l).length := lt hq
      have h8 := (hF.1 l hl).1
      rw [e _ (by omega) (by omega)]; exact r4 l hl i q hq
  · have h9' : i < (nW N l).length := lt hq
    have h8 := (hF.1 l hl).2
    rw [e _ (by omega) (by omega)]; exact r5 l hl i q hq
  · have h9' : i < (nK N).length := lt hq
    have h8 := hF.2.1
    rw [e _ (by omega) (by omega)]; exact r6 i q hq
  · rw [e _ (by omega) (by omega), e _ (by omega) (by omega), e _ (by omega) (by omega), e _ (by omega) (by omega)]; exact r7 i q hq
  · rw [e _ (by omega) (by omega)]; exact r8 i q hq f hf
end L1
