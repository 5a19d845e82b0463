/-! LISTS IN THE MODEL'S ROW: one more at the end; events that move up -/
theorem getq_app {α : Type} {L : List α} {x y : α} {i : Nat} (h : (L ++ [x])[i]? = some y) : L[i]? = some y ∨ (i = L.length ∧ y = x) := by
  rw [List.getElem?_append] at h
  split at h
  · exact Or.inl h
  · have hi := (List.getElem?_eq_some_iff.mp h).1
    have : i - L.length = 0 := by simp at hi; omega
    rw [this] at h
    exact Or.inr ⟨by omega, by simpa using h.symm⟩
theorem MoR.pushK {g : Nat → Int64} {N : nT} {p : Nat} (r : MoR g N) (hp : g (5108 + (nK N).length) = lN p) : MoR (updL g 5 (lN ((nK N).length + 1))) (uK N (nK N ++ [p])) := by
  obtain ⟨r1, r2, r3, r4, r5, r6, r7, r8⟩ := r
  have ne : ∀ j, j ≠ 5 → updL g 5 (lN ((nK N).length + 1)) j = g j := fun j hj => by unfold updL; rw [if_neg hj]
  refine ⟨fun j hj hs => ?_, ⟨?_, ?_, ?_⟩, fun l hl => ⟨?_, ?_⟩, fun l hl i q hq => ?_, fun l hl i q hq => ?_, fun i q hq => ?_, fun i e he => ?_, fun i q hq f hf => ?_⟩
  · rw [ne j (fun e => hs (by unfold nSp; omega)), nA_uK]; exact r1 j hj hs
  · rw [ne 3 (by omega)]; exact r2.1
  · rw [ne 4 (by omega)]; exact r2.2.1
  · show updL g 5 _ 5 = lN (nK N ++ [p]).length
    unfold updL
    rw [if_pos rfl, List.length_append]; rfl
  · rw [ne _ (by omega)]; exact (r3 l hl).1
  · rw [ne _ (by omega)]; exact (r3 l hl).2
  · rw [ne _ (by omega)]; exact r4 l hl i q hq
  · rw [ne _ (by omega)]; exact r5 l hl i q hq
  · rw [ne _ (by omega)]
    rcases getq_app hq with hq | ⟨rfl, rfl⟩
    · exact r6 i q hq
    · exact hp
  · rw [ne _ (by omega), ne _ (by omega), ne _ (by omega), ne _ (by omega)]; exact r7 i e he
  · rw [ne _ (by omega)]; exact r8 i q hq f hf
theorem MoR.pushR {g : Nat → Int64} {N : nT} {p a : Nat} (r : MoR g N) (ha : a < 6) (hp : g (4208 + 60 * a + (nR N a).length) = lN p) : MoR (updL g (8 + 40 * a + 4) (lN ((nR N a).length + 1))) (uR N a (nR N a ++ [p])) := by
  obtain ⟨r1, r2, r3, r4, r5, r6, r7, r8⟩ := r
  have ne : ∀ j, j ≠ 8 + 40 * a + 4 → updL g (8 + 40 * a + 4) (lN ((nR N a).length + 1)) j = g j := fun j hj => by unfold updL; rw [if_neg hj]
  refine ⟨fun j hj hs => ?_, ⟨?_, ?_, ?_⟩, fun l hl => ⟨?_, ?_⟩, fun l hl i q hq => ?_, fun l hl i q hq => ?_, fun i q hq => ?_, fun i e he => ?_, fun i q hq f hf => ?_⟩
  · rw [ne j (fun e => hs (by unfold nSp; omega)), nA_uR]; exact r1 j hj hs
  · rw [ne 3 (by omega)]; exact r2.1
  · rw [ne 4 (by omega)]; exact r2.2.1
  · rw [ne 5 (by omega)]; exact r2.2.2
  · rw [nR_uR]
    by_cases e : l = a
    · subst e
      unfold updL
      rw [if_pos rfl, if_pos rfl, List.length_append]; rfl
    · rw [if_neg e, ne _ (by omega)]; exact (r3 l hl).1
  · rw [ne _ (by omega)]; exact (r3 l hl).2
  · rw [ne _ (by omega)]
    rw [nR_uR] at hq
    by_cases e : l = a
    · subst e
      rw [if_pos rfl] at hq
      rcases getq_app hq with hq | ⟨rfl, rfl⟩
      · exact r4 l hl i q hq
      · exact hp
    · rw [if_neg e] at hq
      exact r4 l hl i q hq
  · rw [ne _ (by omega)]; exact r5 l hl i q hq
  · rw [ne _ (by omega)]; exact r6 i q hq
  · rw [ne _ (by omega), ne _ (by omega), ne _ (by omega), ne _ (by omega)]; exact r7 i e he
  · rw [ne _ (by omega)]; exact r8 i q hq f hf
theorem MoR.pushW {g : Nat → Int64} {N : nT} {p a : Nat} (r : MoR g N) (ha : a < 6) (hp : g (4568 + 90 * a + (nW N a).length) = lN p) : MoR (updL g (8 + 40 * a + 5) (lN ((nW N a).length + 1))) (uW N a (nW N a ++ [p])) := by
  obtain ⟨r1, r2, r3, r4, r5, r6, r7, r8⟩ := r
  have ne : ∀ j, j ≠ 8 + 40 * a + 5 → updL g (8 + 40 * a + 5) (lN ((nW N a).length + 1)) j = g j := fun j hj => by unfold updL; rw [if_neg hj]
  refine ⟨fun j hj hs => ?_, ⟨?_, ?_, ?_⟩, fun l hl => ⟨?_, ?_⟩, fun l hl i q hq => ?_, fun l hl i q hq => ?_, fun i q hq => ?_, fun i e he => ?_, fun i q hq f hf => ?_⟩
  · rw [ne j (fun e => hs (by unfold nSp; omega)), nA_uW]; exact r1 j hj hs
  · rw [ne 3 (by omega)]; exact r2.1
  · rw [ne 4 (by omega)]; exact r2.2.1
  · rw [ne 5 (by omega)]; exact r2.2.2
  · rw [ne _ (by omega)]; exact (r3 l hl).1
  · rw [nW_uW]
    by_cases e : l = a
    · subst e
      unfold updL
      rw [if_pos rfl, if_pos rfl, List.length_append]; rfl
    · rw [if_neg e, ne _ (by omega)]; exact (r3 l hl).2
  · rw [ne _ (by omega)]; exact r4 l hl i q hq
  · rw [ne _ (by omega)]
    rw [nW_uW] at hq
    by_cases e : l = a
    · subst e
      rw [if_pos rfl] at hq
      rcases getq_app hq with hq | ⟨rfl, rfl⟩
      · exact r5 l hl i q hq
      · exact hp
    · rw [if_neg e] at hq
      exact r5 l hl i q hq
  · rw [ne _ (by omega)]; exact r6 i q hq
  · rw [ne _ (by omega), ne _ (by omega), ne _ (by omega), ne _ (by omega)]; exact r7 i e he
  · rw [ne _ (by omega)]; exact r8 i q hq f hf
theorem MoR.pushE {g : Nat → Int64} {N : nT} {e : Int × Int × Int × Int} (r : MoR g N) (h1 : g (5588 + 4 * (nE N).length) = jL e.1) (h2 : g (5588 + 4 * (nE N).length + 1) = jL e.2.1) (h3 : g (5588 + 4 * (nE N).length + 2) = jL e.2.2.1) (h4 : g (5588 + 4 * (nE N).length + 3) = jL e.2.2.2) : MoR (updL g 3 (lN ((nE N).length + 1))) (uE N (nE N ++ [e])) := by
  obtain ⟨r1, r2, r3, r4, r5, r6, r7, r8⟩ := r
  have ne : ∀ j, j ≠ 3 → updL g 3 (lN ((nE N).length + 1)) j = g j := fun j hj => by unfold updL; rw [if_neg hj]
  refine ⟨fun j hj hs => ?_, ⟨?_, ?_, ?_⟩, fun l hl => ⟨?_, ?_⟩, fun l hl i q hq => ?_, fun l hl i q hq => ?_, fun i q hq => ?_, fun i e he => ?_, fun i q hq f hf => ?_⟩
  · rw [ne j (fun e => hs (by unfold nSp; omega)), nA_uE]; exact r1 j hj hs
  · show updL g 3 _ 3 = lN (nE N ++ [e]).length
    unfold updL
    rw [if_pos rfl, List.length_append]; rfl
  · rw [ne 4 (by omega)]; exact r2.2.1
  · rw [ne 5 (by omega)]; exact r2.2.2
  · rw [ne _ (by omega)]; exact (r3 l hl).1
  · rw [ne _ (by omega)]; exact (r3 l hl).2
  · rw [ne _ (by omega)]; exact r4 l hl i q hq
  · rw [ne _ (by omega)]; exact r5 l hl i q hq
  · rw [ne _ (by omega)]; exact r6 i q hq
  · rw [ne _ (by omega), ne _ (by omega), ne _ (by omega), ne _ (by omega)]
    rcases getq_app he with hq | ⟨rfl, rfl⟩
    · exact r7 i e hq
    · exact ⟨h1, h2, h3, h4⟩
  · rw [ne _ (by omega)]; exact r8 i q hq f hf
/-- the events move up by one -/
def shE (g : Nat → Int64) (k : Nat) : Nat → Int64 := fun j => if 5588 ≤ j ∧ j < k then g (j + 4) else g j
theorem shE_succ (g : Nat → Int64) {k : Nat} (hk : 5588 ≤ k) : updL (shE g k) k (shE g k (k + 4)) = shE g (k + 1) := by
  funext j
  unfold updL shE
  by_cases e : j = k
  · subst e
    rw [if_pos rfl, if_neg (by omega), if_pos (by omega)]
  · rw [if_neg e]
    by_cases e2 : 5588 ≤ j ∧ j < k
    · rw [if_pos e2, if_pos (by omega)]
    · rw [if_neg e2, if_neg (by omega)]
theorem MoR.dropE {g : Nat → Int64} {N : nT} (r : MoR g N) (hf : nFit N) (h : (nE N).length = 24) : MoR (updL (shE g 5680) 3 (lN 23)) (uE N ((nE N).drop 1)) := by
  obtain ⟨r1, r2, r3, r4, r5, r6, r7, r8⟩ := r
  have ne : ∀ j, j ≠ 3 → (j < 5588 ∨ 5680 ≤ j) → updL (shE g 5680) 3 (lN 23) j = g j := fun j hj h2 => by unfold updL shE; rw [if_neg hj, if_neg (by omega)]
  have up : ∀ j, 5588 ≤ j → j < 5680 → updL (shE g 5680) 3 (lN 23) j = g (j + 4) := fun j h1 h2 => by unfold updL shE; rw [if_neg (by omega), if_pos ⟨h1, h2⟩]
  refine ⟨fun j hj hs => ?_, ⟨?_, ?_, ?_⟩, fun l hl => ⟨?_, ?_⟩, fun l hl i q hq => ?_, fun l hl i q hq => ?_, fun i q hq => ?_, fun i e he => ?_, fun i q hq f hf => ?_⟩
  · rw [ne j (fun e => hs (by unfold nSp; omega)) (by omega), nA_uE]; exact r1 j hj hs
  · show updL _ 3 _ 3 = lN ((nE N).drop 1).length
    unfold updL
    rw [if_pos rfl, List.length_drop, h]
  · rw [ne 4 (by omega) (by omega)]; exact r2.2.1
  · rw [ne 5 (by omega) (by omega)]; exact r2.2.2
  · rw [ne _ (by omega) (by omega)]; exact (r3 l hl).1
  · rw [ne _ (by omega) (by omega)]; exact (r3 l hl).2
  · have h9 : i < (nR N l).length := (List.getElem?_eq_some_iff.mp hq).1
    have := (hf.1 l hl).1
    rw [ne _ (by omega) (by omega)]; exact r4 l hl i q hq
  · have h9 : i < (nW N l).length := (List.getElem?_eq_some_iff.mp hq).1
    have := (hf.1 l hl).2
    rw [ne _ (by omega) (by omega)]; exact r5 l hl i q hq
  · have h9 : i < (nK N).length := (List.getElem?_eq_some_iff.mp hq).1
    have := hf.2.1
    rw [ne _ (by omega) (by omega)]; exact r6 i q hq
  · have hl : i < 23 := by
      have := (List.getElem?_eq_some_iff.mp he).1
      rw [nE_uE, List.length_drop, h] at this
      exact this
    rw [nE_uE, List.getElem?_drop] at he
    rw [up _ (by omega) (by omega), up _ (by omega) (by omega), up _ (by omega) (by omega), up _ (by omega) (by omega)]
    obtain ⟨e1, e2, e3, e4⟩ := r7 (1 + i) e he
    exact ⟨by rw [← e1]; congr 1; omega, by rw [← e2]; congr 1; omega, by rw [← e3]; congr 1; omega, by rw [← e4]; congr 1; omega⟩
  · rw [ne _ (by omega) (by omega)]; exact r8 i q hq f hf
/-- a model whose row is g -/
def zSG (h : zH) (a : Nat) (g : Nat → Int64) : zH := (h.1, h.2.1, h.2.2.1, h.2.2.2.1, fun b i => if b = a then g i else h.2.2.2.2.1 b i, h.2.2.2.2.2)
theorem zL_SG (h : zH) (a : Nat) (g : Nat → Int64) : zL (zSG h a g) a = g := by
  funext i
  show (if a = a then g i else _) = g i
  rw [if_pos rfl]
theorem zSG_id (h : zH) (a : Nat) : zSG h a (zL h a) = h := by
  unfold zSG zL
  congr 5
  funext b i
  by_cases e : b = a
  · rw [if_pos e, e]
  · rw [if_neg e]
theorem zSL_SG (h : zH) (a k : Nat) (g : Nat → Int64) (v : Int64) : zSL (zSG h a g) a k v = zSG h a (updL g k v) := by
  unfold zSG zSL zu updL
  congr 5
  funext b i
  by_cases e : b = a
  · subst e
    by_cases e2 : i = k
    · simp [e2]
    · simp [e2]
  · simp [e]
