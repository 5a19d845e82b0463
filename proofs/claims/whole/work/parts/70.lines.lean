/-! THE CLASS: its lines of packets -/
section CL
variable {h h1 : zH} {ls : Nat → List Nat}
def isL (h : zH) (L : Nat) : Prop := L < zx h ∧ zk h L = 3
def updF (ls : Nat → List Nat) (L : Nat) (r : List Nat) : Nat → List Nat := fun K => if K = L then r else ls K
theorem updF_eq {L : Nat} {r : List Nat} : updF ls L r L = r := by unfold updF; rw [if_pos rfl]
theorem updF_ne {L K : Nat} {r : List Nat} (e : K ≠ L) : updF ls L r K = ls K := by unfold updF; rw [if_neg e]
/-- all lines of the heap: who stands in them, each packet in one place -/
def lnS (h : zH) (ls : Nat → List Nat) : Prop :=
  (∀ L, isL h L → zr h 96 L = (ls L).head? ∧ zr h 97 L = (ls L).getLast? ∧ zi h 98 L = nI (ls L).length ∧ ∀ (i p : Nat), (ls L)[i]? = some p → (p < zx h ∧ zk h p = 6) ∧ zr h 201 p = (ls L)[i + 1]?) ∧
  ∀ (L K i j q : Nat), isL h L → isL h K → (ls L)[i]? = some q → (ls K)[j]? = some q → L = K ∧ i = j
/-- p stands nowhere -/
def outL (h : zH) (ls : Nat → List Nat) (p : Nat) : Prop := ∀ L, isL h L → ¬ p ∈ ls L
/-- what is done to lines touches only these fields -/
def FrLn (h h1 : zH) : Prop := zx h1 = zx h ∧ zt h1 = zt h ∧ (∀ a, zk h1 a = zk h a) ∧ (∀ a, zn h1 a = zn h a) ∧ (∀ f a, f ≠ 98 → zi h1 f a = zi h f a) ∧ (∀ f a, zl h1 f a = zl h f a) ∧ (∀ f a, f ≠ 96 → f ≠ 97 → f ≠ 201 → zr h1 f a = zr h f a) ∧ (∀ a i, zI h1 a i = zI h a i) ∧ (∀ a i, zL h1 a i = zL h a i) ∧ (∀ a i, zR h1 a i = zR h a i)
theorem FrLn.iff (f : FrLn h h1) {L : Nat} : isL h1 L ↔ isL h L := by unfold isL; rw [f.1, f.2.2.1]
theorem FrLn.out (f : FrLn h h1) {p : Nat} (o : ∀ L, isL h L → ¬ p ∈ ls L) : outL h1 ls p := fun L hL => o L (f.iff.mp hL)
/-- p is put behind L -/
def appS (h h1 : zH) (ls : Nat → List Nat) (L p : Nat) : Prop := (∀ a, zr h1 96 a = if a = L ∧ ls L = [] then some p else zr h 96 a) ∧ (∀ a, zr h1 97 a = if a = L then some p else zr h 97 a) ∧ (∀ a, zi h1 98 a = if a = L then nI ((ls L).length + 1) else zi h 98 a) ∧ ∀ a, zr h1 201 a = if a = p then none else if (ls L).getLast? = some a then some p else zr h 201 a
/-- the first of L is taken: p, r stays -/
def takS (h h1 : zH) (L p : Nat) (r : List Nat) : Prop := (∀ a, zr h1 96 a = if a = L then r.head? else zr h 96 a) ∧ (∀ a, zr h1 97 a = if a = L ∧ r = [] then none else zr h 97 a) ∧ (∀ a, zi h1 98 a = if a = L then nI r.length else zi h 98 a) ∧ ∀ a, zr h1 201 a = if a = p then none else zr h 201 a
theorem getq_last {L : List Nat} {q : Nat} (h : L.getLast? = some q) : L[L.length - 1]? = some q := by rw [← List.getLast?_eq_getElem?]; exact h
theorem lnS.app (s : lnS h ls) (f : FrLn h h1) {L p : Nat} (hL : isL h L) (hp : p < zx h ∧ zk h p = 6) (ho : outL h ls p) (a : appS h h1 ls L p) : lnS h1 (updF ls L (ls L ++ [p])) := by
  obtain ⟨s1, s2⟩ := s
  obtain ⟨a1, a2, a3, a4⟩ := a
  have lt : ∀ {L : List Nat} {i x : Nat}, L[i]? = some x → i < L.length := fun h => (List.getElem?_eq_some_iff.mp h).1
  have ne : ∀ {K i q : Nat}, isL h K → (ls K)[i]? = some q → q ≠ p := fun hK hq e => ho _ hK (e ▸ List.mem_of_getElem? hq)
  have app : ∀ {i q : Nat}, (ls L ++ [p])[i]? = some q → (ls L)[i]? = some q ∨ (i = (ls L).length ∧ q = p) := fun hq => getq_app hq
  refine ⟨fun K hK => ?_, fun K K' i j q hK hK' hq hq' => ?_⟩
  · have hK0 := f.iff.mp hK
    obtain ⟨t1, t2, t3, t4⟩ := s1 K hK0
    by_cases c : K = L
    · subst c
      rw [updF_eq, a1, a2, a3, if_pos rfl, if_pos rfl]
      refine ⟨?_, by rw [List.getLast?_concat], by rw [List.length_append]; rfl, fun i q hq => ?_⟩
      · cases e : ls K with
        | nil => rw [if_pos ⟨rfl, rfl⟩]; rfl
        | cons x y => rw [if_neg (fun q => by simp at q), t1, e]; rfl
      · rw [f.1, f.2.2.1, a4]
        rcases app hq with e | ⟨e1, e2⟩
        · have hi := lt e
          obtain ⟨u1, u2⟩ := t4 i q e
          refine ⟨u1, ?_⟩
          rw [if_neg (ne hK0 e)]
          by_cases d : i + 1 = (ls K).length
          · rw [if_pos (by rw [List.getLast?_eq_getElem?, ← d]; exact e), d, List.getElem?_append_right (Nat.le_refl _), Nat.sub_self]; rfl
          · rw [if_neg (fun g => by have := (s2 K K _ _ q hK0 hK0 e (getq_last g)).2; omega), u2, List.getElem?_append_left (by omega)]
        · subst e2
          refine ⟨hp, ?_⟩
          rw [if_pos rfl, e1, List.getElem?_eq_none (by rw [List.length_append, List.length_singleton]; omega)]
    · rw [updF_ne c, a1, a2, a3, if_neg (fun q => c q.1), if_neg c, if_neg c]
      refine ⟨t1, t2, t3, fun i q hq => ?_⟩
      obtain ⟨u1, u2⟩ := t4 i q hq
      rw [f.1, f.2.2.1, a4, if_neg (ne hK0 hq), if_neg (fun g => c (s2 K L _ _ q hK0 hL hq (getq_last g)).1)]
      exact ⟨u1, u2⟩
  · have hK0 := f.iff.mp hK
    have hK1 := f.iff.mp hK'
    by_cases c : K = L
    · subst c
      rw [updF_eq] at hq
      by_cases c' : K' = K
      · subst c'
        rw [updF_eq] at hq'
        rcases app hq with e | ⟨e1, e2⟩
        · rcases app hq' with g | ⟨g1, g2⟩
          · exact s2 _ _ _ _ _ hK0 hK1 e g
          · exact absurd g2 (ne hK0 e)
        · rcases app hq' with g | ⟨g1, g2⟩
          · exact absurd e2 (ne hK0 g)
          · exact ⟨rfl, by omega⟩
      · rw [updF_ne c'] at hq'
        rcases app hq with e | ⟨e1, e2⟩
        · exact s2 _ _ _ _ _ hK0 hK1 e hq'
        · exact absurd e2 (ne hK1 hq')
    · rw [updF_ne c] at hq
      by_cases c' : K' = L
      · subst c'
        rw [updF_eq] at hq'
        rcases app hq' with g | ⟨g1, g2⟩
        · exact s2 _ _ _ _ _ hK0 hK1 hq g
        · exact absurd g2 (ne hK0 hq)
      · rw [updF_ne c'] at hq'
        exact s2 _ _ _ _ _ hK0 hK1 hq hq'
theorem lnS.tak (s : lnS h ls) (f : FrLn h h1) {L p : Nat} {r : List Nat} (hL : isL h L) (e : ls L = p :: r) (a : takS h h1 L p r) : lnS h1 (updF ls L r) ∧ outL h1 (updF ls L r) p ∧ p < zx h1 ∧ zk h1 p = 6 := by
  obtain ⟨s1, s2⟩ := s
  obtain ⟨a1, a2, a3, a4⟩ := a
  have hp : (ls L)[0]? = some p := by rw [e]; rfl
  have up : ∀ {K i q : Nat}, (updF ls L r K)[i]? = some q → (ls K)[if K = L then i + 1 else i]? = some q := by
    intro K i q hq
    by_cases c : K = L
    · subst c
      rw [updF_eq] at hq
      rw [if_pos rfl, e, List.getElem?_cons_succ]
      exact hq
    · rw [updF_ne c] at hq
      rw [if_neg c]
      exact hq
  have ne : ∀ {K i q : Nat}, isL h K → (updF ls L r K)[i]? = some q → q ≠ p := by
    intro K i q hK hq g
    subst g
    have z := s2 _ _ _ _ _ hK hL (up hq) hp
    rw [if_pos z.1] at z
    exact absurd z.2 (by omega)
  refine ⟨⟨fun K hK => ?_, fun K K' i j q hK hK' hq hq' => ?_⟩, fun K hK hm => ?_, by rw [f.1]; exact ((s1 L hL).2.2.2 0 p hp).1.1, by rw [f.2.2.1]; exact ((s1 L hL).2.2.2 0 p hp).1.2⟩
  · have hK0 := f.iff.mp hK
    obtain ⟨t1, t2, t3, t4⟩ := s1 K hK0
    have nx : ∀ (i q : Nat), (updF ls L r K)[i]? = some q → (q < zx h1 ∧ zk h1 q = 6) ∧ zr h1 201 q = (updF ls L r K)[i + 1]? := by
      intro i q hq
      obtain ⟨u1, u2⟩ := t4 _ q (up hq)
      rw [f.1, f.2.2.1, a4, if_neg (ne hK0 hq), u2]
      refine ⟨u1, ?_⟩
      by_cases c : K = L
      · subst c
        rw [if_pos rfl, updF_eq, e, List.getElem?_cons_succ]
      · rw [if_neg c, updF_ne c]
    by_cases c : K = L
    · subst c
      refine ⟨?_, ?_, ?_, nx⟩
      · rw [updF_eq, a1, if_pos rfl]
      · rw [updF_eq, a2]
        cases g : r with
        | nil => rw [if_pos ⟨rfl, rfl⟩]; rfl
        | cons x y => rw [if_neg (fun q => by simp at q), t2, e, g]; rfl
      · rw [updF_eq, a3, if_pos rfl]
    · refine ⟨?_, ?_, ?_, nx⟩
      · rw [updF_ne c, a1, if_neg c]; exact t1
      · rw [updF_ne c, a2, if_neg (fun q => c q.1)]; exact t2
      · rw [updF_ne c, a3, if_neg c]; exact t3
  · have z := s2 _ _ _ _ _ (f.iff.mp hK) (f.iff.mp hK') (up hq) (up hq')
    refine ⟨z.1, ?_⟩
    have z2 := z.2
    rw [z.1] at z2
    split at z2 <;> omega
  · obtain ⟨i, hi⟩ := List.getElem?_of_mem hm
    exact ne (f.iff.mp hK) hi rfl
end CL
