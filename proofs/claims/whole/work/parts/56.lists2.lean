section L2
variable {l : Launch} {w : zW} {h : zH} {m : Nat} {N : nT}
theorem getq_mid {A B : List Nat} {p i x : Nat} (hx : (A ++ p :: B)[i]? = some x) (q : Nat) : (i = A.length ∧ x = p) ∨ (i ≠ A.length ∧ (A ++ q :: B)[i]? = some x) := by
  rw [List.getElem?_append] at hx ⊢
  by_cases c : i < A.length
  · rw [if_pos c] at hx
    rw [if_pos c]
    exact Or.inr ⟨by omega, hx⟩
  · rw [if_neg c] at hx
    rw [if_neg c]
    by_cases d : i = A.length
    · subst d
      rw [Nat.sub_self] at hx
      exact Or.inl ⟨rfl, by simpa using hx.symm⟩
    · obtain ⟨k, hk⟩ : ∃ k, i - A.length = k + 1 := ⟨i - A.length - 1, by omega⟩
      rw [hk, List.getElem?_cons_succ] at hx
      rw [hk, List.getElem?_cons_succ]
      exact Or.inr ⟨d, hx⟩
theorem c_putsKs (r : MoN h m N) (hF : nFit N) {A B : List Nat} {q p : Nat} (hK : nK N = A ++ q :: B) : zM l w mX10_puts [.ref m, .int (nI (5108 + A.length)), .long (jL (p : Int))] h (fun v h1 => v = none ∧ MoN h1 m (uK N (A ++ p :: B)) ∧ FrM m h h1) := by
  have hl : A.length + (B.length + 1) ≤ 480 := by
    have := hF.2.1
    rw [hK, List.length_append, List.length_cons] at this
    exact this
  refine (c_puts r.1 (by omega)).mono ?_
  rintro v h1 ⟨rfl, rfl⟩
  refine ⟨rfl, ⟨r.1.fr (FrM.sL (by omega)), ?_, r.2.2⟩, FrM.sL (by omega)⟩
  rw [zL_upd]
  refine r.2.1.listK hF (fun k h5 hk => updL_ne (by omega)) ?_ (fun i x hx => ?_)
  · rw [updL_ne (by omega), r.2.1.2.1.2.2, hK, List.length_append, List.length_append, List.length_cons, List.length_cons]
  · rcases getq_mid hx q with ⟨e1, e2⟩ | ⟨e1, e2⟩
    · rw [e1, e2, updL_eq, jL_nat]
    · rw [updL_ne (by omega)]
      exact r.2.1.2.2.2.2.2.1 i x (by rw [hK]; exact e2)
theorem c_putsKc (r : MoN h m N) (hF : nFit N) {A B : List Nat} (hK : nK N = A ++ B) : zM l w mX10_puts [.ref m, .int (nI 5), .long (jL (A.length : Int))] h (fun v h1 => v = none ∧ MoN h1 m (uK N A) ∧ FrM m h h1) := by
  refine (c_puts r.1 (by omega)).mono ?_
  rintro v h1 ⟨rfl, rfl⟩
  refine ⟨rfl, ⟨r.1.fr (FrM.sL (by omega)), ?_, r.2.2⟩, FrM.sL (by omega)⟩
  rw [zL_upd]
  refine r.2.1.listK hF (fun k h5 hk => updL_ne (by omega)) (by rw [updL_eq, jL_nat]) (fun i x hx => ?_)
  rw [updL_ne (by omega)]
  refine r.2.1.2.2.2.2.2.1 i x ?_
  rw [hK, List.getElem?_append_left (List.getElem?_eq_some_iff.mp hx).1]
  exact hx
theorem c_putsWs {a : Nat} (ha : a < 6) (r : MoN h m N) (hF : nFit N) {A B : List Nat} {q p : Nat} (hK : nW N a = A ++ q :: B) : zM l w mX10_puts [.ref m, .int (nI (4568 + 90 * a + A.length)), .long (jL (p : Int))] h (fun v h1 => v = none ∧ MoN h1 m (uW N a (A ++ p :: B)) ∧ FrM m h h1) := by
  have hl : A.length + (B.length + 1) ≤ 90 := by
    have := (hF.1 a ha).2
    rw [hK, List.length_append, List.length_cons] at this
    exact this
  refine (c_puts r.1 (by omega)).mono ?_
  rintro v h1 ⟨rfl, rfl⟩
  refine ⟨rfl, ⟨r.1.fr (FrM.sL (by omega)), ?_, r.2.2⟩, FrM.sL (by omega)⟩
  rw [zL_upd]
  refine r.2.1.listW ha hF (fun k h5 hk => updL_ne (by omega)) ?_ (fun i x hx => ?_)
  · rw [updL_ne (by omega), (r.2.1.2.2.1 a ha).2, hK, List.length_append, List.length_append, List.length_cons, List.length_cons]
  · rcases getq_mid hx q with ⟨e1, e2⟩ | ⟨e1, e2⟩
    · rw [e1, e2, updL_eq, jL_nat]
    · rw [updL_ne (by omega)]
      exact r.2.1.2.2.2.2.1 a ha i x (by rw [hK]; exact e2)
theorem c_putsWc {a : Nat} (ha : a < 6) (r : MoN h m N) (hF : nFit N) {A B : List Nat} (hK : nW N a = A ++ B) : zM l w mX10_puts [.ref m, .int (nI (8 + 40 * a + 5)), .long (jL (A.length : Int))] h (fun v h1 => v = none ∧ MoN h1 m (uW N a A) ∧ FrM m h h1) := by
  refine (c_puts r.1 (by omega)).mono ?_
  rintro v h1 ⟨rfl, rfl⟩
  refine ⟨rfl, ⟨r.1.fr (FrM.sL (by omega)), ?_, r.2.2⟩, FrM.sL (by omega)⟩
  rw [zL_upd]
  refine r.2.1.listW ha hF (fun k h5 hk => updL_ne (by omega)) (by rw [updL_eq, jL_nat]) (fun i x hx => ?_)
  have hi := (List.getElem?_eq_some_iff.mp hx).1
  rw [updL_ne (by omega)]
  refine r.2.1.2.2.2.2.1 a ha i x ?_
  rw [hK, List.getElem?_append_left hi]
  exact hx
theorem retN_px {p x k : Nat} (hf : flN N p < 6) (hk : k ≠ 0) (hk8 : k < 8) : nA (retN N p) ((368 + 8 * x + k)) = nA N ((368 + 8 * x + k)) := by
  unfold retN
  simp only []
  split
  · rw [nA_ne (by omega), nA_ne (by omega), nA_ne (by omega), nA_ne (by omega), nA_ne (by omega), nA_ne (by omega)]
  · rw [nA_ne (by omega), nA_ne (by omega)]
    split
    · rw [nA_ev, nA_ne (by omega), nA_ne (by omega), nA_ne (by omega)]
    · rw [nA_ne (by omega), nA_ne (by omega), nA_ne (by omega)]
end L2
