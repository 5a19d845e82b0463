section I14
variable {X : List Nat} {N : nT}
theorem kr.W {N' : nT} {a b : Nat} {A B : List Nat} {lo hi : Int} (k : kr a A B N N') (hA : ∀ x, x ∈ nW N b → ¬ x ∈ A) (c : b ≠ a) (hW : iW N b lo hi) : iW N' b lo hi := by
  have e1 : ∀ x, x ∈ nW N b → nA N' ((368 + 8 * x + 6)) = nA N ((368 + 8 * x + 6)) := fun x hx => k.2.2.2.2.2.1 x (hA x hx)
  have eW : nW N' b = nW N b := by rw [k.2.2.1, if_neg c]
  refine ⟨?_, fun x hx => ?_, fun d => ?_⟩
  · rw [eW]
    refine List.Pairwise.imp_of_mem ?_ hW.1
    intro x y hx hy hxy
    rw [e1 x hx, e1 y hy]
    exact hxy
  · rw [eW] at hx
    rw [e1 x hx]
    exact hW.2.1 x hx
  · rw [eW, List.countP_congr (fun x hx => by rw [e1 x hx])]
    exact hW.2.2 d
theorem iN.rows (h : iN X N) (hw : ∀ a, a < 6 → nA N ((8 + 40 * a + 16)) ≤ 359990) (hW : ∀ a : Nat, (a : Int) < nA N 0 → iW N a (nA N 2 + 1) (nA N 2 - 1 + nA N ((8 + 40 * a + 1)))) : ∀ n : Nat, (n : Int) ≤ nA N 0 → iN X ((List.range n).foldl rowN N) ∧ kq N ((List.range n).foldl rowN N) ∧ (∀ a, a < 6 → nA ((List.range n).foldl rowN N) ((8 + 40 * a + 16)) ≤ nA N ((8 + 40 * a + 16)) + 9) ∧ (∀ a, a < 6 → n ≤ a → nA ((List.range n).foldl rowN N) ((8 + 40 * a + 16)) = nA N ((8 + 40 * a + 16))) ∧ (∀ a, a < n → iW ((List.range n).foldl rowN N) a (nA N 2 + 1) (nA N 2 + nA N ((8 + 40 * a + 1)))) ∧ (∀ a : Nat, n ≤ a → (a : Int) < nA N 0 → iW ((List.range n).foldl rowN N) a (nA N 2 + 1) (nA N 2 - 1 + nA N ((8 + 40 * a + 1)))) := by
  intro n
  have h0 := h.H.1
  induction n with
  | zero => intro _; exact ⟨h, kq.rf, fun a _ => by show nA N _ ≤ _; omega, fun _ _ _ => rfl, fun a ha => absurd ha (by omega), fun a _ ha => hW a ha⟩
  | succ n ih =>
    intro hn
    obtain ⟨i0, i1, i2, i3, i4, i5⟩ := ih (by omega)
    rw [List.range_succ, List.foldl_append, List.foldl_cons, List.foldl_nil]
    have e2 : nA ((List.range n).foldl rowN N) 2 = nA N 2 := i1.1 2 (Or.inr rfl)
    have e0 : nA ((List.range n).foldl rowN N) 0 = nA N 0 := i1.1 0 (Or.inl (by unfold stK; omega))
    have e1 : nA ((List.range n).foldl rowN N) ((8 + 40 * n + 1)) = nA N ((8 + 40 * n + 1)) := i1.1 _ (Or.inl (by unfold stK; omega))
    have hn0 : (n : Int) < nA ((List.range n).foldl rowN N) 0 := by rw [e0]; omega
    have e16 := i3 n (by omega) (Nat.le_refl _)
    have hwn := hw n (by omega)
    obtain ⟨r0, r1, r2⟩ := i0.row hn0 (by rw [e16]; exact hwn)
    have rq := r1.q (by omega)
    have nin : ∀ b, b < 6 → ∀ x, x ∈ nW ((List.range n).foldl rowN N) b → ¬ x ∈ (nR ((List.range n).foldl rowN N) n).take (rowC ((List.range n).foldl rowN N) n) := fun b hb x hx q => rw_disj i0 (a := n) (b := b) (by omega) hb (List.mem_of_mem_take q) hx
    refine ⟨r0, i1.tr rq, fun a ha => ?_, fun a ha hna => ?_, fun a ha => ?_, fun a hna ha => ?_⟩
    · by_cases c : a = n
      · subst c
        rw [r1.2.1, e16, List.length_take]
        omega
      · rw [r1.1 ((8 + 40 * a + 16)) (by omega) (by omega) (by omega) (by omega) (by omega)]
        exact i2 a ha
    · rw [r1.1 ((8 + 40 * a + 16)) (by omega) (by omega) (by omega) (by omega) (by omega)]
      exact i3 a ha (by omega)
    · by_cases c : a = n
      · subst c
        have w := i0.rowW hn0 (List.take_append_drop _ _).symm (by rw [List.length_take]; omega) r1 (by rw [e2, e1]; exact i5 a (Nat.le_refl _) (by omega))
        rw [e2, e1] at w
        exact w
      · exact r1.W (nin a (by omega)) c (i4 a (by omega))
    · exact r1.W (nin a (by omega)) (by omega) (i5 a (by omega) ha)
/-- a span's end, if it is due -/
def dueN (N : nT) (a : Nat) : nT := if nA N 2 % nA N ((8 + 40 * a + 3)) = 0 then spanN N a else N
theorem iN.spend {a : Nat} (h : iN X N) (ha : (a : Int) < nA N 0) : iN X (dueN N a) ∧ kq N (dueN N a) ∧ (∀ b, b < 6 → nA (dueN N a) ((8 + 40 * b + 16)) ≤ nA N ((8 + 40 * b + 16))) ∧ nW (dueN N a) = nW N ∧ ∀ k, 368 ≤ k → nA (dueN N a) k = nA N k := by
  have h0 := h.H.1
  have l2 := (h.L a ha).2.1
  unfold dueN
  split
  · have b := h.spb ha
    rw [show spanN N a = sp3 N (sp2 N a) a from rfl]
    have hs : iN X (sp3 N (sp2 N a) a) := h.span ha
    have g : ∀ k, (k < (8 + 40 * a + 0) ∨ (8 + 40 * a + 40) ≤ k ∨ k = (8 + 40 * a + 0) ∨ k = (8 + 40 * a + 1) ∨ k = (8 + 40 * a + 2) ∨ k = (8 + 40 * a + 3)) → nA (sp3 N (sp2 N a) a) k = nA N k := fun k hk => by
      rw [sp3_ne (by omega)]
      exact b.2.1 k (by omega) (by omega)
    refine ⟨hs, ⟨fun k hk => g k (by unfold stK at hk; omega), fun f hf => g _ (by omega)⟩, fun c hc => ?_, b.2.2.2.2.2.1, fun k hk => g k (by omega)⟩
    by_cases e : c = a
    · subst e
      rw [sp3_15.2.2.2.2.2]
      omega
    · rw [g _ (by omega)]
      omega
  · exact ⟨h, kq.rf, fun b _ => by omega, rfl, fun _ _ => rfl⟩
theorem iW_same {N' : nT} {a : Nat} {lo hi : Int} (eW : nW N' = nW N) (e : ∀ k, 368 ≤ k → nA N' k = nA N k) (h : iW N a lo hi) : iW N' a lo hi := by
  unfold iW
  rw [eW]
  have q : ∀ x, nA N' ((368 + 8 * x + 6)) = nA N ((368 + 8 * x + 6)) := fun x => e _ (by omega)
  simp only [q]
  exact h
theorem iN.spends (h : iN X N) : ∀ n : Nat, (n : Int) ≤ nA N 0 → iN X ((List.range n).foldl dueN N) ∧ kq N ((List.range n).foldl dueN N) ∧ (∀ b, b < 6 → nA ((List.range n).foldl dueN N) ((8 + 40 * b + 16)) ≤ nA N ((8 + 40 * b + 16))) ∧ nW ((List.range n).foldl dueN N) = nW N ∧ ∀ k, 368 ≤ k → nA ((List.range n).foldl dueN N) k = nA N k := by
  intro n
  induction n with
  | zero => intro _; exact ⟨h, kq.rf, fun b _ => by show nA N _ ≤ _; omega, rfl, fun _ _ => rfl⟩
  | succ n ih =>
    intro hn
    obtain ⟨i0, i1, i2, i3, i4⟩ := ih (by omega)
    rw [List.range_succ, List.foldl_append, List.foldl_cons, List.foldl_nil]
    have e0 : nA ((List.range n).foldl dueN N) 0 = nA N 0 := i1.1 0 (Or.inl (by unfold stK; omega))
    obtain ⟨r0, r1, r2, r3, r4⟩ := i0.spend (a := n) (by rw [e0]; omega)
    exact ⟨r0, i1.tr r1, fun b hb => Int.le_trans (r2 b hb) (i2 b hb), r3.trans i3, fun k hk => (r4 k hk).trans (i4 k hk)⟩
/-- what holds between ticks -/
def iT (N : nT) : Prop := iN [] N ∧ (∀ f, f < 6 → nA N ((248 + 20 * f + 8)) ≤ 2 * nA N 2) ∧ (∀ a, a < 6 → nA N ((8 + 40 * a + 16)) ≤ 9 * nA N 2) ∧ ∀ a : Nat, a < 6 → iW N a (nA N 2 + 1) (nA N 2 + nA N ((8 + 40 * a + 1)))
theorem iW_nil {a : Nat} {lo hi : Int} (h : nW N a = []) : iW N a lo hi := by
  unfold iW
  rw [h]
  exact ⟨List.Pairwise.nil, fun x hx => absurd hx (by simp), fun d => by simp⟩
end I14
