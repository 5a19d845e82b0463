section I12
variable {X : List Nat} {N : nT}
def sendAllN (N : nT) (n : Nat) : nT := (List.range n).foldl (fun N f => if nA N ((248 + 20 * f + 3)) = 1 then sendsN N f else N) N
theorem sendAllN_succ (N : nT) (n : Nat) : sendAllN N (n + 1) = if nA (sendAllN N n) ((248 + 20 * n + 3)) = 1 then sendsN (sendAllN N n) n else sendAllN N n := by
  unfold sendAllN
  rw [List.range_succ, List.foldl_append, List.foldl_cons, List.foldl_nil]
theorem iN.sendAll (h : iN X N) (hS : ∀ f, f < 6 → nA N ((248 + 20 * f + 8)) < 79999) : ∀ n : Nat, (n : Int) ≤ nA N 1 → iN X (sendAllN N n) ∧ kp N (sendAllN N n) ∧ (∀ f, f < 6 → nA (sendAllN N n) ((248 + 20 * f + 8)) ≤ nA N ((248 + 20 * f + 8)) + 2) ∧ ∀ f, f < 6 → n ≤ f → nA (sendAllN N n) ((248 + 20 * f + 8)) = nA N ((248 + 20 * f + 8)) := by
  intro n
  induction n with
  | zero => intro _; exact ⟨h, kp.rf, fun f _ => by show nA N _ ≤ _; omega, fun _ _ _ => rfl⟩
  | succ n ih =>
    intro hn
    have h1 := h.H.2.1
    have i := ih (by omega)
    rw [sendAllN_succ]
    split
    · have e1 : nA (sendAllN N n) 1 = nA N 1 := i.2.1.1 1 (Or.inl (by unfold stK; omega))
      have e8 := i.2.2.2 n (by omega) (Nat.le_refl _)
      have hS' := hS n (by omega)
      have s := i.1.sends (f := n) (by rw [e1]; omega) (by rw [e8]; exact hS')
      refine ⟨s.1, i.2.1.tr s.2.1, fun f hf => ?_, fun f hf hnf => ?_⟩
      · by_cases c : f = n
        · subst c; have := s.2.2.1; omega
        · rw [s.2.2.2 f hf c]; exact i.2.2.1 f hf
      · rw [s.2.2.2 f hf (by omega)]; exact i.2.2.2 f hf (by omega)
    · exact ⟨i.1, i.2.1, i.2.2.1, fun f hf hnf => i.2.2.2 f hf (by omega)⟩
end I12
section I13
variable {X : List Nat} {N : nT}
theorem pw_all {R : Nat → Nat → Prop} : ∀ {L : List Nat}, (∀ x, x ∈ L → ∀ y, y ∈ L → R x y) → L.Pairwise R := by
  intro L
  induction L with
  | nil => intro _; exact List.Pairwise.nil
  | cons p L ih => intro h; exact List.pairwise_cons.mpr ⟨fun y hy => h p List.mem_cons_self y (List.mem_cons_of_mem _ hy), ih (fun x hx y hy => h x (List.mem_cons_of_mem _ hx) y (List.mem_cons_of_mem _ hy))⟩
/-- what rows and spans leave -/
def kq (N N' : nT) : Prop := (∀ k, stK k ∨ k = 2 → nA N' k = nA N k) ∧ ks N N'
theorem kq.rf : kq N N := ⟨fun _ _ => rfl, fun _ _ => rfl⟩
theorem kq.tr {N' M : nT} (a : kq N N') (b : kq N' M) : kq N M := ⟨fun k h => (b.1 k h).trans (a.1 k h), a.2.tr b.2⟩
theorem kr.q {N' : nT} {a : Nat} {A B : List Nat} (ha : a < 6) (h : kr a A B N N') : kq N N' :=
  ⟨fun k hk => h.1 k (by unfold stK at hk; omega) (by unfold stK at hk; omega) (by unfold stK at hk; omega) (by unfold stK at hk; omega) (by unfold stK at hk; omega), fun f hf => h.1 _ (by omega) (by omega) (by omega) (by omega) (by omega)⟩
theorem rw_disj (h : iN X N) {a b x : Nat} (ha : a < 6) (hb : b < 6) (hR : x ∈ nR N a) (hW : x ∈ nW N b) : False := by
  have c := h.C.le x
  have c1 := count_pos hR
  have c2 := count_pos hW
  unfold nC at c
  rcases six ha with rfl | rfl | rfl | rfl | rfl | rfl <;> rcases six hb with rfl | rfl | rfl | rfl | rfl | rfl <;> omega
theorem iN.rowW {N' : nT} {a : Nat} {A B : List Nat} (h : iN X N) (ha : (a : Int) < nA N 0) (hR : nR N a = A ++ B) (h9 : A.length ≤ 9) (k : kr a A B N N') (hW : iW N a (nA N 2 + 1) (nA N 2 - 1 + nA N ((8 + 40 * a + 1)))) : iW N' a (nA N 2 + 1) (nA N 2 + nA N ((8 + 40 * a + 1))) := by
  have h0 := h.H.1
  have lag := (h.L a ha).1.2.1
  have nA' : ∀ x, x ∈ nW N a → ¬ x ∈ A := fun x hx q => rw_disj h (a := a) (b := a) (by omega) (by omega) (by rw [hR]; exact List.mem_append_left _ q) hx
  have e1 : ∀ x, x ∈ nW N a → nA N' ((368 + 8 * x + 6)) = nA N ((368 + 8 * x + 6)) := fun x hx => k.2.2.2.2.2.1 x (nA' x hx)
  have e2 := k.2.2.2.2.1
  have eW : nW N' a = nW N a ++ A := by rw [k.2.2.1, if_pos rfl]
  refine ⟨?_, fun x hx => ?_, fun d => ?_⟩
  · rw [eW]
    refine List.pairwise_append.mpr ⟨?_, ?_, fun x hx y hy => ?_⟩
    · refine List.Pairwise.imp_of_mem ?_ hW.1
      intro x y hx hy hxy
      rw [e1 x hx, e1 y hy]
      exact hxy
    · refine pw_all ?_
      intro x hx y hy
      rw [e2 x hx, e2 y hy]
      exact Int.le_refl _
    · rw [e1 x hx, e2 y hy]
      have := (hW.2.1 x hx).2
      omega
  · rw [eW] at hx
    rcases List.mem_append.mp hx with q | q
    · rw [e1 x q]
      have := hW.2.1 x q
      omega
    · rw [e2 x q]
      omega
  · rw [eW, List.countP_append]
    have c1 : (nW N a).countP (fun x => decide (nA N' ((368 + 8 * x + 6)) = d)) = (nW N a).countP (fun x => decide (nA N ((368 + 8 * x + 6)) = d)) := List.countP_congr (fun x hx => by rw [e1 x hx])
    have c2 := hW.2.2 d
    have c3 : A.countP (fun x => decide (nA N' ((368 + 8 * x + 6)) = d)) ≤ A.length := List.countP_le_length
    by_cases c : d = nA N 2 + nA N ((8 + 40 * a + 1))
    · have z : (nW N a).countP (fun x => decide (nA N ((368 + 8 * x + 6)) = d)) = 0 := by
        refine List.countP_eq_zero.mpr fun x hx => ?_
        have := (hW.2.1 x hx).2
        simp only [decide_eq_true_eq]
        omega
      omega
    · have z : A.countP (fun x => decide (nA N' ((368 + 8 * x + 6)) = d)) = 0 := by
        refine List.countP_eq_zero.mpr fun x hx => ?_
        rw [e2 x hx]
        simp only [decide_eq_true_eq]
        omega
      omega
end I13
