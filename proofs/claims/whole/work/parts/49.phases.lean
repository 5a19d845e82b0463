section I9
variable {X : List Nat}
theorem uK_nK (N : nT) : uK N (nK N) = N := rfl
theorem foldl_ret_uK : ∀ (L : List Nat) (N : nT) (r : List Nat), L.foldl retN (uK N r) = uK (L.foldl retN N) r := by
  intro L
  induction L with
  | nil => intro N r; rfl
  | cons p L ih => intro N r; rw [List.foldl_cons, List.foldl_cons, retN_uK, ih]
theorem foldl_arr_uW : ∀ (L : List Nat) (N : nT) (b : Nat) (r : List Nat), L.foldl arrN (uW N b r) = uW (L.foldl arrN N) b r := by
  intro L
  induction L with
  | nil => intro N b r; rfl
  | cons p L ih => intro N b r; rw [List.foldl_cons, List.foldl_cons, arrN_uW, ih]
theorem uW_uW (N : nT) (b : Nat) (r s : List Nat) : uW (uW N b r) b s = uW N b s := by
  unfold uW
  congr 3
  funext j
  simp only []
  split <;> rfl
theorem uR_uR (N : nT) (b : Nat) (r s : List Nat) : uR (uR N b r) b s = uR N b s := by
  unfold uR
  congr 2
  funext j
  simp only []
  split <;> rfl
theorem uW_nW (N : nT) (b : Nat) : uW N b (nW N b) = N := by
  unfold uW nW
  have : (fun j => if j = b then N.2.2.1 b else N.2.2.1 j) = N.2.2.1 := by
    funext j
    split
    · rename_i c; rw [c]
    · rfl
  rw [this]
theorem uR_nR (N : nT) (b : Nat) : uR N b (nR N b) = N := by
  unfold uR nR
  have : (fun j => if j = b then N.2.1 b else N.2.1 j) = N.2.1 := by
    funext j
    split
    · rename_i c; rw [c]
    · rfl
  rw [this]
/-- phase 1, and each step of it: those in front go, or go behind -/
theorem ret_fold (g : Nat → Bool) : ∀ (A : List Nat) (M : nT) (kept : List Nat), nK M = A ++ kept → iN X M → iN X (uK ((A.filter g).foldl retN M) (kept ++ A.filter fun x => !g x)) ∧ kp M (uK ((A.filter g).foldl retN M) (kept ++ A.filter fun x => !g x)) ∧ ks M (uK ((A.filter g).foldl retN M) (kept ++ A.filter fun x => !g x)) := by
  intro A
  induction A with
  | nil =>
    intro M kept hK h
    have e : uK (([].filter g).foldl retN M) (kept ++ [].filter fun x => !g x) = M := by
      rw [List.filter_nil, List.filter_nil, List.append_nil, List.foldl_nil]
      rw [List.nil_append] at hK
      rw [← hK]; rfl
    rw [e]
    exact ⟨h, kp.rf, fun _ _ => rfl⟩
  | cons p A ih =>
    intro M kept hK h
    cases c : g p
    · have h1 := h.rotK hK
      have i := ih (uK M ((A ++ kept) ++ [p])) (kept ++ [p]) (by rw [nK_uK, List.append_assoc]) h1
      rw [List.filter_cons_of_neg (by rw [c]; decide), List.filter_cons_of_pos (by rw [c]; rfl)]
      have e : kept ++ [p] ++ A.filter (fun x => !g x) = kept ++ p :: A.filter (fun x => !g x) := by rw [List.append_assoc, List.singleton_append]
      rw [foldl_ret_uK, e] at i
      exact ⟨i.1, (kp_K (r := (A ++ kept) ++ [p]) (kp.rf (N := M))).tr i.2.1, i.2.2⟩
    · have h1 := h.offK hK
      have hp := h1.C.memX (List.mem_cons_self)
      have hf := h1.fl hp.1 hp.2
      have h2 := h1.ret
      rw [retN_uK] at h2
      have i := ih (uK (retN M p) (A ++ kept)) kept rfl h2
      rw [List.filter_cons_of_pos c, List.filter_cons_of_neg (by rw [c]; decide), List.foldl_cons]
      rw [foldl_ret_uK] at i
      have r := ret_kp (N := M) (p := p) hf.2.2
      exact ⟨i.1, (kp_K (r := A ++ kept) r.1).tr i.2.1, ks.tr (N' := uK (retN M p) (A ++ kept)) r.2 i.2.2⟩
/-- phase 2 at a link, and each step of it -/
theorem wire_fold {b : Nat} (hb : b < 6) (B : List Nat) : ∀ (A : List Nat) (M : nT), nW M b = A ++ B → iN X M → iN X (uW (A.foldl arrN M) b B) ∧ kp M (uW (A.foldl arrN M) b B) ∧ ks M (uW (A.foldl arrN M) b B) := by
  intro A
  induction A with
  | nil =>
    intro M hW h
    rw [List.nil_append] at hW
    rw [List.foldl_nil, ← hW, uW_nW]
    exact ⟨h, kp.rf, fun _ _ => rfl⟩
  | cons p A ih =>
    intro M hW h
    have h1 := h.offW hb hW
    have hh : nA M ((368 + 8 * p + 2)) < nA M ((248 + 20 * (flN M p) + 0)) := h.O b hb p (Or.inr (by rw [hW]; exact List.mem_cons_self))
    have h2 := h1.arr hh
    have r := h1.arr_kp hh
    rw [arrN_uW] at h2 r
    have i := ih (uW (arrN M p) b (A ++ B)) (by rw [nW_uW, if_pos rfl]) h2
    rw [List.foldl_cons]
    rw [foldl_arr_uW, uW_uW] at i
    have k0 : kp M (uW M b (A ++ B)) := kp_W hb (by rw [hW]; exact List.sublist_cons_self p (A ++ B))
    exact ⟨i.1, (k0.tr r.1).tr i.2.1, ks.tr (N' := uW (arrN M p) b (A ++ B)) r.2 i.2.2⟩
/-- who is due stands in front -/
theorem due_split {d : Nat → Int} {t : Int} : ∀ {L : List Nat}, L.Pairwise (fun x y => d x ≤ d y) → (∀ x, x ∈ L → t ≤ d x) → L = (L.filter fun x => decide (d x = t)) ++ L.filter fun x => !decide (d x = t) := by
  intro L
  induction L with
  | nil => intro _ _; rfl
  | cons p L ih =>
    intro h1 h2
    have h3 := List.pairwise_cons.mp h1
    have hp := h2 p List.mem_cons_self
    by_cases c : d p = t
    · rw [List.filter_cons_of_pos (by simpa using c), List.filter_cons_of_neg (by simpa using c), List.cons_append, ← ih h3.2 (fun x hx => h2 x (List.mem_cons_of_mem _ hx))]
    · have e1 : L.filter (fun x => decide (d x = t)) = [] := by
        refine List.filter_eq_nil_iff.mpr fun x hx => ?_
        have := h3.1 x hx
        simp only [decide_eq_true_eq]
        omega
      have e2 : L.filter (fun x => !decide (d x = t)) = L := by
        refine List.filter_eq_self.mpr fun x hx => ?_
        have := h3.1 x hx
        simp only [Bool.not_eq_true', decide_eq_false_iff_not]
        omega
      rw [List.filter_cons_of_neg (by simpa using c), List.filter_cons_of_pos (by simpa using c), e1, e2]
      rfl
end I9
