/-! READING A TEXT, pure: what becomes of the net, or where the fault is -/
section PRS
variable {t : Nat → Nat} {n : Nat} {T T' : tkT} {N N' : nT} {f : Nat}
def okB (T : tkT) (lo hi : Int) : Bool := decide (T.1 = 2) && (decide (lo ≤ T.2.2.2) && decide (T.2.2.2 ≤ hi))
theorem okB_t {lo hi : Int} (h : okB T lo hi = true) : T.1 = 2 ∧ lo ≤ T.2.2.2 ∧ T.2.2.2 ≤ hi := by
  unfold okB at h
  simp only [Bool.and_eq_true, decide_eq_true_eq] at h
  exact h
theorem okB_1 {lo hi : Int} (h : ¬ T.1 = 2) : okB T lo hi = false := by unfold okB; rw [decide_eq_false h, Bool.false_and]
theorem okB_2 {lo hi : Int} (h : ¬ (lo ≤ T.2.2.2 ∧ T.2.2.2 ≤ hi)) : okB T lo hi = false := by
  apply Bool.eq_false_iff.mpr
  intro q
  exact h (okB_t q).2
theorem okB_3 {lo hi : Int} (h1 : T.1 = 2) (h : lo ≤ T.2.2.2 ∧ T.2.2.2 ≤ hi) : okB T lo hi = true := by unfold okB; rw [decide_eq_true h1, decide_eq_true h.1, decide_eq_true h.2]; rfl
/-- a fault at a token -/
def flt (T : tkT) (k : Int) : Int × Int := (if T.1 = 4 then 1 else k, (T.2.1 : Int))
def nuF (T : tkT) : Int × Int := flt T (if T.1 = 2 then 4 else 2)
theorem nuF_1 (h : ¬ T.1 = 2) : nuF T = flt T 2 := by unfold nuF; rw [if_neg h]
theorem nuF_2 (h : T.1 = 2) : nuF T = flt T 4 := by unfold nuF; rw [if_pos h]
abbrev rR : Type := (Int × Int) ⊕ (tkT × nT)
def nLk (N : nT) : Nat := (nA N 0).toNat
def nFw (N : nT) : Nat := (nA N 1).toNat
def lk7 (N : nT) (a : Nat) (v1 v2 v3 : Int) : nT := uA (uA (uA (uA (uA (uA (uA N (8 + 40 * a + 0) v1) (8 + 40 * a + 1) v2) (8 + 40 * a + 2) v3) (8 + 40 * a + 3) 10) (8 + 40 * a + 7) v3) (8 + 40 * a + 10) 1) (8 + 40 * a + 11) 1
def lkE (N M : nT) : nT := uA M 0 (nA N 0 + 1)
def linkR (t : Nat → Nat) (n : Nat) (T : tkT) (N : nT) : rR :=
  if nA N 0 = 6 then .inl (flt T 6)
  else if okB (nxT t n T) 1 9 = true then
    if okB (nxT t n (nxT t n T)) 1 9 = true then
      if okB (nxT t n (nxT t n (nxT t n T))) 1 60 = true then
        if keyN t (nxT t n (nxT t n (nxT t n (nxT t n T)))) = 2 then
          if okB (nxT t n (nxT t n (nxT t n (nxT t n (nxT t n T))))) 2 30 = true then .inr (nxT t n (nxT t n (nxT t n (nxT t n (nxT t n (nxT t n T))))), lkE N (uA (lk7 N (nLk N) (nxT t n T).2.2.2 (nxT t n (nxT t n T)).2.2.2 (nxT t n (nxT t n (nxT t n T))).2.2.2) (8 + 40 * nLk N + 3) (nxT t n (nxT t n (nxT t n (nxT t n (nxT t n T))))).2.2.2))
          else .inl (nuF (nxT t n (nxT t n (nxT t n (nxT t n (nxT t n T))))))
        else .inr (nxT t n (nxT t n (nxT t n (nxT t n T))), lkE N (lk7 N (nLk N) (nxT t n T).2.2.2 (nxT t n (nxT t n T)).2.2.2 (nxT t n (nxT t n (nxT t n T))).2.2.2))
      else .inl (nuF (nxT t n (nxT t n (nxT t n T))))
    else .inl (nuF (nxT t n (nxT t n T)))
  else .inl (nuF (nxT t n T))
/-- one more link on a flow's path -/
def hpN (N : nT) (f : Nat) (v : Int) : nT := uA (uA N (248 + 20 * f + (12 + (nA N (248 + 20 * f + 0)).toNat)) v) (248 + 20 * f + 0) (nA N (248 + 20 * f + 0) + 1)
def hopsR (t : Nat → Nat) (n f : Nat) : Nat → tkT → nT → rR
  | 0, T, N => .inr (T, N)
  | k + 1, T, N => if T.1 = 2 then (if nA N 0 ≤ T.2.2.2 then .inl (flt T 3) else if inB N f T.2.2.2 = true then .inl (flt T 4) else if nA N (248 + 20 * f + 0) = 4 then .inl (flt T 6) else hopsR t n f k (nxT t n T) (hpN N f T.2.2.2)) else .inr (T, N)
def marksR (t : Nat → Nat) (n f : Nat) : Nat → tkT → nT → Bool → Bool → Bool → rR
  | 0, T, N, _, _, _ => .inr (T, N)
  | k + 1, T, N, tl, tk, to =>
    if keyN t T < 3 then .inr (T, N)
    else if keyN t T = 3 then (if tl = true then .inl (flt T 5) else if okB (nxT t n T) 0 9999 = true then marksR t n f k (nxT t n (nxT t n T)) (uA N (248 + 20 * f + 1) (nxT t n T).2.2.2) true tk to else .inl (nuF (nxT t n T)))
    else if keyN t T < 7 then (if tk = true then .inl (flt T 5) else marksR t n f k (nxT t n T) (uA N (248 + 20 * f + 2) (keyN t T - 3)) tl true to)
    else (if to = true then .inl (flt T 5) else marksR t n f k (nxT t n T) (uA N (248 + 20 * f + 3) 0) tl tk true)
def fl4 (N : nT) (f : Nat) : nT := uA (uA (uA (uA N (248 + 20 * f + 1) 9999) (248 + 20 * f + 3) 1) (248 + 20 * f + 5) 200) (248 + 20 * f + 7) (2 * backN N f)
def bnd (r : rR) (k : tkT → nT → rR) : rR := match r with
  | .inl e => .inl e
  | .inr (T, N) => k T N
def flE (M : nT) : nT := uA M 1 (nA M 1 + 1)
def flowR (t : Nat → Nat) (n : Nat) (T : tkT) (N : nT) : rR :=
  if nA N 1 = 6 then .inl (flt T 6)
  else if (nxT t n T).1 = 2 then bnd (hopsR t n (nFw N) 5 (nxT t n T) N) fun T2 N2 => bnd (marksR t n (nFw N) 4 T2 (fl4 N2 (nFw N)) false false false) fun T3 N3 => .inr (T3, flE N3)
  else .inl (flt (nxT t n T) 2)
def signR (t : Nat → Nat) (n : Nat) (T : tkT) (N : nT) : rR := if T.1 = 3 then .inr (nxT t n T, N) else .inl (flt T 2)
def lineR (t : Nat → Nat) (n : Nat) (T : tkT) (N : nT) : rR := bnd (if keyN t T = 0 then linkR t n T N else if keyN t T = 1 then flowR t n T N else .inl (flt T 2)) (signR t n)
def readR (t : Nat → Nat) (n : Nat) : Nat → tkT → nT → (Int × Int) ⊕ nT
  | 0, _, N => .inr N
  | k + 1, T, N => if T.1 = 0 then .inr N else match lineR t n T N with
    | .inl e => .inl e
    | .inr (T1, N1) => readR t n k T1 N1
/-- a net of which nothing is known -/
def zeN (q : Int) : nT := (fun k => if k = 3 then q else 0, fun _ => [], fun _ => [], [], [], [])
def loadR (t : Nat → Nat) (n : Nat) (q : Int) : (Int × Int) ⊕ nT := readR t n 601 (tokN t n 0) (zeN q)
theorem linkR_ok (h : tkOk n T) (e : linkR t n T N = .inr (T', N')) : tkOk n T' ∧ T.2.2.1 ≤ T'.2.1 := by
  have k1 := nxT_ok (t := t) h
  have k2 := nxT_ok (t := t) k1.1
  have k3 := nxT_ok (t := t) k2.1
  have k4 := nxT_ok (t := t) k3.1
  have k5 := nxT_ok (t := t) k4.1
  have k6 := nxT_ok (t := t) k5.1
  have q1 := k1.1.2.1
  have q2 := k2.1.2.1
  have q3 := k3.1.2.1
  have q4 := k4.1.2.1
  have q5 := k5.1.2.1
  unfold linkR at e
  split at e
  · cases e
  · split at e
    · split at e
      · split at e
        · split at e
          · split at e
            · cases e; exact ⟨k6.1, by omega⟩
            · cases e
          · cases e; exact ⟨k4.1, by omega⟩
        · cases e
      · cases e
    · cases e
theorem hopsR_ok : ∀ k (T : tkT) (N : nT), tkOk n T → hopsR t n f k T N = .inr (T', N') → tkOk n T' ∧ T.2.1 ≤ T'.2.1 := by
  intro k
  induction k with
  | zero => intro T N h e; rw [hopsR] at e; cases e; exact ⟨h, Nat.le_refl _⟩
  | succ k ih =>
    intro T N h e
    have k1 := nxT_ok (t := t) h
    have q1 := h.2.1
    rw [hopsR] at e
    split at e
    · split at e
      · cases e
      · split at e
        · cases e
        · split at e
          · cases e
          · have z := ih _ _ k1.1 e
            exact ⟨z.1, by omega⟩
    · cases e; exact ⟨h, Nat.le_refl _⟩
theorem marksR_ok : ∀ k (T : tkT) (N : nT) (a b c : Bool), tkOk n T → marksR t n f k T N a b c = .inr (T', N') → tkOk n T' ∧ T.2.1 ≤ T'.2.1 := by
  intro k
  induction k with
  | zero => intro T N a b c h e; rw [marksR] at e; cases e; exact ⟨h, Nat.le_refl _⟩
  | succ k ih =>
    intro T N a b c h e
    have k1 := nxT_ok (t := t) h
    have k2 := nxT_ok (t := t) k1.1
    have q1 := h.2.1
    have q2 := k1.1.2.1
    rw [marksR] at e
    split at e
    · cases e; exact ⟨h, Nat.le_refl _⟩
    · split at e
      · split at e
        · cases e
        · split at e
          · have z := ih _ _ _ _ _ k2.1 e
            exact ⟨z.1, by omega⟩
          · cases e
      · split at e
        · split at e
          · cases e
          · have z := ih _ _ _ _ _ k1.1 e
            exact ⟨z.1, by omega⟩
        · split at e
          · cases e
          · have z := ih _ _ _ _ _ k1.1 e
            exact ⟨z.1, by omega⟩
theorem bnd_r {r : rR} {k : tkT → nT → rR} (e : bnd r k = .inr (T', N')) : ∃ T1 N1, r = .inr (T1, N1) ∧ k T1 N1 = .inr (T', N') := by
  cases r with
  | inl a => cases e
  | inr p => exact ⟨p.1, p.2, rfl, e⟩
theorem flowR_ok (h : tkOk n T) (e : flowR t n T N = .inr (T', N')) : tkOk n T' ∧ T.2.2.1 ≤ T'.2.1 := by
  have k1 := nxT_ok (t := t) h
  unfold flowR at e
  split at e
  · cases e
  · split at e
    · obtain ⟨T1, N1, e1, e⟩ := bnd_r e
      obtain ⟨T2, N2, e2, e⟩ := bnd_r e
      cases e
      have z1 := hopsR_ok _ _ _ k1.1 e1
      have z2 := marksR_ok _ _ _ _ _ _ z1.1 e2
      exact ⟨z2.1, by omega⟩
    · cases e
theorem lineR_ok (h : tkOk n T) (e : lineR t n T N = .inr (T', N')) : tkOk n T' ∧ T.2.2.1 ≤ T'.2.1 := by
  unfold lineR at e
  obtain ⟨T1, N1, e1, e⟩ := bnd_r e
  have z : tkOk n T1 ∧ T.2.2.1 ≤ T1.2.1 := by
    split at e1
    · exact linkR_ok h e1
    · split at e1
      · exact flowR_ok h e1
      · cases e1
  unfold signR at e
  split at e
  · cases e
    have k1 := nxT_ok (t := t) z.1
    have := z.1.2.1
    exact ⟨k1.1, by omega⟩
  · cases e
end PRS
