section I1
variable {N : nT} {X : List Nat}
theorem nBd_uA {k : Nat} {z : Int} (h : nBd N) (hz : -17592186044416 ≤ z ∧ z < 17592186044416) : nBd (uA N k z) := by
  intro j hj
  rw [nA_uA]
  split
  · exact hz
  · exact h j hj
theorem nBd_six {z : Int} (h : nBd N) : nBd (uA N 6 z) := by
  intro j hj
  rw [nA_ne (by omega)]
  exact h j hj
theorem iN.H (h : iN X N) : iH N := h.1
theorem iN.B (h : iN X N) : nBd N := h.2.1
theorem iN.C (h : iN X N) : iC X N := h.2.2.1
theorem iN.Y (h : iN X N) : iY N := h.2.2.2.1
theorem iN.F (h : iN X N) : ∀ f : Nat, (f : Int) < nA N 1 → iF N f := h.2.2.2.2.1
theorem iN.L (h : iN X N) : ∀ a : Nat, (a : Int) < nA N 0 → iL N a := h.2.2.2.2.2.1
theorem iN.P (h : iN X N) : ∀ x, x < 480 → 0 < nA N ((368 + 8 * x + 0)) → iP N x := h.2.2.2.2.2.2.1
theorem iN.O (h : iN X N) : iX N := h.2.2.2.2.2.2.2.1
theorem iN.E (h : iN X N) : (nE N).length ≤ 24 ∧ (nP N).length ≤ 20 := h.2.2.2.2.2.2.2.2.1
theorem iN.Z (h : iN X N) : ∀ a : Nat, a < 6 → nA N 0 ≤ (a : Int) → nR N a = [] ∧ nW N a = [] := h.2.2.2.2.2.2.2.2.2
theorem iX_congr {N' : nT} (eR : ∀ a, a < 6 → nR N' a = nR N a) (eW : ∀ a, a < 6 → nW N' a = nW N a) (ex : ∀ x, nA N' ((368 + 8 * x + 0)) = nA N ((368 + 8 * x + 0)) ∧ nA N' ((368 + 8 * x + 2)) = nA N ((368 + 8 * x + 2))) (ef : ∀ f, nA N' ((248 + 20 * f + 0)) = nA N ((248 + 20 * f + 0))) (h : iX N) : iX N' := by
  intro a ha x hx
  have e : flN N' x = flN N x := by unfold flN; rw [(ex x).1]
  rw [e, ef, (ex x).2]
  rw [eR a ha, eW a ha] at hx
  exact h a ha x hx
theorem iN.ev (h : iN X N) {k q f : Int} : iN X (evN N k q f) := by
  refine ⟨h.1, h.2.1, h.2.2.1, h.2.2.2.1, h.2.2.2.2.1, h.2.2.2.2.2.1, h.2.2.2.2.2.2.1, h.2.2.2.2.2.2.2.1, ⟨?_, h.E.2⟩, h.Z⟩
  have := h.E.1
  show (_ ++ [_] : List _).length ≤ 24
  rw [List.length_append]
  split
  · rw [List.length_drop]; simp; omega
  · simp; omega
theorem iN.six (h : iN X N) {z : Int} : iN X (uA N 6 z) := by
  have e : ∀ k, k ≠ 6 → nA (uA N 6 z) k = nA N k := fun k hk => nA_ne hk
  refine ⟨?_, nBd_six h.B, ?_, ?_, ?_, ?_, ?_, ?_, h.E, ?_⟩
  · unfold iH
    rw [e 0 (by omega), e 1 (by omega), e 2 (by omega), e 7 (by omega)]
    exact h.H
  · intro x
    rw [e _ (by omega)]
    exact h.C x
  · intro f hf
    rw [e _ (by omega), nFly_congr (fun x _ => e _ (by omega))]
    exact h.Y f hf
  · intro f hf
    rw [e 1 (by omega)] at hf
    exact iF_congr (e 0 (by omega)) (fun k _ => e _ (by omega)) (h.F f hf)
  · intro a ha
    rw [e 0 (by omega)] at ha
    exact iL_congr (e 1 (by omega)) rfl (fun k _ => e _ (by omega)) (h.L a ha)
  · intro x hx hl
    rw [e _ (by omega)] at hl
    exact iP_congr (e 1 (by omega)) (e 2 (by omega)) (fun k _ _ => e _ (by omega)) (fun f => e _ (by omega)) (h.P x hx hl)
  · exact iX_congr (N := N) (fun _ _ => rfl) (fun _ _ => rfl) (fun x => ⟨e _ (by omega), e _ (by omega)⟩) (fun f => e _ (by omega)) h.O
  · intro a ha h0
    rw [e 0 (by omega)] at h0
    exact h.Z a ha h0
/-- a path's way back -/
theorem sum_bd {L : List Int} (h : ∀ z, z ∈ L → 1 ≤ z ∧ z ≤ 9) : (L.length : Int) ≤ L.sum ∧ L.sum ≤ 9 * L.length := by
  induction L with
  | nil => simp
  | cons a L ih =>
    have h1 := ih (fun z hz => h z (List.mem_cons_of_mem _ hz))
    have h2 := h a List.mem_cons_self
    rw [List.sum_cons, List.length_cons]
    omega
theorem iN.back (h : iN X N) {f : Nat} (hf : (f : Int) < nA N 1) : 1 ≤ backN N f ∧ backN N f ≤ 36 := by
  have hF := h.F f hf
  have h1 := hF.1
  have h2 := hF.2.1
  have h3 := h.H.1
  have b := sum_bd (L := (List.range (nA N ((248 + 20 * f + 0))).toNat).map fun i => nA N ((8 + 40 * (hopN N f i) + 1))) (by
    intro z hz
    obtain ⟨i, hi, rfl⟩ := List.mem_map.mp hz
    have h4 := List.mem_range.mp hi
    have h5 := h2 i (by omega)
    have h6 : (hopN N f i : Int) < nA N 0 := by unfold hopN; omega
    exact (h.L _ h6).1.2.1)
  rw [List.length_map, List.length_range] at b
  unfold backN
  omega
theorem iN.pa (h : iN X N) {f : Nat} (hf : (f : Int) < nA N 1) : nPa N f := by
  have hF := h.F f hf
  have h1 := hF.1
  have h3 := h.H.1
  have h4 := h.back hf
  refine ⟨by omega, fun i hi => ?_, by omega, by omega⟩
  have := hF.2.1 i hi
  omega
/-- the flow of one that lives -/
theorem iN.fl (h : iN X N) {p : Nat} (hp : p < 480) (hl : 0 < nA N ((368 + 8 * p + 0))) : nA N ((368 + 8 * p + 0)) = (flN N p : Int) + 1 ∧ (flN N p : Int) < nA N 1 ∧ flN N p < 6 := by
  have h1 := (h.P p hp hl).1
  have h2 := h.H.2.1
  unfold flN
  omega
theorem iN.fit (h : iN X N) (hW : ∀ a, a < 6 → (nW N a).length ≤ 90) : nFit N := by
  refine ⟨fun a ha => ⟨?_, hW a ha⟩, ?_, h.E⟩
  · by_cases c : (a : Int) < nA N 0
    · exact (h.L a c).2.1.1
    · rw [(h.Z a ha (by omega)).1]; simp
  · have := h.C.lenK; omega
theorem iN.cb {p : Nat} {b : Int} (h : iN (p :: X) N) (hb : b = 0 ∨ b = 1) : iN X (cbN N p b) := by
  have hp := h.C.memX (List.mem_cons_self)
  have hf := h.fl hp.1 hp.2
  have hk := h.back hf.2.1
  have h2 := h.H.2.2.1
  have e : ∀ k, k ≠ (368 + 8 * p + 6) → k ≠ (368 + 8 * p + 7) → nA (cbN N p b) k = nA N k := fun k h6 h7 => by
    show nA (uA (uA N ((368 + 8 * p + 6)) _) ((368 + 8 * p + 7)) b) k = _
    rw [nA_ne h7, nA_ne h6]
  have e7 : nA (cbN N p b) ((368 + 8 * p + 7)) = b := nA_eq
  refine ⟨?_, ?_, ?_, ?_, ?_, ?_, ?_, ?_, h.E, ?_⟩
  · unfold iH
    rw [e 0 (by omega) (by omega), e 1 (by omega) (by omega), e 2 (by omega) (by omega), e 7 (by omega) (by omega)]
    exact h.H
  · exact nBd_uA (nBd_uA h.B (by omega)) (by omega)
  · intro x
    have c1 := h.C x
    rw [nC_cons] at c1
    have c2 := @nC_uK X (uA (uA N ((368 + 8 * p + 6)) (nA N 2 + backN N (flN N p))) ((368 + 8 * p + 7)) b) x (nK N ++ [p])
    rw [nC_uA, nC_uA, nK_uA, nK_uA, List.count_append, List.count_singleton] at c2
    rw [e _ (by omega) (by omega), ← c1]
    show nC X (uK (uA (uA N ((368 + 8 * p + 6)) (nA N 2 + backN N (flN N p))) ((368 + 8 * p + 7)) b) (nK N ++ [p])) x = _
    simp only [beq_iff_eq] at c2
    omega
  · intro f hf
    rw [e _ (by omega) (by omega), nFly_congr (fun x _ => e _ (by omega) (by omega))]
    exact h.Y f hf
  · intro f hf
    rw [e 1 (by omega) (by omega)] at hf
    have h6 := h.H.2.1
    exact iF_congr (e 0 (by omega) (by omega)) (fun k _ => e _ (by omega) (by omega)) (h.F f hf)
  · intro a ha
    rw [e 0 (by omega) (by omega)] at ha
    have h6 := h.H.1
    exact iL_congr (e 1 (by omega) (by omega)) rfl (fun k _ => e _ (by omega) (by omega)) (h.L a ha)
  · intro x hx hl
    rw [e _ (by omega) (by omega)] at hl
    have q := h.P x hx hl
    have e9 : flN (cbN N p b) x = flN N x := by unfold flN; rw [e _ (by omega) (by omega)]
    have f9 := h.fl hx hl
    unfold iP
    rw [e9, e 1 (by omega) (by omega), e 2 (by omega) (by omega), e ((368 + 8 * x + 0)) (by omega) (by omega), e ((368 + 8 * x + 1)) (by omega) (by omega), e ((368 + 8 * x + 2)) (by omega) (by omega), e ((368 + 8 * x + 3)) (by omega) (by omega), e ((368 + 8 * x + 4)) (by omega) (by omega), e ((368 + 8 * x + 5)) (by omega) (by omega), e ((248 + 20 * (flN N x) + 0)) (by omega) (by omega)]
    refine ⟨q.1, q.2.1, q.2.2.1, q.2.2.2.1, q.2.2.2.2.1, q.2.2.2.2.2.1, ?_⟩
    by_cases c : x = p
    · subst c; rw [e7]; exact hb
    · rw [e _ (by omega) (by omega)]; exact q.2.2.2.2.2.2
  · intro a ha x hx
    have hx2 : x < 480 ∧ 0 < nA N ((368 + 8 * x + 0)) := by
      rcases hx with q | q
      · exact h.C.memR ha q
      · exact h.C.memW ha q
    have f9 := h.fl hx2.1 hx2.2
    have e9 : flN (cbN N p b) x = flN N x := by unfold flN; rw [e _ (by omega) (by omega)]
    rw [e9, e _ (by omega) (by omega), e _ (by omega) (by omega)]
    exact h.O a ha x hx
  · intro a ha h0
    rw [e 0 (by omega) (by omega)] at h0
    exact h.Z a ha h0
/-- let in -/
def inN (N : nT) (p a : Nat) : nT := uA (uA (uA (uA (uA (uR N a (nR N a ++ [p])) ((8 + 40 * a + 6)) (nA N ((8 + 40 * a + 6)) + 1)) ((8 + 40 * a + (20 + flN N p))) (nA N ((8 + 40 * a + (20 + flN N p))) + 1)) ((8 + 40 * a + 18)) (nA N ((8 + 40 * a + 18)) + partN N p)) ((8 + 40 * a + (26 + flN N p))) (nA N ((368 + 8 * p + 3)))) ((8 + 40 * a + (32 + flN N p))) (nA N ((368 + 8 * p + 4)))
theorem comeN_eq (N : nT) (p a : Nat) : comeN N p a = if shutN N (flN N p) a then cbN (evN (uA N 6 (nA N 6 + 1)) 0 a (flN N p)) p 1 else inN N p a := rfl
theorem inN_ne {p a k : Nat} (h1 : k ≠ (8 + 40 * a + 6)) (h2 : k ≠ (8 + 40 * a + (20 + flN N p))) (h3 : k ≠ (8 + 40 * a + 18)) (h4 : k ≠ (8 + 40 * a + (26 + flN N p))) (h5 : k ≠ (8 + 40 * a + (32 + flN N p))) : nA (inN N p a) k = nA N k := by
  unfold inN
  rw [nA_ne h5, nA_ne h4, nA_ne h3, nA_ne h2, nA_ne h1, nA_uR]
theorem inN_6 {p a : Nat} (hf : flN N p < 6) : nA (inN N p a) ((8 + 40 * a + 6)) = nA N ((8 + 40 * a + 6)) + 1 := by
  unfold inN
  rw [nA_ne (by omega), nA_ne (by omega), nA_ne (by omega), nA_ne (by omega), nA_eq]
theorem inN_20 {p a : Nat} (hf : flN N p < 6) : nA (inN N p a) ((8 + 40 * a + (20 + flN N p))) = nA N ((8 + 40 * a + (20 + flN N p))) + 1 := by
  unfold inN
  rw [nA_ne (by omega), nA_ne (by omega), nA_ne (by omega), nA_eq]
theorem inN_18 {p a : Nat} (hf : flN N p < 6) : nA (inN N p a) ((8 + 40 * a + 18)) = nA N ((8 + 40 * a + 18)) + partN N p := by
  unfold inN
  rw [nA_ne (by omega), nA_ne (by omega), nA_eq]
theorem inN_26 {p a : Nat} (hf : flN N p < 6) : nA (inN N p a) ((8 + 40 * a + (26 + flN N p))) = nA N ((368 + 8 * p + 3)) := by
  unfold inN
  rw [nA_ne (by omega), nA_eq]
theorem inN_32 {p a : Nat} : nA (inN N p a) ((8 + 40 * a + (32 + flN N p))) = nA N ((368 + 8 * p + 4)) := by
  unfold inN
  rw [nA_eq]
theorem iP.part {p : Nat} (h : iP N p) : 1 ≤ partN N p ∧ partN N p ≤ 12300000 := by
  have h3 := h.2.2.2.1
  have h4 := h.2.2.2.2.1
  have q : 10000 * nA N ((368 + 8 * p + 4)) / nA N ((368 + 8 * p + 3)) ≤ 12300000 := by
    refine Int.ediv_le_of_le_mul (by omega) ?_
    omega
  show 1 ≤ max 1 (10000 * nA N ((368 + 8 * p + 4)) / nA N ((368 + 8 * p + 3))) ∧ max 1 (10000 * nA N ((368 + 8 * p + 4)) / nA N ((368 + 8 * p + 3))) ≤ 12300000
  omega
theorem iN.let {p a : Nat} (h : iN (p :: X) N) (ha : (a : Int) < nA N 0) (hs : (nR N a).length < 60) (hh : nA N ((368 + 8 * p + 2)) < nA N ((248 + 20 * (flN N p) + 0))) : iN X (inN N p a) := by
  have hp := h.C.memX (List.mem_cons_self)
  have hf := h.fl hp.1 hp.2
  have hq := h.P p hp.1 hp.2
  have hpt := hq.part
  have h0 := h.H.1
  have h1 := h.H.2.1
  have hL := h.L a ha
  have e : ∀ k, (k < 8 ∨ 248 ≤ k) → nA (inN N p a) k = nA N k := fun k hk => inN_ne (by omega) (by omega) (by omega) (by omega) (by omega)
  have ef : ∀ x, flN (inN N p a) x = flN N x := fun x => by unfold flN; rw [e _ (by omega)]
  have eR : ∀ b, nR (inN N p a) b = if b = a then nR N a ++ [p] else nR N b := fun b => rfl
  have c5 := hL.2.2.2.2 (flN N p) hf.2.2
  have c2 := hL.2.1
  refine ⟨?_, ?_, ?_, ?_, ?_, ?_, ?_, ?_, h.E, ?_⟩
  · unfold iH
    rw [e 0 (by omega), e 1 (by omega), e 2 (by omega), e 7 (by omega)]
    exact h.H
  · refine nBd_uA (nBd_uA (nBd_uA (nBd_uA (nBd_uA h.B ?_) ?_) ?_) ?_) ?_
    · omega
    · omega
    · omega
    · have := hq.2.2.2.1; omega
    · have := hq.2.2.2.2.1; omega
  · intro x
    have c1 := h.C x
    rw [nC_cons] at c1
    have c2 := @nC_uR X N x a (nR N a ++ [p]) (by omega)
    rw [List.count_append, List.count_singleton] at c2
    rw [e _ (by omega), ← c1]
    show nC X (uR N a (nR N a ++ [p])) x = _
    simp only [beq_iff_eq] at c2
    omega
  · intro f hf
    rw [e _ (by omega), nFly_congr (fun x _ => e _ (by omega))]
    exact h.Y f hf
  · intro f hf
    rw [e 1 (by omega)] at hf
    exact iF_congr (e 0 (by omega)) (fun k _ => e _ (by omega)) (h.F f hf)
  · intro b hb
    rw [e 0 (by omega)] at hb
    by_cases c : b = a
    · subst c
      have g : ∀ k, k < 20 → k ≠ 6 → k ≠ 18 → nA (inN N p b) ((8 + 40 * b + k)) = nA N ((8 + 40 * b + k)) := fun k hk h6 h18 => inN_ne (by omega) (by omega) (by omega) (by omega) (by omega)
      unfold iL
      rw [e 1 (by omega), g 0 (by omega) (by omega) (by omega), g 1 (by omega) (by omega) (by omega), g 2 (by omega) (by omega) (by omega), g 3 (by omega) (by omega) (by omega), inN_6 hf.2.2, g 7 (by omega) (by omega) (by omega), g 8 (by omega) (by omega) (by omega), g 9 (by omega) (by omega) (by omega), g 10 (by omega) (by omega) (by omega), g 11 (by omega) (by omega) (by omega), g 12 (by omega) (by omega) (by omega), g 13 (by omega) (by omega) (by omega), g 14 (by omega) (by omega) (by omega), g 15 (by omega) (by omega) (by omega), g 16 (by omega) (by omega) (by omega), g 17 (by omega) (by omega) (by omega), inN_18 hf.2.2, eR, if_pos rfl, List.length_append, List.length_singleton]
      refine ⟨hL.1, by omega, hL.2.2.1, hL.2.2.2.1, fun f hf6 => ?_⟩
      have d5 := hL.2.2.2.2 f hf6
      by_cases c : f = flN N p
      · subst c
        rw [inN_20 hf.2.2, inN_26 hf.2.2, inN_32]
        have := hq.2.2.2.1
        have := hq.2.2.2.2.1
        omega
      · have g2 : nA (inN N p b) ((8 + 40 * b + (20 + f))) = nA N ((8 + 40 * b + (20 + f))) := inN_ne (by omega) (by omega) (by omega) (by omega) (by omega)
        have g3 : nA (inN N p b) ((8 + 40 * b + (26 + f))) = nA N ((8 + 40 * b + (26 + f))) := inN_ne (by omega) (by omega) (by omega) (by omega) (by omega)
        have g4 : nA (inN N p b) ((8 + 40 * b + (32 + f))) = nA N ((8 + 40 * b + (32 + f))) := inN_ne (by omega) (by omega) (by omega) (by omega) (by omega)
        rw [g2, g3, g4]
        omega
    · exact iL_congr (e 1 (by omega)) (by rw [eR, if_neg c]) (fun k _ => inN_ne (by omega) (by omega) (by omega) (by omega) (by omega)) (h.L b hb)
  · intro x hx hl
    rw [e _ (by omega)] at hl
    exact iP_congr (e 1 (by omega)) (e 2 (by omega)) (fun k _ _ => e _ (by omega)) (fun f => e _ (by omega)) (h.P x hx hl)
  · intro b hb x hx
    rw [ef, e _ (by omega), e _ (by omega)]
    rw [eR] at hx
    by_cases c : b = a
    · subst c
      rw [if_pos rfl] at hx
      rcases hx with q | q
      · rcases List.mem_append.mp q with q | q
        · exact h.O b hb x (Or.inl q)
        · rw [List.mem_singleton.mp q]; exact hh
      · exact h.O b hb x (Or.inr q)
    · rw [if_neg c] at hx
      exact h.O b hb x hx
  · intro b hb h0
    rw [e 0 (by omega)] at h0
    rw [eR, if_neg (by omega)]
    exact h.Z b hb h0
theorem iN.come {p a : Nat} (h : iN (p :: X) N) (ha : (a : Int) < nA N 0) (hh : nA N ((368 + 8 * p + 2)) < nA N ((248 + 20 * (flN N p) + 0))) : iN X (comeN N p a) := by
  rw [comeN_eq]
  cases hs : shutN N (flN N p) a
  · refine h.let ha ?_ hh
    have h2 := (h.L a ha).1.2.2.1
    unfold shutN at hs
    simp only [Bool.or_eq_false_iff, decide_eq_false_iff_not] at hs
    omega
  · exact iN.cb (iN.ev (iN.six h)) (Or.inr rfl)
end I1
