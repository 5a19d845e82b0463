section I7
variable {N : nT} {X : List Nat}
def spT (N : nT) (a : Nat) : Int := nA N ((8 + 40 * a + 0)) * nA N ((8 + 40 * a + 3))
def spQ (N : nT) (a : Nat) : Int := 40 * (spT N a - nA N ((8 + 40 * a + 6))) - 23 * nA N ((8 + 40 * a + 7))
def spS (N : nT) (a : Nat) : Int := max 0 (10 * nA N ((8 + 40 * a + 6)) - (if spQ N a < 0 then -(spQ N a) else spQ N a))
def sp1 (N : nT) (a : Nat) : nT := uA (uA (uA (uA (uA (uA N ((8 + 40 * a + 8)) (spS N a + max 0 (spQ N a))) ((8 + 40 * a + 9)) (spS N a + max 0 (-(spQ N a)))) ((8 + 40 * a + 10)) (max 1 (nA N ((8 + 40 * a + 18))))) ((8 + 40 * a + 11)) (max 1 (nA N ((8 + 40 * a + 6))))) ((8 + 40 * a + 12)) 0) ((8 + 40 * a + 13)) 0
def sp2 (N : nT) (a : Nat) : nT := (List.range (nA N 1).toNat).foldl (catchN a) (sp1 N a)
def sp3 (N M : nT) (a : Nat) : nT := uA (uA (uA (uA (uA (uA M ((8 + 40 * a + 15)) (max 1 (spT N a / max 1 (cameN N a)))) ((8 + 40 * a + 6)) 0) ((8 + 40 * a + 18)) 0) ((8 + 40 * a + 7)) (nA N ((8 + 40 * a + 2)))) ((8 + 40 * a + 17)) (nA N ((8 + 40 * a + 16)))) ((8 + 40 * a + 16)) 0
theorem spanN_eq (N : nT) (a : Nat) : spanN N a = sp3 N (sp2 N a) a := rfl
theorem spT_bd {a : Nat} (h : iL N a) : 2 ≤ spT N a ∧ spT N a ≤ 270 := by
  have l := h.1
  unfold spT
  have q : nA N ((8 + 40 * a + 0)) * nA N ((8 + 40 * a + 3)) ≤ 9 * 30 := Int.mul_le_mul (by omega) (by omega) (by omega) (by omega)
  have q2 : 1 * 2 ≤ nA N ((8 + 40 * a + 0)) * nA N ((8 + 40 * a + 3)) := Int.mul_le_mul (by omega) (by omega) (by omega) (by omega)
  omega
theorem sp_bd {a : Nat} (h : iL N a) : (0 ≤ spS N a + max 0 (spQ N a) ∧ spS N a + max 0 (spQ N a) ≤ 11000) ∧ (0 ≤ spS N a + max 0 (-(spQ N a)) ∧ spS N a + max 0 (-(spQ N a)) ≤ 15000000) := by
  have t := spT_bd h
  have l := h.2.1
  have eq : spQ N a = 40 * (spT N a - nA N ((8 + 40 * a + 6))) - 23 * nA N ((8 + 40 * a + 7)) := rfl
  have es : spS N a = max 0 (10 * nA N ((8 + 40 * a + 6)) - (if spQ N a < 0 then -(spQ N a) else spQ N a)) := rfl
  by_cases c : spQ N a < 0
  · rw [if_pos c] at es
    omega
  · rw [if_neg c] at es
    omega
theorem sp1_ne {a k : Nat} (h : k < (8 + 40 * a + 8) ∨ (8 + 40 * a + 14) ≤ k) : nA (sp1 N a) k = nA N k := by
  unfold sp1
  rw [nA_ne (by omega), nA_ne (by omega), nA_ne (by omega), nA_ne (by omega), nA_ne (by omega), nA_ne (by omega)]
theorem sp1_8 {a : Nat} : nA (sp1 N a) ((8 + 40 * a + 8)) = spS N a + max 0 (spQ N a) ∧ nA (sp1 N a) ((8 + 40 * a + 9)) = spS N a + max 0 (-(spQ N a)) ∧ nA (sp1 N a) ((8 + 40 * a + 10)) = max 1 (nA N ((8 + 40 * a + 18))) ∧ nA (sp1 N a) ((8 + 40 * a + 11)) = max 1 (nA N ((8 + 40 * a + 6))) ∧ nA (sp1 N a) ((8 + 40 * a + 12)) = 0 ∧ nA (sp1 N a) ((8 + 40 * a + 13)) = 0 := by
  unfold sp1
  refine ⟨?_, ?_, ?_, ?_, ?_, ?_⟩
  · rw [nA_ne (by omega), nA_ne (by omega), nA_ne (by omega), nA_ne (by omega), nA_ne (by omega), nA_eq]
  · rw [nA_ne (by omega), nA_ne (by omega), nA_ne (by omega), nA_ne (by omega), nA_eq]
  · rw [nA_ne (by omega), nA_ne (by omega), nA_ne (by omega), nA_eq]
  · rw [nA_ne (by omega), nA_ne (by omega), nA_eq]
  · rw [nA_ne (by omega), nA_eq]
  · rw [nA_eq]
theorem iN.spa {a : Nat} (h : iN X N) (ha : (a : Int) < nA N 0) : iN X (sp1 N a) := by
  have h0 := h.H.1
  have hL := h.L a ha
  have b := sp_bd hL
  have l := hL.2.1
  have v := sp1_8 (N := N) (a := a)
  have g : ∀ k, (k < 8 ∨ 14 ≤ k) → nA (sp1 N a) ((8 + 40 * a + k)) = nA N ((8 + 40 * a + k)) := fun k _ => sp1_ne (by omega)
  refine h.link (fun k hk => sp1_ne (by omega)) ha ?_ ?_ rfl rfl rfl h.E.1 rfl
  · have eR : nR (sp1 N a) a = nR N a := rfl
    unfold iL
    rw [eR, sp1_ne (k := 1) (by omega), v.1, v.2.1, v.2.2.1, v.2.2.2.1, v.2.2.2.2.1, v.2.2.2.2.2, g 0 (by omega), g 1 (by omega), g 2 (by omega), g 3 (by omega), g 6 (by omega), g 7 (by omega), g 14 (by omega), g 15 (by omega), g 16 (by omega), g 17 (by omega), g 18 (by omega)]
    refine ⟨hL.1, l, ⟨b.1, b.2, by omega, by omega, by omega, by omega⟩, hL.2.2.2.1, fun f hf => ?_⟩
    rw [g (20 + f) (by omega), g (26 + f) (by omega), g (32 + f) (by omega)]
    exact hL.2.2.2.2 f hf
  · unfold sp1
    refine nBd_uA (nBd_uA (nBd_uA (nBd_uA (nBd_uA (nBd_uA h.B ?_) ?_) ?_) ?_) ?_) ?_ <;> omega
theorem sp3_ne {M : nT} {a k : Nat} (h : k < (8 + 40 * a + 0) ∨ (8 + 40 * a + 40) ≤ k ∨ (k ≠ (8 + 40 * a + 15) ∧ k ≠ (8 + 40 * a + 6) ∧ k ≠ (8 + 40 * a + 18) ∧ k ≠ (8 + 40 * a + 7) ∧ k ≠ (8 + 40 * a + 17) ∧ k ≠ (8 + 40 * a + 16))) : nA (sp3 N M a) k = nA M k := by
  unfold sp3
  rw [nA_ne (by omega), nA_ne (by omega), nA_ne (by omega), nA_ne (by omega), nA_ne (by omega), nA_ne (by omega)]
theorem sp3_15 {M : nT} {a : Nat} : nA (sp3 N M a) ((8 + 40 * a + 15)) = max 1 (spT N a / max 1 (cameN N a)) ∧ nA (sp3 N M a) ((8 + 40 * a + 6)) = 0 ∧ nA (sp3 N M a) ((8 + 40 * a + 18)) = 0 ∧ nA (sp3 N M a) ((8 + 40 * a + 7)) = nA N ((8 + 40 * a + 2)) ∧ nA (sp3 N M a) ((8 + 40 * a + 17)) = nA N ((8 + 40 * a + 16)) ∧ nA (sp3 N M a) ((8 + 40 * a + 16)) = 0 := by
  unfold sp3
  refine ⟨?_, ?_, ?_, ?_, ?_, ?_⟩
  · rw [nA_ne (by omega), nA_ne (by omega), nA_ne (by omega), nA_ne (by omega), nA_ne (by omega), nA_eq]
  · rw [nA_ne (by omega), nA_ne (by omega), nA_ne (by omega), nA_ne (by omega), nA_eq]
  · rw [nA_ne (by omega), nA_ne (by omega), nA_ne (by omega), nA_eq]
  · rw [nA_ne (by omega), nA_ne (by omega), nA_eq]
  · rw [nA_ne (by omega), nA_eq]
  · rw [nA_eq]
theorem iN.spb {a : Nat} (h : iN X N) (ha : (a : Int) < nA N 0) : iN X (sp2 N a) ∧ (∀ k, k ≠ (8 + 40 * a + 14) → (k < (8 + 40 * a + 8) ∨ ((8 + 40 * a + 14) ≤ k ∧ k < (8 + 40 * a + 20)) ∨ (8 + 40 * a + 26) ≤ k) → nA (sp2 N a) k = nA N k) ∧ (∀ k, 8 ≤ k → k < 14 → nA (sp2 N a) ((8 + 40 * a + k)) = nA (sp1 N a) ((8 + 40 * a + k))) ∧ (∀ f, f < 6 → nA (sp2 N a) ((8 + 40 * a + (20 + f))) = 0) ∧ nR (sp2 N a) = nR N ∧ nW (sp2 N a) = nW N ∧ nK (sp2 N a) = nK N ∧ nP (sp2 N a) = nP N := by
  have h0 := h.H.1
  have h1 := h.H.2.1
  have hL := h.L a ha
  have e0 : nA (sp1 N a) 0 = nA N 0 := sp1_ne (by omega)
  have e1 : nA (sp1 N a) 1 = nA N 1 := sp1_ne (by omega)
  have c := catch_fold (X := X) (a := a) (List.range (nA N 1).toNat) (sp1 N a) (h.spa ha) (by rw [e0]; exact ha) (fun f hf => by
    have := List.mem_range.mp hf
    rw [e1]
    omega)
  refine ⟨c.1, fun k q1 q2 => ?_, fun k q1 q2 => c.2.1 _ (by omega) (by omega), fun f hf => ?_, c.2.2.2.1, c.2.2.2.2.1, c.2.2.2.2.2.1, c.2.2.2.2.2.2⟩
  · have e := c.2.1 k q1 (by omega)
    exact e.trans (sp1_ne (by omega))
  · apply c.2.2.1
    by_cases q : (f : Int) < nA N 1
    · exact Or.inl (List.mem_range.mpr (by omega))
    · refine Or.inr ?_
      rw [sp1_ne (by omega)]
      exact (hL.2.2.2.2 f hf).2.2.2 (by omega)
theorem iN.span {a : Nat} (h : iN X N) (ha : (a : Int) < nA N 0) : iN X (spanN N a) := by
  have h0 := h.H.1
  have hL := h.L a ha
  have t := spT_bd hL
  have l := hL.2.1
  have b := h.spb ha
  have e0 : nA (sp2 N a) 0 = nA N 0 := b.2.1 0 (by omega) (by omega)
  have ha2 : (a : Int) < nA (sp2 N a) 0 := by rw [e0]; exact ha
  have hM := b.1.L a ha2
  have v := sp3_15 (N := N) (M := sp2 N a) (a := a)
  have g : ∀ k, k < 40 → k ≠ 15 → k ≠ 6 → k ≠ 18 → k ≠ 7 → k ≠ 17 → k ≠ 16 → nA (sp3 N (sp2 N a) a) ((8 + 40 * a + k)) = nA (sp2 N a) ((8 + 40 * a + k)) := fun k _ _ _ _ _ _ _ => sp3_ne (by omega)
  have dv : 0 ≤ spT N a / max 1 (cameN N a) ∧ spT N a / max 1 (cameN N a) ≤ spT N a := ⟨Int.ediv_nonneg (by omega) (by omega), Int.ediv_le_self _ (by omega)⟩
  rw [spanN_eq]
  refine b.1.link (fun k hk => sp3_ne (by omega)) ha2 ?_ ?_ rfl rfl rfl b.1.E.1 rfl
  · have eR : nR (sp3 N (sp2 N a) a) a = nR (sp2 N a) a := rfl
    unfold iL
    rw [eR, sp3_ne (k := 1) (by omega), v.1, v.2.1, v.2.2.1, v.2.2.2.1, v.2.2.2.2.1, v.2.2.2.2.2, g 0 (by omega) (by omega) (by omega) (by omega) (by omega) (by omega) (by omega), g 1 (by omega) (by omega) (by omega) (by omega) (by omega) (by omega) (by omega), g 2 (by omega) (by omega) (by omega) (by omega) (by omega) (by omega) (by omega), g 3 (by omega) (by omega) (by omega) (by omega) (by omega) (by omega) (by omega), g 8 (by omega) (by omega) (by omega) (by omega) (by omega) (by omega) (by omega), g 9 (by omega) (by omega) (by omega) (by omega) (by omega) (by omega) (by omega), g 10 (by omega) (by omega) (by omega) (by omega) (by omega) (by omega) (by omega), g 11 (by omega) (by omega) (by omega) (by omega) (by omega) (by omega) (by omega), g 12 (by omega) (by omega) (by omega) (by omega) (by omega) (by omega) (by omega), g 13 (by omega) (by omega) (by omega) (by omega) (by omega) (by omega) (by omega), g 14 (by omega) (by omega) (by omega) (by omega) (by omega) (by omega) (by omega)]
    have r := hL.1
    have m2 := hM.2.1.1
    refine ⟨hM.1, by omega, hM.2.2.1, ⟨hM.2.2.2.1.1, hM.2.2.2.1.2.1, by omega⟩, fun f hf => ?_⟩
    have d := hM.2.2.2.2 f hf
    rw [g (20 + f) (by omega) (by omega) (by omega) (by omega) (by omega) (by omega) (by omega), g (26 + f) (by omega) (by omega) (by omega) (by omega) (by omega) (by omega) (by omega), g (32 + f) (by omega) (by omega) (by omega) (by omega) (by omega) (by omega) (by omega), b.2.2.2.1 f hf]
    omega
  · have r := hL.1
    unfold sp3
    refine nBd_uA (nBd_uA (nBd_uA (nBd_uA (nBd_uA (nBd_uA b.1.B ?_) ?_) ?_) ?_) ?_) ?_ <;> omega
/-- the least row of a span so far -/
theorem iN.low {a : Nat} {z : Int} (h : iN X N) (ha : (a : Int) < nA N 0) (hz : 0 ≤ z ∧ z ≤ 60) : iN X (uA N ((8 + 40 * a + 7)) z) := by
  have h0 := h.H.1
  have hL := h.L a ha
  have l := hL.2.1
  have e : ∀ k, k ≠ (8 + 40 * a + 7) → nA (uA N ((8 + 40 * a + 7)) z) k = nA N k := fun k hk => nA_ne hk
  refine h.link (fun k hk => e k (by omega)) ha ?_ (nBd_uA h.B (by omega)) rfl rfl rfl h.E.1 rfl
  have eR : nR (uA N ((8 + 40 * a + 7)) z) a = nR N a := rfl
  unfold iL
  rw [eR, nA_eq, e 1 (by omega), e ((8 + 40 * a + 0)) (by omega), e ((8 + 40 * a + 1)) (by omega), e ((8 + 40 * a + 2)) (by omega), e ((8 + 40 * a + 3)) (by omega), e ((8 + 40 * a + 6)) (by omega), e ((8 + 40 * a + 8)) (by omega), e ((8 + 40 * a + 9)) (by omega), e ((8 + 40 * a + 10)) (by omega), e ((8 + 40 * a + 11)) (by omega), e ((8 + 40 * a + 12)) (by omega), e ((8 + 40 * a + 13)) (by omega), e ((8 + 40 * a + 14)) (by omega), e ((8 + 40 * a + 15)) (by omega), e ((8 + 40 * a + 16)) (by omega), e ((8 + 40 * a + 17)) (by omega), e ((8 + 40 * a + 18)) (by omega)]
  refine ⟨hL.1, by omega, hL.2.2.1, hL.2.2.2.1, fun f hf => ?_⟩
  rw [e ((8 + 40 * a + (20 + f))) (by omega), e ((8 + 40 * a + (26 + f))) (by omega), e ((8 + 40 * a + (32 + f))) (by omega)]
  exact hL.2.2.2.2 f hf
/-- a tick more -/
theorem iN.now (h : iN X N) (ht : nA N 2 < 40000) : iN X (uA N 2 (nA N 2 + 1)) := by
  have h0 := h.H.1
  have h1 := h.H.2.1
  have h2 := h.H.2.2.1
  have e : ∀ k, k ≠ 2 → nA (uA N 2 (nA N 2 + 1)) k = nA N k := fun k hk => nA_ne hk
  refine ⟨?_, nBd_uA h.B (by omega), ?_, ?_, ?_, ?_, ?_, ?_, h.E, ?_⟩
  · unfold iH
    rw [nA_eq, e 0 (by omega), e 1 (by omega), e 7 (by omega)]
    exact ⟨h0, h1, by omega, h.H.2.2.2⟩
  · intro x
    rw [e _ (by omega)]
    exact h.C x
  · intro f hf
    rw [e _ (by omega), nFly_congr (fun x _ => e _ (by omega))]
    exact h.Y f hf
  · intro f hf
    rw [e 1 (by omega)] at hf
    exact iF_congr (e 0 (by omega)) (fun k _ => e _ (by omega)) (h.F f hf)
  · intro a ha
    rw [e 0 (by omega)] at ha
    exact iL_congr (e 1 (by omega)) rfl (fun k _ => e _ (by omega)) (h.L a ha)
  · intro x hx hl
    rw [e _ (by omega)] at hl
    have q := h.P x hx hl
    have e9 : flN (uA N 2 (nA N 2 + 1)) x = flN N x := by unfold flN; rw [e _ (by omega)]
    unfold iP
    rw [e9, nA_eq, e 1 (by omega), e ((248 + 20 * (flN N x) + 0)) (by omega), e ((368 + 8 * x + 0)) (by omega), e ((368 + 8 * x + 1)) (by omega), e ((368 + 8 * x + 2)) (by omega), e ((368 + 8 * x + 3)) (by omega), e ((368 + 8 * x + 4)) (by omega), e ((368 + 8 * x + 5)) (by omega), e ((368 + 8 * x + 7)) (by omega)]
    exact ⟨q.1, by have := q.2.1; omega, q.2.2⟩
  · exact iX_congr (N := N) (fun _ _ => rfl) (fun _ _ => rfl) (fun x => ⟨e _ (by omega), e _ (by omega)⟩) (fun f => e _ (by omega)) h.O
  · intro a ha q
    rw [e 0 (by omega)] at q
    exact h.Z a ha q
theorem iN.past (h : iN X N) : iN X (pastN N) := by
  refine ⟨h.H, h.B, h.C, h.Y, h.F, h.L, h.P, h.O, ⟨h.E.1, ?_⟩, h.Z⟩
  have := h.E.2
  show (_ ++ [_] : List _).length ≤ 20
  rw [List.length_append]
  split
  · rw [List.length_drop]; simp; omega
  · simp; omega
end I7
