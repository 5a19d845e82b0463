section CZ8
variable {N : nT} {a : Nat}
theorem nT_ext5 {M M' : nT} (e : ∀ k, nA M k = nA M' k) (eR : nR M = nR M') (eW : nW M = nW M') (eK : nK M = nK M') (eE : nE M = nE M') (eP : nP M = nP M') : M = M' := by
  refine nT_ext e ?_
  rcases M with ⟨A, R, W, K, E, P⟩
  rcases M' with ⟨A', R', W', K', E', P'⟩
  have e1 : R = R' := eR
  have e2 : W = W' := eW
  have e3 : K = K' := eK
  have e4 : E = E' := eE
  have e5 : P = P' := eP
  subst e1 e2 e3 e4 e5
  rfl
theorem es_ne {k : Nat} (h : k ≠ (8 + 40 * a + 14)) (h15 : k ≠ (8 + 40 * a + 15)) (h17 : k ≠ (8 + 40 * a + 17)) (h6 : k ≠ (8 + 40 * a + 6)) (h7 : k ≠ (8 + 40 * a + 7)) (h18 : k ≠ (8 + 40 * a + 18)) (h16 : k ≠ (8 + 40 * a + 16)) (h20 : k < (8 + 40 * a + 20) ∨ (8 + 40 * a + 26) ≤ k) : nA (esN N a) k = nA (sp1 N a) k := by
  unfold esN bsN
  rw [z20_ne h20, nA_ne h16, nA_ne h18, nA_ne h7, nA_ne h6, nA_ne h17, nA_ne h15, nA_ne h]
theorem es_at : nA (esN N a) ((8 + 40 * a + 14)) = csN N a 6 ∧ nA (esN N a) ((8 + 40 * a + 15)) = max 1 (spT N a / max 1 ((cmN N a 6 : Nat) : Int)) ∧ nA (esN N a) ((8 + 40 * a + 17)) = nA N ((8 + 40 * a + 16)) ∧ nA (esN N a) ((8 + 40 * a + 6)) = 0 ∧ nA (esN N a) ((8 + 40 * a + 7)) = nA N ((8 + 40 * a + 2)) ∧ nA (esN N a) ((8 + 40 * a + 18)) = 0 ∧ nA (esN N a) ((8 + 40 * a + 16)) = 0 := by
  unfold esN bsN
  refine ⟨?_, ?_, ?_, ?_, ?_, ?_, ?_⟩
  · rw [z20_ne (by omega), nA_ne (by omega), nA_ne (by omega), nA_ne (by omega), nA_ne (by omega), nA_ne (by omega), nA_ne (by omega), nA_eq]
  · rw [z20_ne (by omega), nA_ne (by omega), nA_ne (by omega), nA_ne (by omega), nA_ne (by omega), nA_ne (by omega), nA_eq]
  · rw [z20_ne (by omega), nA_ne (by omega), nA_ne (by omega), nA_ne (by omega), nA_ne (by omega), nA_eq]
  · rw [z20_ne (by omega), nA_ne (by omega), nA_ne (by omega), nA_ne (by omega), nA_eq]
  · rw [z20_ne (by omega), nA_ne (by omega), nA_ne (by omega), nA_eq, nA_ne (by omega), nA_ne (by omega), nA_ne (by omega)]
    exact sp1_ne (by omega)
  · rw [z20_ne (by omega), nA_ne (by omega), nA_eq]
  · rw [z20_ne (by omega), nA_eq]
theorem span_eq (h : iN [] N) (ha : (a : Int) < nA N 0) : uE (esN N a) (tcE N a (nE N) (nA N 1).toNat) = spanN N a := by
  have H1 := h.H.2.1
  have S := h.spb ha
  obtain ⟨s1, s2, s3, s4, s5, s6, s7, s8⟩ := S
  have B := cf_bits h ha (nA N 1).toNat (by omega)
  have T := @sp3_15 N (sp2 N a) a
  obtain ⟨t15, t6, t18, t7, t17, t16⟩ := T
  obtain ⟨e14, e15, e17, e6, e7, e18, e16⟩ := @es_at N a
  rw [spanN_eq]
  refine nT_ext5 (fun k => ?_) s5.symm s6.symm s7.symm B.2.2.symm s8.symm
  show nA (esN N a) k = nA (sp3 N (sp2 N a) a) k
  by_cases c : k < (8 + 40 * a + 0) ∨ (8 + 40 * a + 40) ≤ k
  · rw [es_ne (by omega) (by omega) (by omega) (by omega) (by omega) (by omega) (by omega) (by omega), sp3_ne (by omega), s2 k (by omega) (by omega)]
    exact sp1_ne (by omega)
  · obtain ⟨j, hj⟩ : ∃ j, k = (8 + 40 * a + j) := ⟨k - (8 + 40 * a + 0), by omega⟩
    subst hj
    have j40 : j < 40 := by omega
    by_cases c15 : j = 15
    · subst c15; rw [e15, t15, cm6 h ha]
    by_cases c6 : j = 6
    · subst c6; rw [e6, t6]
    by_cases c18 : j = 18
    · subst c18; rw [e18, t18]
    by_cases c7 : j = 7
    · subst c7; rw [e7, t7]
    by_cases c17 : j = 17
    · subst c17; rw [e17, t17]
    by_cases c16 : j = 16
    · subst c16; rw [e16, t16]
    rw [sp3_ne (by omega)]
    by_cases c14 : j = 14
    · subst c14; rw [e14, cs6 h ha]
    by_cases c20 : 20 ≤ j ∧ j < 26
    · obtain ⟨f, hf⟩ : ∃ f, j = 20 + f := ⟨j - 20, by omega⟩
      subst hf
      rw [s4 f (by omega)]
      unfold esN bsN
      exact z20_in (by omega)
    rw [es_ne (by omega) (by omega) (by omega) (by omega) (by omega) (by omega) (by omega) (by omega)]
    by_cases c8 : 8 ≤ j ∧ j < 14
    · rw [s3 j c8.1 c8.2]
    · rw [s2 _ (by omega) (by omega)]
      exact sp1_ne (by omega)
theorem tcE_len {E : List (Int × Int × Int × Int)} (hE : E.length ≤ 24) : ∀ i, (tcE N a E i).length ≤ 24 := by
  intro i
  induction i with
  | zero => exact hE
  | succ i ih =>
    unfold tcE
    split
    · exact ih
    · unfold evL
      rw [List.length_append, List.length_singleton]
      split
      · rw [List.length_drop]; omega
      · omega
end CZ8
section CZ9
variable {h h1 : zH} {b : Nat} {t : Nat}
/-- the past's next row -/
theorem PaC.add {P : List (Nat → Int)} {n : Int} {q : Nat → Int} (c : PaC h b P n t) (hn : n ≤ 6) (r : ∀ i, zI h1 (b + 10) i = if (t + 1) % 20 * 6 ≤ i ∧ ((i : Nat) : Int) < ((t + 1) % 20 * 6 : Nat) + n then jI (q (i - (t + 1) % 20 * 6)) else zI h (b + 10) i) : PaC h1 b ((if P.length = 20 then P.drop 1 else P) ++ [q]) n (t + 1) := by
  have hl : ((if P.length = 20 then P.drop 1 else P) ++ [q]).length = min 20 (t + 1) := by
    rw [List.length_append, List.length_singleton]
    have := c.1
    split
    · rw [List.length_drop]; omega
    · omega
  refine ⟨hl, fun i p hp f hf => ?_⟩
  have hi : i < min 20 (t + 1) := by
    have := (List.getElem?_eq_some_iff.mp hp).1
    rw [List.length_reverse, hl] at this
    exact this
  cases i with
  | zero =>
    have e : p = q := by
      rw [List.reverse_append] at hp
      simpa using hp.symm
    rw [r, Nat.sub_zero, if_pos (by omega), e]
    congr 2
    omega
  | succ i =>
    have hp2 : P.reverse[i]? = some p := by
      rw [List.reverse_append, List.reverse_singleton, List.singleton_append, List.getElem?_cons_succ] at hp
      have hc := c.1
      split at hp
      · rw [List.getElem?_reverse (by rw [List.length_drop]; omega), List.length_drop, List.getElem?_drop] at hp
        rw [List.getElem?_reverse (by omega), ← hp]
        congr 1
        omega
      · exact hp
    rw [show t + 1 - (i + 1) = t - i by omega, r, if_neg (by omega)]
    exact c.2 i p hp2 f hf
end CZ9
