/-! A TICK'S PHASES: what they leave as it is; each of them keeps what always holds -/
/-- numbers that no tick changes -/
def stK (k : Nat) : Prop := k < 2 ∨ k = 7 ∨ (8 ≤ k ∧ k < 248 ∧ (k - 8) % 40 < 4) ∨ (248 ≤ k ∧ k < 368 ∧ ((k - 248) % 20 = 0 ∨ (k - 248) % 20 = 2 ∨ (k - 248) % 20 = 3 ∨ 12 ≤ (k - 248) % 20)) ∨ k = 3
def kp (N N' : nT) : Prop := (∀ k, stK k ∨ k = 2 → nA N' k = nA N k) ∧ (∀ a, a < 6 → nA N' ((8 + 40 * a + 16)) = nA N ((8 + 40 * a + 16))) ∧ (∀ a, a < 6 → (nW N' a).Sublist (nW N a) ∧ ∀ x, x ∈ nW N' a → nA N' ((368 + 8 * x + 6)) = nA N ((368 + 8 * x + 6))) ∧ ∀ a : Nat, 6 ≤ a → nW N' a = nW N a
/-- what each flow sent -/
def ks (N N' : nT) : Prop := ∀ f, f < 6 → nA N' ((248 + 20 * f + 8)) = nA N ((248 + 20 * f + 8))
section I8
variable {N N' : nT} {X : List Nat}
theorem kp.rf : kp N N := ⟨fun _ _ => rfl, fun _ _ => rfl, fun _ _ => ⟨List.Sublist.refl _, fun _ _ => rfl⟩, fun _ _ => rfl⟩
theorem kp.tr {M : nT} (a : kp N N') (b : kp N' M) : kp N M :=
  ⟨fun k h => (b.1 k h).trans (a.1 k h), fun k h => (b.2.1 k h).trans (a.2.1 k h), fun k h => ⟨(b.2.2.1 k h).1.trans (a.2.2.1 k h).1, fun x hx => ((b.2.2.1 k h).2 x hx).trans ((a.2.2.1 k h).2 x ((b.2.2.1 k h).1.subset hx))⟩, fun k h => (b.2.2.2 k h).trans (a.2.2.2 k h)⟩
theorem ks.tr {M : nT} (a : ks N N') (b : ks N' M) : ks N M := fun f h => (b f h).trans (a f h)
theorem kp_K {M : nT} {r : List Nat} (h : kp N M) : kp N (uK M r) := h
theorem kp_R {M : nT} {a : Nat} {r : List Nat} (h : kp N M) : kp N (uR M a r) := h
theorem kp_E {M : nT} {k q f : Int} (h : kp N M) : kp N (evN M k q f) := h
theorem kp_W {a : Nat} {r : List Nat} (ha : a < 6) (h : r.Sublist (nW N a)) : kp N (uW N a r) := by
  refine ⟨fun _ _ => rfl, fun _ _ => rfl, fun b hb => ⟨?_, fun _ _ => rfl⟩, fun b hb => ?_⟩
  · rw [nW_uW]
    split
    · rename_i c; subst c; exact h
    · exact List.Sublist.refl _
  · rw [nW_uW, if_neg (by omega)]
theorem kp_A {k : Nat} {z : Int} (h1 : ¬ stK k) (h2 : k ≠ 2) (h3 : ∀ a, a < 6 → k ≠ (8 + 40 * a + 16)) (h4 : ∀ a, a < 6 → ∀ x, x ∈ nW N a → k ≠ (368 + 8 * x + 6)) : kp N (uA N k z) := by
  refine ⟨fun j hj => nA_ne ?_, fun a ha => nA_ne (fun e => h3 a ha e.symm), fun a ha => ⟨List.Sublist.refl _, fun x hx => nA_ne (fun e => h4 a ha x hx e.symm)⟩, fun _ _ => rfl⟩
  rintro rfl
  rcases hj with q | q
  · exact h1 q
  · exact h2 q
/-- a number that is no place of a packet's due -/
theorem kp_A0 {M : nT} {k : Nat} {z : Int} (h : kp N M) (h1 : ¬ stK k) (h2 : k ≠ 2) (h3 : ∀ a, a < 6 → k ≠ (8 + 40 * a + 16)) (h4 : k < 368 ∨ k % 8 ≠ 6) : kp N (uA M k z) := h.tr (kp_A h1 h2 h3 (fun a ha x hx => by omega))
theorem kp.W {lo hi : Int} {a : Nat} (h : kp N N') (ha : a < 6) (hW : iW N a lo hi) : iW N' a lo hi := by
  have q := h.2.2.1 a ha
  refine ⟨?_, fun x hx => ?_, fun d => ?_⟩
  · refine List.Pairwise.imp_of_mem ?_ (hW.1.sublist q.1)
    intro x y hx hy hxy
    rw [q.2 x hx, q.2 y hy]
    exact hxy
  · rw [q.2 x hx]
    exact hW.2.1 x (q.1.subset hx)
  · have e : (nW N' a).countP (fun x => decide (nA N' ((368 + 8 * x + 6)) = d)) = (nW N' a).countP (fun x => decide (nA N ((368 + 8 * x + 6)) = d)) := List.countP_congr (fun x hx => by rw [q.2 x hx])
    rw [e]
    exact Nat.le_trans q.1.countP_le (hW.2.2 d)
theorem kp.cb {p : Nat} {b : Int} (h : ∀ a, a < 6 → ¬ p ∈ nW N a) : kp N (cbN N p b) := by
  unfold cbN
  refine kp_K (kp_A0 (kp_A (by unfold stK; omega) (by omega) (fun a ha => by omega) (fun a ha x hx e => h a ha ?_)) (by unfold stK; omega) (by omega) (fun a ha => by omega) (by omega))
  have : p = x := by omega
  rw [this]
  exact hx
theorem ks.cb {p : Nat} {b : Int} : ks N (cbN N p b) := fun f hf => by
  show nA (uA (uA N ((368 + 8 * p + 6)) _) ((368 + 8 * p + 7)) b) ((248 + 20 * f + 8)) = _
  rw [nA_ne (by omega), nA_ne (by omega)]
theorem kp.let {p a : Nat} (ha : a < 6) (hf : flN N p < 6) : kp N (inN N p a) := by
  unfold inN
  exact kp_A0 (kp_A0 (kp_A0 (kp_A0 (kp_A0 (kp_R kp.rf) (by unfold stK; omega) (by omega) (fun a ha => by omega) (by omega)) (by unfold stK; omega) (by omega) (fun a ha => by omega) (by omega)) (by unfold stK; omega) (by omega) (fun a ha => by omega) (by omega)) (by unfold stK; omega) (by omega) (fun a ha => by omega) (by omega)) (by unfold stK; omega) (by omega) (fun a ha => by omega) (by omega)
theorem ks.let {p a : Nat} (ha : a < 6) (hf : flN N p < 6) : ks N (inN N p a) := fun f h6 => inN_ne (by omega) (by omega) (by omega) (by omega) (by omega)
theorem come_kp {p a : Nat} (ha : a < 6) (hf : flN N p < 6) (h : ∀ a, a < 6 → ¬ p ∈ nW N a) : kp N (comeN N p a) ∧ ks N (comeN N p a) := by
  rw [comeN_eq]
  split
  · have k1 : kp N (evN (uA N 6 (nA N 6 + 1)) 0 a (flN N p)) := kp_E (kp_A0 kp.rf (by unfold stK; omega) (by omega) (fun a ha => by omega) (by omega))
    have s1 : ks N (evN (uA N 6 (nA N 6 + 1)) 0 a (flN N p)) := fun f hf => by rw [nA_ev, nA_ne (by omega)]
    exact ⟨k1.tr (kp.cb h), s1.tr ks.cb⟩
  · exact ⟨kp.let ha hf, ks.let ha hf⟩
theorem ret_kp {p : Nat} (hf : flN N p < 6) : kp N (retN N p) ∧ ks N (retN N p) := by
  constructor
  · unfold retN
    simp only []
    split
    · exact kp_A0 (kp_A0 (kp_A0 (kp_A0 (kp_A0 (kp_A0 kp.rf (by unfold stK; omega) (by omega) (fun a ha => by omega) (by omega)) (by unfold stK; omega) (by omega) (fun a ha => by omega) (by omega)) (by unfold stK; omega) (by omega) (fun a ha => by omega) (by omega)) (by unfold stK; omega) (by omega) (fun a ha => by omega) (by omega)) (by unfold stK; omega) (by omega) (fun a ha => by omega) (by omega)) (by unfold stK; omega) (by omega) (fun a ha => by omega) (by omega)
    · split
      · exact kp_A0 (kp_A0 (kp_E (kp_A0 (kp_A0 (kp_A0 kp.rf (by unfold stK; omega) (by omega) (fun a ha => by omega) (by omega)) (by unfold stK; omega) (by omega) (fun a ha => by omega) (by omega)) (by unfold stK; omega) (by omega) (fun a ha => by omega) (by omega))) (by unfold stK; omega) (by omega) (fun a ha => by omega) (by omega)) (by unfold stK; omega) (by omega) (fun a ha => by omega) (by omega)
      · exact kp_A0 (kp_A0 (kp_A0 (kp_A0 (kp_A0 kp.rf (by unfold stK; omega) (by omega) (fun a ha => by omega) (by omega)) (by unfold stK; omega) (by omega) (fun a ha => by omega) (by omega)) (by unfold stK; omega) (by omega) (fun a ha => by omega) (by omega)) (by unfold stK; omega) (by omega) (fun a ha => by omega) (by omega)) (by unfold stK; omega) (by omega) (fun a ha => by omega) (by omega)
  · intro f h6
    unfold retN
    simp only []
    split
    · rw [nA_ne (by omega), nA_ne (by omega), nA_ne (by omega), nA_ne (by omega), nA_ne (by omega), nA_ne (by omega)]
    · rw [nA_ne (by omega), nA_ne (by omega)]
      split
      · rw [nA_ev, nA_ne (by omega), nA_ne (by omega), nA_ne (by omega)]
      · rw [nA_ne (by omega), nA_ne (by omega), nA_ne (by omega)]
theorem iN.notW {p : Nat} (h : iN (p :: X) N) : ∀ a, a < 6 → ¬ p ∈ nW N a := fun a ha hx => h.away ha (Or.inr hx) rfl
theorem iN.arr_kp {p : Nat} (h : iN (p :: X) N) (hh : nA N ((368 + 8 * p + 2)) < nA N ((248 + 20 * (flN N p) + 0))) : kp N (arrN N p) ∧ ks N (arrN N p) := by
  have hp := h.C.memX (List.mem_cons_self)
  have hf := h.fl hp.1 hp.2
  have h0 := h.H.1
  have q2 := (h.P p hp.1 hp.2).2.2.1
  have hF := h.F _ hf.2.1
  have F1 := hF.1
  have hn := h.hop hh
  have e9 : flN (uA N ((368 + 8 * p + 2)) (nA N ((368 + 8 * p + 2)) + 1)) p = flN N p := by unfold flN; rw [nA_ne (by omega)]
  have k1 : kp N (uA N ((368 + 8 * p + 2)) (nA N ((368 + 8 * p + 2)) + 1)) := kp_A0 kp.rf (by unfold stK; omega) (by omega) (fun a ha => by omega) (by omega)
  have s1 : ks N (uA N ((368 + 8 * p + 2)) (nA N ((368 + 8 * p + 2)) + 1)) := fun f h6 => nA_ne (by omega)
  unfold arrN
  simp only []
  split
  · exact ⟨k1.tr (kp.cb hn.notW), s1.tr ks.cb⟩
  · have F2 := hF.2.1 (nA N ((368 + 8 * p + 2)) + 1).toNat (by omega)
    have c := come_kp (N := uA N ((368 + 8 * p + 2)) (nA N ((368 + 8 * p + 2)) + 1)) (p := p) (a := hopN N (flN N p) (nA N ((368 + 8 * p + 2)) + 1).toNat) (by unfold hopN; omega) (by rw [e9]; exact hf.2.2) hn.notW
    exact ⟨k1.tr c.1, s1.tr c.2⟩
theorem comeN_uW {p a b : Nat} {r : List Nat} : comeN (uW N b r) p a = uW (comeN N p a) b r := by
  rw [comeN_eq, comeN_eq]
  have e : shutN (uW N b r) (flN (uW N b r) p) a = shutN N (flN N p) a := rfl
  rw [e]
  split <;> rfl
theorem arrN_uW {p b : Nat} {r : List Nat} : arrN (uW N b r) p = uW (arrN N p) b r := by
  unfold arrN
  simp only []
  by_cases c : nA N ((368 + 8 * p + 2)) + 1 = nA N ((248 + 20 * (flN N p) + 0))
  · rw [if_pos (show nA (uW N b r) ((368 + 8 * p + 2)) + 1 = nA (uW N b r) ((248 + 20 * (flN (uW N b r) p) + 0)) from c), if_pos c]; rfl
  · rw [if_neg (show ¬ nA (uW N b r) ((368 + 8 * p + 2)) + 1 = nA (uW N b r) ((248 + 20 * (flN (uW N b r) p) + 0)) from c), if_neg c, ← comeN_uW]; rfl
theorem retN_uK {p : Nat} {r : List Nat} : retN (uK N r) p = uK (retN N p) r := by
  unfold retN
  simp only []
  by_cases c : nA N ((368 + 8 * p + 7)) = 1
  · rw [if_pos (show nA (uK N r) ((368 + 8 * p + 7)) = 1 from c), if_pos c]; rfl
  · rw [if_neg (show ¬ nA (uK N r) ((368 + 8 * p + 7)) = 1 from c), if_neg c]
    by_cases d : nA N ((248 + 20 * (flN N p) + 1)) = 0 ∧ nA N ((248 + 20 * (flN N p) + 6)) - 1 = 0
    · rw [if_pos (show nA (uK N r) ((248 + 20 * (flN (uK N r) p) + 1)) = 0 ∧ nA (uK N r) ((248 + 20 * (flN (uK N r) p) + 6)) - 1 = 0 from d), if_pos d]; rfl
    · rw [if_neg (show ¬ (nA (uK N r) ((248 + 20 * (flN (uK N r) p) + 1)) = 0 ∧ nA (uK N r) ((248 + 20 * (flN (uK N r) p) + 6)) - 1 = 0) from d), if_neg d]; rfl
end I8
