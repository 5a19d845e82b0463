section I11
variable {X : List Nat} {N : nT}
theorem iN.allRet (h : iN X N) : iN X (allRetN N) ∧ kp N (allRetN N) ∧ ks N (allRetN N) := by
  have f := ret_fold (X := X) (fun p => decide (nA N ((368 + 8 * p + 6)) = nA N 2)) (nK N) N [] (by rw [List.append_nil]) h
  rw [List.nil_append] at f
  exact f
/-- one link's wire -/
theorem iN.wire {a : Nat} {hi : Int} (h : iN X N) (ha : a < 6) (hW : iW N a (nA N 2) hi) : iN X (wireN N a) ∧ kp N (wireN N a) ∧ ks N (wireN N a) ∧ iW (wireN N a) a (nA N 2 + 1) hi ∧ nW N a = ((nW N a).filter fun p => decide (nA N ((368 + 8 * p + 6)) = nA N 2)) ++ (nW N a).filter fun p => !decide (nA N ((368 + 8 * p + 6)) = nA N 2) := by
  have e := due_split (d := fun x => nA N ((368 + 8 * x + 6))) (t := nA N 2) hW.1 (fun x hx => (hW.2.1 x hx).1)
  have f := wire_fold (X := X) ha ((nW N a).filter fun p => !decide (nA N ((368 + 8 * p + 6)) = nA N 2)) ((nW N a).filter fun p => decide (nA N ((368 + 8 * p + 6)) = nA N 2)) N e h
  refine ⟨f.1, f.2.1, f.2.2, ?_, e⟩
  have w := f.2.1.W ha hW
  refine ⟨w.1, fun x hx => ⟨?_, (w.2.1 x hx).2⟩, w.2.2⟩
  have b := (w.2.1 x hx).1
  have q := (f.2.1.2.2.1 a ha).2 x hx
  have m : x ∈ (nW N a).filter fun p => !decide (nA N ((368 + 8 * p + 6)) = nA N 2) := by
    have hx2 : x ∈ nW (uW (((nW N a).filter fun p => decide (nA N ((368 + 8 * p + 6)) = nA N 2)).foldl arrN N) a ((nW N a).filter fun p => !decide (nA N ((368 + 8 * p + 6)) = nA N 2))) a := hx
    rw [nW_uW, if_pos rfl] at hx2
    exact hx2
  have m2 := (List.mem_filter.mp m).2
  simp only [Bool.not_eq_true', decide_eq_false_iff_not] at m2
  have q' : nA (wireN N a) ((368 + 8 * x + 6)) = nA N ((368 + 8 * x + 6)) := q
  rw [q']
  have b' : nA N 2 ≤ nA (wireN N a) ((368 + 8 * x + 6)) := b
  rw [q'] at b'
  omega
theorem iN.wires {hi : Nat → Int} (h : iN X N) (hW : ∀ a, a < 6 → iW N a (nA N 2) (hi a)) : ∀ n, n ≤ 6 → iN X ((List.range n).foldl wireN N) ∧ kp N ((List.range n).foldl wireN N) ∧ ks N ((List.range n).foldl wireN N) ∧ (∀ a, a < n → iW ((List.range n).foldl wireN N) a (nA N 2 + 1) (hi a)) ∧ (∀ a, n ≤ a → a < 6 → iW ((List.range n).foldl wireN N) a (nA N 2) (hi a)) := by
  intro n
  induction n with
  | zero => intro _; exact ⟨h, kp.rf, fun _ _ => rfl, fun a ha => absurd ha (by omega), fun a _ ha => hW a ha⟩
  | succ n ih =>
    intro hn
    have i := ih (by omega)
    rw [List.range_succ, List.foldl_append, List.foldl_cons, List.foldl_nil]
    have e2 : nA ((List.range n).foldl wireN N) 2 = nA N 2 := i.2.1.1 2 (Or.inr rfl)
    have w := i.1.wire (a := n) (hi := hi n) (by omega) (by rw [e2]; exact i.2.2.2.2 n (Nat.le_refl _) (by omega))
    rw [e2] at w
    refine ⟨w.1, i.2.1.tr w.2.1, i.2.2.1.tr w.2.2.1, fun a ha => ?_, fun a h1 h2 => w.2.1.W h2 (i.2.2.2.2 a (by omega) h2)⟩
    by_cases c : a = n
    · subst c; exact w.2.2.2.1
    · exact w.2.1.W (by omega) (i.2.2.2.1 a (by omega))
theorem iN.free_notW (h : iN X N) {p : Nat} (hz : ¬ 0 < nA N ((368 + 8 * p + 0))) : ∀ a, a < 6 → ¬ p ∈ nW N a := fun a ha hx => hz (h.memRW ha (Or.inr hx)).2
theorem born_kp {f : Nat} (hf : f < 6) (hp : ∀ a, a < 6 → ¬ freeN N ∈ nW N a) : kp N (bornN N f) := by
  unfold bornN
  exact kp_A0 (kp_A0 (kp_A0 (kp_A0 (kp_A0 (kp_A0 (kp_A0 (kp_A0 (kp_A0 (kp_A0 kp.rf (by unfold stK; omega) (by omega) (fun a ha => by omega) (by omega)) (by unfold stK; omega) (by omega) (fun a ha => by omega) (by omega)) (by unfold stK; omega) (by omega) (fun a ha => by omega) (by omega)) (by unfold stK; omega) (by omega) (fun a ha => by omega) (by omega)) (by unfold stK; omega) (by omega) (fun a ha => by omega) (by omega)) (by unfold stK; omega) (by omega) (fun a ha => by omega) (by omega)) (by unfold stK; omega) (by omega) (fun a ha => by omega) (by omega)) (by unfold stK; omega) (by omega) (fun a ha => by omega) (by omega)) (by unfold stK; omega) (by omega) (fun a ha => by omega) (by omega)) (by unfold stK; omega) (by omega) (fun a ha => by omega) (by omega)
theorem iN.send_kp (h : iN X N) {f : Nat} (hf : (f : Int) < nA N 1) (hm : mayN N f = true) (hS : nA N ((248 + 20 * f + 8)) < 80000) : kp N (sendN N f) ∧ nA (sendN N f) ((248 + 20 * f + 8)) = nA N ((248 + 20 * f + 8)) + 1 ∧ ∀ g, g < 6 → g ≠ f → nA (sendN N f) ((248 + 20 * g + 8)) = nA N ((248 + 20 * g + 8)) := by
  have hb := h.begot hf hm hS
  have h0 := h.H.1
  have h1 := h.H.2.1
  have hF := h.F f hf
  have F1 := hF.1
  have F2 := hF.2.1 0 (by omega)
  have hnW := h.free_notW hb.2.1
  have k1 := born_kp (N := N) (f := f) (by omega) hnW
  have hop6 : hopN N f 0 < 6 := by unfold hopN; omega
  have g8 : nA (bornN N f) ((248 + 20 * f + 8)) = nA N ((248 + 20 * f + 8)) + 1 := by
    unfold bornN
    rw [nA_ne (by omega), nA_ne (by omega), nA_ne (by omega), nA_ne (by omega), nA_ne (by omega), nA_ne (by omega), nA_ne (by omega), nA_ne (by omega), nA_eq]
  have gg : ∀ g, g < 6 → g ≠ f → nA (bornN N f) ((248 + 20 * g + 8)) = nA N ((248 + 20 * g + 8)) := fun g hg c => bornN_ne (by omega) (by omega) (by omega) (by omega)
  have hnW2 : ∀ a, a < 6 → ¬ freeN N ∈ nW (bornN N f) a := hnW
  rw [sendN_eq]
  split
  · have c := come_kp (N := evN (bornN N f) 3 (-1) f) (p := freeN N) (a := hopN N f 0) hop6 (by rw [flN_ev, hb.2.2.2.1]; omega) (fun a ha => hnW2 a ha)
    refine ⟨(kp_E (k := 3) (q := -1) (f := f) k1).tr c.1, ?_, fun g hg cg => ?_⟩
    · rw [c.2 f (by omega), nA_ev, g8]
    · rw [c.2 g hg, nA_ev, gg g hg cg]
  · have c := come_kp (N := bornN N f) (p := freeN N) (a := hopN N f 0) hop6 (by rw [hb.2.2.2.1]; omega) hnW2
    refine ⟨k1.tr c.1, ?_, fun g hg cg => ?_⟩
    · rw [c.2 f (by omega), g8]
    · rw [c.2 g hg, gg g hg cg]
theorem iN.sends (h : iN X N) {f : Nat} (hf : (f : Int) < nA N 1) (hS : nA N ((248 + 20 * f + 8)) < 79999) : iN X (sendsN N f) ∧ kp N (sendsN N f) ∧ (nA N ((248 + 20 * f + 8)) ≤ nA (sendsN N f) ((248 + 20 * f + 8)) ∧ nA (sendsN N f) ((248 + 20 * f + 8)) ≤ nA N ((248 + 20 * f + 8)) + 2) ∧ ∀ g, g < 6 → g ≠ f → nA (sendsN N f) ((248 + 20 * g + 8)) = nA N ((248 + 20 * g + 8)) := by
  unfold sendsN
  split
  · rename_i c
    have a1 := h.send hf c (by omega)
    have a2 := h.send_kp hf c (by omega)
    split
    · rename_i d
      have e1 : nA (sendN N f) 1 = nA N 1 := a2.1.1 1 (Or.inl (by unfold stK; omega))
      have b1 := a1.send (f := f) (by rw [e1]; exact hf) d (by omega)
      have b2 := a1.send_kp (f := f) (by rw [e1]; exact hf) d (by omega)
      exact ⟨b1, a2.1.tr b2.1, by omega, fun g hg cg => (b2.2.2 g hg cg).trans (a2.2.2 g hg cg)⟩
    · exact ⟨a1, a2.1, by omega, a2.2.2⟩
  · exact ⟨h, kp.rf, by omega, fun _ _ _ => rfl⟩
end I11
