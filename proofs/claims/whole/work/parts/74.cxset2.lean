section CX4
variable {h h' : zH} {b : Nat} {π : Nat → Nat} {ls : Nat → List Nat} {N N' : nT} {X : List Nat} {t : Nat}
/-- the tick's number -/
theorem CX.setNow {z : Int} (c : CX h b π ls N X t) : CX (zSi h 164 b (jI z)) b π ls (uA N 2 z) X t ∧ CSt b ls h ls (zSi h 164 b (jI z)) := by
  have f : FrSc b h (zSi h 164 b (jI z)) := FrSc.si (by omega) (by omega)
  refine ⟨c.scal f (fun k hk => nA_ne (by omega)) (nA_ne (by omega)) rfl rfl rfl rfl rfl ?_ ?_ ?_, f.st⟩
  · obtain ⟨n1, n2, n3, n4, n5⟩ := c.2.2.1
    refine ⟨?_, ?_, ?_, ?_, ?_⟩
    · rw [zi_Si, if_neg (by omega), nA_ne (by omega)]; exact n1
    · rw [zi_Si, if_neg (by omega), nA_ne (by omega)]; exact n2
    · rw [zi_Si, if_pos ⟨rfl, rfl⟩, nA_eq]
    · rw [zi_Si, if_neg (by omega), nA_ne (by omega)]; exact n4
    · rw [zi_Si, if_neg (by omega), nA_ne (by omega)]; exact n5
  · intro a ha a6
    rw [nA_ne (by omega)] at ha
    exact (c.2.2.2.1 a ha a6).congr (fun j hj => by have := lkF_bd hj; rw [zi_Si, if_neg (by omega)]) rfl (fun _ _ _ => rfl) (fun _ _ _ _ => rfl) (fun k h1 h2 => nA_ne (by omega))
  · intro g hg g6
    rw [nA_ne (by omega)] at hg
    exact (c.2.2.2.2.1 g hg g6).congr (fun j hj => by rw [zi_Si, if_neg (by omega)]) (fun _ => rfl) (fun k h1 h2 => nA_ne (by omega)) (fun k hk => nA_ne (by omega))
/-- a number of a flow -/
theorem CX.setF {f j : Nat} {z : Int} (c : CX h b π ls N X t) (f6 : f < 6) (h1 : 1 ≤ j) (h11 : j < 11) (h4 : j ≠ 4) : CX (zSi h (65 + j) (b + 53 + 2 * f) (jI z)) b π ls (uA N ((248 + 20 * f + j)) z) X t ∧ CSt b ls h ls (zSi h (65 + j) (b + 53 + 2 * f) (jI z)) := by
  have fr : FrSc b h (zSi h (65 + j) (b + 53 + 2 * f) (jI z)) := FrSc.si (by omega) (by omega)
  refine ⟨c.scal fr (fun k hk => nA_ne (by omega)) (nA_ne (by omega)) rfl rfl rfl rfl rfl ?_ ?_ ?_, fr.st⟩
  · obtain ⟨n1, n2, n3, n4, n5⟩ := c.2.2.1
    refine ⟨?_, ?_, ?_, ?_, ?_⟩
    · rw [zi_Si, if_neg (by omega), nA_ne (by omega)]; exact n1
    · rw [zi_Si, if_neg (by omega), nA_ne (by omega)]; exact n2
    · rw [zi_Si, if_neg (by omega), nA_ne (by omega)]; exact n3
    · rw [zi_Si, if_neg (by omega), nA_ne (by omega)]; exact n4
    · rw [zi_Si, if_neg (by omega), nA_ne (by omega)]; exact n5
  · intro a ha a6
    rw [nA_ne (by omega)] at ha
    exact (c.2.2.2.1 a ha a6).congr (fun j hj => by have := lkF_bd hj; rw [zi_Si, if_neg (by omega)]) rfl (fun _ _ _ => rfl) (fun _ _ _ _ => rfl) (fun k h1 h2 => nA_ne (by omega))
  · intro g hg g6
    rw [nA_ne (by omega)] at hg
    have q := c.2.2.2.2.1 g hg g6
    by_cases e : g = f
    · subst e
      have e0 : nA (uA N ((248 + 20 * g + j)) z) ((248 + 20 * g + 0)) = nA N ((248 + 20 * g + 0)) := nA_ne (by omega)
      obtain ⟨c1, c2, c3, c4⟩ := q
      have B := backN_same (N := N) (N' := uA N ((248 + 20 * g + j)) z) e0 (fun i hi => nA_ne (by omega)) (fun i hi => (c4 i hi).2) (fun k hk => nA_ne (by omega))
      refine ⟨fun i hi hi4 => ?_, ?_, by rw [e0]; exact c3, fun i hi => ?_⟩
      · rw [zi_Si]
        by_cases d : i = j
        · rw [if_pos ⟨by omega, rfl⟩, d, nA_eq]
        · rw [if_neg (by omega), nA_ne (by omega)]; exact c1 i hi hi4
      · rw [zi_Si, if_neg (by omega), B.1]; exact c2
      · rw [e0] at hi
        rw [zI_Si, nA_ne (by omega), B.2 i hi]; exact c4 i hi
    · exact q.congr (fun j hj => by rw [zi_Si, if_neg (by omega)]) (fun _ => rfl) (fun k h1 h2 => nA_ne (by omega)) (fun k hk => nA_ne (by omega))
theorem NtC_far {k : Nat} {z : Int} (n : NtC h b N) (e : ∀ f, 160 ≤ f → f < 172 → zi h' f b = zi h f b) (hk : 8 ≤ k) : NtC h' b (uA N k z) := by
  obtain ⟨n1, n2, n3, n4, n5⟩ := n
  refine ⟨?_, ?_, ?_, ?_, ?_⟩
  · rw [e _ (by omega) (by omega), nA_ne (by omega)]; exact n1
  · rw [e _ (by omega) (by omega), nA_ne (by omega)]; exact n2
  · rw [e _ (by omega) (by omega), nA_ne (by omega)]; exact n3
  · rw [e _ (by omega) (by omega), nA_ne (by omega)]; exact n4
  · rw [e _ (by omega) (by omega), nA_ne (by omega)]; exact n5
/-- a number of a link -/
theorem CX.setL {a j : Nat} {z : Int} (c : CX h b π ls N X t) (a6 : a < 6) (hj : lkJ j) (h1 : j ≠ 1) : CX (zSi h (lkF j) (b + 11 + 7 * a) (jI z)) b π ls (uA N ((8 + 40 * a + j)) z) X t ∧ CSt b ls h ls (zSi h (lkF j) (b + 11 + 7 * a) (jI z)) := by
  have bd := lkF_bd hj
  have j18 : j < 18 := by unfold lkJ at hj; omega
  have jn : j < 4 ∨ j = 6 ∨ j = 7 ∨ (14 ≤ j ∧ j < 18) := hj
  have fr : FrSc b h (zSi h (lkF j) (b + 11 + 7 * a) (jI z)) := FrSc.si (by omega) (by omega)
  refine ⟨c.scal fr (fun k hk => nA_ne (by omega)) (nA_ne (by omega)) rfl rfl rfl rfl rfl (NtC_far c.2.2.1 (fun f _ _ => by rw [zi_Si, if_neg (by omega)]) (by omega)) ?_ ?_, fr.st⟩
  · intro g hg g6
    rw [nA_ne (by omega)] at hg
    have q := c.2.2.2.1 g hg g6
    by_cases e : g = a
    · subst e
      obtain ⟨c1, c2, c3, c4⟩ := q
      refine ⟨fun i hi => ?_, ?_, fun i h8 h14 => ?_, fun f hf => ?_⟩
      · rw [zi_Si]
        by_cases d : i = j
        · rw [if_pos ⟨by rw [d], rfl⟩, d, nA_eq]
        · rw [if_neg (fun q => d (lkF_inj hi hj q.1)), nA_ne (by omega)]; exact c1 i hi
      · rw [zl_Si, nA_ne (by omega)]; exact c2
      · rw [zl_Si, nA_ne (by omega)]; exact c3 i h8 h14
      · rw [zI_Si, zI_Si, zI_Si, nA_ne (by omega), nA_ne (by omega), nA_ne (by omega)]; exact c4 f hf
    · exact q.congr (fun i hi => by rw [zi_Si, if_neg (by omega)]) rfl (fun _ _ _ => rfl) (fun _ _ _ _ => rfl) (fun k h1 h2 => nA_ne (by omega))
  · intro g hg g6
    rw [nA_ne (by omega)] at hg
    exact (c.2.2.2.2.1 g hg g6).congr (fun i hi => by rw [zi_Si, if_neg (by omega)]) (fun _ => rfl) (fun k h1 h2 => nA_ne (by omega)) (fun k hk => nA_ne (by omega))
/-- the weights that came -/
theorem CX.setP {a : Nat} {z : Int} (c : CX h b π ls N X t) (a6 : a < 6) : CX (zSl h 136 (b + 11 + 7 * a) (jL z)) b π ls (uA N ((8 + 40 * a + 18)) z) X t ∧ CSt b ls h ls (zSl h 136 (b + 11 + 7 * a) (jL z)) := by
  have fr : FrSc b h (zSl h 136 (b + 11 + 7 * a) (jL z)) := FrSc.sl (by omega) (by omega)
  refine ⟨c.scal fr (fun k hk => nA_ne (by omega)) (nA_ne (by omega)) rfl rfl rfl rfl rfl (NtC_far c.2.2.1 (fun f _ _ => rfl) (by omega)) ?_ ?_, fr.st⟩
  · intro g hg g6
    rw [nA_ne (by omega)] at hg
    have q := c.2.2.2.1 g hg g6
    by_cases e : g = a
    · subst e
      obtain ⟨c1, c2, c3, c4⟩ := q
      refine ⟨fun i hi => ?_, ?_, fun i h8 h14 => ?_, fun f hf => ?_⟩
      · have : i < 18 := by unfold lkJ at hi; omega
        rw [zi_Sl, nA_ne (by omega)]; exact c1 i hi
      · rw [zl_Sl, if_pos ⟨rfl, rfl⟩, nA_eq]
      · rw [zl_Sl, if_neg (by omega), nA_ne (by omega)]; exact c3 i h8 h14
      · rw [zI_Sl, zI_Sl, zI_Sl, nA_ne (by omega), nA_ne (by omega), nA_ne (by omega)]; exact c4 f hf
    · exact q.congr (fun i hi => rfl) (by rw [zl_Sl, if_neg (by omega)]) (fun _ _ _ => by rw [zl_Sl, if_neg (by omega)]) (fun _ _ _ _ => rfl) (fun k h1 h2 => nA_ne (by omega))
  · intro g hg g6
    rw [nA_ne (by omega)] at hg
    exact (c.2.2.2.2.1 g hg g6).congr (fun i hi => rfl) (fun _ => rfl) (fun k h1 h2 => nA_ne (by omega)) (fun k hk => nA_ne (by omega))
/-- a number of a surplus -/
theorem CX.setS {a j : Nat} {z : Int} (c : CX h b π ls N X t) (a6 : a < 6) (h8 : 8 ≤ j) (h14 : j < 14) : CX (zSl h (216 + j) (b + 11 + 7 * a + 6) (jL z)) b π ls (uA N ((8 + 40 * a + j)) z) X t ∧ CSt b ls h ls (zSl h (216 + j) (b + 11 + 7 * a + 6) (jL z)) := by
  have fr : FrSc b h (zSl h (216 + j) (b + 11 + 7 * a + 6) (jL z)) := FrSc.sl (by omega) (by omega)
  refine ⟨c.scal fr (fun k hk => nA_ne (by omega)) (nA_ne (by omega)) rfl rfl rfl rfl rfl (NtC_far c.2.2.1 (fun f _ _ => rfl) (by omega)) ?_ ?_, fr.st⟩
  · intro g hg g6
    rw [nA_ne (by omega)] at hg
    have q := c.2.2.2.1 g hg g6
    by_cases e : g = a
    · subst e
      obtain ⟨c1, c2, c3, c4⟩ := q
      refine ⟨fun i hi => ?_, ?_, fun i i8 i14 => ?_, fun f hf => ?_⟩
      · have : i < 8 ∨ 14 ≤ i := by unfold lkJ at hi; omega
        have : i < 18 := by unfold lkJ at hi; omega
        rw [zi_Sl, nA_ne (by omega)]; exact c1 i hi
      · rw [zl_Sl, if_neg (by omega), nA_ne (by omega)]; exact c2
      · rw [zl_Sl]
        by_cases d : i = j
        · rw [if_pos ⟨by rw [d], rfl⟩, d, nA_eq]
        · rw [if_neg (by omega), nA_ne (by omega)]; exact c3 i i8 i14
      · rw [zI_Sl, zI_Sl, zI_Sl, nA_ne (by omega), nA_ne (by omega), nA_ne (by omega)]; exact c4 f hf
    · exact q.congr (fun i hi => rfl) (by rw [zl_Sl, if_neg (by omega)]) (fun _ _ _ => by rw [zl_Sl, if_neg (by omega)]) (fun _ _ _ _ => rfl) (fun k h1 h2 => nA_ne (by omega))
  · intro g hg g6
    rw [nA_ne (by omega)] at hg
    exact (c.2.2.2.2.1 g hg g6).congr (fun i hi => rfl) (fun _ => rfl) (fun k h1 h2 => nA_ne (by omega)) (fun k hk => nA_ne (by omega))
/-- what came of a flow, and what it told -/
theorem CX.setC {a f : Nat} {z y x : Int} (c : CX h b π ls N X t) (a6 : a < 6) (f6 : f < 6) (hz : ¬ z = 0) : CX (zSI (zSI (zSI h (b + 11 + 7 * a + 3) f (jI z)) (b + 11 + 7 * a + 4) f (jI y)) (b + 11 + 7 * a + 5) f (jI x)) b π ls (uA (uA (uA N ((8 + 40 * a + (20 + f))) z) ((8 + 40 * a + (26 + f))) y) ((8 + 40 * a + (32 + f))) x) X t ∧ CSt b ls h ls (zSI (zSI (zSI h (b + 11 + 7 * a + 3) f (jI z)) (b + 11 + 7 * a + 4) f (jI y)) (b + 11 + 7 * a + 5) f (jI x)) := by
  have fr : FrSc b h (zSI (zSI (zSI h (b + 11 + 7 * a + 3) f (jI z)) (b + 11 + 7 * a + 4) f (jI y)) (b + 11 + 7 * a + 5) f (jI x)) := (FrSc.sI (by omega)).tr ((FrSc.sI (by omega)).tr (FrSc.sI (by omega)))
  have u : ∀ k, k ≠ (8 + 40 * a + (20 + f)) → k ≠ (8 + 40 * a + (26 + f)) → k ≠ (8 + 40 * a + (32 + f)) → nA (uA (uA (uA N ((8 + 40 * a + (20 + f))) z) ((8 + 40 * a + (26 + f))) y) ((8 + 40 * a + (32 + f))) x) k = nA N k := fun k h1 h2 h3 => by rw [nA_ne h3, nA_ne h2, nA_ne h1]
  refine ⟨c.scal fr (fun k hk => u k (by omega) (by omega) (by omega)) (u 1 (by omega) (by omega) (by omega)) rfl rfl rfl rfl rfl ?_ ?_ ?_, fr.st⟩
  · exact NtC_far (NtC_far (NtC_far c.2.2.1 (fun f _ _ => rfl) (by omega)) (fun f _ _ => rfl) (by omega)) (fun f _ _ => rfl) (by omega)
  · intro g hg g6
    rw [u 0 (by omega) (by omega) (by omega)] at hg
    have q := c.2.2.2.1 g hg g6
    by_cases e : g = a
    · subst e
      obtain ⟨c1, c2, c3, c4⟩ := q
      refine ⟨fun i hi => ?_, ?_, fun i i8 i14 => ?_, fun d hd => ?_⟩
      · have : i < 18 := by unfold lkJ at hi; omega
        rw [u _ (by omega) (by omega) (by omega)]; exact c1 i hi
      · rw [u _ (by omega) (by omega) (by omega)]; exact c2
      · rw [u _ (by omega) (by omega) (by omega)]; exact c3 i i8 i14
      · obtain ⟨d1, d2, d3⟩ := c4 d hd
        have e3 : ∀ (k : d = f), zI (zSI (zSI (zSI h (b + 11 + 7 * g + 3) f (jI z)) (b + 11 + 7 * g + 4) f (jI y)) (b + 11 + 7 * g + 5) f (jI x)) (b + 11 + 7 * g + 3) d = jI z := fun k => by rw [zI_SI, if_neg (by omega), zI_SI, if_neg (by omega), zI_SI, if_pos ⟨rfl, k⟩]
        have e4 : ∀ (k : d = f), zI (zSI (zSI (zSI h (b + 11 + 7 * g + 3) f (jI z)) (b + 11 + 7 * g + 4) f (jI y)) (b + 11 + 7 * g + 5) f (jI x)) (b + 11 + 7 * g + 4) d = jI y := fun k => by rw [zI_SI, if_neg (by omega), zI_SI, if_pos ⟨rfl, k⟩]
        have e5 : ∀ (k : d = f), zI (zSI (zSI (zSI h (b + 11 + 7 * g + 3) f (jI z)) (b + 11 + 7 * g + 4) f (jI y)) (b + 11 + 7 * g + 5) f (jI x)) (b + 11 + 7 * g + 5) d = jI x := fun k => by rw [zI_SI, if_pos ⟨rfl, k⟩]
        have o : ∀ (k : ¬ d = f) (i : Nat), zI (zSI (zSI (zSI h (b + 11 + 7 * g + 3) f (jI z)) (b + 11 + 7 * g + 4) f (jI y)) (b + 11 + 7 * g + 5) f (jI x)) i d = zI h i d := fun k i => by rw [zI_SI, if_neg (fun q => k q.2), zI_SI, if_neg (fun q => k q.2), zI_SI, if_neg (fun q => k q.2)]
        by_cases k : d = f
        · rw [e3 k, e4 k, e5 k]
          subst k
          rw [nA_ne (by omega), nA_ne (by omega), nA_eq, nA_ne (by omega), nA_eq, nA_eq]
          exact ⟨rfl, fun q => absurd q hz, fun _ => ⟨rfl, rfl⟩⟩
        · rw [o k, o k, o k, u _ (by omega) (by omega) (by omega), u _ (by omega) (by omega) (by omega), u _ (by omega) (by omega) (by omega)]
          exact ⟨d1, d2, d3⟩
    · exact q.congr (fun i hi => rfl) rfl (fun _ _ _ => rfl) (fun d i h3 h6 => by rw [zI_SI, if_neg (by omega), zI_SI, if_neg (by omega), zI_SI, if_neg (by omega)]) (fun k h1 h2 => u k (by omega) (by omega) (by omega))
  · intro g hg g6
    rw [u 1 (by omega) (by omega) (by omega)] at hg
    exact (c.2.2.2.2.1 g hg g6).congr (fun i hi => rfl) (fun i => by rw [zI_SI, if_neg (by omega), zI_SI, if_neg (by omega), zI_SI, if_neg (by omega)]) (fun k h1 h2 => u k (by omega) (by omega) (by omega)) (fun k hk => u _ (by omega) (by omega) (by omega))
end CX4
