section CY4
variable {h h1 : zH} {b : Nat} {π : Nat → Nat} {ls : Nat → List Nat} {N : nT} {X : List Nat} {t x : Nat}
def ntin (N : nT) (x : Nat) : Prop := (∀ a, a < 6 → ¬ x ∈ nR N a ∧ ¬ x ∈ nW N a) ∧ ¬ x ∈ nK N
theorem iN.nt (h : iN (x :: X) N) : ntin N x := by
  have hc := h.C x
  have h1 : nC (x :: X) N x ≤ 1 := by rw [hc]; split <;> omega
  have c1 : 1 ≤ (x :: X).count x := by rw [List.count_cons_self]; omega
  unfold nC at h1
  refine ⟨fun a ha => ⟨fun hm => ?_, fun hm => ?_⟩, fun hm => ?_⟩
  · have := count_pos hm
    have h6 : a = 0 ∨ a = 1 ∨ a = 2 ∨ a = 3 ∨ a = 4 ∨ a = 5 := by omega
    rcases h6 with rfl | rfl | rfl | rfl | rfl | rfl <;> omega
  · have := count_pos hm
    have h6 : a = 0 ∨ a = 1 ∨ a = 2 ∨ a = 3 ∨ a = 4 ∨ a = 5 := by omega
    rcases h6 with rfl | rfl | rfl | rfl | rfl | rfl <;> omega
  · have := count_pos hm
    omega
theorem iN.lv (h : iN (x :: X) N) : liv N x := h.C.memX List.mem_cons_self
theorem uA_id {k : Nat} {z : Int} (e : nA N k = z) : uA N k z = N := by
  subst e
  unfold uA
  rcases N with ⟨A, B⟩
  congr 1
  funext j
  show (if j = k then A k else A j) = A j
  by_cases c : j = k
  · rw [if_pos c, c]
  · rw [if_neg c]
theorem CX.setDue {z : Int} (c : CX h b π ls N (x :: X) t) (hx : liv N x) (hn : ntin N x) : CX (zSi h 199 (π x) (jI z)) b π ls (uA N ((368 + 8 * x + 6)) z) (x :: X) t ∧ CSt b ls h ls (zSi h 199 (π x) (jI z)) := by
  refine c.pk hx hn.1 hn.2 (FrPk.si (by omega)) (fun k hk => nA_ne (by omega)) rfl rfl rfl rfl rfl (by rw [nA_ne (by omega)]; exact hx.2) ?_
  obtain ⟨c1, c2, c3, c4, c5, c6, c7⟩ := (c.2.2.2.2.2.1.1 x hx).1
  refine ⟨?_, ?_, ?_, ?_, ?_, ?_, ?_⟩
  · rw [zi_Si, if_neg (by omega), nA_ne (by omega)]; exact c1
  · rw [zi_Si, if_neg (by omega), nA_ne (by omega)]; exact c2
  · rw [zi_Si, if_neg (by omega), nA_ne (by omega)]; exact c3
  · rw [zi_Si, if_neg (by omega), nA_ne (by omega)]; exact c4
  · rw [zl_Si, partN_congr (N := N) (nA_ne (by omega)) (nA_ne (by omega))]; exact c5
  · rw [zi_Si, if_neg (by omega), nA_ne (by omega)]; exact c6
  · rw [zi_Si, if_neg (by omega), nA_ne (by omega)]; exact c7
theorem CX.setHops {v : Int32} (c : CX h b π ls N (x :: X) t) (hx : liv N x) (hn : ntin N x) : CX (zSi h 194 (π x) v) b π ls N (x :: X) t ∧ CSt b ls h ls (zSi h 194 (π x) v) := by
  refine c.pk hx hn.1 hn.2 (FrPk.si (by omega)) (fun k hk => rfl) rfl rfl rfl rfl rfl hx.2 ?_
  obtain ⟨c1, c2, c3, c4, c5, c6, c7⟩ := (c.2.2.2.2.2.1.1 x hx).1
  refine ⟨?_, ?_, ?_, ?_, c5, ?_, ?_⟩
  · rw [zi_Si, if_neg (by omega)]; exact c1
  · rw [zi_Si, if_neg (by omega)]; exact c2
  · rw [zi_Si, if_neg (by omega)]; exact c3
  · rw [zi_Si, if_neg (by omega)]; exact c4
  · rw [zi_Si, if_neg (by omega)]; exact c6
  · rw [zi_Si, if_neg (by omega)]; exact c7
theorem CX.setHopN {z : Int} (c : CX h b π ls N (x :: X) t) (hx : liv N x) (hn : ntin N x) : CX h b π ls (uA N ((368 + 8 * x + 2)) z) (x :: X) t := by
  refine (c.pk hx hn.1 hn.2 FrPk.rf (fun k hk => nA_ne (by omega)) rfl rfl rfl rfl rfl (by rw [nA_ne (by omega)]; exact hx.2) ?_).1
  obtain ⟨c1, c2, c3, c4, c5, c6, c7⟩ := (c.2.2.2.2.2.1.1 x hx).1
  refine ⟨?_, ?_, ?_, ?_, ?_, ?_, ?_⟩
  · rw [nA_ne (by omega)]; exact c1
  · rw [nA_ne (by omega)]; exact c2
  · rw [nA_ne (by omega)]; exact c3
  · rw [nA_ne (by omega)]; exact c4
  · rw [partN_congr (N := N) (nA_ne (by omega)) (nA_ne (by omega))]; exact c5
  · rw [nA_ne (by omega)]; exact c6
  · rw [nA_ne (by omega)]; exact c7
theorem CX.setFeed {z : Int} (c : CX h b π ls N (x :: X) t) (hx : liv N x) (hn : ntin N x) : CX (zSi h 198 (π x) (jI z)) b π ls (uA N ((368 + 8 * x + 5)) z) (x :: X) t ∧ CSt b ls h ls (zSi h 198 (π x) (jI z)) := by
  refine c.pk hx hn.1 hn.2 (FrPk.si (by omega)) (fun k hk => nA_ne (by omega)) rfl rfl rfl rfl rfl (by rw [nA_ne (by omega)]; exact hx.2) ?_
  obtain ⟨c1, c2, c3, c4, c5, c6, c7⟩ := (c.2.2.2.2.2.1.1 x hx).1
  refine ⟨?_, ?_, ?_, ?_, ?_, ?_, ?_⟩
  · rw [zi_Si, if_neg (by omega), nA_ne (by omega)]; exact c1
  · rw [zi_Si, if_neg (by omega), nA_ne (by omega)]; exact c2
  · rw [zi_Si, if_neg (by omega), nA_ne (by omega)]; exact c3
  · rw [zi_Si, if_neg (by omega), nA_ne (by omega)]; exact c4
  · rw [zl_Si, partN_congr (N := N) (nA_ne (by omega)) (nA_ne (by omega))]; exact c5
  · rw [zi_Si, if_pos ⟨rfl, rfl⟩, nA_eq]
  · rw [zi_Si, if_neg (by omega), nA_ne (by omega)]; exact c7
theorem CX.setLost {z : Int} (c : CX h b π ls N (x :: X) t) (hx : liv N x) (hn : ntin N x) : CX (zSi h 200 (π x) (jI z)) b π ls (uA N ((368 + 8 * x + 7)) z) (x :: X) t ∧ CSt b ls h ls (zSi h 200 (π x) (jI z)) := by
  refine c.pk hx hn.1 hn.2 (FrPk.si (by omega)) (fun k hk => nA_ne (by omega)) rfl rfl rfl rfl rfl (by rw [nA_ne (by omega)]; exact hx.2) ?_
  obtain ⟨c1, c2, c3, c4, c5, c6, c7⟩ := (c.2.2.2.2.2.1.1 x hx).1
  refine ⟨?_, ?_, ?_, ?_, ?_, ?_, ?_⟩
  · rw [zi_Si, if_neg (by omega), nA_ne (by omega)]; exact c1
  · rw [zi_Si, if_neg (by omega), nA_ne (by omega)]; exact c2
  · rw [zi_Si, if_neg (by omega), nA_ne (by omega)]; exact c3
  · rw [zi_Si, if_neg (by omega), nA_ne (by omega)]; exact c4
  · rw [zl_Si, partN_congr (N := N) (nA_ne (by omega)) (nA_ne (by omega))]; exact c5
  · rw [zi_Si, if_neg (by omega), nA_ne (by omega)]; exact c6
  · rw [zi_Si, if_pos ⟨rfl, rfl⟩, nA_eq]
theorem CX.outX (c : CX h b π ls N (x :: X) t) : outL h ls (π x) := c.2.2.2.2.2.1.2.2.2.2.2.1 x List.mem_cons_self
end CY4
