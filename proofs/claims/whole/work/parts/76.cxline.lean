section CX6
variable {h h1 : zH} {b : Nat} {π : Nat → Nat} {ls ls1 : Nat → List Nat} {N N' : nT} {X X1 : List Nat} {t : Nat}
theorem ClS.iR (c : ClS h b) {a : Nat} (ha : a < 6) : isL h (b + 11 + 7 * a + 1) := ⟨by have := c.1.1; omega, (c.2.2.2.2.2.2.2.2.1 a ha).2.2.1.2⟩
theorem ClS.iW (c : ClS h b) {a : Nat} (ha : a < 6) : isL h (b + 11 + 7 * a + 2) := ⟨by have := c.1.1; omega, (c.2.2.2.2.2.2.2.2.1 a ha).2.2.2.1.2⟩
theorem ClS.iK (c : ClS h b) : isL h (b + 3) := ⟨by have := c.1.1; omega, c.2.2.2.1.2⟩
theorem ClS.iS (c : ClS h b) : isL h (b + 4) := ⟨by have := c.1.1; omega, c.2.2.2.2.1.2⟩
theorem CX.ln (c : CX h b π ls N X t) (f : FrLn h h1) (s : lnS h1 ls1) (eA : ∀ k, k < 368 → nA N' k = nA N k) (eE : nE N' = nE N) (eP : nP N' = nP N) (P : PkA h1 b N' π ls1 X1) : CX h1 b π ls1 N' X1 t := by
  obtain ⟨c1, c2, c3, c4, c5, c6, c7, c8⟩ := c
  obtain ⟨f0, f1, f2, f3, f4, f5, f6, f7, f8, f9⟩ := f
  refine ⟨c1.fr (by rw [f0]; exact Nat.le_refl _) (fun a _ _ => ⟨f2 a, f3 a, fun q q1 q2 q3 => f6 q a q1 q2 q3, fun i => f9 a i⟩), s, ?_, fun a ha a6 => ?_, fun d hd d6 => ?_, P, ?_, ?_⟩
  · obtain ⟨n1, n2, n3, n4, n5⟩ := c3
    refine ⟨?_, ?_, ?_, ?_, ?_⟩
    · rw [f4 _ _ (by omega), eA _ (by omega)]; exact n1
    · rw [f4 _ _ (by omega), eA _ (by omega)]; exact n2
    · rw [f4 _ _ (by omega), eA _ (by omega)]; exact n3
    · rw [f4 _ _ (by omega), eA _ (by omega)]; exact n4
    · rw [f4 _ _ (by omega), eA _ (by omega)]; exact n5
  · rw [eA _ (by omega)] at ha
    exact (c4 a ha a6).congr (fun j hj => by have := lkF_bd hj; exact f4 _ _ (by omega)) (f5 _ _) (fun j _ _ => f5 _ _) (fun _ _ _ _ => f7 _ _) (fun k _ _ => eA k (by omega))
  · rw [eA _ (by omega)] at hd
    exact (c5 d hd d6).congr (fun j hj => f4 _ _ (by omega)) (fun _ => f7 _ _) (fun k _ _ => eA k (by omega)) (fun k _ => eA _ (by omega))
  · rw [eE]
    exact c7.fr (f4 _ _ (by omega)) (f4 _ _ (by omega)) (fun a i _ _ => f7 a i)
  · rw [eP, eA 1 (by omega)]
    exact c8.fr (fun a i _ _ => f7 a i)
theorem PkC.ln {p x : Nat} (c : PkC h N p x) (f : FrLn h h1) : PkC h1 N p x := c.congr (fun g h1 h2 => f.2.2.2.2.1 g _ (by omega)) (f.2.2.2.2.2.1 _ _) (fun _ _ _ => rfl)
theorem outL.sub {q : Nat} (o : outL h ls q) (f : FrLn h h1) (e : ∀ L p, p ∈ ls1 L → p ∈ ls L) : outL h1 ls1 q := fun L hL hm => o L (f.iff.mp hL) (e L q hm)
theorem updF_sub {L p : Nat} {r : List Nat} (e : ls L = p :: r) : ∀ K q, q ∈ updF ls L r K → q ∈ ls K := by
  intro K q hq
  by_cases c : K = L
  · subst c; rw [updF_eq] at hq; rw [e]; exact List.mem_cons_of_mem _ hq
  · rw [updF_ne c] at hq; exact hq
theorem CX.takeR {a x : Nat} {r : List Nat} (c : CX h b π ls N [] t) (ha : a < 6) (hR : nR N a = x :: r) (f : FrLn h h1) (k : takS h h1 (b + 11 + 7 * a + 1) (π x) (r.map π)) : CX h1 b π (updF ls (b + 11 + 7 * a + 1) (r.map π)) (uR N a r) [x] t ∧ CSt b ls h (updF ls (b + 11 + 7 * a + 1) (r.map π)) h1 := by
  have hL := c.1.iR ha
  obtain ⟨p1, p2, p3, p4, p5, p6, p7⟩ := c.2.2.2.2.2.1
  have eL : ls (b + 11 + 7 * a + 1) = π x :: r.map π := by rw [(p4 a ha).1, hR, List.map_cons]
  have T := c.2.1.tak f hL eL k
  refine ⟨c.ln f T.1 (fun _ _ => rfl) rfl rfl ⟨fun y hy => ?_, p2, fun y hy => ?_, fun d hd => ?_, ?_, fun y hy => ?_, ?_⟩, CSt.tak c.2.1 f hL (by omega) eL k⟩
  · obtain ⟨q1, q2, q3⟩ := p1 y hy
    exact ⟨q1.ln f, by rw [f.1]; exact q2, by rw [f.2.2.1]; exact q3⟩
  · rw [updF_ne (by omega)]; exact p3 y hy
  · obtain ⟨q1, q2, q3, q4⟩ := p4 d hd
    refine ⟨?_, ?_, fun y hy => ?_, fun y hy => ?_⟩
    · rw [nR_uR]
      by_cases g : d = a
      · subst g; rw [updF_eq, if_pos rfl]
      · rw [updF_ne (by omega), if_neg g]; exact q1
    · rw [updF_ne (by omega)]; exact q2
    · rw [f.2.2.2.2.1 _ _ (by omega)]
      refine q3 y ?_
      rw [nR_uR] at hy
      by_cases g : d = a
      · subst g; rw [if_pos rfl] at hy; rw [hR]; exact List.mem_cons_of_mem _ hy
      · rw [if_neg g] at hy; exact hy
    · rw [f.2.2.2.2.1 _ _ (by omega), f.2.2.2.2.1 _ _ (by omega)]; exact q4 y hy
  · rw [updF_ne (by omega)]
    exact ⟨p5.1, fun y hy => by rw [f.2.2.2.2.1 _ _ (by omega)]; exact p5.2 y hy⟩
  · rw [List.mem_singleton.mp hy]; exact T.2.1
  · rw [f.2.2.2.2.1 _ _ (by omega), updF_ne (by omega)]; exact p7
theorem CX.takeW {a x : Nat} {r : List Nat} (c : CX h b π ls N [] t) (ha : a < 6) (hW : nW N a = x :: r) (f : FrLn h h1) (k : takS h h1 (b + 11 + 7 * a + 2) (π x) (r.map π)) : CX h1 b π (updF ls (b + 11 + 7 * a + 2) (r.map π)) (uW N a r) [x] t ∧ CSt b ls h (updF ls (b + 11 + 7 * a + 2) (r.map π)) h1 := by
  have hL := c.1.iW ha
  obtain ⟨p1, p2, p3, p4, p5, p6, p7⟩ := c.2.2.2.2.2.1
  have eL : ls (b + 11 + 7 * a + 2) = π x :: r.map π := by rw [(p4 a ha).2.1, hW, List.map_cons]
  have T := c.2.1.tak f hL eL k
  refine ⟨c.ln f T.1 (fun _ _ => rfl) rfl rfl ⟨fun y hy => ?_, p2, fun y hy => ?_, fun d hd => ?_, ?_, fun y hy => ?_, ?_⟩, CSt.tak c.2.1 f hL (by omega) eL k⟩
  · obtain ⟨q1, q2, q3⟩ := p1 y hy
    exact ⟨q1.ln f, by rw [f.1]; exact q2, by rw [f.2.2.1]; exact q3⟩
  · rw [updF_ne (by omega)]; exact p3 y hy
  · obtain ⟨q1, q2, q3, q4⟩ := p4 d hd
    refine ⟨?_, ?_, fun y hy => ?_, fun y hy => ?_⟩
    · rw [updF_ne (by omega)]; exact q1
    · rw [nW_uW]
      by_cases g : d = a
      · subst g; rw [updF_eq, if_pos rfl]
      · rw [updF_ne (by omega), if_neg g]; exact q2
    · rw [f.2.2.2.2.1 _ _ (by omega)]; exact q3 y hy
    · rw [f.2.2.2.2.1 _ _ (by omega), f.2.2.2.2.1 _ _ (by omega)]
      refine q4 y ?_
      rw [nW_uW] at hy
      by_cases g : d = a
      · subst g; rw [if_pos rfl] at hy; rw [hW]; exact List.mem_cons_of_mem _ hy
      · rw [if_neg g] at hy; exact hy
  · rw [updF_ne (by omega)]
    exact ⟨p5.1, fun y hy => by rw [f.2.2.2.2.1 _ _ (by omega)]; exact p5.2 y hy⟩
  · rw [List.mem_singleton.mp hy]; exact T.2.1
  · rw [f.2.2.2.2.1 _ _ (by omega), updF_ne (by omega)]; exact p7
theorem CX.takeK {x : Nat} {r : List Nat} (c : CX h b π ls N [] t) (hK : nK N = x :: r) (f : FrLn h h1) (k : takS h h1 (b + 3) (π x) (r.map π)) : CX h1 b π (updF ls (b + 3) (r.map π)) (uK N r) [x] t ∧ CSt b ls h (updF ls (b + 3) (r.map π)) h1 := by
  have hL := c.1.iK
  obtain ⟨p1, p2, p3, p4, p5, p6, p7⟩ := c.2.2.2.2.2.1
  have eL : ls (b + 3) = π x :: r.map π := by rw [p5.1, hK, List.map_cons]
  have T := c.2.1.tak f hL eL k
  refine ⟨c.ln f T.1 (fun _ _ => rfl) rfl rfl ⟨fun y hy => ?_, p2, fun y hy => ?_, fun d hd => ?_, ?_, fun y hy => ?_, ?_⟩, CSt.tak c.2.1 f hL (by omega) eL k⟩
  · obtain ⟨q1, q2, q3⟩ := p1 y hy
    exact ⟨q1.ln f, by rw [f.1]; exact q2, by rw [f.2.2.1]; exact q3⟩
  · rw [updF_ne (by omega)]; exact p3 y hy
  · obtain ⟨q1, q2, q3, q4⟩ := p4 d hd
    refine ⟨?_, ?_, fun y hy => ?_, fun y hy => ?_⟩
    · rw [updF_ne (by omega)]; exact q1
    · rw [updF_ne (by omega)]; exact q2
    · rw [f.2.2.2.2.1 _ _ (by omega)]; exact q3 y hy
    · rw [f.2.2.2.2.1 _ _ (by omega), f.2.2.2.2.1 _ _ (by omega)]; exact q4 y hy
  · rw [updF_eq]
    exact ⟨rfl, fun y hy => by rw [f.2.2.2.2.1 _ _ (by omega)]; exact p5.2 y (by rw [hK]; exact List.mem_cons_of_mem _ hy)⟩
  · rw [List.mem_singleton.mp hy]; exact T.2.1
  · rw [f.2.2.2.2.1 _ _ (by omega), updF_ne (by omega)]; exact p7
theorem CX.appR {a x : Nat} (c : CX h b π ls N [x] t) (hx : liv N x) (ha : a < 6) (f : FrLn h h1) (k : appS h h1 ls (b + 11 + 7 * a + 1) (π x)) (hh : zi h 194 (π x) = jI (nA N ((368 + 8 * x + 2)))) (h7 : nA N ((368 + 8 * x + 7)) = 0) : CX h1 b π (updF ls (b + 11 + 7 * a + 1) (ls (b + 11 + 7 * a + 1) ++ [π x])) (uR N a (nR N a ++ [x])) [] t ∧ CSt b ls h (updF ls (b + 11 + 7 * a + 1) (ls (b + 11 + 7 * a + 1) ++ [π x])) h1 := by
  have hL := c.1.iR ha
  obtain ⟨p1, p2, p3, p4, p5, p6, p7⟩ := c.2.2.2.2.2.1
  have hp := (p1 x hx).2
  have ho := p6 x List.mem_cons_self
  refine ⟨c.ln f (c.2.1.app f hL hp ho k) (fun _ _ => rfl) rfl rfl ⟨fun y hy => ?_, p2, fun y hy => ?_, fun d hd => ?_, ?_, fun y hy => ?_, ?_⟩, CSt.app c.2.1 f hL (by omega) hp.2 ho k⟩
  · obtain ⟨q1, q2, q3⟩ := p1 y hy
    exact ⟨q1.ln f, by rw [f.1]; exact q2, by rw [f.2.2.1]; exact q3⟩
  · rw [updF_ne (by omega)]; exact p3 y hy
  · obtain ⟨q1, q2, q3, q4⟩ := p4 d hd
    refine ⟨?_, ?_, fun y hy => ?_, fun y hy => ?_⟩
    · rw [nR_uR]
      by_cases g : d = a
      · subst g; rw [updF_eq, if_pos rfl, q1, List.map_append]; rfl
      · rw [updF_ne (by omega), if_neg g]; exact q1
    · rw [updF_ne (by omega)]; exact q2
    · rw [f.2.2.2.2.1 _ _ (by omega)]
      rw [nR_uR] at hy
      by_cases g : d = a
      · subst g
        rw [if_pos rfl] at hy
        rcases List.mem_append.mp hy with z | z
        · exact q3 y z
        · rw [List.mem_singleton.mp z]; exact ⟨hh, h7⟩
      · rw [if_neg g] at hy; exact q3 y hy
    · rw [f.2.2.2.2.1 _ _ (by omega), f.2.2.2.2.1 _ _ (by omega)]; exact q4 y hy
  · rw [updF_ne (by omega)]
    exact ⟨p5.1, fun y hy => by rw [f.2.2.2.2.1 _ _ (by omega)]; exact p5.2 y hy⟩
  · exact absurd hy (by simp)
  · rw [f.2.2.2.2.1 _ _ (by omega), updF_ne (by omega)]; exact p7
theorem CX.appW {a x : Nat} (c : CX h b π ls N [x] t) (hx : liv N x) (ha : a < 6) (f : FrLn h h1) (k : appS h h1 ls (b + 11 + 7 * a + 2) (π x)) (hh : zi h 194 (π x) = jI (nA N ((368 + 8 * x + 2)) + 1)) (hd : zi h 199 (π x) = jI (nA N ((368 + 8 * x + 6)))) (h7 : nA N ((368 + 8 * x + 7)) = 0) : CX h1 b π (updF ls (b + 11 + 7 * a + 2) (ls (b + 11 + 7 * a + 2) ++ [π x])) (uW N a (nW N a ++ [x])) [] t ∧ CSt b ls h (updF ls (b + 11 + 7 * a + 2) (ls (b + 11 + 7 * a + 2) ++ [π x])) h1 := by
  have hL := c.1.iW ha
  obtain ⟨p1, p2, p3, p4, p5, p6, p7⟩ := c.2.2.2.2.2.1
  have hp := (p1 x hx).2
  have ho := p6 x List.mem_cons_self
  refine ⟨c.ln f (c.2.1.app f hL hp ho k) (fun _ _ => rfl) rfl rfl ⟨fun y hy => ?_, p2, fun y hy => ?_, fun d hd => ?_, ?_, fun y hy => ?_, ?_⟩, CSt.app c.2.1 f hL (by omega) hp.2 ho k⟩
  · obtain ⟨q1, q2, q3⟩ := p1 y hy
    exact ⟨q1.ln f, by rw [f.1]; exact q2, by rw [f.2.2.1]; exact q3⟩
  · rw [updF_ne (by omega)]; exact p3 y hy
  · obtain ⟨q1, q2, q3, q4⟩ := p4 d hd
    refine ⟨?_, ?_, fun y hy => ?_, fun y hy => ?_⟩
    · rw [updF_ne (by omega)]; exact q1
    · rw [nW_uW]
      by_cases g : d = a
      · subst g; rw [updF_eq, if_pos rfl, q2, List.map_append]; rfl
      · rw [updF_ne (by omega), if_neg g]; exact q2
    · rw [f.2.2.2.2.1 _ _ (by omega)]; exact q3 y hy
    · rw [f.2.2.2.2.1 _ _ (by omega), f.2.2.2.2.1 _ _ (by omega)]
      rw [nW_uW] at hy
      by_cases g : d = a
      · subst g
        rw [if_pos rfl] at hy
        rcases List.mem_append.mp hy with z | z
        · exact q4 y z
        · rw [List.mem_singleton.mp z]; exact ⟨hh, by assumption, h7⟩
      · rw [if_neg g] at hy; exact q4 y hy
  · rw [updF_ne (by omega)]
    exact ⟨p5.1, fun y hy => by rw [f.2.2.2.2.1 _ _ (by omega)]; exact p5.2 y hy⟩
  · exact absurd hy (by simp)
  · rw [f.2.2.2.2.1 _ _ (by omega), updF_ne (by omega)]; exact p7
theorem CX.appK {x : Nat} (c : CX h b π ls N [x] t) (hx : liv N x) (f : FrLn h h1) (k : appS h h1 ls (b + 3) (π x)) (hd : zi h 199 (π x) = jI (nA N ((368 + 8 * x + 6)))) (hb : 0 ≤ nA N ((368 + 8 * x + 6)) ∧ nA N ((368 + 8 * x + 6)) < 100000) : CX h1 b π (updF ls (b + 3) (ls (b + 3) ++ [π x])) (uK N (nK N ++ [x])) [] t ∧ CSt b ls h (updF ls (b + 3) (ls (b + 3) ++ [π x])) h1 := by
  have hL := c.1.iK
  obtain ⟨p1, p2, p3, p4, p5, p6, p7⟩ := c.2.2.2.2.2.1
  have hp := (p1 x hx).2
  have ho := p6 x List.mem_cons_self
  refine ⟨c.ln f (c.2.1.app f hL hp ho k) (fun _ _ => rfl) rfl rfl ⟨fun y hy => ?_, p2, fun y hy => ?_, fun d hd => ?_, ?_, fun y hy => ?_, ?_⟩, CSt.app c.2.1 f hL (by omega) hp.2 ho k⟩
  · obtain ⟨q1, q2, q3⟩ := p1 y hy
    exact ⟨q1.ln f, by rw [f.1]; exact q2, by rw [f.2.2.1]; exact q3⟩
  · rw [updF_ne (by omega)]; exact p3 y hy
  · obtain ⟨q1, q2, q3, q4⟩ := p4 d hd
    refine ⟨?_, ?_, fun y hy => ?_, fun y hy => ?_⟩
    · rw [updF_ne (by omega)]; exact q1
    · rw [updF_ne (by omega)]; exact q2
    · rw [f.2.2.2.2.1 _ _ (by omega)]; exact q3 y hy
    · rw [f.2.2.2.2.1 _ _ (by omega), f.2.2.2.2.1 _ _ (by omega)]; exact q4 y hy
  · rw [updF_eq, p5.1]
    refine ⟨by show _ = List.map π (nK N ++ [x]); rw [List.map_append]; rfl, fun y hy => ?_⟩
    rw [f.2.2.2.2.1 _ _ (by omega)]
    rcases List.mem_append.mp hy with z | z
    · exact p5.2 y z
    · rw [List.mem_singleton.mp z]; exact ⟨hd, hb⟩
  · exact absurd hy (by simp)
  · rw [f.2.2.2.2.1 _ _ (by omega), updF_ne (by omega)]; exact p7
theorem countP_one (p q : Nat → Bool) {x n : Nat} (hx : x < n) (h1 : p x = true) (h2 : q x = false) (h3 : ∀ y, y ≠ x → p y = q y) : (List.range n).countP p = (List.range n).countP q + 1 := by
  induction n with
  | zero => exact absurd hx (by omega)
  | succ n ih =>
    rw [List.range_succ, List.countP_append, List.countP_append, List.countP_singleton, List.countP_singleton]
    by_cases c : x = n
    · subst c
      rw [h1, h2, List.countP_congr (q := q) (fun y hy => by rw [h3 y (by have := List.mem_range.mp hy; omega)])]
      simp
    · rw [ih (by omega), h3 n (by omega)]
      omega
/-- a packet is not in use any more -/
theorem CX.kill {x : Nat} (c : CX h b π ls N [x] t) (hx : liv N x) (nx : ∀ a, a < 6 → ¬ x ∈ nR N a ∧ ¬ x ∈ nW N a) (nk : ¬ x ∈ nK N) (f : FrLn h h1) (k : appS h h1 ls (b + 4) (π x)) : CX h1 b π (updF ls (b + 4) (ls (b + 4) ++ [π x])) (uA N ((368 + 8 * x + 0)) 0) [] t ∧ CSt b ls h (updF ls (b + 4) (ls (b + 4) ++ [π x])) h1 := by
  have hL := c.1.iS
  obtain ⟨p1, p2, p3, p4, p5, p6, p7⟩ := c.2.2.2.2.2.1
  have hp := (p1 x hx).2
  have ho := p6 x List.mem_cons_self
  have lv : ∀ y, liv (uA N ((368 + 8 * x + 0)) 0) y → y ≠ x ∧ liv N y := by
    intro y hy
    have ne : y ≠ x := fun q => by
      subst q
      have := hy.2
      rw [nA_eq] at this
      exact absurd this (by omega)
    refine ⟨ne, hy.1, ?_⟩
    have := hy.2
    rw [nA_ne (by omega)] at this
    exact this
  refine ⟨c.ln f (c.2.1.app f hL hp ho k) (fun k hk => nA_ne (by omega)) rfl rfl ⟨fun y hy => ?_, fun y z hy hz => p2 y z (lv y hy).2 (lv z hz).2, fun y hy => ?_, fun d hd => ?_, ?_, fun y hy => ?_, ?_⟩, CSt.app c.2.1 f hL (by omega) hp.2 ho k⟩
  · obtain ⟨q1, q2, q3⟩ := p1 y (lv y hy).2
    have ne := (lv y hy).1
    exact ⟨q1.congr (fun g h1 h2 => f.2.2.2.2.1 g _ (by omega)) (f.2.2.2.2.2.1 _ _) (fun k h1 h2 => nA_ne (by omega)), by rw [f.1]; exact q2, by rw [f.2.2.1]; exact q3⟩
  · rw [updF_eq]
    intro hm
    rcases List.mem_append.mp hm with z | z
    · exact p3 y (lv y hy).2 z
    · exact (lv y hy).1 (p2 y x (lv y hy).2 hx (List.mem_singleton.mp z))
  · obtain ⟨q1, q2, q3, q4⟩ := p4 d hd
    refine ⟨?_, ?_, fun y hy => ?_, fun y hy => ?_⟩
    · rw [updF_ne (by omega)]; exact q1
    · rw [updF_ne (by omega)]; exact q2
    · rw [f.2.2.2.2.1 _ _ (by omega), nA_ne (by omega), nA_ne (by omega)]; exact q3 y hy
    · rw [f.2.2.2.2.1 _ _ (by omega), f.2.2.2.2.1 _ _ (by omega), nA_ne (by omega), nA_ne (by omega), nA_ne (by omega)]; exact q4 y hy
  · rw [updF_ne (by omega)]
    exact ⟨p5.1, fun y hy => by rw [f.2.2.2.2.1 _ _ (by omega), nA_ne (by omega)]; exact p5.2 y hy⟩
  · exact absurd hy (by simp)
  · have e : nLv N = nLv (uA N ((368 + 8 * x + 0)) 0) + 1 := countP_one _ _ hx.1 (decide_eq_true hx.2) (by rw [nA_eq]; rfl) (fun y hy => by rw [nA_ne (by omega)])
    rw [f.2.2.2.2.1 _ _ (by omega), updF_eq, List.length_append, List.length_singleton, show nLv (uA N ((368 + 8 * x + 0)) 0) + ((ls (b + 4)).length + 1) = nLv N + (ls (b + 4)).length by omega]
    exact ⟨p7.1, p7.2.1, fun y hy => by
      by_cases q : y = x
      · subst q; rw [nA_eq]; exact Int.le_refl 0
      · rw [nA_ne (by omega)]; exact p7.2.2 y hy⟩
end CX6
