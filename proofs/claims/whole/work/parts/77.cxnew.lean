section CX7
variable {h h1 h2 : zH} {b : Nat} {π : Nat → Nat} {ls ls1 : Nat → List Nat} {N N' : nT} {X X1 : List Nat} {t : Nat}
/-- all but the packets -/
def CXo (h : zH) (b : Nat) (ls : Nat → List Nat) (N : nT) (t : Nat) : Prop := ClS h b ∧ lnS h ls ∧ NtC h b N ∧ LkC h b N ∧ FlC h b N ∧ EvC h b (nE N) ∧ PaC h b (nP N) (nA N 1) t
theorem CX.o (c : CX h b π ls N X t) : CXo h b ls N t := ⟨c.1, c.2.1, c.2.2.1, c.2.2.2.1, c.2.2.2.2.1, c.2.2.2.2.2.2⟩
theorem CXo.x (c : CXo h b ls N t) (P : PkA h b N π ls X) : CX h b π ls N X t := ⟨c.1, c.2.1, c.2.2.1, c.2.2.2.1, c.2.2.2.2.1, P, c.2.2.2.2.2⟩
/-- a general step of all but the packets: the same cells, other lines -/
theorem CXo.go (c : CXo h b ls N t) (hx : zx h ≤ zx h1) (s : lnS h1 ls1) (e : ∀ a, b ≤ a → a < b + 65 → (zk h1 a = zk h a ∧ zn h1 a = zn h a) ∧ (∀ f, f ≠ 98 → f ≠ 167 → ¬ (192 ≤ f ∧ f ≤ 200) → zi h1 f a = zi h f a) ∧ (∀ f, f ≠ 197 → zl h1 f a = zl h f a) ∧ (∀ f, f ≠ 96 → f ≠ 97 → f ≠ 201 → zr h1 f a = zr h f a) ∧ ∀ i, zI h1 a i = zI h a i ∧ zR h1 a i = zR h a i) (eA : ∀ k, k < 368 → nA N' k = nA N k) (eE : nE N' = nE N) (eP : nP N' = nP N) : CXo h1 b ls1 N' t := by
  obtain ⟨c1, c2, c3, c4, c5, c7, c8⟩ := c
  have ei : ∀ f a, f ≠ 98 → f ≠ 167 → ¬ (192 ≤ f ∧ f ≤ 200) → b ≤ a → a < b + 65 → zi h1 f a = zi h f a := fun f a q1 q2 q3 h3 h4 => (e a h3 h4).2.1 f q1 q2 q3
  have el : ∀ f a, f ≠ 197 → b ≤ a → a < b + 65 → zl h1 f a = zl h f a := fun f a q1 h3 h4 => (e a h3 h4).2.2.1 f q1
  have eI : ∀ a i, b ≤ a → a < b + 65 → zI h1 a i = zI h a i := fun a i h3 h4 => ((e a h3 h4).2.2.2.2 i).1
  refine ⟨c1.fr hx (fun a h3 h4 => ⟨(e a h3 h4).1.1, (e a h3 h4).1.2, (e a h3 h4).2.2.2.1, fun i => ((e a h3 h4).2.2.2.2 i).2⟩), s, ?_, fun a ha a6 => ?_, fun d hd d6 => ?_, ?_, ?_⟩
  · obtain ⟨n1, n2, n3, n4, n5⟩ := c3
    refine ⟨?_, ?_, ?_, ?_, ?_⟩
    · rw [ei _ _ (by omega) (by omega) (by omega) (by omega) (by omega), eA _ (by omega)]; exact n1
    · rw [ei _ _ (by omega) (by omega) (by omega) (by omega) (by omega), eA _ (by omega)]; exact n2
    · rw [ei _ _ (by omega) (by omega) (by omega) (by omega) (by omega), eA _ (by omega)]; exact n3
    · rw [ei _ _ (by omega) (by omega) (by omega) (by omega) (by omega), eA _ (by omega)]; exact n4
    · rw [ei _ _ (by omega) (by omega) (by omega) (by omega) (by omega), eA _ (by omega)]; exact n5
  · rw [eA _ (by omega)] at ha
    exact (c4 a ha a6).congr (fun j hj => by have := lkF_bd hj; exact ei _ _ (by omega) (by omega) (by omega) (by omega) (by omega)) (el _ _ (by omega) (by omega) (by omega)) (fun j _ _ => el _ _ (by omega) (by omega) (by omega)) (fun _ _ _ _ => eI _ _ (by omega) (by omega)) (fun k _ _ => eA k (by omega))
  · rw [eA _ (by omega)] at hd
    exact (c5 d hd d6).congr (fun j hj => ei _ _ (by omega) (by omega) (by omega) (by omega) (by omega)) (fun _ => eI _ _ (by omega) (by omega)) (fun k _ _ => eA k (by omega)) (fun k _ => eA _ (by omega))
  · rw [eE]
    exact c7.fr (ei _ _ (by omega) (by omega) (by omega) (by omega) (by omega)) (ei _ _ (by omega) (by omega) (by omega) (by omega) (by omega)) (fun a i _ _ => eI a i (by omega) (by omega))
  · rw [eP, eA 1 (by omega)]
    exact c8.fr (fun a i _ _ => eI a i (by omega) (by omega))
/-- a packet in hand that is not in use yet -/
def CXf (h : zH) (b : Nat) (π : Nat → Nat) (ls : Nat → List Nat) (N : nT) (p t : Nat) : Prop := CXo h b ls N t ∧
  ((∀ x, liv N x → (PkC h N (π x) x ∧ π x < zx h ∧ zk h (π x) = 6) ∧ π x ≠ p) ∧
  (∀ x y, liv N x → liv N y → π x = π y → x = y) ∧
  (∀ x, liv N x → ¬ π x ∈ ls (b + 4)) ∧
  (∀ a, a < 6 → ls (b + 11 + 7 * a + 1) = (nR N a).map π ∧ ls (b + 11 + 7 * a + 2) = (nW N a).map π ∧ (∀ x, x ∈ nR N a → zi h 194 (π x) = jI (nA N (368 + 8 * x + 2)) ∧ nA N (368 + 8 * x + 7) = 0) ∧ ∀ x, x ∈ nW N a → zi h 194 (π x) = jI (nA N (368 + 8 * x + 2) + 1) ∧ zi h 199 (π x) = jI (nA N (368 + 8 * x + 6)) ∧ nA N (368 + 8 * x + 7) = 0) ∧
  (ls (b + 3) = (nK N).map π ∧ ∀ x, x ∈ nK N → zi h 199 (π x) = jI (nA N (368 + 8 * x + 6)) ∧ 0 ≤ nA N (368 + 8 * x + 6) ∧ nA N (368 + 8 * x + 6) < 100000)) ∧
  (outL h ls p ∧ p < zx h ∧ zk h p = 6) ∧
  zi h 167 b = nI (nLv N + (ls (b + 4)).length + 1) ∧ nLv N + (ls (b + 4)).length + 1 ≤ 480 ∧ ∀ x, x < 480 → 0 ≤ nA N (368 + 8 * x + 0)
theorem CX.fresh {p : Nat} {r : List Nat} (c : CX h b π ls N [] t) (e : ls (b + 4) = p :: r) (f : FrLn h h1) (k : takS h h1 (b + 4) p r) : CXf h1 b π (updF ls (b + 4) r) N p t ∧ CSt b ls h (updF ls (b + 4) r) h1 := by
  have hL := c.1.iS
  obtain ⟨p1, p2, p3, p4, p5, p6, p7, p8⟩ := c.2.2.2.2.2.1
  have T := c.2.1.tak f hL e k
  refine ⟨⟨c.o.go (by rw [f.1]; exact Nat.le_refl _) T.1 (fun a _ _ => ⟨⟨f.2.2.1 a, f.2.2.2.1 a⟩, fun g g1 _ _ => f.2.2.2.2.1 g a g1, fun g _ => f.2.2.2.2.2.1 g a, fun g g1 g2 g3 => f.2.2.2.2.2.2.1 g a g1 g2 g3, fun i => ⟨f.2.2.2.2.2.2.2.1 a i, f.2.2.2.2.2.2.2.2.2 a i⟩⟩) (fun _ _ => rfl) rfl rfl, ⟨fun y hy => ?_, p2, fun y hy => ?_, fun d hd => ?_, ?_⟩, ⟨T.2.1, T.2.2⟩, ?_, ?_, p8.2⟩, CSt.tak c.2.1 f hL (by omega) e k⟩
  · obtain ⟨q1, q2, q3⟩ := p1 y hy
    exact ⟨⟨q1.ln f, by rw [f.1]; exact q2, by rw [f.2.2.1]; exact q3⟩, fun g => p3 y hy (by rw [e, g]; exact List.mem_cons_self)⟩
  · rw [updF_eq]
    exact fun g => p3 y hy (by rw [e]; exact List.mem_cons_of_mem _ g)
  · obtain ⟨q1, q2, q3, q4⟩ := p4 d hd
    refine ⟨?_, ?_, fun y hy => ?_, fun y hy => ?_⟩
    · rw [updF_ne (by omega)]; exact q1
    · rw [updF_ne (by omega)]; exact q2
    · rw [f.2.2.2.2.1 _ _ (by omega)]; exact q3 y hy
    · rw [f.2.2.2.2.1 _ _ (by omega), f.2.2.2.2.1 _ _ (by omega)]; exact q4 y hy
  · rw [updF_ne (by omega)]
    exact ⟨p5.1, fun y hy => by rw [f.2.2.2.2.1 _ _ (by omega)]; exact p5.2 y hy⟩
  · rw [f.2.2.2.2.1 _ _ (by omega), updF_eq, p7, e, List.length_cons]
    rfl
  · have p8 := p8.1
    rw [e, List.length_cons] at p8
    rw [updF_eq]
    omega
theorem CX.make (c : CX h b π ls N [] t) (e : ls (b + 4) = []) (hn : nLv N < 480) : CXf (zNw (zSi h 167 b (nI (nLv N + 1))) 6 10) b π ls N (zx h) t ∧ CSt b ls h ls (zNw (zSi h 167 b (nI (nLv N + 1))) 6 10) := by
  obtain ⟨p1, p2, p3, p4, p5, p6, p7, p8⟩ := c.2.2.2.2.2.1
  have hb := c.1.1.1
  have il : ∀ L, isL (zNw (zSi h 167 b (nI (nLv N + 1))) 6 10) L ↔ isL h L := by
    intro L
    unfold isL
    rw [zx_Nw, zk_Nw, zx_Si, zk_Si]
    by_cases q : L = zx h
    · rw [if_pos q]; omega
    · rw [if_neg q]; omega
  have gi : ∀ f a, a ≠ zx h → (f ≠ 167 ∨ a ≠ b) → zi (zNw (zSi h 167 b (nI (nLv N + 1))) 6 10) f a = zi h f a := fun f a h3 h4 => by rw [zi_Nw, zx_Si, if_neg h3, zi_Si, if_neg (by omega)]
  have gl : ∀ f a, a ≠ zx h → zl (zNw (zSi h 167 b (nI (nLv N + 1))) 6 10) f a = zl h f a := fun f a h3 => by rw [zl_Nw, zx_Si, if_neg h3]; rfl
  have gr : ∀ f a, a ≠ zx h → zr (zNw (zSi h 167 b (nI (nLv N + 1))) 6 10) f a = zr h f a := fun f a h3 => by rw [zr_Nw, zx_Si, if_neg h3]; rfl
  have gI : ∀ a i, a ≠ zx h → zI (zNw (zSi h 167 b (nI (nLv N + 1))) 6 10) a i = zI h a i := fun a i h3 => by rw [zI_Nw, zx_Si, if_neg h3]; rfl
  have gL : ∀ a i, a ≠ zx h → zL (zNw (zSi h 167 b (nI (nLv N + 1))) 6 10) a i = zL h a i := fun a i h3 => by rw [zL_Nw, zx_Si, if_neg h3]; rfl
  have gR : ∀ a i, a ≠ zx h → zR (zNw (zSi h 167 b (nI (nLv N + 1))) 6 10) a i = zR h a i := fun a i h3 => by rw [zR_Nw, zx_Si, if_neg h3]; rfl
  have gk : ∀ a, a ≠ zx h → zk (zNw (zSi h 167 b (nI (nLv N + 1))) 6 10) a = zk h a := fun a h3 => by rw [zk_Nw, zx_Si, if_neg h3]; rfl
  have gn : ∀ a, a ≠ zx h → zn (zNw (zSi h 167 b (nI (nLv N + 1))) 6 10) a = zn h a := fun a h3 => by rw [zn_Nw, zx_Si, if_neg h3]; rfl
  have gx : zx (zNw (zSi h 167 b (nI (nLv N + 1))) 6 10) = zx h + 1 := rfl
  have gt : zt (zNw (zSi h 167 b (nI (nLv N + 1))) 6 10) = zt h + 10 := rfl
  have s : lnS (zNw (zSi h 167 b (nI (nLv N + 1))) 6 10) ls := by
    refine ⟨fun L hL => ?_, fun L K i j q hL hK => c.2.1.2 L K i j q ((il L).mp hL) ((il K).mp hK)⟩
    have hL0 := (il L).mp hL
    have hLx := hL0.1
    obtain ⟨s1, s2, s3, s4⟩ := c.2.1.1 L hL0
    rw [gr _ _ (by omega), gr _ _ (by omega), gi _ _ (by omega) (by omega)]
    refine ⟨s1, s2, s3, fun i q hq => ?_⟩
    obtain ⟨u1, u2⟩ := s4 i q hq
    have := u1.1
    rw [gx, gk _ (by omega), gr _ _ (by omega)]
    exact ⟨⟨by omega, u1.2⟩, u2⟩
  refine ⟨⟨c.o.go (by rw [gx]; omega) s (fun a h3 h4 => ⟨⟨gk a (by omega), gn a (by omega)⟩, fun g _ g2 _ => gi g a (by omega) (by omega), fun g _ => gl g a (by omega), fun g _ _ _ => gr g a (by omega), fun i => ⟨gI a i (by omega), gR a i (by omega)⟩⟩) (fun _ _ => rfl) rfl rfl, ⟨fun y hy => ?_, p2, p3, fun d hd => ?_, ?_⟩, ⟨?_, by rw [gx]; omega, by rw [zk_Nw, zx_Si, if_pos rfl]⟩, ?_, ?_, p8.2⟩, ?_⟩
  · obtain ⟨q1, q2, q3⟩ := p1 y hy
    exact ⟨⟨q1.congr (fun g h3 h4 => gi g _ (by omega) (by omega)) (gl _ _ (by omega)) (fun _ _ _ => rfl), by rw [gx]; omega, by rw [gk _ (by omega)]; exact q3⟩, by omega⟩
  · obtain ⟨q1, q2, q3, q4⟩ := p4 d hd
    have lt : ∀ y, π y ∈ ls (b + 11 + 7 * d + 1) ∨ π y ∈ ls (b + 11 + 7 * d + 2) → π y < zx h := by
      intro y hy
      rcases hy with z | z
      · obtain ⟨i, hi⟩ := List.getElem?_of_mem z
        exact ((c.2.1.1 _ (c.1.iR hd)).2.2.2 i _ hi).1.1
      · obtain ⟨i, hi⟩ := List.getElem?_of_mem z
        exact ((c.2.1.1 _ (c.1.iW hd)).2.2.2 i _ hi).1.1
    refine ⟨q1, q2, fun y hy => ?_, fun y hy => ?_⟩
    · have := lt y (Or.inl (by rw [q1]; exact List.mem_map_of_mem hy))
      rw [gi _ _ (by omega) (by omega)]; exact q3 y hy
    · have := lt y (Or.inr (by rw [q2]; exact List.mem_map_of_mem hy))
      rw [gi _ _ (by omega) (by omega), gi _ _ (by omega) (by omega)]; exact q4 y hy
  · refine ⟨p5.1, fun y hy => ?_⟩
    have lt : π y < zx h := by
      obtain ⟨i, hi⟩ := List.getElem?_of_mem (show π y ∈ ls (b + 3) by rw [p5.1]; exact List.mem_map_of_mem hy)
      exact ((c.2.1.1 _ c.1.iK).2.2.2 i _ hi).1.1
    rw [gi _ _ (by omega) (by omega)]; exact p5.2 y hy
  · intro L hL hm
    obtain ⟨i, hi⟩ := List.getElem?_of_mem hm
    have := ((c.2.1.1 _ ((il L).mp hL)).2.2.2 i _ hi).1.1
    omega
  · rw [zi_Nw, zx_Si, if_neg (by omega), zi_Si, if_pos ⟨rfl, rfl⟩, e]
    rfl
  · rw [e]
    show nLv N + 0 + 1 ≤ 480
    omega
  · refine ⟨⟨⟨by rw [gx]; omega, by rw [gx, gt]; omega, mdB.up (n := nLv N) gx (by rw [p7, e]; rfl) (by rw [zi_Nw, zx_Si, if_neg (by omega), zi_Si, if_pos ⟨rfl, rfl⟩]) hn⟩, fun a ha => ⟨gk a (by omega), gn a (by omega)⟩, fun a ha ho _ => ⟨fun g => ⟨gi g a (by omega) (by omega), gl g a (by omega), gr g a (by omega)⟩, fun i => ⟨gI a i (by omega), gL a i (by omega), gR a i (by omega)⟩⟩⟩, fun _ _ => rfl⟩
def updP (π : Nat → Nat) (x p : Nat) : Nat → Nat := fun y => if y = x then p else π y
theorem updP_eq {x p : Nat} : updP π x p x = p := by unfold updP; rw [if_pos rfl]
theorem updP_ne {x p y : Nat} (e : y ≠ x) : updP π x p y = π y := by unfold updP; rw [if_neg e]
theorem map_updP {x p : Nat} {L : List Nat} (h : ¬ x ∈ L) : L.map (updP π x p) = L.map π := by
  apply List.map_congr_left
  intro y hy
  exact updP_ne (fun q => h (q ▸ hy))
/-- it is put to use as x -/
theorem CXf.use {p x : Nat} (c : CXf h b π ls N p t) (hx : x < 480) (nl : ¬ 0 < nA N ((368 + 8 * x + 0))) (nx : ∀ a, a < 6 → ¬ x ∈ nR N a ∧ ¬ x ∈ nW N a) (nk : ¬ x ∈ nK N) (f : FrPk p h h1) (e : ∀ k, (k < (368 + 8 * x + 0) ∨ (368 + 8 * x + 8) ≤ k) → nA N' k = nA N k) (eR : nR N' = nR N) (eW : nW N' = nW N) (eK : nK N' = nK N) (eE : nE N' = nE N) (eP : nP N' = nP N) (e0 : 0 < nA N' ((368 + 8 * x + 0))) (P : PkC h1 N' p x) : CX h1 b (updP π x p) ls N' [x] t ∧ CSt b ls h ls h1 := by
  obtain ⟨c0, ⟨p1, p2, p3, p4, p5⟩, ⟨po, px, pk⟩, p7, p8⟩ := c
  have F := f
  obtain ⟨⟨f0, f1⟩, f2, f3, f4, f5, f6⟩ := f
  have lv : ∀ y, liv N' y → y ≠ x → liv N y := fun y hy q => by unfold liv at *; rw [← e _ (by omega)]; exact hy
  refine ⟨CXo.x (c0.go (by rw [f0]; exact Nat.le_refl _) (c0.2.1.fr f0 (fun a => (f2 a).1) f3 (fun a => f5 98 a (by omega))) (fun a h3 h4 => ⟨f2 a, fun g _ _ g3 => f5 g a (fun q => g3 ⟨q.1, q.2.1⟩), fun g g1 => f6 g a (fun q => g1 q.1), fun g _ _ _ => f3 g a, fun i => ⟨(f4 a i).1, (f4 a i).2.2⟩⟩) (fun k hk => e k (by omega)) eE eP) ⟨fun y hy => ?_, fun y z hy hz => ?_, fun y hy => ?_, fun d hd => ?_, ?_, fun y hy => ?_, ?_⟩, F.st pk po⟩
  · by_cases q : y = x
    · subst q
      rw [updP_eq, f0, (f2 _).1]
      exact ⟨P, px, pk⟩
    · obtain ⟨⟨q1, q2, q3⟩, q4⟩ := p1 y (lv y hy q)
      rw [updP_ne q, f0, (f2 _).1]
      exact ⟨q1.congr (fun g h1 h2 => f5 g _ (fun z => q4 z.2.2)) (f6 _ _ (fun z => q4 z.2)) (fun k h1 h2 => e k (by omega)), q2, q3⟩
  · intro g
    by_cases q : y = x
    · by_cases q' : z = x
      · rw [q, q']
      · rw [q, updP_eq, updP_ne q'] at g
        exact absurd g.symm (p1 z (lv z hz q')).2
    · by_cases q' : z = x
      · rw [q', updP_eq, updP_ne q] at g
        exact absurd g (p1 y (lv y hy q)).2
      · rw [updP_ne q, updP_ne q'] at g
        exact p2 y z (lv y hy q) (lv z hz q') g
  · by_cases q : y = x
    · rw [q, updP_eq]; exact po _ c0.1.iS
    · rw [updP_ne q]; exact p3 y (lv y hy q)
  · obtain ⟨q1, q2, q3, q4⟩ := p4 d hd
    rw [eR, eW, map_updP (nx d hd).1, map_updP (nx d hd).2]
    refine ⟨q1, q2, fun y hy => ?_, fun y hy => ?_⟩
    · have n : y ≠ x := fun g => (nx d hd).1 (g ▸ hy)
      have m : π y ≠ p := fun g => po _ (c0.1.iR hd) (by rw [q1, ← g]; exact List.mem_map_of_mem hy)
      rw [updP_ne n, f5 _ _ (fun z => m z.2.2), e _ (by omega), e _ (by omega)]; exact q3 y hy
    · have n : y ≠ x := fun g => (nx d hd).2 (g ▸ hy)
      have m : π y ≠ p := fun g => po _ (c0.1.iW hd) (by rw [q2, ← g]; exact List.mem_map_of_mem hy)
      rw [updP_ne n, f5 _ _ (fun z => m z.2.2), f5 _ _ (fun z => m z.2.2), e _ (by omega), e _ (by omega), e _ (by omega)]; exact q4 y hy
  · rw [eK, map_updP nk]
    refine ⟨p5.1, fun y hy => ?_⟩
    have n : y ≠ x := fun g => nk (g ▸ hy)
    have m : π y ≠ p := fun g => po _ c0.1.iK (by rw [p5.1, ← g]; exact List.mem_map_of_mem hy)
    rw [updP_ne n, f5 _ _ (fun z => m z.2.2), e _ (by omega)]; exact p5.2 y hy
  · rw [List.mem_singleton.mp hy, updP_eq]
    exact po.fr f0 (fun a => (f2 a).1)
  · have n : nLv N' = nLv N + 1 := countP_one _ _ hx (decide_eq_true e0) (decide_eq_false nl) (fun y hy => by rw [e _ (by omega)])
    rw [f5 _ _ (by omega), n, show nLv N + 1 + (ls (b + 4)).length = nLv N + (ls (b + 4)).length + 1 by omega]
    exact ⟨p7, p8.1, fun y hy => by
      by_cases q : y = x
      · subst q; omega
      · rw [e _ (by omega)]; exact p8.2 y hy⟩
end CX7
