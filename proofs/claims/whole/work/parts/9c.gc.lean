section GCs
variable {h y h' h1 : zH} {b b1 k x : Nat} {ls lt : Nat → List Nat} {N : nT} {π : Nat → Nat} {t : Nat}
/-- a cell is as it was -/
def SmA (h h' : zH) (a : Nat) : Prop := (zk h' a = zk h a ∧ zn h' a = zn h a) ∧ (∀ f, zi h' f a = zi h f a ∧ zl h' f a = zl h f a ∧ zr h' f a = zr h f a) ∧ ∀ i, zI h' a i = zI h a i ∧ zL h' a i = zL h a i ∧ zR h' a i = zR h a i
theorem SmA.tr {a : Nat} (p : SmA h y a) (q : SmA y h' a) : SmA h h' a := ⟨⟨q.1.1.trans p.1.1, q.1.2.trans p.1.2⟩, fun f => ⟨(q.2.1 f).1.trans (p.2.1 f).1, (q.2.1 f).2.1.trans (p.2.1 f).2.1, (q.2.1 f).2.2.trans (p.2.1 f).2.2⟩, fun i => ⟨(q.2.2 i).1.trans (p.2.2 i).1, (q.2.2 i).2.1.trans (p.2.2 i).2.1, (q.2.2 i).2.2.trans (p.2.2 i).2.2⟩⟩
theorem SmA.si {a f p : Nat} {v : Int32} (n : a ≠ p) : SmA h (zSi h f p v) a := ⟨⟨rfl, rfl⟩, fun g => ⟨by rw [zi_Si, if_neg (fun q => n q.2)], rfl, rfl⟩, fun _ => ⟨rfl, rfl, rfl⟩⟩
theorem ClS.tf (c : ClS h b) (hx : zx h ≤ zx h') (E : ∀ a, b ≤ a → a < b + 65 → SmA h h' a) : ClS h' b := c.fr hx (fun a h1 h2 => ⟨(E a h1 h2).1.1, (E a h1 h2).1.2, fun f _ _ _ => ((E a h1 h2).2.1 f).2.2, fun i => ((E a h1 h2).2.2 i).2.2⟩)
theorem SaE.of {lo hi : Nat} (E : ∀ a, lo ≤ a → a ≤ hi → SmA h h' a) : SaE lo hi h h' := fun c h1 h2 => ⟨fun f _ _ => ((E c h1 h2).2.1 f).1, fun f => ((E c h1 h2).2.1 f).2.1, fun i => ((E c h1 h2).2.2 i).1⟩
/-- a net whose cells and packets are as they were -/
theorem CX.tf (c : CX h b π ls N [] t) (hc : iC [] N) (hx : zx h ≤ zx h') (E1 : ∀ a, b ≤ a → a < b + 65 → SmA h h' a) (E2 : ∀ k, k < 14 → ∀ p, p ∈ ls (lin b k) → SmA h h' p) (sl : lnS h' lt) (el : ∀ k, k < 14 → lt (lin b k) = ls (lin b k)) : CX h' b π lt N [] t := by
  have sa : SaE b (b + 64) h h' := SaE.of (fun a h1 h2 => E1 a h1 (by omega))
  have st : ∀ x, liv N x → SmA h h' (π x) := fun x lv => by
    obtain ⟨k, i, hk, e⟩ := hc.stands lv
    refine E2 k (by omega) (π x) ?_
    rw [c.lnk hk]
    exact List.mem_map_of_mem (List.mem_of_getElem? e)
  have nb := (E1 b (Nat.le_refl _) (by omega)).2.1
  have cl := c.1.tf hx E1
  have elk : ∀ k, k < 13 → lt (lin b k) = (plN N k).map π := fun k hk => (el k (by omega)).trans (c.lnk hk)
  obtain ⟨c1, c2, c3, c4, c5, c6, c7, c8⟩ := c
  obtain ⟨p1, p2, p3, p4, p5, p6, p7, p8, p9⟩ := c6
  have e4 : lt (b + 4) = ls (b + 4) := el 13 (by omega)
  refine ⟨cl, sl, ⟨(nb 161).1.trans c3.1, (nb 163).1.trans c3.2.1, (nb 164).1.trans c3.2.2.1, (nb 170).1.trans c3.2.2.2.1, (nb 171).1.trans c3.2.2.2.2⟩, fun a h1 h2 => (c4 a h1 h2).cg (sa.mono (by omega) (by omega)), fun f h1 h2 => (c5 f h1 h2).cg (sa.mono (by omega) (by omega)), ⟨fun x lv => ?_, p2, fun x lv => by rw [e4]; exact p3 x lv, fun a ha => ?_, ⟨elk 12 (by omega), fun x hx => ?_⟩, (fun x hx => by cases hx), by rw [e4, (nb 167).1]; exact p7, by rw [e4]; exact p8, p9⟩, c7.cg (sa.mono (by omega) (by omega)), c8.cg (sa.mono (by omega) (by omega))⟩
  · obtain ⟨⟨q1, q2, q3, q4, q5, q6, q7⟩, q8, q9⟩ := p1 x lv
    have s := st x lv
    exact ⟨⟨(s.2.1 _).1.trans q1, (s.2.1 _).1.trans q2, (s.2.1 _).1.trans q3, (s.2.1 _).1.trans q4, (s.2.1 _).2.1.trans q5, (s.2.1 _).1.trans q6, (s.2.1 _).1.trans q7⟩, by omega, s.1.1.trans q9⟩
  · obtain ⟨q1, q2, q3, q4⟩ := p4 a ha
    have r1 := elk a (by omega)
    have r2 := elk (6 + a) (by omega)
    rw [plN_row ha, lin_row ha] at r1
    rw [plN_wire ha, lin_wire ha] at r2
    refine ⟨r1, r2, fun x hx => ?_, fun x hx => ?_⟩
    · have s := st x (hc.memR ha hx)
      exact ⟨(s.2.1 _).1.trans (q3 x hx).1, (q3 x hx).2⟩
    · have s := st x (hc.memW ha hx)
      exact ⟨(s.2.1 _).1.trans (q4 x hx).1, (s.2.1 _).1.trans (q4 x hx).2.1, (q4 x hx).2.2⟩
  · have s := st x (hc.memK hx)
    exact ⟨(s.2.1 _).1.trans (p5.2 x hx).1, (p5.2 x hx).2⟩
theorem CW.tf (c : CW h b ls) (hx : zx h ≤ zx h') (E1 : ∀ a, b ≤ a → a < b + 65 → SmA h h' a) (el : ∀ k, k < 14 → lt (lin b k) = ls (lin b k)) : CW h' b lt := by
  obtain ⟨c1, ⟨n, n1, n2, n3⟩, c3, c4⟩ := c
  have nb := (E1 b (Nat.le_refl _) (by omega)).2.1
  have tt : totL lt b = totL ls b := by
    unfold totL
    congr 1
    exact List.map_congr_left (fun k hk => by rw [el k (by have := List.mem_range.mp hk; omega)])
  refine ⟨c1.tf hx E1, ⟨n, n1, (nb 161).1.trans n2, fun a h1 h2 => ?_⟩, by rw [tt, (nb 167).1]; exact c3, by omega⟩
  rw [el a (by omega), el (6 + a) (by omega)]
  exact n3 a h1 h2
/-- what a step of the net at b leaves: the net at b1 -/
theorem CSt.sm (s : CSt b ls h lt h') (cb : ClS h b) (c : ClS h b1) (ln : lnS h ls) (dj : b1 + 65 ≤ b ∨ b + 65 ≤ b1) : (∀ a, b1 ≤ a → a < b1 + 65 → SmA h h' a) ∧ (∀ k, k < 14 → ∀ p, p ∈ ls (lin b1 k) → SmA h h' p) ∧ ∀ k, k < 14 → lt (lin b1 k) = ls (lin b1 k) := by
  have b65 := c.1.1
  refine ⟨fun a h1 h2 => ?_, fun k hk p hp => ?_, fun k hk => ?_⟩
  · have q := s.1.2.2 a (by omega) (by omega) (Or.inl (c.k6 h1 h2))
    exact ⟨s.1.2.1 a (by omega), q.1, q.2⟩
  · obtain ⟨i, hi⟩ := List.getElem?_of_mem hp
    have g := ((ln.1 _ (lin_isL c hk)).2.2.2 i p hi).1
    have ik := lin_in (b := b1) hk
    by_cases po : p < b ∨ b + 65 ≤ p
    · have q := s.1.2.2 p g.1 po (Or.inr ⟨lin b1 k, lin_isL c hk, by omega, hp⟩)
      exact ⟨s.1.2.1 p g.1, q.1, q.2⟩
    · exact absurd g.2 (cb.k6 (by omega) (by omega))
  · have ik := lin_in (b := b1) hk
    exact s.2 _ (by omega)
/-- a net of the class: all of it is N -/
def NetC (h : zH) (b : Nat) (ls : Nat → List Nat) (N : nT) : Prop := ∃ (π : Nat → Nat) (t : Nat), CX h b π ls N [] t ∧ iT N ∧ nA N 2 = ((t : Nat) : Int)
theorem NetC.tf (c : NetC h b ls N) (hx : zx h ≤ zx h') (E1 : ∀ a, b ≤ a → a < b + 65 → SmA h h' a) (E2 : ∀ k, k < 14 → ∀ p, p ∈ ls (lin b k) → SmA h h' p) (sl : lnS h' lt) (el : ∀ k, k < 14 → lt (lin b k) = ls (lin b k)) : NetC h' b lt N := by
  obtain ⟨π, t, c1, c2, c3⟩ := c
  exact ⟨π, t, c1.tf c2.1.2.2.1 hx E1 E2 sl el, c2, c3⟩
/-- where the five nets of x lie -/
def isBk (x a : Nat) : Prop := a = x + 2 ∨ a = x + 67 ∨ a = x + 133 ∨ a = x + 198 ∨ a = x + 263
/-- the class: its net is N (at B 0), paper at B 1, marks at B 2 to B 4, n of them in use -/
def GC (h : zH) (x : Nat) (B : Nat → Nat) (ls : Nat → List Nat) (N : nT) (Ms : Nat → nT) (n : Nat) : Prop :=
  (x + 333 ≤ zx h ∧ zk h x = 9 ∧ zr h 293 x = some (B 0) ∧ zr h 294 x = some (B 1) ∧ zr h 295 x = some (x + 132) ∧ zi h 296 x = nI n ∧ n ≤ 3) ∧
  (zk h (x + 132) = 26 ∧ zn h (x + 132) = 3 ∧ ∀ k, k < 3 → zR h (x + 132) k = some (B (2 + k))) ∧
  (∀ i, i < 5 → isBk x (B i)) ∧ (∀ i j, i < 5 → j < 5 → i ≠ j → B i ≠ B j) ∧
  lnS h ls ∧ (∀ i, i < 5 → CW h (B i) ls) ∧ NetC h (B 0) ls N ∧ ∀ k, k < n → NetC h (B (2 + k)) ls (Ms k)
/-- a step of the net at B i: what it makes of the whole -/
theorem GC.step {B : Nat → Nat} {Ms : Nat → nT} {n i : Nat} (g : GC h x B ls N Ms n) (hi : i < 5) (s : CSt (B i) ls h lt h1) (sl : lnS h1 lt) (cw : CW h1 (B i) lt) : (x + 333 ≤ zx h1 ∧ zk h1 x = 9 ∧ zr h1 293 x = some (B 0) ∧ zr h1 294 x = some (B 1) ∧ zr h1 295 x = some (x + 132) ∧ zi h1 296 x = nI n ∧ n ≤ 3) ∧ (zk h1 (x + 132) = 26 ∧ zn h1 (x + 132) = 3 ∧ ∀ k, k < 3 → zR h1 (x + 132) k = some (B (2 + k))) ∧ (∀ j, j < 5 → CW h1 (B j) lt) ∧ ∀ j M, j < 5 → j ≠ i → NetC h (B j) ls M → NetC h1 (B j) lt M := by
  obtain ⟨⟨g1, g2, g3, g4, g5, g6, g7⟩, ⟨g8, g9, g10⟩, gB, gD, gl, gw, gn, gm⟩ := g
  have dj : ∀ j, j < 5 → j ≠ i → B j + 65 ≤ B i ∨ B i + 65 ≤ B j := fun j hj n => by
    have q1 := gB j hj
    have q2 := gB i hi
    have q3 := gD j i hj hi n
    unfold isBk at q1 q2
    omega
  have ox : x < B i ∨ B i + 65 ≤ x := by have q2 := gB i hi; unfold isBk at q2; omega
  have oR : x + 132 < B i ∨ B i + 65 ≤ x + 132 := by have q2 := gB i hi; unfold isBk at q2; omega
  have sx := s.1.2.2 x (by omega) ox (Or.inl (by rw [g2]; omega))
  have sR := s.1.2.2 (x + 132) (by omega) oR (Or.inl (by rw [g8]; omega))
  have kx := s.1.2.1 x (by omega)
  have kR := s.1.2.1 (x + 132) (by omega)
  have xx := s.1.1.1
  refine ⟨⟨by omega, kx.1.trans g2, (sx.1 293).2.2.trans g3, (sx.1 294).2.2.trans g4, (sx.1 295).2.2.trans g5, (sx.1 296).1.trans g6, g7⟩, ⟨kR.1.trans g8, kR.2.trans g9, fun k hk => (sR.2 k).2.2.trans (g10 k hk)⟩, fun j hj => ?_, fun j M hj n c => ?_⟩
  · by_cases e : j = i
    · subst e; exact cw
    · obtain ⟨e1, e2, e3⟩ := s.sm (gw i hi).1 (gw j hj).1 gl (dj j hj e)
      exact (gw j hj).tf xx e1 e3
  · obtain ⟨e1, e2, e3⟩ := s.sm (gw i hi).1 (gw j hj).1 gl (dj j hj n)
    exact c.tf xx e1 e2 sl e3
theorem NetC.cw (c : NetC h b ls N) : CW h b ls := by
  obtain ⟨π, t, c1, c2, c3⟩ := c
  exact c1.cw c2.1
/-- a step of the net itself -/
theorem GC.net {B : Nat → Nat} {Ms : Nat → nT} {n : Nat} {M : nT} (g : GC h x B ls N Ms n) (s : CSt (B 0) ls h lt h1) (c : NetC h1 (B 0) lt M) : GC h1 x B lt M Ms n := by
  have sl : lnS h1 lt := by obtain ⟨π, t, c1, c2, c3⟩ := c; exact c1.2.1
  have q := g.step (by omega) s sl c.cw
  exact ⟨q.1, q.2.1, g.2.2.1, g.2.2.2.1, sl, q.2.2.1, c, fun k hk => q.2.2.2 _ _ (by have := g.1.2.2.2.2.2.2; omega) (by omega) (g.2.2.2.2.2.2.2 k hk)⟩
/-- a step of the paper -/
theorem GC.paper {B : Nat → Nat} {Ms : Nat → nT} {n : Nat} (g : GC h x B ls N Ms n) (s : CSt (B 1) ls h lt h1) (sl : lnS h1 lt) (c : CW h1 (B 1) lt) : GC h1 x B lt N Ms n := by
  have q := g.step (by omega) s sl c
  exact ⟨q.1, q.2.1, g.2.2.1, g.2.2.2.1, sl, q.2.2.1, q.2.2.2 _ _ (by omega) (by omega) g.2.2.2.2.2.2.1, fun k hk => q.2.2.2 _ _ (by have := g.1.2.2.2.2.2.2; omega) (by omega) (g.2.2.2.2.2.2.2 k hk)⟩
/-- x's own numbers -/
theorem GC.si {B : Nat → Nat} {Ms : Nat → nT} {n f p : Nat} {v : Int32} (g : GC h x B ls N Ms n) (nf : f ≠ 296 ∨ p ≠ x) (nl : f ≠ 98) (po : ∀ i, i < 5 → p < B i ∨ B i + 65 ≤ p) (pk : zk h p ≠ 6) : GC (zSi h f p v) x B ls N Ms n := by
  obtain ⟨⟨g1, g2, g3, g4, g5, g6, g7⟩, g8, gB, gD, gl, gw, gn, gm⟩ := g
  have sl : lnS (zSi h f p v) ls := gl.fr rfl (fun _ => rfl) (fun _ _ => rfl) (fun a => by rw [zi_Si, if_neg (fun q => nl q.1.symm)])
  have e1 : ∀ i, i < 5 → ∀ a, B i ≤ a → a < B i + 65 → SmA h (zSi h f p v) a := fun i hi a h1 h2 => SmA.si (by have := po i hi; omega)
  have e2 : ∀ i, i < 5 → ∀ k, k < 14 → ∀ q, q ∈ ls (lin (B i) k) → SmA h (zSi h f p v) q := fun i hi k hk q hq => SmA.si (fun e => by
    obtain ⟨j, hj⟩ := List.getElem?_of_mem hq
    exact pk (e ▸ ((gl.1 _ (lin_isL (gw i hi).1 hk)).2.2.2 j q hj).1.2))
  exact ⟨⟨g1, g2, g3, g4, g5, by rw [zi_Si, if_neg (by omega)]; exact g6, g7⟩, g8, gB, gD, sl, fun i hi => (gw i hi).tf (Nat.le_refl _) (e1 i hi) (fun _ _ => rfl), gn.tf (Nat.le_refl _) (e1 0 (by omega)) (e2 0 (by omega)) sl (fun _ _ => rfl), fun k hk => (gm k hk).tf (Nat.le_refl _) (e1 _ (by omega)) (e2 _ (by omega)) sl (fun _ _ => rfl)⟩
theorem GC.stat {B : Nat → Nat} {Ms : Nat → nT} {n : Nat} {v : Int32} (g : GC h x B ls N Ms n) : GC (zSi h 290 x v) x B ls N Ms n :=
  g.si (by omega) (by omega) (fun i hi => by have q := g.2.2.1 i hi; unfold isBk at q; omega) (by rw [g.1.2.1]; omega)
end GCs
