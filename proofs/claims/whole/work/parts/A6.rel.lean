section RLs
variable {l : Launch} {w : zW} {h y h1 h2 : zH} {x T0 k m : Nat} {B B' : Nat → Nat} {ls lt : Nat → List Nat} {N N1 N2 : nT} {Ms : Nat → nT} {n tp : Nat} {st s' fk fp : Int32}
theorem MoN.sm (r : MoN h m N) (S : ∀ a, m ≤ a → a < m + 6 → SmA h h1 a) : MoN h1 m N := by
  obtain ⟨⟨a0, ⟨b1, b2, b3⟩, ⟨c1, c2, c3⟩, ⟨d1, d2, d3⟩, ⟨e1, e2, e3⟩, ⟨f1, f2, f3⟩⟩, r2, r3, r4⟩ := r
  have s0 := S m (by omega) (by omega)
  have s1 := S (m + 1) (by omega) (by omega)
  have s2 := S (m + 2) (by omega) (by omega)
  have s3 := S (m + 3) (by omega) (by omega)
  have s4 := S (m + 4) (by omega) (by omega)
  have s5 := S (m + 5) (by omega) (by omega)
  refine ⟨⟨s0.1.1.trans a0, ⟨(s0.2.1 320).2.2.trans b1, s1.1.1.trans b2, s1.1.2.trans b3⟩, ⟨(s0.2.1 325).2.2.trans c1, s2.1.1.trans c2, s2.1.2.trans c3⟩, ⟨(s0.2.1 326).2.2.trans d1, s3.1.1.trans d2, s3.1.2.trans d3⟩, ⟨(s0.2.1 336).2.2.trans e1, s4.1.1.trans e2, s4.1.2.trans e3⟩, ⟨(s0.2.1 337).2.2.trans f1, s5.1.1.trans f2, s5.1.2.trans f3⟩⟩, ?_, (s0.2.1 323).1.trans r3, (s0.2.1 324).1.trans r4⟩
  rw [show zL h1 (m + 1) = zL h (m + 1) from funext fun i => (s1.2.2 i).2.1]
  exact r2
theorem Mo.k36 (M : Mo h m) {a : Nat} (h1 : m ≤ a) (h2 : a < m + 6) : zk h a ≠ 3 ∧ zk h a ≠ 6 := by
  obtain ⟨a0, ⟨b1, b2, b3⟩, ⟨c1, c2, c3⟩, ⟨d1, d2, d3⟩, ⟨e1, e2, e3⟩, ⟨f1, f2, f3⟩⟩ := M
  rcases (show a = m ∨ a = m + 1 ∨ a = m + 2 ∨ a = m + 3 ∨ a = m + 4 ∨ a = m + 5 by omega) with rfl | rfl | rfl | rfl | rfl | rfl
  · rw [a0]; omega
  · rw [b2]; omega
  · rw [c2]; omega
  · rw [d2]; omega
  · rw [e2]; omega
  · rw [f2]; omega
/-- the class where the model alone has moved -/
theorem GC.sm (g : GC h x B ls N Ms n) (hx : zx h1 = zx h) (kk : ∀ a, zk h1 a = zk h a) (Em : ∀ a, (a < x + 333 ∨ x + 339 ≤ a) → SmA h h1 a) (km : ∀ a, x + 333 ≤ a → a < x + 339 → zk h a ≠ 3 ∧ zk h a ≠ 6) : GC h1 x B ls N Ms n := by
  have po : ∀ i, i < 5 → B i + 65 ≤ x + 333 := fun i hi => by have q := g.2.2.1 i hi; unfold isBk at q; omega
  obtain ⟨⟨g1, g2, g3, g4, g5, g6, g7⟩, ⟨g8, g9, g10⟩, gB, gD, gl, gw, gn, gm⟩ := g
  have sx := Em x (Or.inl (by omega))
  have sR := Em (x + 132) (Or.inl (by omega))
  have ko : ∀ a, (zk h a = 3 ∨ zk h a = 6) → SmA h h1 a := fun a hk => Em a (by
    by_cases c1 : a < x + 333
    · exact Or.inl c1
    · by_cases c2 : x + 339 ≤ a
      · exact Or.inr c2
      · have q := km a (by omega) (by omega)
        exact hk.elim (fun e => absurd e q.1) (fun e => absurd e q.2))
  have sl : lnS h1 ls := gl.tf (by omega) (fun L hL => ⟨by rw [← hx]; exact hL.1, (kk L).symm.trans hL.2⟩) (fun a _ hk => ko a hk)
  have e1 : ∀ i, i < 5 → ∀ a, B i ≤ a → a < B i + 65 → SmA h h1 a := fun i hi a _ h2 => Em a (Or.inl (by have := po i hi; omega))
  have e2 : ∀ i, i < 5 → ∀ k, k < 14 → ∀ q, q ∈ ls (lin (B i) k) → SmA h h1 q := fun i hi k hk q hq => by
    obtain ⟨j, hj⟩ := List.getElem?_of_mem hq
    exact ko q (Or.inr ((gl.1 _ (lin_isL (gw i hi).1 hk)).2.2.2 j q hj).1.2)
  exact ⟨⟨by omega, sx.1.1.trans g2, (sx.2.1 293).2.2.trans g3, (sx.2.1 294).2.2.trans g4, (sx.2.1 295).2.2.trans g5, (sx.2.1 296).1.trans g6, g7⟩, ⟨sR.1.1.trans g8, sR.1.2.trans g9, fun k hk => (sR.2.2 k).2.2.trans (g10 k hk)⟩, gB, gD, sl, fun i hi => (gw i hi).tf (by omega) (e1 i hi) (fun _ _ => rfl), gn.tf (by omega) (e1 0 (by omega)) (e2 0 (by omega)) sl (fun _ _ => rfl), fun k hk => (gm k hk).tf (by omega) (e1 _ (by omega)) (e2 _ (by omega)) sl (fun _ _ => rfl)⟩
theorem GC.u3 {v : Int} (g : GC h x B ls N Ms n) : GC h x B ls (uA N 3 v) Ms n := ⟨g.1, g.2.1, g.2.2.1, g.2.2.2.1, g.2.2.2.2.1, g.2.2.2.2.2.1, g.2.2.2.2.2.2.1.u3, g.2.2.2.2.2.2.2⟩
/-- the class's other numbers; the model's; the counts; what stays small -/
def CF (h : zH) (x tp : Nat) (st fk fp : Int32) : Prop := (TpF h x 9 288 (x + 1) 289 tp ∧ tp ≤ 600) ∧ ((zr h 297 x = some (x + 328) ∧ zk h (x + 328) = 8) ∧ zr h 298 x = some (x + 329) ∧ BsO h (x + 329)) ∧ zi h 290 x = st ∧ zi h 291 x = fk ∧ zi h 292 x = fp
def MF (h : zH) (x n tp : Nat) (Ms : Nat → nT) (st fk fp : Int32) : Prop := (MkR (zL h (x + 334)) n Ms ∧ zi h 322 (x + 333) = nI n) ∧ zi h 327 (x + 333) = nI tp ∧ zi h 321 (x + 333) = st ∧ zi h 335 (x + 333) = fk ∧ zi h 334 (x + 333) = fp
def CN (x T0 : Nat) (h : zH) : Prop := x + 339 ≤ zx h ∧ (zx h : Int) ≤ (x : Int) + 339 + mdS x h ∧ zt h + 10 * x + 3390 = T0 + 10 * zx h
def BD (k : Nat) (N : nT) : Prop := nA N 2 ≤ 60 * (k : Int) ∧ nA N 7 = 0
def RD (x T0 : Nat) (h : zH) (k : Nat) (B : Nat → Nat) (ls : Nat → List Nat) (N : nT) (Ms : Nat → nT) (n tp : Nat) (st fk fp : Int32) : Prop := GC h x B ls N Ms n ∧ CF h x tp st fk fp ∧ MoN h (x + 333) N ∧ MF h x n tp Ms st fk fp ∧ (∀ i, zI h (x + 335) i = zI h (x + 1) i) ∧ (BD k N ∧ ∀ j, j < n → BD k (Ms j)) ∧ CN x T0 h
def RLa (x T0 : Nat) (h : zH) (k : Nat) : Prop := ∃ B ls N Ms n tp st fk fp, RD x T0 h k B ls N Ms n tp st fk fp
/-- what the class's calls leave; what the model's leave -/
def CK (x : Nat) (h h1 : zH) : Prop := (zx h ≤ zx h1 ∧ zt h1 + 10 * zx h = zt h + 10 * zx h1 ∧ (zx h1 : Int) + mdS x h ≤ (zx h : Int) + mdS x h1) ∧ ∀ a, a < zx h → (a < x ∨ x + 333 ≤ a) → zk h a ≠ 6 → SmA h h1 a
def MK (x : Nat) (h h1 : zH) : Prop := (zx h1 = zx h ∧ zt h1 = zt h) ∧ (∀ a, zk h1 a = zk h a ∧ zn h1 a = zn h a) ∧ ∀ a, (a < x + 333 ∨ x + 339 ≤ a) → SmA h h1 a
abbrev E3 (x : Nat) : Nat → Prop := fun a => x + 330 ≤ a ∧ a ≤ x + 332
theorem OtX.ck (O : OtX x (E3 x) h h1) : CK x h h1 := ⟨O.1, fun a ha ho hk => O.2.2.2 a ha (by omega) (fun e => by have e1 : x + 330 ≤ a ∧ a ≤ x + 332 := e; omega) hk⟩
theorem OtL.ck (O : OtL x h h1) : CK x h h1 := ⟨O.1, fun a ha ho hk => O.2.2.2 a ha (by omega) hk⟩
theorem OtX.e3 (O : OtX x (fun _ => False) h h1) : OtX x (E3 x) h h1 := ⟨O.1, O.2.1, O.2.2.1, fun a ha ho _ hk => O.2.2.2 a ha ho (fun f => f) hk⟩
theorem CN.ck (c : CN x T0 h) (C : CK x h h1) : CN x T0 h1 := by
  obtain ⟨c1, c2, c3⟩ := c
  obtain ⟨⟨d1, d2, d3⟩, -⟩ := C
  refine ⟨Nat.le_trans c1 d1, by omega, ?_⟩
  clear c2 d3
  omega
theorem BD.up (b : BD k N) : BD (k + 1) N := ⟨by have := b.1; omega, b.2⟩
/-- behind the class's call the model is as it was -/
theorem RD.cls (R : RD x T0 h k B ls N Ms n tp st fk fp) (C : CK x h h1) : MoN h1 (x + 333) N ∧ MF h1 x n tp Ms st fk fp ∧ (∀ i, zI h1 (x + 335) i = zI h (x + 1) i) ∧ CN x T0 h1 := by
  obtain ⟨g, F, r, f, e, b, c⟩ := R
  have S : ∀ a, x + 333 ≤ a → a < x + 333 + 6 → SmA h h1 a := fun a h1 h2 => C.2 a (by have := c.1; omega) (Or.inr h1) (r.1.k36 h1 h2).2
  have s0 := S (x + 333) (by omega) (by omega)
  have s1 := S (x + 334) (by omega) (by omega)
  have s2 := S (x + 335) (by omega) (by omega)
  refine ⟨r.sm S, ⟨⟨?_, (s0.2.1 322).1.trans f.1.2⟩, (s0.2.1 327).1.trans f.2.1, (s0.2.1 321).1.trans f.2.2.1, (s0.2.1 335).1.trans f.2.2.2.1, (s0.2.1 334).1.trans f.2.2.2.2⟩, fun i => (s2.2.2 i).1.trans (e i), c.ck C⟩
  rw [show zL h1 (x + 334) = zL h (x + 334) from funext fun i => (s1.2.2 i).2.1]
  exact f.1.1
theorem MK.md (K : MK x h h1) : mdS x h1 = mdS x h := by
  unfold mdS
  rw [((K.2.2 (x + 2) (by omega)).2.1 167).1, ((K.2.2 (x + 67) (by omega)).2.1 167).1, ((K.2.2 (x + 133) (by omega)).2.1 167).1, ((K.2.2 (x + 198) (by omega)).2.1 167).1, ((K.2.2 (x + 263) (by omega)).2.1 167).1]
/-- behind the model's call the class is as it was -/
theorem RD.mod (hM : Mo h (x + 333)) (g : GC h x B ls N Ms n) (F : CF h x tp st fk fp) (c : CN x T0 h) (K : MK x h h1) : GC h1 x B ls N Ms n ∧ CF h1 x tp st fk fp ∧ CN x T0 h1 ∧ ∀ i, zI h1 (x + 1) i = zI h (x + 1) i := by
  have sx := K.2.2 x (by omega)
  have s1 := K.2.2 (x + 1) (by omega)
  have sb := K.2.2 (x + 329) (by omega)
  obtain ⟨⟨⟨t1, t2, t3, t4, t5⟩, t6⟩, ⟨⟨r1, r2⟩, b1, ⟨o0, ⟨o1, o2, o3⟩, ⟨o4, o5, o6⟩, o7, o8, o9⟩⟩, f1, f2, f3⟩ := F
  refine ⟨g.sm K.1.1 (fun a => (K.2.1 a).1) K.2.2 (fun a h1 h2 => hM.k36 h1 (by omega)), ⟨⟨⟨sx.1.1.trans t1, (sx.2.1 288).2.2.trans t2, s1.1.1.trans t3, s1.1.2.trans t4, (sx.2.1 289).1.trans t5⟩, t6⟩, ⟨⟨(sx.2.1 297).2.2.trans r1, (K.2.1 _).1.trans r2⟩, (sx.2.1 298).2.2.trans b1, ⟨sb.1.1.trans o0, ⟨(sb.2.1 0).2.2.trans o1, (K.2.1 _).1.trans o2, (K.2.1 _).2.trans o3⟩, ⟨(sb.2.1 1).2.2.trans o4, (K.2.1 _).1.trans o5, (K.2.1 _).2.trans o6⟩, (sb.2.1 2).2.2.trans o7, (K.2.1 _).1.trans o8, (K.2.1 _).2.trans o9⟩⟩, (sx.2.1 290).1.trans f1, (sx.2.1 291).1.trans f2, (sx.2.1 292).1.trans f3⟩, ⟨by rw [K.1.1]; exact c.1, by rw [K.1.1, K.md]; exact c.2.1, by rw [K.1.1, K.1.2]; exact c.2.2⟩, fun i => (s1.2.2 i).1⟩
/-- the class's other numbers behind a call of the class -/
theorem CF.ox (F : CF h x tp st fk fp) (O : OtX x (E3 x) h h1) (hz : x + 333 ≤ zx h) (e : zi h1 290 x = s') : CF h1 x tp s' fk fp := by
  obtain ⟨⟨⟨t1, t2, t3, t4, t5⟩, t6⟩, ⟨⟨r1, r2⟩, b1, ⟨o0, ⟨o1, o2, o3⟩, ⟨o4, o5, o6⟩, o7, o8, o9⟩⟩, f1, f2, f3⟩ := F
  obtain ⟨-, k, ⟨v1, v2⟩, S⟩ := O
  have sb := S (x + 329) (by omega) (by omega) (fun e => by have e1 : x + 330 ≤ x + 329 ∧ x + 329 ≤ x + 332 := e; omega) (by rw [o0]; omega)
  exact ⟨⟨⟨(k x (by omega)).1.trans t1, (v2 288 (by omega)).trans t2, (k _ (by omega)).1.trans t3, (k _ (by omega)).2.trans t4, (v1 289 (by omega) (by omega)).trans t5⟩, t6⟩, ⟨⟨(v2 297 (by omega)).trans r1, (k _ (by omega)).1.trans r2⟩, (v2 298 (by omega)).trans b1, ⟨sb.1.1.trans o0, ⟨(sb.2.1 0).2.2.trans o1, (k _ (by omega)).1.trans o2, (k _ (by omega)).2.trans o3⟩, ⟨(sb.2.1 1).2.2.trans o4, (k _ (by omega)).1.trans o5, (k _ (by omega)).2.trans o6⟩, (sb.2.1 2).2.2.trans o7, (k _ (by omega)).1.trans o8, (k _ (by omega)).2.trans o9⟩⟩, e, (v1 291 (by omega) (by omega)).trans f2, (v1 292 (by omega) (by omega)).trans f3⟩
theorem OtX.tape (O : OtX x (E3 x) h h1) (hz : x + 333 ≤ zx h) (hk : zk h (x + 1) = 20) (i : Nat) : zI h1 (x + 1) i = zI h (x + 1) i := ((O.2.2.2 (x + 1) (by omega) (by omega) (fun e => by have e1 : x + 330 ≤ x + 1 ∧ x + 1 ≤ x + 332 := e; omega) (by rw [hk]; omega)).2.2 i).1
theorem FrQ.mk (Q : FrQ (x + 333) h h1) : MK x h h1 := ⟨Q.1, Q.2.1, fun a ha => ⟨Q.2.1 a, fun f => ⟨Q.2.2.2.2.1 f a (Or.inr (by omega)), (Q.2.2.1 f a).2, (Q.2.2.1 f a).1⟩, fun i => ⟨Q.2.2.2.2.2.1 a i (by omega), Q.2.2.2.2.2.2.1 a i (by omega) (by omega), Q.2.2.2.1 a i⟩⟩⟩
theorem FrL.mk (Q : FrL (x + 333) h h1) : MK x h h1 := ⟨Q.1, Q.2.1, fun a ha => ⟨Q.2.1 a, fun f => ⟨Q.2.2.2.2.1 f a (Or.inl (by omega)), (Q.2.2.1 f a).2, (Q.2.2.1 f a).1⟩, fun i => ⟨Q.2.2.2.2.2.1 a i (by omega), Q.2.2.2.2.2.2.1 a i (by omega), Q.2.2.2.1 a i⟩⟩⟩
theorem MK.tr (p : MK x h y) (q : MK x y h1) : MK x h h1 := ⟨⟨q.1.1.trans p.1.1, q.1.2.trans p.1.2⟩, fun a => ⟨(q.2.1 a).1.trans (p.2.1 a).1, (q.2.1 a).2.trans (p.2.1 a).2⟩, fun a ha => (p.2.2 a ha).tr (q.2.2 a ha)⟩
theorem MK.si {f : Nat} {v : Int32} : MK x h (zSi h f (x + 333) v) := ⟨⟨rfl, rfl⟩, fun _ => ⟨rfl, rfl⟩, fun a ha => SmA.si (by omega)⟩
theorem MK.sg {g : Nat → Int64} : MK x h (zSG h (x + 334) g) := ⟨⟨rfl, rfl⟩, fun _ => ⟨rfl, rfl⟩, fun a ha => ⟨⟨rfl, rfl⟩, fun _ => ⟨rfl, rfl, rfl⟩, fun i => ⟨rfl, if_neg (by omega), rfl⟩⟩⟩
theorem MF.q (f : MF h x n tp Ms st fk fp) (Q : FrQ (x + 333) h h1) (e : zi h1 321 (x + 333) = s') : MF h1 x n tp Ms s' fk fp := ⟨⟨f.1.1.cg (fun j h1 _ => Q.2.2.2.2.2.2.2 j h1), (Q.2.2.2.2.1 322 _ (Or.inl (by omega))).trans f.1.2⟩, (Q.2.2.2.2.1 327 _ (Or.inl (by omega))).trans f.2.1, e, (Q.2.2.2.2.1 335 _ (Or.inl (by omega))).trans f.2.2.2.1, (Q.2.2.2.2.1 334 _ (Or.inl (by omega))).trans f.2.2.2.2⟩
/-- one call of both: the same answer, and the relation again -/
def St (l : Launch) (w : zW) (x T0 k : Nat) (h : zH) (MC MM : zMe) (as : List Value) : Prop := ∃ (a : Int32) (h1 h2 : zH), zC l w MC (.ref x :: as) h (some (.int a)) h1 ∧ zC l w MM (.ref (x + 333) :: as) h1 (some (.int a)) h2 ∧ zk h1 (x + 333) = 10 ∧ RLa x T0 h2 (k + 1)
theorem RD.up (b : BD k N ∧ ∀ j, j < n → BD k (Ms j)) : ∀ j, j < n → BD (k + 1) (Ms j) := fun j hj => (b.2 j hj).up
/-- calls that leave marks, tape and faults as they are -/
theorem RD.norm {MC MM : zMe} {as : List Value} {a : Int32} {r1 : Int} (R : RD x T0 h k B ls N Ms n tp st fk fp) (c1 : zC l w MC (.ref x :: as) h (some (.int a)) h1) (g1 : GC h1 x B' lt N1 Ms n) (O : OtX x (E3 x) h h1) (s1 : zi h1 290 x = jI r1) (b1 : BD (k + 1) N1)
    (hM : MoN h1 (x + 333) N → zi h1 322 (x + 333) = nI n → zM l w MM (.ref (x + 333) :: as) h1 (fun u h2 => u = some (.int a) ∧ zi h2 321 (x + 333) = jI r1 ∧ (∃ N2, MoN h2 (x + 333) N2 ∧ (N2 = N1 ∨ ∃ v, N2 = uA N1 3 v)) ∧ FrQ (x + 333) h1 h2)) : St l w x T0 k h MC MM as := by
  have hz : x + 333 ≤ zx h := R.1.1.1
  obtain ⟨q1, q2, q3, q4⟩ := R.cls O.ck
  obtain ⟨v, h2, c2, rfl, s2, ⟨N2, r2, hN⟩, Q⟩ := hM q1 q2.1.2
  have F1 := R.2.1.ox O hz s1
  obtain ⟨p1, p2, p3, p4⟩ := RD.mod q1.1 g1 F1 q4 Q.mk
  refine ⟨a, h1, h2, c1, c2, q1.1.1, B', lt, N2, Ms, n, tp, _, fk, fp, ?_, p2, r2, q2.q Q s2, fun i => ?_, ⟨?_, RD.up R.2.2.2.2.2.1⟩, p3⟩
  · rcases hN with rfl | ⟨v, rfl⟩
    · exact p1
    · exact p1.u3
  · rw [Q.2.2.2.2.2.1 _ i (by omega), q3 i, p4 i, O.tape hz R.2.1.1.1.2.2.1 i]
  · rcases hN with rfl | ⟨v, rfl⟩
    · exact b1
    · exact ⟨by rw [nA_ne (by omega)]; exact b1.1, by rw [nA_ne (by omega)]; exact b1.2⟩
/-- a query -/
theorem RD.qry {MC MM : zMe} {as : List Value} {q : Int × Int} (R : RD x T0 h k B ls N Ms n tp st fk fp) (hC : zM l w MC (.ref x :: as) h (fun u h1 => u = some (.int (jI q.2)) ∧ h1 = zSi h 290 x (jI q.1)))
    (hM : ∀ h1, MoN h1 (x + 333) N → zi h1 322 (x + 333) = nI n → zM l w MM (.ref (x + 333) :: as) h1 (fun u h2 => u = some (.int (jI q.2)) ∧ h2 = zSi h1 321 (x + 333) (jI q.1))) : St l w x T0 k h MC MM as := by
  obtain ⟨v, h1, c1, rfl, e1⟩ := hC
  subst e1
  refine R.norm c1 R.1.stat (OtX.si (Or.inl rfl)) zi_same R.2.2.2.2.2.1.1.up (fun r e => (hM _ r e).mono (fun u h2 q => ⟨q.1, by rw [q.2]; exact zi_same, ⟨N, by rw [q.2]; exact r.s321, Or.inl rfl⟩, by rw [q.2]; exact FrQ.si (Or.inl rfl)⟩))
/-- a call that changes numbers -/
theorem RD.chg {MC MM : zMe} {as : List Value} {r : nT × Int × Int} {π : Nat → Nat} {t : Nat} (R : RD x T0 h k B ls N Ms n tp st fk fp) (hC : zM l w MC (.ref x :: as) h (PC h x (B 0) π ls t r))
    (hM : ∀ h1, MoN h1 (x + 333) N → zM l w MM (.ref (x + 333) :: as) h1 (PM h1 (x + 333) r)) (hI : iT r.1) (h2 : nA N 2 = ((t : Nat) : Int)) (e2 : nA r.1 2 = nA N 2) (e7 : nA r.1 7 = nA N 7) : St l w x T0 k h MC MM as := by
  obtain ⟨v, h1, c1, rfl, y, cx, cs, e1⟩ := hC
  have g0 : GC y x B ls r.1 Ms n := R.1.net cs ⟨π, t, cx, hI, e2.trans h2⟩
  have b := R.2.2.2.2.2.1.1
  subst e1
  refine R.norm c1 g0.stat ((OtX.cst R.1 (by omega) cs).tr (OtX.si (Or.inl rfl))) zi_same ⟨by rw [e2]; exact b.up.1, by rw [e7]; exact b.2⟩ (fun r0 _ => (hM _ r0).mono (fun u h2 q => ?_))
  obtain ⟨q1, y1, q2, q3, q4⟩ := q
  exact ⟨q1, by rw [q4]; exact zi_same, ⟨r.1, by rw [q4]; exact q2.s321, Or.inl rfl⟩, by rw [q4]; exact q3.q.tr (FrQ.si (Or.inl rfl))⟩
/-- a call on paper -/
theorem RD.pap {MC MM : zMe} {as : List Value} {r : Int × Int} (R : RD x T0 h k B ls N Ms n tp st fk fp) (hC : zM l w MC (.ref x :: as) h (fun u h1 => u = some (.int (jI r.2)) ∧ zi h1 290 x = jI r.1 ∧ (∃ lt, GC h1 x B lt N Ms n) ∧ OtX x (E3 x) h h1))
    (hM : ∀ h1, MoN h1 (x + 333) N → zM l w MM (.ref (x + 333) :: as) h1 (PPm h1 (x + 333) N r)) : St l w x T0 k h MC MM as := by
  obtain ⟨v, h1, c1, rfl, s1, ⟨lt, g1⟩, O⟩ := hC
  refine R.norm c1 g1 O s1 R.2.2.2.2.2.1.1.up (fun r0 _ => (hM _ r0).mono (fun u h2 q => ?_))
  obtain ⟨q1, q2, ⟨v, q3⟩, q4⟩ := q
  exact ⟨q1, q2, ⟨_, q3, Or.inr ⟨v, rfl⟩⟩, q4⟩
end RLs
