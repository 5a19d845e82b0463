section CALLSb
variable {l : Launch} {w : zW} {h h0 y h1 h2 : zH} {x T0 k m : Nat} {B B' : Nat → Nat} {ls lt : Nat → List Nat} {N N1 N2 : nT} {Ms Ms' : Nat → nT} {n n' tp tp' : Nat} {st s' fk fp fk' fp' : Int32}
theorem RD.upk (R : RD x T0 h k B ls N Ms n tp st fk fp) : RLa x T0 h (k + 1) := ⟨B, ls, N, Ms, n, tp, st, fk, fp, R.1, R.2.1, R.2.2.1, R.2.2.2.1, R.2.2.2.2.1, ⟨R.2.2.2.2.2.1.1.up, RD.up R.2.2.2.2.2.1⟩, R.2.2.2.2.2.2⟩
theorem twoX_status (R : RD x T0 h k B ls N Ms n tp st fk fp) : St l w x T0 k h mX9_status mX10_status [] := by
  obtain ⟨v, h1, c1, rfl, e1⟩ := c_statusC (l := l) (w := w) R.1.1.2.1
  subst e1
  obtain ⟨v, h2, c2, rfl, e2⟩ := c_statusM (l := l) (w := w) R.2.2.1.1.1
  subst e2
  rw [R.2.1.2.2.1] at c1
  rw [R.2.2.2.1.2.2.1] at c2
  exact ⟨st, _, _, c1, c2, R.2.2.1.1.1, R.upk⟩
theorem twoX_fault {v1 : Int32} (R : RD x T0 h k B ls N Ms n tp st fk fp) : St l w x T0 k h mX9_fault mX10_fault [.int v1] := by
  obtain ⟨z1, rfl, b1⟩ := i32 v1
  obtain ⟨v, h1, c1, rfl, e1⟩ := c_faultC (l := l) (w := w) R.1.1.2.1 b1
  subst e1
  obtain ⟨v, h2, c2, rfl, e2⟩ := c_faultM (l := l) (w := w) R.2.2.1.1.1 b1
  subst e2
  rw [R.2.1.2.2.2.1, R.2.1.2.2.2.2] at c1
  rw [R.2.2.2.1.2.2.2.1, R.2.2.2.1.2.2.2.2] at c2
  exact ⟨_, _, _, c1, c2, R.2.2.1.1.1, R.upk⟩
/-- feed: byte by byte -/
theorem CK.rf : CK x h h := ⟨⟨Nat.le_refl _, rfl, Int.le_refl _⟩, fun _ _ _ _ => SmA.rf⟩
theorem CK.tr (p : CK x h y) (q : CK x y h1) : CK x h h1 := by
  obtain ⟨⟨p1, p2, p3⟩, p4⟩ := p
  obtain ⟨⟨q1, q2, q3⟩, q4⟩ := q
  exact ⟨⟨Nat.le_trans p1 q1, by omega, by omega⟩, fun a ha ho hk => (p4 a ha ho hk).tr (q4 a (by omega) ho (by rw [(p4 a ha ho hk).1.1]; exact hk))⟩
theorem SmA.sI {a i p : Nat} {v : Int32} (n : a ≠ p) : SmA h (zSI h p i v) a := ⟨⟨rfl, rfl⟩, fun _ => ⟨rfl, rfl, rfl⟩, fun j => ⟨by rw [zI_SI, if_neg (fun q => n q.1)], rfl, rfl⟩⟩
theorem CK.pby {j : Nat} {v : Int32} : CK x h (pb h (x + 1) 289 x j v) := ⟨⟨Nat.le_refl _, rfl, by unfold pb; rw [mdS_si (by omega)]; exact Int.le_refl _⟩, fun a _ ho _ => (SmA.sI (by omega)).tr (SmA.si (by omega))⟩
theorem GC.pby {j : Nat} {v : Int32} (g : GC h x B ls N Ms n) (hk : zk h (x + 1) = 20) : GC (pb h (x + 1) 289 x j v) x B ls N Ms n :=
  GC.xsi (g.ono (o := x + 1) (y := zSI h (x + 1) j v) ⟨⟨rfl, rfl⟩, fun _ => ⟨rfl, rfl⟩, fun a ha => SmA.sI ha⟩ (by rw [hk]; omega) ⟨by omega, by omega, fun i hi => by have q := g.2.2.1 i hi; unfold isBk at q; omega⟩) (by omega)
theorem CF.pby {v : Int32} (F : CF h x tp st fk fp) (t6 : tp + 1 ≤ 600) : CF (pb h (x + 1) 289 x tp v) x (tp + 1) st fk fp := ⟨⟨F.1.1.pb, t6⟩, F.2.1, by unfold pb; rw [zi_Si, if_neg (by omega)]; exact F.2.2.1, by unfold pb; rw [zi_Si, if_neg (by omega)]; exact F.2.2.2.1, by unfold pb; rw [zi_Si, if_neg (by omega)]; exact F.2.2.2.2⟩
def XC (x : Nat) (B : Nat → Nat) (ls : Nat → List Nat) (N : nT) (Ms : Nat → nT) (n : Nat) (st fk fp : Int32) (h0 h : zH) (tp : Nat) : Prop := GC h x B ls N Ms n ∧ CF h x tp st fk fp ∧ CK x h0 h
theorem XC.pby {v : Int32} (X : XC x B ls N Ms n st fk fp h0 h tp) (t6 : tp + 1 ≤ 600) : XC x B ls N Ms n st fk fp h0 (pb h (x + 1) 289 x tp v) (tp + 1) := ⟨X.1.pby X.2.1.1.1.2.2.1, X.2.1.pby t6, X.2.2.tr CK.pby⟩
theorem XC.p4 {v : Int32} (X : XC x B ls N Ms n st fk fp h0 h tp) (t6 : tp + 4 ≤ 600) : XC x B ls N Ms n st fk fp h0 (put4 h (x + 1) 289 x tp v) (tp + 4) := (((X.pby (by omega)).pby (by omega)).pby (by omega)).pby (by omega)
theorem XC.p20 {v1 v2 v3 v4 v5 : Int32} (X : XC x B ls N Ms n st fk fp h0 h tp) (t6 : tp ≤ 580) : XC x B ls N Ms n st fk fp h0 (put20 h (x + 1) 289 x tp v1 v2 v3 v4 v5) (tp + 20) := ((((X.p4 (by omega)).p4 (by omega)).p4 (by omega)).p4 (by omega)).p4 (by omega)
theorem MoN.pby {j : Nat} {v : Int32} (r : MoN h (x + 333) N) : MoN (pb h (x + 335) 327 (x + 333) j v) (x + 333) N := ⟨r.1, r.2.1, by unfold pb; rw [zi_Si, if_neg (by omega)]; exact r.2.2.1, by unfold pb; rw [zi_Si, if_neg (by omega)]; exact r.2.2.2⟩
def XM (x : Nat) (N : nT) (Ms : Nat → nT) (n : Nat) (st fk fp : Int32) (h0 h : zH) (tp : Nat) : Prop := MoN h (x + 333) N ∧ MF h x n tp Ms st fk fp ∧ MK x h0 h
theorem MK.rf : MK x h h := ⟨⟨rfl, rfl⟩, fun _ => ⟨rfl, rfl⟩, fun _ _ => SmA.rf⟩
theorem MK.sI {j : Nat} {v : Int32} : MK x h (zSI h (x + 335) j v) := ⟨⟨rfl, rfl⟩, fun _ => ⟨rfl, rfl⟩, fun a ha => SmA.sI (by omega)⟩
theorem XM.p1 {v : Int32} (X : XM x N Ms n st fk fp h0 h tp) : XM x N Ms n st fk fp h0 (pb h (x + 335) 327 (x + 333) tp v) (tp + 1) := ⟨X.1.pby, ⟨⟨X.2.1.1.1, by unfold pb; rw [zi_Si, if_neg (by omega)]; exact X.2.1.1.2⟩, pb_n, by unfold pb; rw [zi_Si, if_neg (by omega)]; exact X.2.1.2.2.1, by unfold pb; rw [zi_Si, if_neg (by omega)]; exact X.2.1.2.2.2.1, by unfold pb; rw [zi_Si, if_neg (by omega)]; exact X.2.1.2.2.2.2⟩, X.2.2.tr (MK.sI.tr MK.si)⟩
theorem XM.p4 {v : Int32} (X : XM x N Ms n st fk fp h0 h tp) : XM x N Ms n st fk fp h0 (put4 h (x + 335) 327 (x + 333) tp v) (tp + 4) := X.p1.p1.p1.p1
theorem XM.p20 {v1 v2 v3 v4 v5 : Int32} (X : XM x N Ms n st fk fp h0 h tp) : XM x N Ms n st fk fp h0 (put20 h (x + 335) 327 (x + 333) tp v1 v2 v3 v4 v5) (tp + 20) := X.p4.p4.p4.p4.p4
theorem pb_cg {a b f c f' c' j : Nat} {v : Int32} (e : ∀ i, zI y b i = zI h a i) (i : Nat) : zI (pb y b f' c' j v) b i = zI (pb h a f c j v) a i := by
  unfold pb
  rw [zI_Si, zI_Si, zI_SI, zI_SI, e i]
  by_cases q : i = j
  · rw [if_pos ⟨rfl, q⟩, if_pos ⟨rfl, q⟩]
  · rw [if_neg (fun z => q z.2), if_neg (fun z => q z.2)]
theorem put4_cg {a b f c f' c' j : Nat} {v : Int32} (e : ∀ i, zI y b i = zI h a i) : ∀ i, zI (put4 y b f' c' j v) b i = zI (put4 h a f c j v) a i := pb_cg (pb_cg (pb_cg (pb_cg e)))
theorem put20_cg {a b f c f' c' j : Nat} {v1 v2 v3 v4 v5 : Int32} (e : ∀ i, zI y b i = zI h a i) : ∀ i, zI (put20 y b f' c' j v1 v2 v3 v4 v5) b i = zI (put20 h a f c j v1 v2 v3 v4 v5) a i := put4_cg (put4_cg (put4_cg (put4_cg (put4_cg e))))
/-- the relation again, out of its pieces -/
theorem RD.fin (R : RD x T0 h k B ls N Ms n tp st fk fp) (C : CK x h h1) (g1 : GC h1 x B' lt N1 Ms' n') (F1 : CF h1 x tp' s' fk' fp') (K : MK x h1 h2) (r2 : MoN h2 (x + 333) N2) (hN : N2 = N1 ∨ ∃ v, N2 = uA N1 3 v) (f2 : MF h2 x n' tp' Ms' s' fk' fp') (e : ∀ i, zI h2 (x + 335) i = zI h1 (x + 1) i) (b1 : BD (k + 1) N1) (bm : ∀ j, j < n' → BD (k + 1) (Ms' j)) : RLa x T0 h2 (k + 1) := by
  obtain ⟨q1, q2, q3, q4⟩ := R.cls C
  obtain ⟨p1, p2, p3, p4⟩ := RD.mod q1.1 g1 F1 q4 K
  refine ⟨B', lt, N2, Ms', n', tp', _, fk', fp', ?_, p2, r2, f2, fun i => (e i).trans (p4 i).symm, ⟨?_, bm⟩, p3⟩
  · rcases hN with rfl | ⟨v, rfl⟩
    · exact p1
    · exact p1.u3
  · rcases hN with rfl | ⟨v, rfl⟩
    · exact b1
    · exact ⟨by rw [nA_ne (by omega)]; exact b1.1, by rw [nA_ne (by omega)]; exact b1.2⟩
theorem twoX_feed {v1 v2 v3 v4 v5 : Int32} (R : RD x T0 h k B ls N Ms n tp st fk fp) : St l w x T0 k h mX9_feed mX10_feed [.int v1, .int v2, .int v3, .int v4, .int v5] := by
  have T2 : TpF h (x + 333) 10 325 (x + 333 + 2) 327 tp := ⟨R.2.2.1.1.1, R.2.2.1.1.2.2.1.1, R.2.2.1.1.2.2.1.2.1, R.2.2.1.1.2.2.1.2.2, R.2.2.2.1.2.1⟩
  obtain ⟨v, h1, c1, rfl, e1⟩ := c_feedC (l := l) (w := w) (v1 := v1) (v2 := v2) (v3 := v3) (v4 := v4) (v5 := v5) R.2.1.1.1 R.2.1.1.2
  by_cases c : tp ≤ 580
  · rw [if_pos c] at e1 c1
    have XC0 : XC x B ls N Ms n st fk fp h h1 (tp + 20) := by rw [e1]; exact XC.p20 ⟨R.1, R.2.1, CK.rf⟩ c
    obtain ⟨q1, q2, q3, q4⟩ := R.cls XC0.2.2
    have T3 : TpF h1 (x + 333) 10 325 (x + 333 + 2) 327 tp := ⟨q1.1.1, q1.1.2.2.1.1, q1.1.2.2.1.2.1, q1.1.2.2.1.2.2, q2.2.1⟩
    obtain ⟨v, h2, c2, rfl, e2⟩ := c_feedM (l := l) (w := w) (v1 := v1) (v2 := v2) (v3 := v3) (v4 := v4) (v5 := v5) T3 R.2.1.1.2
    rw [if_pos c] at e2 c2
    have XM0 : XM x N Ms n st fk fp h1 h2 (tp + 20) := by rw [e2]; exact XM.p20 ⟨q1, q2, MK.rf⟩
    refine ⟨_, h1, h2, c1, c2, q1.1.1, R.fin XC0.2.2 XC0.1 XC0.2.1 XM0.2.2 XM0.1 (Or.inl rfl) XM0.2.1 ?_ R.2.2.2.2.2.1.1.up (RD.up R.2.2.2.2.2.1)⟩
    intro i
    rw [e2, e1]
    refine put20_cg (fun i => ?_) i
    rw [← e1]
    exact q3 i
  · rw [if_neg c] at e1 c1
    subst e1
    obtain ⟨v, h2, c2, rfl, e2⟩ := c_feedM (l := l) (w := w) (v1 := v1) (v2 := v2) (v3 := v3) (v4 := v4) (v5 := v5) T2 R.2.1.1.2
    rw [if_neg c] at e2 c2
    subst e2
    exact ⟨_, _, _, c1, c2, R.2.2.1.1.1, R.upk⟩
theorem MoN.s322 {v : Int32} (r : MoN h m N) : MoN (zSi h 322 m v) m N := ⟨r.1, r.2.1, by rw [zi_Si, if_neg (by omega)]; exact r.2.2.1, by rw [zi_Si, if_neg (by omega)]; exact r.2.2.2⟩
theorem twoX_mark (R : RD x T0 h k B ls N Ms n tp st fk fp) : St l w x T0 k h mX9_mark mX10_mark [] := by
  have n3 := R.n3
  have hz : x + 333 ≤ zx h := R.1.1.1
  obtain ⟨v, h1, c1, Q1⟩ := c_markC (l := l) (w := w) R.1
  by_cases c : n = 3
  · rw [if_pos c] at Q1
    obtain ⟨rfl, e1⟩ := Q1
    subst e1
    refine R.norm (r1 := 3) c1 R.1.stat (OtX.si (Or.inl rfl)) (zi_same.trans (jI_nat 3).symm) R.2.2.2.2.2.1.1.up (fun r e => (c_markM r.1 e n3).mono (fun u h2 q => ?_))
    rw [if_pos c] at q
    exact ⟨q.1, by rw [q.2]; exact zi_same.trans (jI_nat 3).symm, ⟨N, by rw [q.2]; exact r.s321, Or.inl rfl⟩, by rw [q.2]; exact FrQ.si (Or.inl rfl)⟩
  · rw [if_neg c] at Q1
    obtain ⟨rfl, s1, ⟨lt, g1⟩, O⟩ := Q1
    have O := O.e3
    obtain ⟨q1, q2, q3, q4⟩ := R.cls O.ck
    obtain ⟨v, h2, c2, Q2⟩ := c_markM (l := l) (w := w) q1.1 q2.1.2 n3
    rw [if_neg c] at Q2
    obtain ⟨rfl, e2⟩ := Q2
    have ft : nFit N := R.iT.fit
    refine ⟨_, h1, h2, c1, c2, q1.1.1, R.fin (N2 := N) O.ck g1 (R.2.1.ox O hz s1) ?_ ?_ (Or.inl rfl) ?_ ?_ R.2.2.2.2.2.1.1.up ?_⟩
    · rw [e2]; exact (MK.sg.tr MK.si).tr MK.si
    · rw [e2]; exact ((q1.cp ft (by omega)).s322).s321
    · rw [e2]
      refine ⟨⟨?_, ?_⟩, ?_, zi_same, ?_, ?_⟩
      · show MkR (zL (zSG h1 (x + 334) (cpG (zL h1 (x + 334)) 0 (11608 + 5804 * n) 5804)) (x + 334)) (n + 1) (updN Ms n N)
        rw [zL_SG]
        exact q2.1.1.mark q1.2.1 ft
      · rw [zi_Si, if_neg (by omega)]; exact zi_same
      · rw [zi_Si, if_neg (by omega), zi_Si, if_neg (by omega)]; exact q2.2.1
      · rw [zi_Si, if_neg (by omega), zi_Si, if_neg (by omega)]; exact q2.2.2.2.1
      · rw [zi_Si, if_neg (by omega), zi_Si, if_neg (by omega)]; exact q2.2.2.2.2
    · intro i
      rw [O.tape hz R.2.1.1.1.2.2.1 i, e2]
      exact q3 i
    · intro j hj
      unfold updN
      by_cases e : j = n
      · rw [if_pos e]; exact R.2.2.2.2.2.1.1.up
      · rw [if_neg e]; exact (R.2.2.2.2.2.1.2 j (by omega)).up
theorem twoX_back (R : RD x T0 h k B ls N Ms n tp st fk fp) : St l w x T0 k h mX9_back mX10_back [] := by
  have n3 := R.n3
  have hz : x + 333 ≤ zx h := R.1.1.1
  obtain ⟨v, h1, c1, Q1⟩ := c_backC (l := l) (w := w) R.1
  by_cases c : n = 0
  · rw [if_pos c] at Q1
    obtain ⟨rfl, e1⟩ := Q1
    subst e1
    refine R.norm (r1 := 5) c1 R.1.stat (OtX.si (Or.inl rfl)) (zi_same.trans (jI_nat 5).symm) R.2.2.2.2.2.1.1.up (fun r e => (c_backM r.1 e n3).mono (fun u h2 q => ?_))
    rw [if_pos c] at q
    exact ⟨q.1, by rw [q.2]; exact zi_same.trans (jI_nat 5).symm, ⟨N, by rw [q.2]; exact r.s321, Or.inl rfl⟩, by rw [q.2]; exact FrQ.si (Or.inl rfl)⟩
  · rw [if_neg c] at Q1
    obtain ⟨rfl, s1, ⟨B', g1⟩, O⟩ := Q1
    have O := O.e3
    obtain ⟨q1, q2, q3, q4⟩ := R.cls O.ck
    obtain ⟨v, h2, c2, Q2⟩ := c_backM (l := l) (w := w) q1.1 q2.1.2 n3
    rw [if_neg c] at Q2
    obtain ⟨rfl, e2⟩ := Q2
    have bm := R.2.2.2.2.2.1.2
    have mb := MoR.back q2.1.1 (by omega : 0 < n)
    refine ⟨_, h1, h2, c1, c2, q1.1.1, R.fin (N2 := uA (Ms (n - 1)) 3 ((zi h1 324 (x + 333)).toInt - nA (Ms (n - 1)) 6)) O.ck g1 (R.2.1.ox O hz s1) ?_ ?_ (Or.inr ⟨_, rfl⟩) ?_ ?_ (bm (n - 1) (by omega)).up (fun j hj => (bm j (by omega)).up)⟩
    · rw [e2]; exact (MK.si.tr MK.sg).tr MK.si
    · rw [e2]
      refine ⟨q1.1, ?_, ?_, ?_⟩
      · show MoR (zL (zSG (zSi h1 322 (x + 333) (nI (n - 1))) (x + 334) (cpG (zL h1 (x + 334)) (11608 + 5804 * (n - 1)) 0 5804)) (x + 334)) _
        rw [zL_SG]
        exact mb.1.u37 (Or.inl rfl)
      · rw [nA_ne (by omega), (bm (n - 1) (by omega)).2, ← R.n7]
        show zi (zSi h1 322 (x + 333) (nI (n - 1))) 323 (x + 333) = _
        rw [zi_Si, if_neg (by omega)]
        exact q1.2.2.1
      · rw [nA_ne (by omega), nA_eq, show nA (Ms (n - 1)) 6 + ((zi h1 324 (x + 333)).toInt - nA (Ms (n - 1)) 6) = (zi h1 324 (x + 333)).toInt by omega]
        show zi (zSi h1 322 (x + 333) (nI (n - 1))) 324 (x + 333) = _
        rw [zi_Si, if_neg (by omega)]
        exact (Int32.ofInt_toInt _).symm
    · rw [e2]
      refine ⟨⟨?_, ?_⟩, ?_, zi_same, ?_, ?_⟩
      · show MkR (zL (zSG (zSi h1 322 (x + 333) (nI (n - 1))) (x + 334) (cpG (zL h1 (x + 334)) (11608 + 5804 * (n - 1)) 0 5804)) (x + 334)) (n - 1) Ms
        rw [zL_SG]
        exact mb.2
      · rw [zi_Si, if_neg (by omega)]; exact zi_same
      · rw [zi_Si, if_neg (by omega)]
        show zi (zSi h1 322 (x + 333) (nI (n - 1))) 327 (x + 333) = _
        rw [zi_Si, if_neg (by omega)]; exact q2.2.1
      · rw [zi_Si, if_neg (by omega)]
        show zi (zSi h1 322 (x + 333) (nI (n - 1))) 335 (x + 333) = _
        rw [zi_Si, if_neg (by omega)]; exact q2.2.2.2.1
      · rw [zi_Si, if_neg (by omega)]
        show zi (zSi h1 322 (x + 333) (nI (n - 1))) 334 (x + 333) = _
        rw [zi_Si, if_neg (by omega)]; exact q2.2.2.2.2
    · intro i
      rw [O.tape hz R.2.1.1.1.2.2.1 i, e2]
      exact q3 i
theorem CF.ol (F : CF h x tp st fk fp) (O : OtL x h h1) (hz : x + 333 ≤ zx h) (t0 : tp' ≤ 600) (e9 : zi h1 289 x = nI tp') (e : zi h1 290 x = s') (e1 : zi h1 291 x = fk') (e2 : zi h1 292 x = fp') : CF h1 x tp' s' fk' fp' := by
  obtain ⟨⟨⟨t1, t2, t3, t4, t5⟩, t6⟩, ⟨⟨r1, r2⟩, b1, ⟨o0, ⟨o1, o2, o3⟩, ⟨o4, o5, o6⟩, o7, o8, o9⟩⟩, f1, f2, f3⟩ := F
  obtain ⟨-, k, ⟨v1, v2⟩, S⟩ := O
  have sb := S (x + 329) (by omega) (by omega) (by rw [o0]; omega)
  exact ⟨⟨⟨(k x (by omega)).1.trans t1, (v2 288 (by omega) (by omega)).trans t2, (k _ (by omega)).1.trans t3, (k _ (by omega)).2.trans t4, e9⟩, t0⟩, ⟨⟨(v2 297 (by omega) (by omega)).trans r1, (k _ (by omega)).1.trans r2⟩, (v2 298 (by omega) (by omega)).trans b1, ⟨sb.1.1.trans o0, ⟨(sb.2.1 0).2.2.trans o1, (k _ (by omega)).1.trans o2, (k _ (by omega)).2.trans o3⟩, ⟨(sb.2.1 1).2.2.trans o4, (k _ (by omega)).1.trans o5, (k _ (by omega)).2.trans o6⟩, (sb.2.1 2).2.2.trans o7, (k _ (by omega)).1.trans o8, (k _ (by omega)).2.trans o9⟩⟩, e, e1, e2⟩
theorem MF.ld (f : MF h x n tp Ms st fk fp) (Q : FrL (x + 333) h h1) (e7 : zi h1 327 (x + 333) = nI tp') (e : zi h1 321 (x + 333) = s') (e5 : zi h1 335 (x + 333) = fk') (e4 : zi h1 334 (x + 333) = fp') : MF h1 x n tp' Ms s' fk' fp' := ⟨⟨f.1.1.cg (fun j h1 _ => Q.2.2.2.2.2.2.2 j h1), (Q.2.2.2.2.1 322 _ (Or.inr (Or.inl rfl))).trans f.1.2⟩, e7, e, e5, e4⟩
theorem twoX_load {v1 : Int32} (R : RD x T0 h k B ls N Ms n tp st fk fp) : St l w x T0 k h mX9_load mX10_load [.int v1] := by
  obtain ⟨z1, rfl, b1⟩ := i32 v1
  have hz : x + 333 ≤ zx h := R.1.1.1
  obtain ⟨v, h1, c1, O, Q1⟩ := c_loadC (l := l) (w := w) (q := nA N 6 + nA N 3) R.1 R.2.1.1.1 R.2.1.1.2 R.2.1.2.1.1.1 R.2.1.2.1.1.2 b1
  obtain ⟨q1, q2, q3, q4⟩ := R.cls O.ck
  obtain ⟨v2, h2, c2, L, Q2⟩ := c_loadM (l := l) (w := w) q1 R.iT R.n7 q2.2.1 R.2.1.1.2 b1
  have tp1 : ∀ i, zI h1 (x + 1) i = zI h (x + 1) i := fun i => ((O.2.2.2 (x + 1) (by omega) (by omega) (by rw [R.2.1.1.1.2.2.1]; omega)).2.2 i).1
  have te : ∀ i, zI h2 (x + 335) i = zI h1 (x + 1) i := fun i => by rw [L.2.2.2.2.2.1 _ i (by omega), q3 i, tp1 i]
  by_cases c : 0 ≤ z1 ∧ z1 ≤ (tp : Int)
  · rw [if_pos c] at Q1 Q2
    obtain ⟨u1, Q1⟩ := Q1
    obtain ⟨u2, Q2⟩ := Q2
    rw [show (fun i => bY (zI h1 (x + 333 + 2) i)) = (fun i => bY (zI h (x + 1) i)) from funext fun i => by rw [show zI h1 (x + 333 + 2) i = zI h (x + 1) i from q3 i]] at Q2
    generalize loadR (fun i => bY (zI h (x + 1) i)) z1.toNat (nA N 6 + nA N 3) = ld at Q1 Q2
    cases ld with
    | inl er =>
      obtain ⟨rfl, a1, a2, a3, lt, g1⟩ := Q1
      obtain ⟨rfl, d1, d2, d3, v, r2⟩ := Q2
      exact ⟨_, h1, h2, c1, c2, q1.1.1, R.fin O.ck g1 (R.2.1.ol O hz (by omega) u1 a1 a2 a3) L.mk r2 (Or.inr ⟨v, rfl⟩) (q2.ld L u2 d1 d2 d3) te R.2.2.2.2.2.1.1.up (RD.up R.2.2.2.2.2.1)⟩
    | inr N' =>
      obtain ⟨rfl, a1, a2, a3, B', lt, g1⟩ := Q1
      obtain ⟨rfl, d1, d2, d3, r2, hp⟩ := Q2
      exact ⟨_, h1, h2, c1, c2, q1.1.1, R.fin O.ck g1 (R.2.1.ol O hz (by omega) u1 a1 a2 a3) L.mk r2 (Or.inl rfl) (q2.ld L u2 d1 d2 d3) te ⟨by rw [hp.2.2.1 2 (by omega)]; omega, hp.2.2.1 7 (by omega)⟩ (RD.up R.2.2.2.2.2.1)⟩
  · rw [if_neg c] at Q1 Q2
    obtain ⟨rfl, e1⟩ := Q1
    obtain ⟨rfl, e2⟩ := Q2
    refine ⟨_, h1, h2, c1, c2, q1.1.1, R.fin (N2 := N) O.ck (by rw [e1]; exact R.1.stat) (s' := nI 1) (tp' := tp) (fk' := fk) (fp' := fp) (R.2.1.ol O hz R.2.1.1.2 ?_ ?_ ?_ ?_) L.mk (by rw [e2]; exact q1.s321) (Or.inl rfl) (q2.ld L ?_ ?_ ?_ ?_) te R.2.2.2.2.2.1.1.up (RD.up R.2.2.2.2.2.1)⟩
    · rw [e1, zi_Si, if_neg (by omega)]; exact R.2.1.1.1.2.2.2.2
    · rw [e1]; exact zi_same
    · rw [e1, zi_Si, if_neg (by omega)]; exact R.2.1.2.2.2.1
    · rw [e1, zi_Si, if_neg (by omega)]; exact R.2.1.2.2.2.2
    · rw [e2, zi_Si, if_neg (by omega)]; exact q2.2.1
    · rw [e2]; exact zi_same
    · rw [e2, zi_Si, if_neg (by omega)]; exact q2.2.2.2.1
    · rw [e2, zi_Si, if_neg (by omega)]; exact q2.2.2.2.2
end CALLSb
