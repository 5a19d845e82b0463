section GCm
variable {l : Launch} {w : zW} {h y h' h1 : zH} {x n : Nat} {B : Nat → Nat} {ls lt : Nat → List Nat} {N : nT} {Ms Ms' : Nat → nT} {E E' : Nat → Prop}
/-- the packets that x's nets have made -/
def mdS (x : Nat) (h : zH) : Int := (zi h 167 (x + 2)).toInt + (zi h 167 (x + 67)).toInt + (zi h 167 (x + 133)).toInt + (zi h 167 (x + 198)).toInt + (zi h 167 (x + 263)).toInt
theorem mdS_si {f p : Nat} {v : Int32} (hf : f ≠ 167) : mdS x (zSi h f p v) = mdS x h := by
  unfold mdS
  rw [zi_Si, zi_Si, zi_Si, zi_Si, zi_Si, if_neg (fun q => hf q.1.symm), if_neg (fun q => hf q.1.symm), if_neg (fun q => hf q.1.symm), if_neg (fun q => hf q.1.symm), if_neg (fun q => hf q.1.symm)]
def plc (x k : Nat) : Nat := if k = 0 then x + 2 else if k = 1 then x + 67 else if k = 2 then x + 133 else if k = 3 then x + 198 else x + 263
theorem isBk.ix {a : Nat} (q : isBk x a) : ∃ k, k < 5 ∧ a = plc x k := by
  rcases q with q | q | q | q | q
  · exact ⟨0, by omega, q⟩
  · exact ⟨1, by omega, q⟩
  · exact ⟨2, by omega, q⟩
  · exact ⟨3, by omega, q⟩
  · exact ⟨4, by omega, q⟩
theorem perm5 : ((List.range 5).all fun a => (List.range 5).all fun b => (List.range 5).all fun c => (List.range 5).all fun d => (List.range 5).all fun e => (a == b || a == c || a == d || a == e || b == c || b == d || b == e || c == d || c == e || d == e) || (List.range 5).all fun k => k == a || k == b || k == c || k == d || k == e) = true := by decide +kernel
theorem GC.srj {a : Nat} (g : GC h x B ls N Ms n) (q : isBk x a) : ∃ j, j < 5 ∧ B j = a := by
  obtain ⟨k, hk, ek⟩ := q.ix
  obtain ⟨k0, h0, e0⟩ := (g.2.2.1 0 (by omega)).ix
  obtain ⟨k1, h1, e1⟩ := (g.2.2.1 1 (by omega)).ix
  obtain ⟨k2, h2, e2⟩ := (g.2.2.1 2 (by omega)).ix
  obtain ⟨k3, h3, e3⟩ := (g.2.2.1 3 (by omega)).ix
  obtain ⟨k4, h4, e4⟩ := (g.2.2.1 4 (by omega)).ix
  have d : ∀ i j, i < 5 → j < 5 → i ≠ j → ¬ B i = B j := g.2.2.2.1
  have n01 : ¬ k0 = k1 := fun z => d 0 1 (by omega) (by omega) (by omega) (by rw [e0, e1, z])
  have n02 : ¬ k0 = k2 := fun z => d 0 2 (by omega) (by omega) (by omega) (by rw [e0, e2, z])
  have n03 : ¬ k0 = k3 := fun z => d 0 3 (by omega) (by omega) (by omega) (by rw [e0, e3, z])
  have n04 : ¬ k0 = k4 := fun z => d 0 4 (by omega) (by omega) (by omega) (by rw [e0, e4, z])
  have n12 : ¬ k1 = k2 := fun z => d 1 2 (by omega) (by omega) (by omega) (by rw [e1, e2, z])
  have n13 : ¬ k1 = k3 := fun z => d 1 3 (by omega) (by omega) (by omega) (by rw [e1, e3, z])
  have n14 : ¬ k1 = k4 := fun z => d 1 4 (by omega) (by omega) (by omega) (by rw [e1, e4, z])
  have n23 : ¬ k2 = k3 := fun z => d 2 3 (by omega) (by omega) (by omega) (by rw [e2, e3, z])
  have n24 : ¬ k2 = k4 := fun z => d 2 4 (by omega) (by omega) (by omega) (by rw [e2, e4, z])
  have n34 : ¬ k3 = k4 := fun z => d 3 4 (by omega) (by omega) (by omega) (by rw [e3, e4, z])
  have p := List.all_eq_true.mp perm5 k0 (List.mem_range.mpr h0)
  have p := List.all_eq_true.mp p k1 (List.mem_range.mpr h1)
  have p := List.all_eq_true.mp p k2 (List.mem_range.mpr h2)
  have p := List.all_eq_true.mp p k3 (List.mem_range.mpr h3)
  have p := List.all_eq_true.mp p k4 (List.mem_range.mpr h4)
  rw [Bool.or_eq_true] at p
  rcases p with p | p
  · simp only [Bool.or_eq_true, beq_iff_eq] at p
    omega
  · have p := List.all_eq_true.mp p k (List.mem_range.mpr hk)
    simp only [Bool.or_eq_true, beq_iff_eq] at p
    rcases p with (((p | p) | p) | p) | p
    · exact ⟨0, by omega, by rw [e0, ek, p]⟩
    · exact ⟨1, by omega, by rw [e1, ek, p]⟩
    · exact ⟨2, by omega, by rw [e2, ek, p]⟩
    · exact ⟨3, by omega, by rw [e3, ek, p]⟩
    · exact ⟨4, by omega, by rw [e4, ek, p]⟩
/-- what a call on x leaves as it is: all but its nets (E: what else may change) -/
def OtX (x : Nat) (E : Nat → Prop) (h h1 : zH) : Prop := (zx h ≤ zx h1 ∧ zt h1 + 10 * zx h = zt h + 10 * zx h1 ∧ (zx h1 : Int) + mdS x h ≤ (zx h : Int) + mdS x h1) ∧ (∀ a, a < zx h → zk h1 a = zk h a ∧ zn h1 a = zn h a) ∧ ((∀ f, f ≠ 290 → f ≠ 296 → zi h1 f x = zi h f x) ∧ ∀ f, f ≠ 293 → zr h1 f x = zr h f x) ∧ ∀ a, a < zx h → (a < x ∨ a = x + 1 ∨ x + 328 ≤ a) → ¬ E a → zk h a ≠ 6 → SmA h h1 a
theorem SmA.rf {a : Nat} : SmA h h a := ⟨⟨rfl, rfl⟩, fun _ => ⟨rfl, rfl, rfl⟩, fun _ => ⟨rfl, rfl, rfl⟩⟩
theorem OtX.rf : OtX x E h h := ⟨⟨Nat.le_refl _, rfl, Int.le_refl _⟩, fun _ _ => ⟨rfl, rfl⟩, ⟨fun _ _ _ => rfl, fun _ _ => rfl⟩, fun _ _ _ _ _ => SmA.rf⟩
theorem OtX.tr (p : OtX x E h y) (q : OtX x E y h1) : OtX x E h h1 := by
  obtain ⟨⟨p0, p1, p6⟩, p2, ⟨p3, p4⟩, p5⟩ := p
  obtain ⟨⟨q0, q1, q6⟩, q2, ⟨q3, q4⟩, q5⟩ := q
  exact ⟨⟨by omega, by omega, by omega⟩, fun a ha => ⟨(q2 a (by omega)).1.trans (p2 a ha).1, (q2 a (by omega)).2.trans (p2 a ha).2⟩, ⟨fun f f1 f2 => (q3 f f1 f2).trans (p3 f f1 f2), fun f f1 => (q4 f f1).trans (p4 f f1)⟩, fun a ha ho he hk => (p5 a ha ho he hk).tr (q5 a (by omega) ho he (by rw [(p2 a ha).1]; exact hk))⟩
theorem OtX.si {f : Nat} {v : Int32} (hf : f = 290 ∨ f = 296) : OtX x E h (zSi h f x v) := ⟨⟨Nat.le_refl _, rfl, by rw [mdS_si (by omega)]; exact Int.le_refl _⟩, fun _ _ => ⟨rfl, rfl⟩, ⟨fun g h1 h2 => by rw [zi_Si, if_neg (by omega)], fun _ _ => rfl⟩, fun a _ ho _ _ => SmA.si (by omega)⟩
theorem OtX.sr {v : Option Nat} : OtX x E h (zSr h 293 x v) := ⟨⟨Nat.le_refl _, rfl, Int.le_refl _⟩, fun _ _ => ⟨rfl, rfl⟩, ⟨fun _ _ _ => rfl, fun g h1 => by rw [zr_Sr, if_neg (by omega)]⟩, fun a _ ho _ _ => ⟨⟨rfl, rfl⟩, fun g => ⟨rfl, rfl, by rw [zr_Sr, if_neg (by omega)]⟩, fun _ => ⟨rfl, rfl, rfl⟩⟩⟩
theorem OtX.sR {i : Nat} {v : Option Nat} : OtX x E h (zSR h (x + 132) i v) := ⟨⟨Nat.le_refl _, rfl, Int.le_refl _⟩, fun _ _ => ⟨rfl, rfl⟩, ⟨fun _ _ _ => rfl, fun _ _ => rfl⟩, fun a _ ho _ _ => ⟨⟨rfl, rfl⟩, fun g => ⟨rfl, rfl, rfl⟩, fun j => ⟨rfl, rfl, by rw [zR_SR, if_neg (by omega)]⟩⟩⟩
theorem OtX.cst {i : Nat} (g : GC h x B ls N Ms n) (hi : i < 5) (s : CSt (B i) ls h lt h1) : OtX x E h h1 := by
  have q := g.2.2.1 i hi
  unfold isBk at q
  have gx := g.1.1
  have sx := s.1.2.2 x (by omega) (by omega) (Or.inl (by rw [g.1.2.1]; omega))
  have same : ∀ a, isBk x a → a ≠ B i → zi h1 167 a = zi h 167 a := fun a ha na => by
    obtain ⟨j, hj, ej⟩ := g.srj ha
    have cj := (g.2.2.2.2.2.1 j hj).1.1
    rw [ej] at cj
    unfold isBk at ha
    exact ((s.1.2.2 a (by omega) (by omega) (Or.inl (by rw [cj.2]; omega))).1 167).1
  have md : (zx h1 : Int) + mdS x h ≤ (zx h : Int) + mdS x h1 := by
    have m := s.1.1.2.2
    unfold mdB at m
    unfold mdS
    rcases q with q | q | q | q | q
    · rw [q] at m
      rw [same (x + 67) (by unfold isBk; omega) (by omega), same (x + 133) (by unfold isBk; omega) (by omega), same (x + 198) (by unfold isBk; omega) (by omega), same (x + 263) (by unfold isBk; omega) (by omega)]
      omega
    · rw [q] at m
      rw [same (x + 2) (by unfold isBk; omega) (by omega), same (x + 133) (by unfold isBk; omega) (by omega), same (x + 198) (by unfold isBk; omega) (by omega), same (x + 263) (by unfold isBk; omega) (by omega)]
      omega
    · rw [q] at m
      rw [same (x + 2) (by unfold isBk; omega) (by omega), same (x + 67) (by unfold isBk; omega) (by omega), same (x + 198) (by unfold isBk; omega) (by omega), same (x + 263) (by unfold isBk; omega) (by omega)]
      omega
    · rw [q] at m
      rw [same (x + 2) (by unfold isBk; omega) (by omega), same (x + 67) (by unfold isBk; omega) (by omega), same (x + 133) (by unfold isBk; omega) (by omega), same (x + 263) (by unfold isBk; omega) (by omega)]
      omega
    · rw [q] at m
      rw [same (x + 2) (by unfold isBk; omega) (by omega), same (x + 67) (by unfold isBk; omega) (by omega), same (x + 133) (by unfold isBk; omega) (by omega), same (x + 198) (by unfold isBk; omega) (by omega)]
      omega
  exact ⟨⟨s.1.1.1, s.1.1.2.1, md⟩, s.1.2.1, ⟨fun f _ _ => (sx.1 f).1, fun f _ => (sx.1 f).2.2⟩, fun a ha ho _ hk => ⟨s.1.2.1 a ha, s.1.2.2 a ha (by omega) (Or.inl hk)⟩⟩
theorem lnS.tf (s : lnS h ls) (hx : zx h ≤ zx h') (il : ∀ L, isL h' L → isL h L) (Em : ∀ a, a < zx h → (zk h a = 3 ∨ zk h a = 6) → SmA h h' a) : lnS h' ls := by
  refine ⟨fun L hL => ?_, fun L K i j q hL hK => s.2 L K i j q (il L hL) (il K hK)⟩
  have hL0 := il L hL
  obtain ⟨s1, s2, s3, s4⟩ := s.1 L hL0
  have m := Em L hL0.1 (Or.inl hL0.2)
  refine ⟨(m.2.1 96).2.2.trans s1, (m.2.1 97).2.2.trans s2, (m.2.1 98).1.trans s3, fun i q hq => ?_⟩
  obtain ⟨u1, u2⟩ := s4 i q hq
  have mq := Em q u1.1 (Or.inr u1.2)
  exact ⟨⟨by omega, mq.1.1.trans u1.2⟩, (mq.2.1 201).2.2.trans u2⟩
theorem GC.mk (g : GC h x B ls N Ms n) (n3 : n < 3) (c : NetC h (B (2 + n)) ls N) : GC (zSi h 296 x (nI (n + 1))) x B ls N (updN Ms n N) (n + 1) := by
  have po : ∀ i, i < 5 → x < B i ∨ B i + 65 ≤ x := fun i hi => by have q := g.2.2.1 i hi; unfold isBk at q; omega
  obtain ⟨⟨g1, g2, g3, g4, g5, g6, g7⟩, g8, gB, gD, gl, gw, gn, gm⟩ := g
  have sl : lnS (zSi h 296 x (nI (n + 1))) ls := gl.fr rfl (fun _ => rfl) (fun _ _ => rfl) (fun a => by rw [zi_Si, if_neg (by omega)])
  have e1 : ∀ i, i < 5 → ∀ a, B i ≤ a → a < B i + 65 → SmA h (zSi h 296 x (nI (n + 1))) a := fun i hi a h1 h2 => SmA.si (by have := po i hi; omega)
  have e2 : ∀ i, i < 5 → ∀ k, k < 14 → ∀ q, q ∈ ls (lin (B i) k) → SmA h (zSi h 296 x (nI (n + 1))) q := fun i hi k hk q hq => SmA.si (fun e => by
    obtain ⟨j, hj⟩ := List.getElem?_of_mem hq
    exact absurd (g2.symm.trans (e ▸ ((gl.1 _ (lin_isL (gw i hi).1 hk)).2.2.2 j q hj).1.2)) (by omega))
  refine ⟨⟨g1, g2, g3, g4, g5, zi_same, by omega⟩, g8, gB, gD, sl, fun i hi => (gw i hi).tf (Nat.le_refl _) (e1 i hi) (fun _ _ => rfl), gn.tf (Nat.le_refl _) (e1 0 (by omega)) (e2 0 (by omega)) sl (fun _ _ => rfl), fun k hk => ?_⟩
  have q : NetC h (B (2 + k)) ls (updN Ms n N k) := by
    unfold updN
    by_cases e : k = n
    · subst e; rw [if_pos rfl]; exact c
    · rw [if_neg e]; exact gm k (by omega)
  exact q.tf (Nat.le_refl _) (e1 _ (by omega)) (e2 _ (by omega)) sl (fun _ _ => rfl)
/-- net and mark change places -/
def swB (B : Nat → Nat) (n : Nat) : Nat → Nat := fun i => if i = 0 then B (2 + n) else if i = 2 + n then B 0 else B i
theorem GC.swap (g : GC h x B ls N Ms (n + 1)) (hx : zx h' = zx h) (Em : ∀ a, a ≠ x → a ≠ x + 132 → SmA h h' a) (k0 : zk h' x = 9) (f3 : zr h' 293 x = some (B (2 + n))) (f4 : zr h' 294 x = zr h 294 x) (f5 : zr h' 295 x = zr h 295 x) (f6 : zi h' 296 x = nI n) (rk : zk h' (x + 132) = zk h (x + 132) ∧ zn h' (x + 132) = zn h (x + 132)) (rR : ∀ k, k < 3 → zR h' (x + 132) k = some (if k = n then B 0 else B (2 + k))) : GC h' x (swB B n) ls (Ms n) Ms n := by
  have po : ∀ i, i < 5 → (x < B i ∨ B i + 65 ≤ x) ∧ (x + 132 < B i ∨ B i + 65 ≤ x + 132) := fun i hi => by have q := g.2.2.1 i hi; unfold isBk at q; omega
  obtain ⟨⟨g1, g2, g3, g4, g5, g6, g7⟩, ⟨g8, g9, g10⟩, gB, gD, gl, gw, gn, gm⟩ := g
  have sw : ∀ i, i < 5 → ∃ j, j < 5 ∧ swB B n i = B j ∧ j = (if i = 0 then 2 + n else if i = 2 + n then 0 else i) := fun i hi => by
    unfold swB
    by_cases c1 : i = 0
    · rw [if_pos c1, if_pos c1]; exact ⟨2 + n, by omega, rfl, rfl⟩
    · rw [if_neg c1, if_neg c1]
      by_cases c2 : i = 2 + n
      · rw [if_pos c2, if_pos c2]; exact ⟨0, by omega, rfl, rfl⟩
      · rw [if_neg c2, if_neg c2]; exact ⟨i, hi, rfl, rfl⟩
  have kk : ∀ a, zk h' a = zk h a := fun a => by
    by_cases c1 : a = x
    · rw [c1, k0, g2]
    · by_cases c2 : a = x + 132
      · rw [c2]; exact rk.1
      · exact (Em a c1 c2).1.1
  have sl : lnS h' ls := gl.tf (by omega) (fun L hL => ⟨by rw [← hx]; exact hL.1, (kk L).symm.trans hL.2⟩) (fun a ha hk => Em a (fun e => by rw [e, g2] at hk; omega) (fun e => by rw [e, g8] at hk; omega))
  have e1 : ∀ i, i < 5 → ∀ a, B i ≤ a → a < B i + 65 → SmA h h' a := fun i hi a h1 h2 => Em a (by have := po i hi; omega) (by have := po i hi; omega)
  have e2 : ∀ i, i < 5 → ∀ k, k < 14 → ∀ q, q ∈ ls (lin (B i) k) → SmA h h' q := fun i hi k hk q hq => by
    obtain ⟨j, hj⟩ := List.getElem?_of_mem hq
    have k6 := ((gl.1 _ (lin_isL (gw i hi).1 hk)).2.2.2 j q hj).1.2
    exact Em q (fun e => by rw [e, g2] at k6; omega) (fun e => by rw [e, g8] at k6; omega)
  refine ⟨⟨by omega, k0, f3, (by rw [show swB B n 1 = B 1 from by unfold swB; rw [if_neg (by omega), if_neg (by omega)]]; exact f4.trans g4), f5.trans g5, f6, by omega⟩, ⟨rk.1.trans g8, rk.2.trans g9, fun k hk => ?_⟩, fun i hi => ?_, fun i j hi hj n => ?_, sl, fun i hi => ?_, ?_, fun k hk => ?_⟩
  · rw [rR k hk]
    unfold swB
    rw [if_neg (show ¬ 2 + k = 0 by omega)]
    by_cases c1 : k = n
    · rw [if_pos c1, if_pos (by omega)]
    · rw [if_neg c1, if_neg (by omega)]
  · obtain ⟨j, hj, e, -⟩ := sw i hi
    rw [e]; exact gB j hj
  · obtain ⟨i', hi', ei, vi⟩ := sw i hi
    obtain ⟨j', hj', ej, vj⟩ := sw j hj
    rw [ei, ej]
    refine gD i' j' hi' hj' (fun e => ?_)
    rw [vi, vj] at e
    revert e
    split
    · split
      · omega
      · split <;> omega
    · split
      · split
        · omega
        · split <;> omega
      · split
        · omega
        · split <;> omega
  · obtain ⟨j, hj, e, -⟩ := sw i hi
    rw [e]; exact (gw j hj).tf (by omega) (e1 j hj) (fun _ _ => rfl)
  · exact (gm n (by omega)).tf (by omega) (e1 _ (by omega)) (e2 _ (by omega)) sl (fun _ _ => rfl)
  · have q : swB B n (2 + k) = B (2 + k) := by unfold swB; rw [if_neg (by omega), if_neg (by omega)]
    rw [q]
    exact (gm k (by omega)).tf (by omega) (e1 _ (by omega)) (e2 _ (by omega)) sl (fun _ _ => rfl)
theorem c_markC (g : GC h x B ls N Ms n) : zM l w mX9_mark [.ref x] h (fun u h1 => if n = 3 then u = some (.int (-1)) ∧ h1 = zSi h 290 x (nI 3) else u = some (.int (nI (n + 1))) ∧ zi h1 290 x = nI 0 ∧ (∃ lt, GC h1 x B lt N (updN Ms n N) (n + 1)) ∧ OtX x (fun _ => False) h h1) := by
  refine zM.of (by decide) (Nat.le_of_ble_eq_true rfl) ?_
  have gg := g
  obtain ⟨⟨g1, g2, g3, g4, g5, g6, g7⟩, ⟨g8, g9, g10⟩, gB, gD, gl, gw, gn, gm⟩ := g
  refine g_aload_n 0 dX9_mark_0 rfl rfl ?_
  refine g_geti (f := 296) dX9_mark_1 fl_X9_84 g2 (by decide) rfl ?_
  rw [show zi h 296 x = nI n from g6]
  refine g_iconst (v := nI 3) dX9_mark_4 (by decide) ?_
  refine g_ncmp_lt (tgt := 14) dX9_mark_5 (by decide) (by omega) (by omega) (fun n3 => ?_) (fun n3 => ?_)
  · refine g_aload_n 0 dX9_mark_14 rfl rfl ?_
    refine g_getr (f := 295) (b := x + 132) dX9_mark_15 fl_X9_30 g2 rfl g5 ?_
    refine g_aload_n 0 dX9_mark_18 rfl rfl ?_
    refine g_geti (f := 296) dX9_mark_19 fl_X9_84 g2 (by decide) rfl ?_
    rw [show zi h 296 x = nI n from g6]
    refine g_aald (t := 6) (b := B (2 + n)) dX9_mark_22 g8 rfl (fun _ => rfl) (by decide) (by rw [show zn h (x + 132) = 3 from g9]; exact vp_in_nI (by omega) (by omega)) (by rw [nI_clamp (by omega)]; exact g10 n n3) ?_
    refine g_aload_n 0 dX9_mark_23 rfl rfl ?_
    refine g_getr (f := 293) (b := B 0) dX9_mark_24 fl_X9_23 g2 rfl g3 ?_
    obtain ⟨π, t, c1, c2, c3⟩ := gn
    have dj : B 0 + 65 ≤ B (2 + n) ∨ B (2 + n) + 65 ≤ B 0 := by
      have q1 := gB 0 (by omega)
      have q2 := gB (2 + n) (by omega)
      have q3 := gD 0 (2 + n) (by omega) (by omega) (by omega)
      unfold isBk at q1 q2
      omega
    refine g_invv (M' := mX5_copyFrom) (As := [.ref (B 0)]) (rest := []) dX9_mark_27 ml_X9_246 okX5_copyFrom imX5_copyFrom seX5_copyFrom ⟨(Nat.le_of_ble_eq_true rfl), (Nat.le_of_ble_eq_true rfl)⟩ (ci := 5) rfl rfl (gw (2 + n) (by omega)).1.1.2 rfl rfl (Nat.le_of_ble_eq_true rfl) (c_netCopy c1 c2.1 (gw (2 + n) (by omega)) dj) ?_
    rintro _ y ⟨rfl, π1, lt, cx, s⟩
    show zG l w mX9_mark 30 [(0, .ref x)] [] y _
    have nc : NetC y (B (2 + n)) lt N := ⟨π1, t, cx, c2, c3⟩
    have q := gg.step (by omega) s cx.2.1 nc.cw
    have G1 : GC y x B lt N Ms n := ⟨q.1, q.2.1, gB, gD, cx.2.1, q.2.2.1, q.2.2.2 _ _ (by omega) (by omega) ⟨π, t, c1, c2, c3⟩, fun k hk => q.2.2.2 _ _ (by omega) (by omega) (gm k hk)⟩
    have G2 := G1.mk n3 nc
    refine g_aload_n 0 dX9_mark_30 rfl rfl ?_
    refine g_dup dX9_mark_31 rfl ?_
    refine g_geti (f := 296) dX9_mark_32 fl_X9_84 q.1.2.1 (by decide) rfl ?_
    rw [show zi y 296 x = nI n from q.1.2.2.2.2.2.1]
    refine g_iconst (v := nI 1) dX9_mark_35 (by decide) ?_
    refine g_iadd dX9_mark_36 ?_
    rw [nI_add n 1]
    refine g_puti (f := 296) dX9_mark_37 fl_X9_84 (Or.inl rfl) q.1.2.1 rfl ?_
    generalize hz : zSi y 296 x (nI (n + 1)) = z at G2 ⊢
    refine g_aload_n 0 dX9_mark_40 rfl rfl ?_
    refine g_aload_n 0 dX9_mark_41 rfl rfl ?_
    refine g_geti (f := 296) dX9_mark_42 fl_X9_84 G2.1.2.1 (by decide) rfl ?_
    rw [show zi z 296 x = nI (n + 1) from G2.1.2.2.2.2.2.1]
    refine g_invv (M' := mX9_answer) (As := [.int (nI (n + 1))]) (rest := []) dX9_mark_45 ml_X9_75 okX9_answer imX9_answer seX9_answer ⟨(Nat.le_of_ble_eq_true rfl), (Nat.le_of_ble_eq_true rfl)⟩ (ci := 9) rfl rfl G2.1.2.1 rfl rfl (Nat.le_of_ble_eq_true rfl) (c_ans G2.1.2.1) ?_
    rintro _ q1 ⟨rfl, e1⟩
    subst q1
    show zG l w mX9_mark 48 [(0, .ref x)] [.int (nI (n + 1))] (zSi z 290 x (nI 0)) _
    refine g_ireturn dX9_mark_48 rfl ?_
    show (if n = 3 then _ else _)
    rw [if_neg (show ¬ n = 3 by omega)]
    refine ⟨rfl, zi_same, ⟨lt, G2.stat⟩, ?_⟩
    subst hz
    exact ((OtX.cst gg (by omega) s).tr (OtX.si (by omega))).tr (OtX.si (by omega))
  · refine g_aload_n 0 dX9_mark_8 rfl rfl ?_
    refine g_iconst (v := nI 3) dX9_mark_9 (by decide) ?_
    refine g_invv (M' := mX9_refuse) (As := [.int (nI 3)]) (rest := []) dX9_mark_10 ml_X9_58 okX9_refuse imX9_refuse seX9_refuse ⟨(Nat.le_of_ble_eq_true rfl), (Nat.le_of_ble_eq_true rfl)⟩ (ci := 9) rfl rfl g2 rfl rfl (Nat.le_of_ble_eq_true rfl) (c_refC g2) ?_
    rintro _ q1 ⟨rfl, e1⟩
    subst q1
    show zG l w mX9_mark 13 [(0, .ref x)] [.int (-1)] (zSi h 290 x (nI 3)) _
    refine g_ireturn dX9_mark_13 rfl ?_
    show (if n = 3 then _ else _)
    rw [if_pos (show n = 3 by omega)]
    exact ⟨rfl, rfl⟩
theorem c_backC (g : GC h x B ls N Ms n) : zM l w mX9_back [.ref x] h (fun u h1 => if n = 0 then u = some (.int (-1)) ∧ h1 = zSi h 290 x (nI 5) else u = some (.int (nI (n - 1))) ∧ zi h1 290 x = nI 0 ∧ (∃ B', GC h1 x B' ls (Ms (n - 1)) Ms (n - 1)) ∧ OtX x (fun _ => False) h h1) := by
  refine zM.of (by decide) (Nat.le_of_ble_eq_true rfl) ?_
  have gg := g
  obtain ⟨⟨g1, g2, g3, g4, g5, g6, g7⟩, ⟨g8, g9, g10⟩, gB, gD, gl, gw, gn, gm⟩ := g
  refine g_aload_n 0 dX9_back_0 rfl rfl ?_
  refine g_geti (f := 296) dX9_back_1 fl_X9_84 g2 (by decide) rfl ?_
  rw [show zi h 296 x = nI n from g6]
  refine g_iconst (v := nI 1) dX9_back_4 (by decide) ?_
  refine g_ncmp_ge (tgt := 14) dX9_back_5 (by decide) (by omega) (by omega) (fun n1 => ?_) (fun n1 => ?_)
  · obtain ⟨k, rfl⟩ : ∃ k, n = k + 1 := ⟨n - 1, by omega⟩
    refine g_aload_n 0 dX9_back_14 rfl rfl ?_
    refine g_dup dX9_back_15 rfl ?_
    refine g_geti (f := 296) dX9_back_16 fl_X9_84 g2 (by decide) rfl ?_
    rw [show zi h 296 x = nI (k + 1) from g6]
    refine g_iconst (v := nI 1) dX9_back_19 (by decide) ?_
    refine g_isub dX9_back_20 ?_
    rw [show (nI (k + 1) - nI 1 : Int32) = nI k from by rw [nI_sub (by omega), Nat.add_sub_cancel]]
    refine g_puti (f := 296) dX9_back_21 fl_X9_84 (Or.inl rfl) g2 rfl ?_
    refine g_aload_n 0 dX9_back_24 rfl rfl ?_
    refine g_getr (f := 293) (b := B 0) dX9_back_25 fl_X9_23 g2 rfl g3 ?_
    refine g_astore_n (lv2 := [(1, .ref (B 0)), (0, .ref x)]) dX9_back_28 rfl (by decide) rfl ?_
    refine g_aload_n 1 dX9_back_29 rfl rfl ?_
    refine g_aload_n 1 dX9_back_30 rfl rfl ?_
    refine g_getr (f := 295) (b := x + 132) dX9_back_31 fl_X9_30 g2 rfl g5 ?_
    refine g_aload_n 1 dX9_back_34 rfl rfl ?_
    refine g_geti (f := 296) dX9_back_35 fl_X9_84 g2 (by decide) rfl ?_
    rw [show zi (zSi h 296 x (nI k)) 296 x = nI k from zi_same]
    refine g_aald (t := 6) (b := B (2 + k)) dX9_back_38 g8 rfl (fun _ => rfl) (by decide) (by rw [show zn (zSi h 296 x (nI k)) (x + 132) = 3 from g9]; exact vp_in_nI (by omega) (by omega)) (by rw [nI_clamp (by omega)]; exact g10 k (by omega)) ?_
    refine g_putr (f := 293) dX9_back_39 fl_X9_23 (Or.inl rfl) g2 rfl ?_
    refine g_aload_n 1 dX9_back_42 rfl rfl ?_
    refine g_getr (f := 295) (b := x + 132) dX9_back_43 fl_X9_30 g2 rfl g5 ?_
    refine g_aload_n 1 dX9_back_46 rfl rfl ?_
    refine g_geti (f := 296) dX9_back_47 fl_X9_84 g2 (by decide) rfl ?_
    rw [show zi (zSr (zSi h 296 x (nI k)) 293 x (some (B (2 + k)))) 296 x = nI k from zi_same]
    refine g_aload_n 0 dX9_back_50 rfl rfl ?_
    refine g_aast (t := 6) (n := k) dX9_back_51 g8 rfl (fun _ => rfl) (by decide) (show zk _ (B 0) = 5 from (gw 0 (by omega)).1.1.2) rfl (by rw [show zn (zSr (zSi h 296 x (nI k)) 293 x (some (B (2 + k)))) (x + 132) = 3 from g9]; exact vp_in_nI (by omega) (by omega)) (nI_clamp (by omega)) ?_
    refine g_aload_n 1 dX9_back_52 rfl rfl ?_
    refine g_aload_n 1 dX9_back_53 rfl rfl ?_
    refine g_geti (f := 296) dX9_back_54 fl_X9_84 g2 (by decide) rfl ?_
    rw [show zi (zSR (zSr (zSi h 296 x (nI k)) 293 x (some (B (2 + k)))) (x + 132) k (some (B 0))) 296 x = nI k from zi_same]
    refine g_invv (M' := mX9_answer) (As := [.int (nI k)]) (rest := []) dX9_back_57 ml_X9_75 okX9_answer imX9_answer seX9_answer ⟨(Nat.le_of_ble_eq_true rfl), (Nat.le_of_ble_eq_true rfl)⟩ (ci := 9) rfl rfl g2 rfl rfl (Nat.le_of_ble_eq_true rfl) (c_ans g2) ?_
    rintro _ q1 ⟨rfl, e1⟩
    subst q1
    show zG l w mX9_back 60 [(1, .ref (B 0)), (0, .ref x)] [.int (nI k)] (zSi (zSR (zSr (zSi h 296 x (nI k)) 293 x (some (B (2 + k)))) (x + 132) k (some (B 0))) 290 x (nI 0)) _
    refine g_ireturn dX9_back_60 rfl ?_
    show (if k + 1 = 0 then _ else _)
    rw [if_neg (show ¬ k + 1 = 0 by omega), Nat.add_sub_cancel]
    refine ⟨rfl, zi_same, ⟨swB B k, GC.stat (GC.swap gg rfl (fun a h1 h2 => ?_) g2 (by rw [zr_SR, zr_Sr, if_pos ⟨rfl, rfl⟩]) (by rw [zr_SR, zr_Sr, if_neg (by omega)]; rfl) (by rw [zr_SR, zr_Sr, if_neg (by omega)]; rfl) zi_same ⟨rfl, rfl⟩ (fun j hj => ?_))⟩, ((OtX.si (by omega)).tr (OtX.sr.tr OtX.sR)).tr (OtX.si (by omega))⟩
    · exact ⟨⟨rfl, rfl⟩, fun f => ⟨by rw [zi_SR, zi_Sr, zi_Si, if_neg (by omega)], rfl, by rw [zr_SR, zr_Sr, if_neg (by omega)]; rfl⟩, fun i => ⟨rfl, rfl, by rw [zR_SR, if_neg (by omega)]; rfl⟩⟩
    · rw [zR_SR]
      by_cases e : j = k
      · rw [if_pos ⟨rfl, e⟩, if_pos e]
      · rw [if_neg (by omega), if_neg e]
        exact g10 j hj
  · refine g_aload_n 0 dX9_back_8 rfl rfl ?_
    refine g_iconst (v := nI 5) dX9_back_9 (by decide) ?_
    refine g_invv (M' := mX9_refuse) (As := [.int (nI 5)]) (rest := []) dX9_back_10 ml_X9_58 okX9_refuse imX9_refuse seX9_refuse ⟨(Nat.le_of_ble_eq_true rfl), (Nat.le_of_ble_eq_true rfl)⟩ (ci := 9) rfl rfl g2 rfl rfl (Nat.le_of_ble_eq_true rfl) (c_refC g2) ?_
    rintro _ q1 ⟨rfl, e1⟩
    subst q1
    show zG l w mX9_back 13 [(0, .ref x)] [.int (-1)] (zSi h 290 x (nI 5)) _
    refine g_ireturn dX9_back_13 rfl ?_
    show (if n = 0 then _ else _)
    rw [if_pos (show n = 0 by omega)]
    exact ⟨rfl, rfl⟩
end GCm
