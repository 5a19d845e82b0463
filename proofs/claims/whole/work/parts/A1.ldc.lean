section LDC
variable {l : Launch} {w : zW} {h y y1 y2 z h1 : zH} {x n : Nat} {B : Nat → Nat} {ls lt : Nat → List Nat} {N N' : nT} {Ms : Nat → nT} {q : Int} {o : Nat}
/-- something that is none of x's nets nor x changes -/
theorem GC.ono (g : GC h x B ls N Ms n) (O : OnO o h y) (k3 : zk h o ≠ 3 ∧ zk h o ≠ 6) (ho : o ≠ x ∧ o ≠ x + 132 ∧ ∀ i, i < 5 → o < B i ∨ B i + 65 ≤ o) : GC y x B ls N Ms n := by
  obtain ⟨⟨g1, g2, g3, g4, g5, g6, g7⟩, ⟨g8, g9, g10⟩, gB, gD, gl, gw, gn, gm⟩ := g
  have hx : zx h ≤ zx y := by rw [O.1.1]; exact Nat.le_refl _
  have sl : lnS y ls := gl.tf hx (fun L hL => ⟨by rw [← O.1.1]; exact hL.1, (O.2.1 L).1.symm.trans hL.2⟩) (fun a _ ka => O.2.2 a (fun e => by rw [e] at ka; omega))
  have e1 : ∀ i, i < 5 → ∀ a, B i ≤ a → a < B i + 65 → SmA h y a := fun i hi a h1 h2 => O.2.2 a (by have := ho.2.2 i hi; omega)
  have e2 : ∀ i, i < 5 → ∀ k, k < 14 → ∀ q, q ∈ ls (lin (B i) k) → SmA h y q := fun i hi k hk q hq => by
    obtain ⟨j, hj⟩ := List.getElem?_of_mem hq
    have k6 := ((gl.1 _ (lin_isL (gw i hi).1 hk)).2.2.2 j q hj).1.2
    exact O.2.2 q (fun e => by rw [e] at k6; omega)
  have mx := O.2.2 x (fun e => ho.1 e.symm)
  have m2 := O.2.2 (x + 132) (fun e => ho.2.1 e.symm)
  exact ⟨⟨by omega, mx.1.1.trans g2, (mx.2.1 293).2.2.trans g3, (mx.2.1 294).2.2.trans g4, (mx.2.1 295).2.2.trans g5, (mx.2.1 296).1.trans g6, g7⟩, ⟨m2.1.1.trans g8, m2.1.2.trans g9, fun k hk => (m2.2.2 k).2.2.trans (g10 k hk)⟩, gB, gD, sl, fun i hi => (gw i hi).tf hx (e1 i hi) (fun _ _ => rfl), gn.tf hx (e1 0 (by omega)) (e2 0 (by omega)) sl (fun _ _ => rfl), fun k hk => (gm k hk).tf hx (e1 _ (by omega)) (e2 _ (by omega)) sl (fun _ _ => rfl)⟩
/-- reading changes the paper and the reader -/
theorem GC.rd (g : GC h x B ls N Ms n) (F : FrA (SB (B 1) (x + 328)) h y) (kr : zk h (x + 328) = 8) (W : TWt y (B 1) ls) : GC y x B ls N Ms n := by
  have po : ∀ i, i < 5 → i ≠ 1 → B i + 65 ≤ B 1 ∨ B 1 + 65 ≤ B i := fun i hi ni => by
    have q := g.2.2.1 i hi
    have q1 := g.2.2.1 1 (by omega)
    have d := g.2.2.2.1 i 1 hi (by omega) ni
    unfold isBk at q q1
    omega
  have pB := g.2.2.1
  obtain ⟨⟨g1, g2, g3, g4, g5, g6, g7⟩, ⟨g8, g9, g10⟩, gB, gD, gl, gw, gn, gm⟩ := g
  have hx : zx h ≤ zx y := by rw [F.1.1]; exact Nat.le_refl _
  have q1 := gB 1 (by omega)
  unfold isBk at q1
  have e1 : ∀ i, i < 5 → i ≠ 1 → ∀ a, B i ≤ a → a < B i + 65 → SmA h y a := fun i hi ni a h1 h2 => F.sm (fun q => by
    have d := po i hi ni
    have b := gB i hi
    unfold isBk at b
    unfold SB at q
    omega)
  have e2 : ∀ i, i < 5 → ∀ k, k < 14 → ∀ q, q ∈ ls (lin (B i) k) → SmA h y q := fun i hi k hk q hq => by
    obtain ⟨j, hj⟩ := List.getElem?_of_mem hq
    have k6 := ((gl.1 _ (lin_isL (gw i hi).1 hk)).2.2.2 j q hj).1.2
    refine F.sm (fun e => ?_)
    rcases e with e | e
    · rw [e, kr] at k6; omega
    · exact (gw 1 (by omega)).1.k6 e.1 e.2 k6
  have mx := F.sm (a := x) (fun q => by unfold SB at q; omega)
  have m2 := F.sm (a := x + 132) (fun q => by unfold SB at q; omega)
  have sl := W.2.1
  exact ⟨⟨by omega, mx.1.1.trans g2, (mx.2.1 293).2.2.trans g3, (mx.2.1 294).2.2.trans g4, (mx.2.1 295).2.2.trans g5, (mx.2.1 296).1.trans g6, g7⟩, ⟨m2.1.1.trans g8, m2.1.2.trans g9, fun k hk => (m2.2.2 k).2.2.trans (g10 k hk)⟩, gB, gD, sl, fun i hi => (if e : i = 1 then by rw [e]; exact W.cw else (gw i hi).tf hx (e1 i hi e) (fun _ _ => rfl)), gn.tf hx (e1 0 (by omega) (by omega)) (e2 0 (by omega)) sl (fun _ _ => rfl), fun k hk => (gm k hk).tf hx (e1 _ (by omega) (by omega)) (e2 _ (by omega)) sl (fun _ _ => rfl)⟩
def swP (B : Nat → Nat) : Nat → Nat := fun i => if i = 0 then B 1 else if i = 1 then B 0 else B i
/-- the paper is the net from now on -/
theorem GC.toNet (g : GC h x B ls N Ms n) (c : NetC h (B 1) ls N') (hx : zx y = zx h) (Em : ∀ a, a ≠ x → SmA h y a) (k0 : zk y x = 9) (f3 : zr y 293 x = some (B 1)) (f4 : zr y 294 x = some (B 0)) (f5 : zr y 295 x = zr h 295 x) (f6 : zi y 296 x = zi h 296 x) : GC y x (swP B) ls N' Ms n := by
  have po : ∀ i, i < 5 → (x < B i ∨ B i + 65 ≤ x) := fun i hi => by have q := g.2.2.1 i hi; unfold isBk at q; omega
  obtain ⟨⟨g1, g2, g3, g4, g5, g6, g7⟩, ⟨g8, g9, g10⟩, gB, gD, gl, gw, gn, gm⟩ := g
  have sw : ∀ i, i < 5 → ∃ j, j < 5 ∧ swP B i = B j ∧ j = (if i = 0 then 1 else if i = 1 then 0 else i) := fun i hi => by
    unfold swP
    by_cases c1 : i = 0
    · rw [if_pos c1, if_pos c1]; exact ⟨1, by omega, rfl, rfl⟩
    · rw [if_neg c1, if_neg c1]
      by_cases c2 : i = 1
      · rw [if_pos c2, if_pos c2]; exact ⟨0, by omega, rfl, rfl⟩
      · rw [if_neg c2, if_neg c2]; exact ⟨i, hi, rfl, rfl⟩
  have kk : ∀ a, zk y a = zk h a := fun a => by
    by_cases c1 : a = x
    · rw [c1, k0, g2]
    · exact (Em a c1).1.1
  have sl : lnS y ls := gl.tf (by omega) (fun L hL => ⟨by rw [← hx]; exact hL.1, (kk L).symm.trans hL.2⟩) (fun a ha hk => Em a (fun e => by rw [e, g2] at hk; omega))
  have e1 : ∀ i, i < 5 → ∀ a, B i ≤ a → a < B i + 65 → SmA h y a := fun i hi a h1 h2 => Em a (by have := po i hi; omega)
  have e2 : ∀ i, i < 5 → ∀ k, k < 14 → ∀ q, q ∈ ls (lin (B i) k) → SmA h y q := fun i hi k hk q hq => by
    obtain ⟨j, hj⟩ := List.getElem?_of_mem hq
    have k6 := ((gl.1 _ (lin_isL (gw i hi).1 hk)).2.2.2 j q hj).1.2
    exact Em q (fun e => by rw [e, g2] at k6; omega)
  have m2 := Em (x + 132) (by omega)
  have s2 : ∀ k, swP B (2 + k) = B (2 + k) := fun k => by unfold swP; rw [if_neg (by omega), if_neg (by omega)]
  refine ⟨⟨by omega, k0, f3, f4, f5.trans g5, f6.trans g6, g7⟩, ⟨m2.1.1.trans g8, m2.1.2.trans g9, fun k hk => by rw [s2]; exact (m2.2.2 k).2.2.trans (g10 k hk)⟩, fun i hi => ?_, fun i j hi hj n => ?_, sl, fun i hi => ?_, c.tf (by omega) (e1 1 (by omega)) (e2 1 (by omega)) sl (fun _ _ => rfl), fun k hk => by rw [s2]; exact (gm k hk).tf (by omega) (e1 _ (by omega)) (e2 _ (by omega)) sl (fun _ _ => rfl)⟩
  · obtain ⟨j, hj, e, -⟩ := sw i hi
    rw [e]; exact gB j hj
  · obtain ⟨i', hi', ei, vi⟩ := sw i hi
    obtain ⟨j', hj', ej, vj⟩ := sw j hj
    rw [ei, ej]
    refine gD i' j' hi' hj' (fun e => ?_)
    rw [vi, vj] at e
    revert e
    split
    · split
      · omega
      · split <;> omega
    · split
      · split
        · omega
        · split <;> omega
      · split
        · omega
        · split <;> omega
  · obtain ⟨j, hj, e, -⟩ := sw i hi
    rw [e]; exact (gw j hj).tf (by omega) (e1 j hj) (fun _ _ => rfl)
/-- what load leaves as it is -/
def OtL (x : Nat) (h h1 : zH) : Prop := (zx h ≤ zx h1 ∧ zt h1 + 10 * zx h = zt h + 10 * zx h1 ∧ (zx h1 : Int) + mdS x h ≤ (zx h : Int) + mdS x h1) ∧ (∀ a, a < zx h → zk h1 a = zk h a ∧ zn h1 a = zn h a) ∧ (zi h1 296 x = zi h 296 x ∧ ∀ f, f ≠ 293 → f ≠ 294 → zr h1 f x = zr h f x) ∧ ∀ a, a < zx h → (a < x ∨ a = x + 1 ∨ x + 329 ≤ a) → zk h a ≠ 6 → SmA h h1 a
theorem OtL.rf : OtL x h h := ⟨⟨Nat.le_refl _, rfl, Int.le_refl _⟩, fun _ _ => ⟨rfl, rfl⟩, ⟨rfl, fun _ _ _ => rfl⟩, fun _ _ _ _ => SmA.rf⟩
theorem OtL.tr (p : OtL x h y) (q : OtL x y h1) : OtL x h h1 := by
  obtain ⟨⟨p0, p1, p6⟩, p2, ⟨p3, p4⟩, p5⟩ := p
  obtain ⟨⟨q0, q1, q6⟩, q2, ⟨q3, q4⟩, q5⟩ := q
  exact ⟨⟨by omega, by omega, by omega⟩, fun a ha => ⟨(q2 a (by omega)).1.trans (p2 a ha).1, (q2 a (by omega)).2.trans (p2 a ha).2⟩, ⟨q3.trans p3, fun f f1 f2 => (q4 f f1 f2).trans (p4 f f1 f2)⟩, fun a ha ho hk => (p5 a ha ho hk).tr (q5 a (by omega) ho (by rw [(p2 a ha).1]; exact hk))⟩
theorem OtL.si {f : Nat} {v : Int32} (hf : f ≠ 296 ∧ f ≠ 167) : OtL x h (zSi h f x v) := ⟨⟨Nat.le_refl _, rfl, by rw [mdS_si hf.2]; exact Int.le_refl _⟩, fun _ _ => ⟨rfl, rfl⟩, ⟨by rw [zi_Si, if_neg (by omega)], fun _ _ _ => rfl⟩, fun a _ ho _ => SmA.si (by omega)⟩
theorem OtL.sr {f : Nat} {v : Option Nat} (hf : f = 293 ∨ f = 294) : OtL x h (zSr h f x v) := ⟨⟨Nat.le_refl _, rfl, Int.le_refl _⟩, fun _ _ => ⟨rfl, rfl⟩, ⟨rfl, fun g h1 h2 => by rw [zr_Sr, if_neg (by omega)]⟩, fun a _ ho _ => ⟨⟨rfl, rfl⟩, fun g => ⟨rfl, rfl, by rw [zr_Sr, if_neg (by omega)]⟩, fun _ => ⟨rfl, rfl, rfl⟩⟩⟩
theorem OtL.ono (O : OnO (x + 328) h y) : OtL x h y := by
  have e : mdS x y = mdS x h := by
    unfold mdS
    rw [((O.2.2 _ (by omega)).2.1 _).1, ((O.2.2 _ (by omega)).2.1 _).1, ((O.2.2 _ (by omega)).2.1 _).1, ((O.2.2 _ (by omega)).2.1 _).1, ((O.2.2 _ (by omega)).2.1 _).1]
  exact ⟨⟨by rw [O.1.1]; exact Nat.le_refl _, by rw [O.1.1, O.1.2], by rw [O.1.1, e]; exact Int.le_refl _⟩, fun a _ => O.2.1 a, ⟨((O.2.2 x (by omega)).2.1 296).1, fun f _ _ => ((O.2.2 x (by omega)).2.1 f).2.2⟩, fun a _ ho _ => O.2.2 a (by omega)⟩
theorem OtL.cst {i : Nat} (g : GC h x B ls N Ms n) (hi : i < 5) (s : CSt (B i) ls h lt h1) : OtL x h h1 := by
  have p := OtX.cst (E := fun _ => False) g hi s
  have q := g.2.2.1 i hi
  unfold isBk at q
  have gx := g.1.1
  have sx := s.1.2.2 x (by omega) (by omega) (Or.inl (by rw [g.1.2.1]; omega))
  exact ⟨p.1, p.2.1, ⟨(sx.1 296).1, fun f f1 _ => p.2.2.1.2 f f1⟩, fun a ha ho hk => p.2.2.2 a ha (by omega) id hk⟩
theorem OtL.rd (F : FrA (SB (B 1) (x + 328)) h y) (qB : isBk x (B 1)) (e7 : zi y 167 (B 1) = zi h 167 (B 1)) : OtL x h y := by
  unfold isBk at qB
  have same : ∀ a, a ≠ x + 328 → zi y 167 a = zi h 167 a ∨ (B 1 < a ∧ a < B 1 + 65) := fun a na => by
    by_cases c : a = B 1
    · rw [c]; exact Or.inl e7
    · by_cases d : B 1 ≤ a ∧ a < B 1 + 65
      · exact Or.inr (by omega)
      · exact Or.inl ((F.sm (fun q => by unfold SB at q; omega)).2.1 167).1
  have s2 : ∀ a, isBk x a → zi y 167 a = zi h 167 a := fun a ha => by
    unfold isBk at ha
    rcases same a (by omega) with e | e
    · exact e
    · omega
  have e : mdS x y = mdS x h := by
    unfold mdS
    rw [s2 (x + 2) (by unfold isBk; omega), s2 (x + 67) (by unfold isBk; omega), s2 (x + 133) (by unfold isBk; omega), s2 (x + 198) (by unfold isBk; omega), s2 (x + 263) (by unfold isBk; omega)]
  have mx := F.sm (a := x) (fun q => by unfold SB at q; omega)
  exact ⟨⟨by rw [F.1.1]; exact Nat.le_refl _, by rw [F.1.1, F.1.2], by rw [F.1.1, e]; exact Int.le_refl _⟩, fun a _ => F.2.1 a, ⟨(mx.2.1 296).1, fun f _ _ => (mx.2.1 f).2.2⟩, fun a _ ho _ => F.sm (fun q => by unfold SB at q; omega)⟩
/-- what load answers -/
def LcR (x : Nat) (B : Nat → Nat) (N : nT) (Ms : Nat → nT) (n : Nat) (r : (Int × Int) ⊕ nT) (u : Option Value) (h1 : zH) : Prop := match r with
  | .inl e => u = some (.int (-1)) ∧ zi h1 290 x = nI 9 ∧ zi h1 291 x = jI e.1 ∧ zi h1 292 x = jI e.2 ∧ ∃ lt, GC h1 x B lt N Ms n
  | .inr N' => u = some (.int (jI (nA N' 1))) ∧ zi h1 290 x = nI 0 ∧ zi h1 291 x = nI 0 ∧ zi h1 292 x = -1 ∧ ∃ B' lt, GC h1 x B' lt N' Ms n
def LdC (h : zH) (x : Nat) (B : Nat → Nat) (N : nT) (Ms : Nat → nT) (n tp : Nat) (z q : Int) (u : Option Value) (h1 : zH) : Prop := OtL x h h1 ∧ if 0 ≤ z ∧ z ≤ (tp : Int) then zi h1 289 x = nI 0 ∧ LcR x B N Ms n (loadR (fun i => bY (zI h (x + 1) i)) z.toNat q) u h1 else u = some (.int (-1)) ∧ h1 = zSi h 290 x (nI 1)
theorem GC.xsi {f : Nat} {v : Int32} (g : GC h x B ls N Ms n) (hf : f ≠ 296 ∧ f ≠ 98) : GC (zSi h f x v) x B ls N Ms n := g.si (Or.inl hf.1) hf.2 (fun i hi => by have q := g.2.2.1 i hi; unfold isBk at q; omega) (by rw [g.1.2.1]; omega)
theorem NetC.xsi {f : Nat} {v : Int32} (c : NetC h (B 1) ls N') (g : GC h x B ls N Ms n) (hf : f ≠ 98) : NetC (zSi h f x v) (B 1) ls N' := by
  have qB := g.2.2.1 1 (by omega)
  unfold isBk at qB
  refine c.tf (Nat.le_refl _) (fun a h1 h2 => SmA.si (by omega)) (fun k hk p hp => SmA.si (fun e => ?_)) (g.2.2.2.2.1.fr rfl (fun _ => rfl) (fun _ _ => rfl) (fun a => by rw [zi_Si, if_neg (fun q => hf q.1.symm)])) (fun _ _ => rfl)
  obtain ⟨j, hj⟩ := List.getElem?_of_mem hp
  have k6 := ((g.2.2.2.2.1.1 _ (lin_isL (g.2.2.2.2.2.1 1 (by omega)).1 hk)).2.2.2 j p hj).1.2
  rw [e, g.1.2.1] at k6
  omega
theorem c_loadC {tp : Nat} {z : Int} (g : GC h x B ls N Ms n) (T0 : TpF h x 9 288 (x + 1) 289 tp) (t6 : tp ≤ 600) (hr : zr h 297 x = some (x + 328)) (kr : zk h (x + 328) = 8) (zb : -2147483648 ≤ z ∧ z < 2147483648) : zM l w mX9_load [.ref x, .int (jI z)] h (LdC h x B N Ms n tp z q) := by
  refine zM.of (by decide) (Nat.le_of_ble_eq_true rfl) ?_
  refine g_iload_n 1 dX9_load_0 rfl rfl ?_
  refine g_zif_lt (a := z) (tgt := 12) rfl dX9_load_1 (by decide) (by omega) (fun c0 => ?_) (fun c0 => ?_)
  · refine g_aload_n 0 dX9_load_12 rfl rfl ?_
    refine g_iconst (v := nI 1) dX9_load_13 (by decide) ?_
    refine g_invv (M' := mX9_refuse) (As := [.int (nI 1)]) (rest := []) dX9_load_14 ml_X9_58 okX9_refuse imX9_refuse seX9_refuse ⟨(Nat.le_of_ble_eq_true rfl), (Nat.le_of_ble_eq_true rfl)⟩ (ci := 9) rfl rfl g.1.2.1 rfl rfl (Nat.le_of_ble_eq_true rfl) (c_refC g.1.2.1) ?_
    rintro _ q1 ⟨rfl, e1⟩
    subst q1
    show zG l w mX9_load 17 [(0, .ref x), (1, .int (jI z))] [.int (-1)] (zSi h 290 x (nI 1)) _
    refine g_ireturn dX9_load_17 rfl ?_
    exact ⟨OtL.si (by omega), by rw [if_neg (by omega)]; exact ⟨rfl, rfl⟩⟩
  · refine g_iload_n 1 dX9_load_4 rfl rfl ?_
    refine g_aload_n 0 dX9_load_5 rfl rfl ?_
    refine g_geti (f := 289) dX9_load_6 fl_X9_51 g.1.2.1 (by decide) rfl ?_
    rw [show zi h 289 x = nI tp from T0.2.2.2.2]
    refine g_zcmp_le (a := z) (b := ((tp : Nat) : Int)) (tgt := 18) rfl (jI_nat tp).symm dX9_load_9 (by decide) (by omega) (by omega) (fun c1 => ?_) (fun c1 => ?_)
    · obtain ⟨m, em⟩ : ∃ m : Nat, z = (m : Int) := ⟨_, (Int.toNat_of_nonneg (by omega)).symm⟩
      subst em
      rw [jI_nat]
      refine zG.mono (Q := fun u h1 => OtL x h h1 ∧ zi h1 289 x = nI 0 ∧ LcR x B N Ms n (loadR (fun i => bY (zI h (x + 1) i)) m q) u h1) ?_ (fun u h1 d => ⟨d.1, by rw [if_pos (by omega), Int.toNat_natCast]; exact d.2⟩)
      have gx := g.1.1
      have qB := g.2.2.1 1 (by omega)
      have qB2 := qB
      unfold isBk at qB2
      refine g_aload_n 0 dX9_load_18 rfl rfl ?_
      refine g_getr (f := 297) (b := x + 328) dX9_load_19 fl_X9_37 g.1.2.1 rfl hr ?_
      refine g_aload_n 0 dX9_load_22 rfl rfl ?_
      refine g_getr (f := 288) (b := x + 1) dX9_load_23 fl_X9_9 g.1.2.1 rfl T0.2.1 ?_
      refine g_iload_n 1 dX9_load_26 rfl rfl ?_
      refine g_aload_n 0 dX9_load_27 rfl rfl ?_
      refine g_getr (f := 294) (b := B 1) dX9_load_28 fl_X9_27 g.1.2.1 rfl g.1.2.2.2.1 ?_
      have CALL := c_readNet (l := l) (w := w) (q := q) (ls := ls) (b := B 1) kr T0.2.2.1 T0.2.2.2.1 (n := m) (t := fun i => bY (zI h (x + 1) i)) (by omega) (fun _ _ => rfl) (g.2.2.2.2.2.1 1 (by omega)) g.2.2.2.2.1 (by omega) (by omega) (by omega) (by omega)
      generalize eL : loadR (fun i => bY (zI h (x + 1) i)) m q = L at CALL ⊢
      clear eL
      cases L with
      | inl e =>
        refine g_invv (M' := mX8_readNet) (As := [.ref (x + 1), .int (nI m), .ref (B 1)]) (rest := []) dX9_load_31 ml_X9_62 okX8_readNet imX8_readNet seX8_readNet ⟨(Nat.le_of_ble_eq_true rfl), (Nat.le_of_ble_eq_true rfl)⟩ (ci := 8) rfl rfl kr rfl rfl (Nat.le_of_ble_eq_true rfl) CALL ?_
        rintro _ y3 ⟨y1, y2, lt, O1, C2, X2, F3, rfl, E3, W⟩
        show zG l w mX9_load 34 [(0, .ref x), (1, .int (nI m))] [.int (bI false)] y3 _
        have g1 : GC y1 x B ls N Ms n := g.ono O1 (by rw [kr]; omega) ⟨by omega, by omega, fun i hi => by have d := g.2.2.1 i hi; unfold isBk at d; omega⟩
        have g2 : GC y2 x B lt N Ms n := g1.paper C2 X2.2.1 (X2.tw (by rw [show nLk (zeN q) = 0 from by unfold nLk; rw [zeN_0 (by omega)]; rfl]; omega)).cw
        have kr2 : zk y2 (x + 328) = 8 := by rw [(C2.1.2.1 (x + 328) (by have := g1.1.1; have := O1.1.1; omega)).1, (O1.2.1 _).1]; exact kr
        have g3 : GC y3 x B lt N Ms n := g2.rd F3 kr2 W
        have e7 : zi y3 167 (B 1) = zi y2 167 (B 1) := W.2.2.2.2.1.trans X2.2.2.2.2.2.2.1.1.symm
        have o3 : OtL x h y3 := ((OtL.ono O1).tr (OtL.cst g1 (by omega) C2)).tr (OtL.rd F3 qB e7)
        have kr3 : zk y3 (x + 328) = 8 := by rw [(F3.2.1 _).1]; exact kr2
        have hr3 : zr y3 297 x = some (x + 328) := by rw [o3.2.2.1.2 297 (by omega) (by omega)]; exact hr
        refine g_istore_n (lv2 := [(2, .int (bI false)), (0, .ref x), (1, .int (nI m))]) dX9_load_34 rfl (by decide) rfl ?_
        refine g_aload_n 1 dX9_load_35 rfl rfl ?_
        refine g_iconst (v := nI 0) dX9_load_36 (by decide) ?_
        refine g_puti (f := 289) dX9_load_37 fl_X9_51 (Or.inl rfl) g3.1.2.1 rfl ?_
        refine g_aload_n 1 dX9_load_40 rfl rfl ?_
        refine g_aload_n 1 dX9_load_41 rfl rfl ?_
        refine g_getr (f := 297) (b := x + 328) dX9_load_42 fl_X9_37 g3.1.2.1 rfl hr3 ?_
        refine g_geti (f := 264) dX9_load_45 fl_X9_66 kr3 (by decide) rfl ?_
        rw [show zi (zSi y3 289 x (nI 0)) 264 (x + 328) = jI e.1 from (by rw [zi_Si, if_neg (by omega)]; exact E3.1)]
        refine g_puti (f := 291) dX9_load_48 fl_X9_13 (Or.inl rfl) g3.1.2.1 rfl ?_
        refine g_aload_n 1 dX9_load_51 rfl rfl ?_
        refine g_aload_n 1 dX9_load_52 rfl rfl ?_
        refine g_getr (f := 297) (b := x + 328) dX9_load_53 fl_X9_37 g3.1.2.1 rfl hr3 ?_
        refine g_geti (f := 265) dX9_load_56 fl_X9_69 kr3 (by decide) rfl ?_
        rw [show zi (zSi (zSi y3 289 x (nI 0)) 291 x (jI e.1)) 265 (x + 328) = jI e.2 from (by rw [zi_Si, if_neg (by omega), zi_Si, if_neg (by omega)]; exact E3.2)]
        refine g_puti (f := 292) dX9_load_59 fl_X9_17 (Or.inl rfl) g3.1.2.1 rfl ?_
        refine g_iload_n 0 dX9_load_62 rfl rfl ?_
        refine g_bif_ne (tgt := 73) dX9_load_63 (by decide) (fun dx => ?_) (fun dx => ?_)
        · cases dx
        · have G4 : GC (zSi (zSi (zSi y3 289 x (nI 0)) 291 x (jI e.1)) 292 x (jI e.2)) x B lt N Ms n := ((g3.xsi (by omega)).xsi (by omega)).xsi (by omega)
          refine g_aload_n 1 dX9_load_66 rfl rfl ?_
          refine g_bipush (v := nI 9) dX9_load_67 (by decide) ?_
          refine g_invv (M' := mX9_refuse) (As := [.int (nI 9)]) (rest := []) dX9_load_69 ml_X9_58 okX9_refuse imX9_refuse seX9_refuse ⟨(Nat.le_of_ble_eq_true rfl), (Nat.le_of_ble_eq_true rfl)⟩ (ci := 9) rfl rfl g3.1.2.1 rfl rfl (Nat.le_of_ble_eq_true rfl) (c_refC g3.1.2.1) ?_
          rintro _ q1 ⟨rfl, e1⟩
          subst q1
          show zG l w mX9_load 72 [(2, .int (bI false)), (0, .ref x), (1, .int (nI m))] [.int (-1)] (zSi (zSi (zSi (zSi y3 289 x (nI 0)) 291 x (jI e.1)) 292 x (jI e.2)) 290 x (nI 9)) _
          refine g_ireturn dX9_load_72 rfl ?_
          exact ⟨(((o3.tr (OtL.si (by omega))).tr (OtL.si (by omega))).tr (OtL.si (by omega))).tr (OtL.si (by omega)), by rw [zi_Si, if_neg (by omega), zi_Si, if_neg (by omega), zi_Si, if_neg (by omega), zi_same], rfl, zi_same, by rw [zi_Si, if_neg (by omega), zi_Si, if_neg (by omega), zi_same], by rw [zi_Si, if_neg (by omega), zi_same], lt, G4.stat⟩
      | inr N2 =>
        refine g_invv (M' := mX8_readNet) (As := [.ref (x + 1), .int (nI m), .ref (B 1)]) (rest := []) dX9_load_31 ml_X9_62 okX8_readNet imX8_readNet seX8_readNet ⟨(Nat.le_of_ble_eq_true rfl), (Nat.le_of_ble_eq_true rfl)⟩ (ci := 8) rfl rfl kr rfl rfl (Nat.le_of_ble_eq_true rfl) CALL ?_
        rintro _ y3 ⟨y1, y2, lt, O1, C2, X2, F3, rfl, X3, zp, E1, E2⟩
        show zG l w mX9_load 34 [(0, .ref x), (1, .int (nI m))] [.int (bI true)] y3 _
        have W := X3.tw (by have := zp.1; unfold nLk; omega)
        have g1 : GC y1 x B ls N Ms n := g.ono O1 (by rw [kr]; omega) ⟨by omega, by omega, fun i hi => by have d := g.2.2.1 i hi; unfold isBk at d; omega⟩
        have g2 : GC y2 x B lt N Ms n := g1.paper C2 X2.2.1 (X2.tw (by rw [show nLk (zeN q) = 0 from by unfold nLk; rw [zeN_0 (by omega)]; rfl]; omega)).cw
        have kr2 : zk y2 (x + 328) = 8 := by rw [(C2.1.2.1 (x + 328) (by have := g1.1.1; have := O1.1.1; omega)).1, (O1.2.1 _).1]; exact kr
        have g3 : GC y3 x B lt N Ms n := g2.rd F3 kr2 W
        have e7 : zi y3 167 (B 1) = zi y2 167 (B 1) := W.2.2.2.2.1.trans X2.2.2.2.2.2.2.1.1.symm
        have o3 : OtL x h y3 := ((OtL.ono O1).tr (OtL.cst g1 (by omega) C2)).tr (OtL.rd F3 qB e7)
        have kr3 : zk y3 (x + 328) = 8 := by rw [(F3.2.1 _).1]; exact kr2
        have hr3 : zr y3 297 x = some (x + 328) := by rw [o3.2.2.1.2 297 (by omega) (by omega)]; exact hr
        refine g_istore_n (lv2 := [(2, .int (bI true)), (0, .ref x), (1, .int (nI m))]) dX9_load_34 rfl (by decide) rfl ?_
        refine g_aload_n 1 dX9_load_35 rfl rfl ?_
        refine g_iconst (v := nI 0) dX9_load_36 (by decide) ?_
        refine g_puti (f := 289) dX9_load_37 fl_X9_51 (Or.inl rfl) g3.1.2.1 rfl ?_
        refine g_aload_n 1 dX9_load_40 rfl rfl ?_
        refine g_aload_n 1 dX9_load_41 rfl rfl ?_
        refine g_getr (f := 297) (b := x + 328) dX9_load_42 fl_X9_37 g3.1.2.1 rfl hr3 ?_
        refine g_geti (f := 264) dX9_load_45 fl_X9_66 kr3 (by decide) rfl ?_
        rw [show zi (zSi y3 289 x (nI 0)) 264 (x + 328) = nI 0 from (by rw [zi_Si, if_neg (by omega)]; exact E1)]
        refine g_puti (f := 291) dX9_load_48 fl_X9_13 (Or.inl rfl) g3.1.2.1 rfl ?_
        refine g_aload_n 1 dX9_load_51 rfl rfl ?_
        refine g_aload_n 1 dX9_load_52 rfl rfl ?_
        refine g_getr (f := 297) (b := x + 328) dX9_load_53 fl_X9_37 g3.1.2.1 rfl hr3 ?_
        refine g_geti (f := 265) dX9_load_56 fl_X9_69 kr3 (by decide) rfl ?_
        rw [show zi (zSi (zSi y3 289 x (nI 0)) 291 x (nI 0)) 265 (x + 328) = (-1) from (by rw [zi_Si, if_neg (by omega), zi_Si, if_neg (by omega)]; exact E2)]
        refine g_puti (f := 292) dX9_load_59 fl_X9_17 (Or.inl rfl) g3.1.2.1 rfl ?_
        refine g_iload_n 0 dX9_load_62 rfl rfl ?_
        refine g_bif_ne (tgt := 73) dX9_load_63 (by decide) (fun dx => ?_) (fun dx => ?_)
        · have G4 : GC (zSi (zSi (zSi y3 289 x (nI 0)) 291 x (nI 0)) 292 x (-1)) x B lt N Ms n := ((g3.xsi (by omega)).xsi (by omega)).xsi (by omega)
          have nt : NetC y3 (B 1) lt N2 := X3.net zp
          have nt4 : NetC (zSi (zSi (zSi y3 289 x (nI 0)) 291 x (nI 0)) 292 x (-1)) (B 1) lt N2 := ((nt.xsi g3 (f := 289) (v := nI 0) (by omega)).xsi (g3.xsi (by omega)) (f := 291) (v := nI 0) (by omega)).xsi ((g3.xsi (by omega)).xsi (by omega)) (f := 292) (v := -1) (by omega)
          have o4 : OtL x h (zSi (zSi (zSi y3 289 x (nI 0)) 291 x (nI 0)) 292 x (-1)) := ((o3.tr (OtL.si (by omega))).tr (OtL.si (by omega))).tr (OtL.si (by omega))
          have w4 : zi (zSi (zSi (zSi y3 289 x (nI 0)) 291 x (nI 0)) 292 x (-1)) 289 x = nI 0 ∧ zi (zSi (zSi (zSi y3 289 x (nI 0)) 291 x (nI 0)) 292 x (-1)) 291 x = nI 0 ∧ zi (zSi (zSi (zSi y3 289 x (nI 0)) 291 x (nI 0)) 292 x (-1)) 292 x = -1 := ⟨by rw [zi_Si, if_neg (by omega), zi_Si, if_neg (by omega), zi_same], by rw [zi_Si, if_neg (by omega), zi_same], zi_same⟩
          generalize zSi (zSi (zSi y3 289 x (nI 0)) 291 x (nI 0)) 292 x (-1) = y4 at G4 nt4 o4 w4 ⊢
          refine g_aload_n 1 dX9_load_73 rfl rfl ?_
          refine g_getr (f := 293) (b := B 0) dX9_load_74 fl_X9_23 G4.1.2.1 rfl G4.1.2.2.1 ?_
          refine g_astore_n (lv2 := [(3, .ref (B 0)), (2, .int (bI true)), (0, .ref x), (1, .int (nI m))]) dX9_load_77 rfl (by decide) rfl ?_
          refine g_aload_n 2 dX9_load_78 rfl rfl ?_
          refine g_aload_n 2 dX9_load_79 rfl rfl ?_
          refine g_getr (f := 294) (b := B 1) dX9_load_80 fl_X9_27 G4.1.2.1 rfl G4.1.2.2.2.1 ?_
          refine g_putr (f := 293) dX9_load_83 fl_X9_23 (Or.inl rfl) G4.1.2.1 rfl ?_
          refine g_aload_n 2 dX9_load_86 rfl rfl ?_
          refine g_aload_n 0 dX9_load_87 rfl rfl ?_
          refine g_putr (f := 294) dX9_load_88 fl_X9_27 (Or.inl rfl) G4.1.2.1 rfl ?_
          have G5 : GC (zSr (zSr y4 293 x (some (B 1))) 294 x (some (B 0))) x (swP B) lt N2 Ms n := G4.toNet nt4 rfl (fun a na => ⟨⟨rfl, rfl⟩, fun f => ⟨rfl, rfl, by rw [zr_Sr, if_neg (fun q => na q.2), zr_Sr, if_neg (fun q => na q.2)]⟩, fun _ => ⟨rfl, rfl, rfl⟩⟩) G4.1.2.1 (by rw [zr_Sr, if_neg (by omega), zr_Sr, if_pos ⟨rfl, rfl⟩]) (by rw [zr_Sr, if_pos ⟨rfl, rfl⟩]) (by rw [zr_Sr, if_neg (by omega), zr_Sr, if_neg (by omega)]) rfl
          have o5 : OtL x h (zSr (zSr y4 293 x (some (B 1))) 294 x (some (B 0))) := (o4.tr (OtL.sr (by omega))).tr (OtL.sr (by omega))
          have w5 : zi (zSr (zSr y4 293 x (some (B 1))) 294 x (some (B 0))) 289 x = nI 0 ∧ zi (zSr (zSr y4 293 x (some (B 1))) 294 x (some (B 0))) 291 x = nI 0 ∧ zi (zSr (zSr y4 293 x (some (B 1))) 294 x (some (B 0))) 292 x = -1 := w4
          obtain ⟨π5, t5, c5, -, -⟩ := G5.2.2.2.2.2.2.1
          have f5 : zi (zSr (zSr y4 293 x (some (B 1))) 294 x (some (B 0))) 163 (B 1) = jI (nA N2 1) := c5.2.2.1.2.1
          have k5 : zk (zSr (zSr y4 293 x (some (B 1))) 294 x (some (B 0))) (B 1) = 5 := c5.1.1.2
          have n5 : zr (zSr (zSr y4 293 x (some (B 1))) 294 x (some (B 0))) 293 x = some (B 1) := G5.1.2.2.1
          generalize zSr (zSr y4 293 x (some (B 1))) 294 x (some (B 0)) = y5 at G5 o5 w5 f5 k5 n5 ⊢
          refine g_aload_n 2 dX9_load_91 rfl rfl ?_
          refine g_aload_n 2 dX9_load_92 rfl rfl ?_
          refine g_getr (f := 293) (b := B 1) dX9_load_93 fl_X9_23 G5.1.2.1 rfl n5 ?_
          refine g_geti (f := 163) dX9_load_96 fl_X9_72 k5 (by decide) rfl ?_
          rw [show zi y5 163 (B 1) = jI (nA N2 1) from f5]
          refine g_invv (M' := mX9_answer) (As := [.int (jI (nA N2 1))]) (rest := []) dX9_load_99 ml_X9_75 okX9_answer imX9_answer seX9_answer ⟨(Nat.le_of_ble_eq_true rfl), (Nat.le_of_ble_eq_true rfl)⟩ (ci := 9) rfl rfl G5.1.2.1 rfl rfl (Nat.le_of_ble_eq_true rfl) (c_ans G5.1.2.1) ?_
          rintro _ q1 ⟨rfl, e1⟩
          subst q1
          show zG l w mX9_load 102 [(3, .ref (B 0)), (2, .int (bI true)), (0, .ref x), (1, .int (nI m))] [.int (jI (nA N2 1))] (zSi y5 290 x (nI 0)) _
          refine g_ireturn dX9_load_102 rfl ?_
          exact ⟨o5.tr (OtL.si (by omega)), by rw [zi_Si, if_neg (by omega)]; exact w5.1, rfl, zi_same, by rw [zi_Si, if_neg (by omega)]; exact w5.2.1, by rw [zi_Si, if_neg (by omega)]; exact w5.2.2, swP B, lt, G5.stat⟩
        · cases dx
    · refine g_aload_n 0 dX9_load_12 rfl rfl ?_
      refine g_iconst (v := nI 1) dX9_load_13 (by decide) ?_
      refine g_invv (M' := mX9_refuse) (As := [.int (nI 1)]) (rest := []) dX9_load_14 ml_X9_58 okX9_refuse imX9_refuse seX9_refuse ⟨(Nat.le_of_ble_eq_true rfl), (Nat.le_of_ble_eq_true rfl)⟩ (ci := 9) rfl rfl g.1.2.1 rfl rfl (Nat.le_of_ble_eq_true rfl) (c_refC g.1.2.1) ?_
      rintro _ q1 ⟨rfl, e1⟩
      subst q1
      show zG l w mX9_load 17 [(0, .ref x), (1, .int (jI z))] [.int (-1)] (zSi h 290 x (nI 1)) _
      refine g_ireturn dX9_load_17 rfl ?_
      exact ⟨OtL.si (by omega), by rw [if_neg (by omega)]; exact ⟨rfl, rfl⟩⟩
end LDC
