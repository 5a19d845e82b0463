section LAWs
variable {p : Program} {s : State} {A : Array Value} {h h1 y : zH} {x : Nat}
def tmS (i : Nat) : Term := .string (zStr.getD i ("", 0, "")).1 (zStr.getD i ("", 0, "")).2.1
def flP : List Cond := flatC (Jvm.Cond.and given_1 narrow_1)
theorem fl_ex : ((List.range 9).all fun i => decide (Cond.exactly (tmS i) "java/lang/String" ∈ flP)) = true := by decide +kernel
theorem fl_co : ((List.range 9).all fun i => decide (Cond.eq (.field (tmS i) "java/lang/String" "coder" "B") (.int 0) ∈ flP)) = true := by decide +kernel
theorem fl_ar : ((List.range 9).all fun i => decide (Cond.arrayOf (.field (tmS i) "java/lang/String" "value" "[B") .byte ∈ flP)) = true := by decide +kernel
theorem fl_le : ((List.range 9).all fun i => decide (Cond.eq (.length (.field (tmS i) "java/lang/String" "value" "[B")) (.int (Int32.ofNat (zLen.getD i 0))) ∈ flP)) = true := by decide +kernel
theorem fl_el : ((List.range 9).all fun i => (List.range (zLen.getD i 0)).all fun j => decide (Cond.eq (.elem (.field (tmS i) "java/lang/String" "value" "[B") (.int (Int32.ofNat j))) (.int ((zByt.getD i []).getD j 0)) ∈ flP)) = true := by decide +kernel
theorem fl_ne : ((List.range 9).all fun i => (List.range 9).all fun j => i == j || (decide (Cond.not (Cond.eq (tmS i) (tmS j)) ∈ flP) || decide (Cond.not (Cond.eq (tmS j) (tmS i)) ∈ flP))) = true := by decide +kernel
theorem fl_ln : ((List.range 9).all fun i => decide (zLen.getD i 0 < 2 ^ 31)) = true := by decide +kernel
theorem fl_zs : (decide (Cond.eq (.static "java/lang/String" "COMPACT_STRINGS" "Z") (.int 1) ∈ flP) && decide (Cond.isRef (.static "jdk/internal/util/Preconditions" "SIOOBE_FORMATTER" "Ljava/util/function/BiFunction;") ∈ flP)) = true := by decide +kernel
theorem tb_st : (zStr.all fun q => decide (Cond.stringRef q.1 q.2.1 q.2.2 ∈ lw_tbl)) = true := by decide +kernel
theorem tb_ne : (zNest.all fun q => decide (Cond.methodLinkNest q.1 q.2.1 q.2.2.1 q.2.2.2 ∈ lw_tbl)) = true := by decide +kernel
theorem tb_ao : (decide (Cond.arrayOver (.object "SharedSurplus$Flow") ∈ lw_tbl) && (decide (Cond.arrayOver (.object "SharedSurplus$Link") ∈ lw_tbl) && decide (Cond.arrayOver (.object "SharedSurplus$Net") ∈ lw_tbl))) = true := by decide +kernel
theorem tb_zs : ((decide (Cond.laysStatic "java/lang/String" "COMPACT_STRINGS" "Z" ∈ lw_tbl) && decide (Cond.initialized "java/lang/String" ∈ lw_tbl)) && (decide (Cond.laysStatic "jdk/internal/util/Preconditions" "SIOOBE_FORMATTER" "Ljava/util/function/BiFunction;" ∈ lw_tbl) && decide (Cond.initialized "jdk/internal/util/Preconditions" ∈ lw_tbl))) = true := by decide +kernel
theorem al9 {P : Nat → Bool} {n i : Nat} (h : (List.range n).all P = true) (hi : i < n) : P i = true := List.all_eq_true.mp h i (List.mem_range.mpr hi)
theorem lw_str (hg : (Jvm.Cond.and given_1 narrow_1).before A s = true) : ∃ adK adV : Nat → Nat, vk_S 9 zLen zByt adK adV (fun q => s.heap.size ≤ q) s s.heap ∧ ∀ i : Nat, i < 9 → (tmS i).eval A s none [] s = some (.ref (adK i)) := by
  have hs : ∀ c ∈ flP, c.before A s = true := flat_of_before _ hg
  refine vk_Sof (tm := tmS) (fun i hi => of_decide_eq_true (al9 fl_ln hi)) (fun i hi => hs _ (of_decide_eq_true (al9 fl_ex hi))) (fun i hi => hs _ (of_decide_eq_true (al9 fl_co hi))) (fun i hi => hs _ (of_decide_eq_true (al9 fl_ar hi))) (fun i hi => hs _ (of_decide_eq_true (al9 fl_le hi))) (fun i hi j hj => hs _ (of_decide_eq_true (al9 (al9 fl_el hi) hj))) (fun i j hi hj hn => ?_) (fun a ha => Nat.not_le.mpr ha)
  have q := al9 (al9 fl_ne hi) hj
  rcases Bool.or_eq_true_iff.mp q with e | e
  · exact absurd (eq_of_beq e) hn
  · rcases Bool.or_eq_true_iff.mp e with e | e
    · exact Or.inl (hs _ (of_decide_eq_true e))
    · exact Or.inr (hs _ (of_decide_eq_true e))
theorem kn_of {ci n N : Nat} {C : String} {T : u_T} {ty0 : Nat → FieldType} (hts : ∀ x ∈ lw_all, x.before A s = true) (z : zCls ci C T N ty0) (hi : Cond.instantiable C n ∈ lw_all) : ∃ d : ClassId × (Nat → Nat), ∀ q, vwCl[ci]? = some q → u_Kn s q.1 q.2.1 q.2.2 d.1 d.2 := by
  obtain ⟨c, iS, hk⟩ := u_known hts z.2.1 (hts _ hi)
  refine ⟨(c, iS), fun q hq => ?_⟩
  have e := Option.some.inj (z.1.symm.trans hq)
  subst e
  exact hk
theorem kn_all (hts : ∀ x ∈ lw_all, x.before A s = true) : ∃ D : va_G, ∀ (k : Nat) (q : vw_C), vwCl[k]? = some q → u_Kn s q.1 q.2.1 q.2.2 (D.1 k) (D.2 k) := by
  have h0 : ∀ k : Nat, ∃ d : ClassId × (Nat → Nat), ∀ q, vwCl[k]? = some q → u_Kn s q.1 q.2.1 q.2.2 d.1 d.2 := by
    intro k
    by_cases hk : k < 11
    · rcases (show k = 0 ∨ k = 1 ∨ k = 2 ∨ k = 3 ∨ k = 4 ∨ k = 5 ∨ k = 6 ∨ k = 7 ∨ k = 8 ∨ k = 9 ∨ k = 10 by omega) with rfl | rfl | rfl | rfl | rfl | rfl | rfl | rfl | rfl | rfl | rfl
      · exact kn_of hts zc_0 zi_0
      · exact kn_of hts zc_1 zi_1
      · exact kn_of hts zc_2 zi_2
      · exact kn_of hts zc_3 zi_3
      · exact kn_of hts zc_4 zi_4
      · exact kn_of hts zc_5 zi_5
      · exact kn_of hts zc_6 zi_6
      · exact kn_of hts zc_7 zi_7
      · exact kn_of hts zc_8 zi_8
      · exact kn_of hts zc_9 zi_9
      · exact kn_of hts zc_10 zi_10
    · refine ⟨(0, fun _ => 0), fun q hq => absurd (zcl_lt hq) hk⟩
  obtain ⟨d, hd⟩ := Classical.axiomOfChoice h0
  exact ⟨(fun k => (d k).1, fun k => (d k).2), fun k q hq => hd k q hq⟩
theorem ar_of {ty : FieldType} (h : (Cond.arrayClass ty).before A s = true) (hn : ∀ C, ty ≠ .object C) : ∃ cA : ClassId, ArrOfT s cA ty ∧ va_RA s cA ty := by
  obtain ⟨cA, kA, comp, h1, h2, h3⟩ := Cond.arrayClass_spec h
  refine ⟨cA, fun n z => ⟨fun k h => (by cases h), kA, h2, comp, h3⟩, ?_⟩
  cases ty with
  | object C => exact absurd rfl (hn C)
  | _ => exact h1
theorem ao_of {C : String} (h : (Cond.arrayOver (.object C)).before A s = true) : ∃ cA : ClassId, ArrOfT s cA (.object C) ∧ va_RA s cA (.object C) := by
  obtain ⟨comp, cA, kA, h1, h2, h3, h4, h5⟩ := Cond.arrayOver_spec h
  exact ⟨cA, fun n z => ⟨fun k h => (by cases h), kA, h3, comp, h4⟩, kA, comp, h3, h4, h1, h5⟩
theorem lw_world (hts : ∀ x ∈ lw_tbl, x.before A s = true) (hg : (Jvm.Cond.and given_1 narrow_1).before A s = true) : ∃ w : zW, w.2.2.1 = s.heap.size ∧ zK w s ∧ zOld w s s.heap := by
  have hta : ∀ x ∈ lw_all, x.before A s = true := fun x h => hts x (lw_all_tbl h)
  have hs : ∀ c ∈ flP, c.before A s = true := flat_of_before _ hg
  obtain ⟨adK, adV, hS, hE⟩ := lw_str hg
  obtain ⟨D, hD⟩ := kn_all hta
  have ao := tb_ao
  have zs := tb_zs
  have fz := fl_zs
  simp only [Bool.and_eq_true, decide_eq_true_eq] at ao zs fz
  obtain ⟨a0, r0⟩ := ar_of (hta _ ac_0) (fun C => by intro e; cases e)
  obtain ⟨a1, r1⟩ := ar_of (hta _ ac_1) (fun C => by intro e; cases e)
  obtain ⟨a2, r2⟩ := ar_of (hta _ ac_2) (fun C => by intro e; cases e)
  obtain ⟨a3, r3⟩ := ar_of (hta _ ac_3) (fun C => by intro e; cases e)
  obtain ⟨a4, r4⟩ := ao_of (hts _ ao.1)
  obtain ⟨a5, r5⟩ := ao_of (hts _ ao.2.1)
  obtain ⟨a6, r6⟩ := ao_of (hts _ ao.2.2)
  refine ⟨(D, fun t => if t = 0 then a0 else if t = 1 then a1 else if t = 2 then a2 else if t = 3 then a3 else if t = 4 then a4 else if t = 5 then a5 else a6, s.heap.size, adK, adV), rfl, ⟨⟨hD, fun k q hq => ?_⟩, ⟨va_AO.of (hts _ ao.1), va_AO.of (hts _ ao.2.1), va_AO.of (hts _ ao.2.2)⟩, fun q hq => ?_, fun i q hq => ?_⟩, hS, ?_, ?_⟩
  · match k, hq with
    | 0, hq => cases hq; exact r0
    | 1, hq => cases hq; exact r1
    | 2, hq => cases hq; exact r2
    | 3, hq => cases hq; exact r3
    | 4, hq => cases hq; exact r4
    | 5, hq => cases hq; exact r5
    | 6, hq => cases hq; exact r6
    | k + 7, hq => exact absurd (List.getElem?_eq_some_iff.mp hq).1 (by show ¬ k + 7 < 7; omega)
  · exact va_Nw.of rfl (hts _ (of_decide_eq_true (List.all_eq_true.mp tb_ne q hq)))
  · have hi : i < 9 := (List.getElem?_eq_some_iff.mp hq).1
    refine vk_R.of (hts _ (of_decide_eq_true (List.all_eq_true.mp tb_st q (List.mem_of_getElem? hq)))) ?_
    have e := hE i hi
    unfold tmS at e
    rw [List.getD_eq_getElem?_getD, hq] at e
    exact e
  · exact va_Zof (hts _ zs.1.1) (hts _ zs.1.2) (va_eqt (hs _ fz.1)) (fun a ha => Nat.not_le.mpr ha)
  · exact va_Zqof (hts _ zs.2.1) (hts _ zs.2.2) (hs _ fz.2) (fun a ha => Nat.not_le.mpr ha)
/-- a heap of which nothing is known but its size -/
def h00 (n : Nat) : zH := (fun _ _ => 0, fun _ _ => 0, fun _ _ => none, fun _ _ => 0, fun _ _ => 0, fun _ _ => none, fun _ => 99, fun _ => 0, n, 0)
theorem zRel0 {w : zW} (hw : w.2.2.1 = s.heap.size) (hO : zOld w s s.heap) : zRel w s (h00 s.heap.size) s.heap := by
  refine ⟨rfl, by rw [hw]; exact Nat.le_refl _, fun a r hr => ?_, fun a t ty ht hty => ?_, hO⟩
  · have : (99 : Nat) < 11 := zcl_lt hr
    omega
  · have e : (99 : Nat) = 20 + t := ht
    have e2 : t < 7 := (List.getElem?_eq_some_iff.mp hty).1
    omega
/-- the class where cells came behind it -/
theorem GC.ext {B : Nat → Nat} {ls : Nat → List Nat} {N : nT} {Ms : Nat → nT} {n : Nat} (g : GC h x B ls N Ms n) (hx : zx h ≤ zx h1) (S : ∀ a, a < zx h → SmA h h1 a) (il : ∀ L, isL h1 L → isL h L) : GC h1 x B ls N Ms n := by
  have po : ∀ i, i < 5 → B i + 65 ≤ x + 333 := fun i hi => by have q := g.2.2.1 i hi; unfold isBk at q; omega
  obtain ⟨⟨g1, g2, g3, g4, g5, g6, g7⟩, ⟨g8, g9, g10⟩, gB, gD, gl, gw, gn, gm⟩ := g
  have sx := S x (by omega)
  have sR := S (x + 132) (by omega)
  have sl : lnS h1 ls := gl.tf hx il (fun a ha _ => S a ha)
  have e1 : ∀ i, i < 5 → ∀ a, B i ≤ a → a < B i + 65 → SmA h h1 a := fun i hi a _ h2 => S a (by have := po i hi; omega)
  have e2 : ∀ i, i < 5 → ∀ k, k < 14 → ∀ q, q ∈ ls (lin (B i) k) → SmA h h1 q := fun i hi k hk q hq => by
    obtain ⟨j, hj⟩ := List.getElem?_of_mem hq
    exact S q ((gl.1 _ (lin_isL (gw i hi).1 hk)).2.2.2 j q hj).1.1
  exact ⟨⟨by omega, sx.1.1.trans g2, (sx.2.1 293).2.2.trans g3, (sx.2.1 294).2.2.trans g4, (sx.2.1 295).2.2.trans g5, (sx.2.1 296).1.trans g6, g7⟩, ⟨sR.1.1.trans g8, sR.1.2.trans g9, fun k hk => (sR.2.2 k).2.2.trans (g10 k hk)⟩, gB, gD, sl, fun i hi => (gw i hi).tf hx (e1 i hi) (fun _ _ => rfl), gn.tf hx (e1 0 (by omega)) (e2 0 (by omega)) sl (fun _ _ => rfl), fun k hk => (gm k hk).tf hx (e1 _ (by omega)) (e2 _ (by omega)) sl (fun _ _ => rfl)⟩
set_option maxHeartbeats 2000000 in
/-- THE LAW, from its entry -/
theorem whole_start {p : Program} {e : Env} {s : State} {m : MethodId} {below : List Frame} {meth : Method} {c : Code} (l : Launch) (hflags : l.flags = flags0) {b L : Nat} {xs : Nat → Int32} (hL : L ≤ 3072) (C0 : lw_At p s m meth c b L xs) : W p l e room_1 s m #[Value.ref b] below meth c s.heap [] 0 0 (lw_Z below #[Value.ref b] s) (entryFrame m ([Value.ref b] : List Value).toArray 4) := by
  obtain ⟨hx, hb, hr, hml, hown, hts, hX, hbl, hlocks, hgv⟩ := C0
  have hta : ∀ x ∈ lw_all, x.before #[Value.ref b] s = true := fun x h => hts x (lw_all_tbl h)
  obtain ⟨w, hw, hK, hO⟩ := lw_world hts hgv
  have C : LawC p w s m meth c b L xs := ⟨⟨hx, hb, hml, hown, hta, hK⟩, ⟨hX, hbl⟩, hw, hr, hlocks⟩
  have hl := lv_entry ([.ref b]) (n := 4) (Nat.le_of_ble_eq_true rfl)
  rw [lg_entry_eq]
  generalize (lg_sl ([.ref b]) ++ List.replicate (4 - (lg_sl ([.ref b])).length) Slot.unset).toArray = ls at hl ⊢
  have hl : lv_has ls 4 [(0, .ref b)] := hl
  generalize hX0 : s.heap.size = X at *
  have A0 : zAt w mLw s (h00 X) s.heap [(0, .ref b)] ls [] X 0 := ⟨by rw [← hX0]; exact zRel0 (by rw [hw, hX0]) hO, fun _ _ => rfl, fun q hq => absurd hq List.not_mem_nil, hl, Nat.le_refl _, Nat.le_refl _⟩
  have K : W p l e room_1 s m #[Value.ref b] below meth c s.heap [] (zx (h00 X) - X) (zt (h00 X) - 0) (lw_Z below #[Value.ref b] s) (F0 m 0 ls []) := by
    have z0 : zx (h00 X) = X := rfl
    have y0 : zt (h00 X) = 0 := rfl
    have k0 : ∀ a, zk (h00 X) a = 99 := fun _ => rfl
    generalize h00 X = g0 at A0 z0 y0 k0 ⊢
    refine lw_new (x := X) C dL_law_0 mk_L_7 z0 (by omega) (by omega) A0 (fun H1 A1 => ?_)
    refine lv_dup hx hb dL_law_3 rfl ?_
    have z1 : zx (zNw g0 9 11) = X + 1 := by rw [zx_Nw, z0]
    have y1 : zt (zNw g0 9 11) = 11 := by rw [zt_Nw, y0]
    have k1 : zk (zNw g0 9 11) X = 9 := by rw [zk_Nw, if_pos z0.symm]
    have i1 : ∀ f, zi (zNw g0 9 11) f X = 0 := fun f => by rw [zi_Nw, if_pos z0.symm]
    have n3 : ∀ a, zk (zNw g0 9 11) a ≠ 3 := fun a => by
      rw [zk_Nw, k0]
      by_cases q : a = zx g0
      · rw [if_pos q]; omega
      · rw [if_neg q]; omega
    generalize zNw g0 9 11 = g1 at A1 z1 y1 k1 i1 n3 ⊢
    obtain ⟨u, g2, c1, rfl, z2, y2, S2, G2, T2, d0, d1, d2, D7, D8, tp2, md2⟩ := c_xInit (l := l) (w := w) k1 z1 i1 n3
    refine lw_invi (M' := mX9_init) (As := []) (rest := [.ref X]) C dL_law_4 ml_L_9 okX9_init imX9_init rfl rfl ⟨(Nat.le_of_ble_eq_true rfl), (Nat.le_of_ble_eq_true rfl)⟩ rfl rfl (Nat.le_of_ble_eq_true rfl) c1 (by omega) (by omega) A1 (fun H2 locs2 A2 => ?_)
    refine lv_astore_n (lv' := [(1, .ref X), (0, .ref b)]) hx hb dL_law_7 rfl A2.2.2.2.1 (by decide) rfl (fun ls hl => ?_)
    have A3 : zAt w mLw s g2 H2 [(1, .ref X), (0, .ref b)] ls locs2 X 0 := ⟨A2.1, A2.2.1, A2.2.2.1, hl, A2.2.2.2.2⟩
    refine lw_new (x := X + 333) C dL_law_8 mk_L_10 z2 (by omega) (by omega) A3 (fun H3 A4 => ?_)
    refine lv_dup hx hb dL_law_11 rfl ?_
    have z3 : zx (zNw g2 10 18) = X + 333 + 1 := by rw [zx_Nw, z2]
    have y3 : zt (zNw g2 10 18) = zt g2 + 18 := by rw [zt_Nw]
    have k3 : zk (zNw g2 10 18) (X + 333) = 10 := by rw [zk_Nw, if_pos z2.symm]
    have i3 : ∀ f, zi (zNw g2 10 18) f (X + 333) = 0 := fun f => by rw [zi_Nw, if_pos z2.symm]
    have S3 : ∀ a, a < X + 333 → SmA g2 (zNw g2 10 18) a := fun a ha => SmA.nw (by omega)
    generalize zNw g2 10 18 = g3 at A4 z3 y3 k3 i3 S3 ⊢
    obtain ⟨u, g4, c3, rfl, z4, y4, S4, M4, e0, e1, e2, e3, e4, tp4⟩ := c_mInit (l := l) (w := w) k3 z3 i3
    refine lw_invi (M' := mX10_init) (As := []) (rest := [.ref (X + 333)]) C dL_law_12 ml_L_12 okX10_init imX10_init rfl rfl ⟨(Nat.le_of_ble_eq_true rfl), (Nat.le_of_ble_eq_true rfl)⟩ rfl rfl (Nat.le_of_ble_eq_true rfl) c3 (by omega) (by omega) A4 (fun H4 locs4 A5 => ?_)
    refine lv_astore_n (lv' := [(2, .ref (X + 333)), (1, .ref X), (0, .ref b)]) hx hb dL_law_15 rfl A5.2.2.2.1 (by decide) rfl (fun ls hl => ?_)
    refine lv_iconst (v := nI 0) hx hb dL_law_16 (by decide) ?_
    refine lv_istore_n (lv' := [(3, .int (nI 0)), (2, .ref (X + 333)), (1, .ref X), (0, .ref b)]) hx hb dL_law_17 rfl hl (by decide) rfl (fun ls hl => ?_)
    have SS : ∀ a, a < X + 333 → SmA g2 g4 a := fun a ha => (S3 a ha).tr (S4 a ha)
    have sx := SS X (by omega)
    have s1 := SS (X + 1) (by omega)
    have sr := SS (X + 328) (by omega)
    have sb := SS (X + 329) (by omega)
    have sb1 := SS (X + 330) (by omega)
    have sb2 := SS (X + 331) (by omega)
    have sb3 := SS (X + 332) (by omega)
    have G4 : GC g4 X (B0 X) ls0 (zeN 0) (fun _ => zeN 0) 0 := (G2 0 (fun _ => zeN 0)).ext (by omega) (fun a ha => SS a (by omega)) (fun K hK => by
      by_cases q : K < X + 333
      · exact ⟨by omega, (SS K q).1.1.symm.trans hK.2⟩
      · exact absurd hK.2 (M4.1.k36 (by omega) (by have := hK.1; omega)).1)
    obtain ⟨t1, t2, t3, t4, t5⟩ := T2
    obtain ⟨D9, ⟨o0, ⟨o1, o2, o3⟩, ⟨o4, o5, o6⟩, o7, o8, o9⟩⟩ := D8
    have md4 : mdS X g4 = 0 := by
      rw [← md2]
      unfold mdS
      rw [((SS (X + 2) (by omega)).2.1 167).1, ((SS (X + 67) (by omega)).2.1 167).1, ((SS (X + 133) (by omega)).2.1 167).1, ((SS (X + 198) (by omega)).2.1 167).1, ((SS (X + 263) (by omega)).2.1 167).1]
    have R0 : RLa X (zt g4) g4 0 := ⟨B0 X, ls0, zeN 0, fun _ => zeN 0, 0, 0, 0, -1, -1, G4, ⟨⟨⟨sx.1.1.trans t1, (sx.2.1 288).2.2.trans t2, s1.1.1.trans t3, s1.1.2.trans t4, (sx.2.1 289).1.trans t5⟩, Nat.zero_le _⟩, ⟨⟨(sx.2.1 297).2.2.trans D7.1, sr.1.1.trans D7.2⟩, (sx.2.1 298).2.2.trans D9, ⟨sb.1.1.trans o0, ⟨(sb.2.1 0).2.2.trans o1, sb1.1.1.trans o2, sb1.1.2.trans o3⟩, ⟨(sb.2.1 1).2.2.trans o4, sb2.1.1.trans o5, sb2.1.2.trans o6⟩, (sb.2.1 2).2.2.trans o7, sb3.1.1.trans o8, sb3.1.2.trans o9⟩⟩, (sx.2.1 290).1.trans d0, (sx.2.1 291).1.trans d1, (sx.2.1 292).1.trans d2⟩, M4, ⟨⟨fun j hj => absurd hj (by omega), e1⟩, e2, e0, e4, e3⟩, fun i => (tp4 i).trans ((s1.2.2 i).1.trans (tp2 i)).symm, ⟨⟨by rw [zeN_0 (by omega)]; omega, zeN_0 (by omega)⟩, fun j hj => absurd hj (by omega)⟩, ⟨by omega, by rw [md4, z4]; omega, by rw [z4]; omega⟩⟩
    exact lw_loop C hL rfl (by omega) (L + 1) 0 g4 H4 ls locs4 (by omega) (by omega) R0 ⟨A5.1, A5.2.1, A5.2.2.1, lv_sub hl [0, 3, 2, 1] rfl, A5.2.2.2.2⟩
  have ez : zx (h00 X) - X = 0 := Nat.sub_self X
  rw [ez] at K
  exact K
end LAWs
