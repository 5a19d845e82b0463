section CTR
variable {l : Launch} {w : zW} {h y z : zH} {o o' c : Nat}
/-- what a constructor of o leaves as it is; what is new is nothing -/
def FrC (o : Nat) (h y : zH) : Prop := zx h ≤ zx y ∧ (∀ a, a < zx h → (zk y a = zk h a ∧ zn y a = zn h a) ∧ (∀ f, zi y f a = zi h f a ∧ zl y f a = zl h f a ∧ ((a ≠ o ∨ f = 96 ∨ f = 97) → zr y f a = zr h f a)) ∧ ∀ i, zI y a i = zI h a i ∧ zL y a i = zL h a i ∧ (a ≠ o → zR y a i = zR h a i)) ∧ ∀ a, zx h ≤ a → a < zx y → (∀ f, zi y f a = 0 ∧ zl y f a = 0) ∧ (∀ i, zI y a i = 0 ∧ zL y a i = 0) ∧ zr y 96 a = none ∧ zr y 97 a = none
theorem FrC.rf : FrC o h h := ⟨Nat.le_refl _, fun _ _ => ⟨⟨rfl, rfl⟩, fun _ => ⟨rfl, rfl, fun _ => rfl⟩, fun _ => ⟨rfl, rfl, fun _ => rfl⟩⟩, fun a h1 h2 => absurd h2 (by omega)⟩
theorem FrC.nw {k n : Nat} (F : FrC o h y) : FrC o h (zNw y k n) := by
  obtain ⟨f1, f2, f3⟩ := F
  refine ⟨by rw [zx_Nw]; omega, fun a ha => ?_, fun a h1 h2 => ?_⟩
  · obtain ⟨p1, p2, p3⟩ := f2 a ha
    have na : ¬ a = zx y := by omega
    rw [zk_Nw, if_neg na, zn_Nw, if_neg na]
    refine ⟨p1, fun f => ?_, fun i => ?_⟩
    · rw [zi_Nw, if_neg na, zl_Nw, if_neg na, zr_Nw, if_neg na]; exact p2 f
    · rw [zI_Nw, if_neg na, zL_Nw, if_neg na, zR_Nw, if_neg na]; exact p3 i
  · rw [zx_Nw] at h2
    by_cases na : a = zx y
    · refine ⟨fun f => ⟨by rw [zi_Nw, if_pos na], by rw [zl_Nw, if_pos na]⟩, fun i => ⟨by rw [zI_Nw, if_pos na], by rw [zL_Nw, if_pos na]⟩, by rw [zr_Nw, if_pos na], by rw [zr_Nw, if_pos na]⟩
    · obtain ⟨p1, p2, p3, p4⟩ := f3 a h1 (by omega)
      exact ⟨fun f => ⟨by rw [zi_Nw, if_neg na]; exact (p1 f).1, by rw [zl_Nw, if_neg na]; exact (p1 f).2⟩, fun i => ⟨by rw [zI_Nw, if_neg na]; exact (p2 i).1, by rw [zL_Nw, if_neg na]; exact (p2 i).2⟩, by rw [zr_Nw, if_neg na]; exact p3, by rw [zr_Nw, if_neg na]; exact p4⟩
theorem FrC.sr {f : Nat} {v : Option Nat} (F : FrC o h y) (hf : f ≠ 96 ∧ f ≠ 97) (ho : c = o ∨ zx h ≤ c) : FrC o h (zSr y f c v) := by
  obtain ⟨f1, f2, f3⟩ := F
  refine ⟨f1, fun a ha => ?_, fun a h1 h2 => ?_⟩
  · obtain ⟨p1, p2, p3⟩ := f2 a ha
    refine ⟨p1, fun g => ⟨(p2 g).1, (p2 g).2.1, fun q => ?_⟩, p3⟩
    rw [zr_Sr, if_neg (by omega)]
    exact (p2 g).2.2 q
  · obtain ⟨p1, p2, p3, p4⟩ := f3 a h1 h2
    exact ⟨p1, p2, by rw [zr_Sr, if_neg (by omega)]; exact p3, by rw [zr_Sr, if_neg (by omega)]; exact p4⟩
theorem FrC.sR {i : Nat} {v : Option Nat} (F : FrC o h y) (ho : zx h ≤ c) : FrC o h (zSR y c i v) := by
  obtain ⟨f1, f2, f3⟩ := F
  refine ⟨f1, fun a ha => ?_, f3⟩
  obtain ⟨p1, p2, p3⟩ := f2 a ha
  exact ⟨p1, p2, fun j => ⟨(p3 j).1, (p3 j).2.1, fun q => by rw [zR_SR, if_neg (by omega)]; exact (p3 j).2.2 q⟩⟩
theorem FrC.tr (F : FrC o h y) (G : FrC o' y z) (ho : o' = o ∨ zx h ≤ o') : FrC o h z := by
  obtain ⟨f1, f2, f3⟩ := F
  obtain ⟨g1, g2, g3⟩ := G
  refine ⟨by omega, fun a ha => ?_, fun a h1 h2 => ?_⟩
  · obtain ⟨p1, p2, p3⟩ := f2 a ha
    obtain ⟨q1, q2, q3⟩ := g2 a (by omega)
    exact ⟨⟨q1.1.trans p1.1, q1.2.trans p1.2⟩, fun f => ⟨(q2 f).1.trans (p2 f).1, (q2 f).2.1.trans (p2 f).2.1, fun d => ((q2 f).2.2 (by omega)).trans ((p2 f).2.2 d)⟩, fun i => ⟨(q3 i).1.trans (p3 i).1, (q3 i).2.1.trans (p3 i).2.1, fun d => ((q3 i).2.2 (by omega)).trans ((p3 i).2.2 d)⟩⟩
  · by_cases c : a < zx y
    · obtain ⟨p1, p2, p3, p4⟩ := f3 a h1 c
      obtain ⟨q1, q2, q3⟩ := g2 a c
      exact ⟨fun f => ⟨(q2 f).1.trans (p1 f).1, (q2 f).2.1.trans (p1 f).2⟩, fun i => ⟨(q3 i).1.trans (p2 i).1, (q3 i).2.1.trans (p2 i).2⟩, ((q2 96).2.2 (by omega)).trans p3, ((q2 97).2.2 (by omega)).trans p4⟩
    · exact g3 a (by omega) h2
theorem FrC.sm (F : FrC o h y) (h1 : c < zx h) (h2 : c ≠ o) : SmA h y c := ⟨(F.2.1 c h1).1, fun f => ⟨((F.2.1 c h1).2.1 f).1, ((F.2.1 c h1).2.1 f).2.1, ((F.2.1 c h1).2.1 f).2.2 (Or.inl h2)⟩, fun i => ⟨((F.2.1 c h1).2.2 i).1, ((F.2.1 c h1).2.2 i).2.1, ((F.2.1 c h1).2.2 i).2.2 h2⟩⟩
theorem c_lnInit : zM l w mX3_init [.ref o] h (fun u h1 => u = none ∧ h1 = h) := by
  refine zM.of (by decide) (Nat.le_of_ble_eq_true rfl) ?_
  refine g_aload_n 0 dX3_init_0 rfl rfl ?_
  refine g_objInit dX3_init_1 ml_X3_3 oi_i oi_c (Nat.le_of_ble_eq_true rfl) (Nat.le_of_ble_eq_true rfl) ?_
  refine g_return dX3_init_4 rfl ?_
  exact ⟨rfl, rfl⟩
theorem c_suInit : zM l w mX7_init [.ref o] h (fun u h1 => u = none ∧ h1 = h) := by
  refine zM.of (by decide) (Nat.le_of_ble_eq_true rfl) ?_
  refine g_aload_n 0 dX7_init_0 rfl rfl ?_
  refine g_objInit dX7_init_1 ml_X7_1 oi_i oi_c (Nat.le_of_ble_eq_true rfl) (Nat.le_of_ble_eq_true rfl) ?_
  refine g_return dX7_init_4 rfl ?_
  exact ⟨rfl, rfl⟩
theorem c_rdInit : zM l w mX8_init [.ref o] h (fun u h1 => u = none ∧ h1 = h) := by
  refine zM.of (by decide) (Nat.le_of_ble_eq_true rfl) ?_
  refine g_aload_n 0 dX8_init_0 rfl rfl ?_
  refine g_objInit dX8_init_1 ml_X8_3 oi_i oi_c (Nat.le_of_ble_eq_true rfl) (Nat.le_of_ble_eq_true rfl) ?_
  refine g_return dX8_init_4 rfl ?_
  exact ⟨rfl, rfl⟩
theorem c_evInit (hk : zk h o = 1) (hx : zx h = o + 1) : zM l w mX1_init [.ref o] h (fun u y => u = none ∧ zx y = o + 5 ∧ zt y = zt h + 96 ∧ FrC o h y ∧ ∀ j, j < 4 → zr y (32 + j) o = some (o + 1 + j) ∧ zk y (o + 1 + j) = 21 ∧ zn y (o + 1 + j) = 24) := by
  refine zM.of (by decide) (Nat.le_of_ble_eq_true rfl) ?_
  have t0 : zt h = zt h + 0 := rfl
  refine g_aload_n 0 dX1_init_0 rfl rfl ?_
  refine g_objInit dX1_init_1 ml_X1_3 oi_i oi_c (Nat.le_of_ble_eq_true rfl) (Nat.le_of_ble_eq_true rfl) ?_
  refine g_aload_n 0 dX1_init_4 rfl rfl ?_
  refine g_bipush (v := nI 24) dX1_init_5 (by decide) ?_
  refine g_newa (t := 1) (x := o + 1) (N := 24) (ty := .int) dX1_init_7 rfl ac_1 rfl (by decide) (fun _ => rfl) (nI_pos (by omega)) (nI_clamp (by omega)) (by decide) hx ?_
  have e1_0 : zk (zNw h 21 24) o = 1 := by rw [zk_Nw, if_neg (by omega)]; exact hk
  have e1_n0 : zk (zNw h 21 24) (o + 1) = 21 := by rw [zk_Nw, if_pos hx.symm]
  have e1_n1 : zn (zNw h 21 24) (o + 1) = 24 := by rw [zn_Nw, if_pos hx.symm]
  have x1 : zx (zNw h 21 24) = o + 2 := by have q := zx_Nw h 21 24; omega
  have t1 : zt (zNw h 21 24) = zt h + 24 := by have q := zt_Nw h 21 24; omega
  have F1 : FrC o h (zNw h 21 24) := FrC.rf.nw
  generalize zNw h 21 24 = y1 at x1 t1 F1 e1_0 e1_n0 e1_n1 ⊢
  clear t0
  refine g_putr (f := 32) dX1_init_9 fl_X1_9 (Or.inr ⟨rfl, fun _ _ _ q => by cases q; rfl⟩) e1_0 rfl ?_
  have e2_0 : zk (zSr y1 32 o (some (o + 1))) o = 1 := e1_0
  have e2_1 : zk (zSr y1 32 o (some (o + 1))) (o + 1) = 21 := e1_n0
  have e2_2 : zn (zSr y1 32 o (some (o + 1))) (o + 1) = 24 := e1_n1
  have e2_n0 : zr (zSr y1 32 o (some (o + 1))) 32 o = some (o + 1) := by rw [zr_Sr, if_pos ⟨rfl, rfl⟩]
  have x2 : zx (zSr y1 32 o (some (o + 1))) = o + 2 := x1
  have t2 : zt (zSr y1 32 o (some (o + 1))) = zt h + 24 := t1
  have F2 : FrC o h (zSr y1 32 o (some (o + 1))) := F1.sr (by omega) (by omega)
  generalize zSr y1 32 o (some (o + 1)) = y2 at x2 t2 F2 e2_0 e2_1 e2_2 e2_n0 ⊢
  clear x1 t1 F1 e1_0 e1_n0 e1_n1
  refine g_aload_n 0 dX1_init_12 rfl rfl ?_
  refine g_bipush (v := nI 24) dX1_init_13 (by decide) ?_
  refine g_newa (t := 1) (x := o + 2) (N := 24) (ty := .int) dX1_init_15 rfl ac_1 rfl (by decide) (fun _ => rfl) (nI_pos (by omega)) (nI_clamp (by omega)) (by decide) x2 ?_
  have e3_0 : zk (zNw y2 21 24) o = 1 := by rw [zk_Nw, if_neg (by omega)]; exact e2_0
  have e3_1 : zk (zNw y2 21 24) (o + 1) = 21 := by rw [zk_Nw, if_neg (by omega)]; exact e2_1
  have e3_2 : zn (zNw y2 21 24) (o + 1) = 24 := by rw [zn_Nw, if_neg (by omega)]; exact e2_2
  have e3_3 : zr (zNw y2 21 24) 32 o = some (o + 1) := by rw [zr_Nw, if_neg (by omega)]; exact e2_n0
  have e3_n0 : zk (zNw y2 21 24) (o + 2) = 21 := by rw [zk_Nw, if_pos x2.symm]
  have e3_n1 : zn (zNw y2 21 24) (o + 2) = 24 := by rw [zn_Nw, if_pos x2.symm]
  have x3 : zx (zNw y2 21 24) = o + 3 := by have q := zx_Nw y2 21 24; omega
  have t3 : zt (zNw y2 21 24) = zt h + 48 := by have q := zt_Nw y2 21 24; omega
  have F3 : FrC o h (zNw y2 21 24) := F2.nw
  generalize zNw y2 21 24 = y3 at x3 t3 F3 e3_0 e3_1 e3_2 e3_3 e3_n0 e3_n1 ⊢
  clear x2 t2 F2 e2_0 e2_1 e2_2 e2_n0
  refine g_putr (f := 33) dX1_init_17 fl_X1_15 (Or.inr ⟨rfl, fun _ _ _ q => by cases q; rfl⟩) e3_0 rfl ?_
  have e4_0 : zk (zSr y3 33 o (some (o + 2))) o = 1 := e3_0
  have e4_1 : zk (zSr y3 33 o (some (o + 2))) (o + 1) = 21 := e3_1
  have e4_2 : zn (zSr y3 33 o (some (o + 2))) (o + 1) = 24 := e3_2
  have e4_3 : zr (zSr y3 33 o (some (o + 2))) 32 o = some (o + 1) := by rw [zr_Sr, if_neg (by omega)]; exact e3_3
  have e4_4 : zk (zSr y3 33 o (some (o + 2))) (o + 2) = 21 := e3_n0
  have e4_5 : zn (zSr y3 33 o (some (o + 2))) (o + 2) = 24 := e3_n1
  have e4_n0 : zr (zSr y3 33 o (some (o + 2))) 33 o = some (o + 2) := by rw [zr_Sr, if_pos ⟨rfl, rfl⟩]
  have x4 : zx (zSr y3 33 o (some (o + 2))) = o + 3 := x3
  have t4 : zt (zSr y3 33 o (some (o + 2))) = zt h + 48 := t3
  have F4 : FrC o h (zSr y3 33 o (some (o + 2))) := F3.sr (by omega) (by omega)
  generalize zSr y3 33 o (some (o + 2)) = y4 at x4 t4 F4 e4_0 e4_1 e4_2 e4_3 e4_4 e4_5 e4_n0 ⊢
  clear x3 t3 F3 e3_0 e3_1 e3_2 e3_3 e3_n0 e3_n1
  refine g_aload_n 0 dX1_init_20 rfl rfl ?_
  refine g_bipush (v := nI 24) dX1_init_21 (by decide) ?_
  refine g_newa (t := 1) (x := o + 3) (N := 24) (ty := .int) dX1_init_23 rfl ac_1 rfl (by decide) (fun _ => rfl) (nI_pos (by omega)) (nI_clamp (by omega)) (by decide) x4 ?_
  have e5_0 : zk (zNw y4 21 24) o = 1 := by rw [zk_Nw, if_neg (by omega)]; exact e4_0
  have e5_1 : zk (zNw y4 21 24) (o + 1) = 21 := by rw [zk_Nw, if_neg (by omega)]; exact e4_1
  have e5_2 : zn (zNw y4 21 24) (o + 1) = 24 := by rw [zn_Nw, if_neg (by omega)]; exact e4_2
  have e5_3 : zr (zNw y4 21 24) 32 o = some (o + 1) := by rw [zr_Nw, if_neg (by omega)]; exact e4_3
  have e5_4 : zk (zNw y4 21 24) (o + 2) = 21 := by rw [zk_Nw, if_neg (by omega)]; exact e4_4
  have e5_5 : zn (zNw y4 21 24) (o + 2) = 24 := by rw [zn_Nw, if_neg (by omega)]; exact e4_5
  have e5_6 : zr (zNw y4 21 24) 33 o = some (o + 2) := by rw [zr_Nw, if_neg (by omega)]; exact e4_n0
  have e5_n0 : zk (zNw y4 21 24) (o + 3) = 21 := by rw [zk_Nw, if_pos x4.symm]
  have e5_n1 : zn (zNw y4 21 24) (o + 3) = 24 := by rw [zn_Nw, if_pos x4.symm]
  have x5 : zx (zNw y4 21 24) = o + 4 := by have q := zx_Nw y4 21 24; omega
  have t5 : zt (zNw y4 21 24) = zt h + 72 := by have q := zt_Nw y4 21 24; omega
  have F5 : FrC o h (zNw y4 21 24) := F4.nw
  generalize zNw y4 21 24 = y5 at x5 t5 F5 e5_0 e5_1 e5_2 e5_3 e5_4 e5_5 e5_6 e5_n0 e5_n1 ⊢
  clear x4 t4 F4 e4_0 e4_1 e4_2 e4_3 e4_4 e4_5 e4_n0
  refine g_putr (f := 34) dX1_init_25 fl_X1_18 (Or.inr ⟨rfl, fun _ _ _ q => by cases q; rfl⟩) e5_0 rfl ?_
  have e6_0 : zk (zSr y5 34 o (some (o + 3))) o = 1 := e5_0
  have e6_1 : zk (zSr y5 34 o (some (o + 3))) (o + 1) = 21 := e5_1
  have e6_2 : zn (zSr y5 34 o (some (o + 3))) (o + 1) = 24 := e5_2
  have e6_3 : zr (zSr y5 34 o (some (o + 3))) 32 o = some (o + 1) := by rw [zr_Sr, if_neg (by omega)]; exact e5_3
  have e6_4 : zk (zSr y5 34 o (some (o + 3))) (o + 2) = 21 := e5_4
  have e6_5 : zn (zSr y5 34 o (some (o + 3))) (o + 2) = 24 := e5_5
  have e6_6 : zr (zSr y5 34 o (some (o + 3))) 33 o = some (o + 2) := by rw [zr_Sr, if_neg (by omega)]; exact e5_6
  have e6_7 : zk (zSr y5 34 o (some (o + 3))) (o + 3) = 21 := e5_n0
  have e6_8 : zn (zSr y5 34 o (some (o + 3))) (o + 3) = 24 := e5_n1
  have e6_n0 : zr (zSr y5 34 o (some (o + 3))) 34 o = some (o + 3) := by rw [zr_Sr, if_pos ⟨rfl, rfl⟩]
  have x6 : zx (zSr y5 34 o (some (o + 3))) = o + 4 := x5
  have t6 : zt (zSr y5 34 o (some (o + 3))) = zt h + 72 := t5
  have F6 : FrC o h (zSr y5 34 o (some (o + 3))) := F5.sr (by omega) (by omega)
  generalize zSr y5 34 o (some (o + 3)) = y6 at x6 t6 F6 e6_0 e6_1 e6_2 e6_3 e6_4 e6_5 e6_6 e6_7 e6_8 e6_n0 ⊢
  clear x5 t5 F5 e5_0 e5_1 e5_2 e5_3 e5_4 e5_5 e5_6 e5_n0 e5_n1
  refine g_aload_n 0 dX1_init_28 rfl rfl ?_
  refine g_bipush (v := nI 24) dX1_init_29 (by decide) ?_
  refine g_newa (t := 1) (x := o + 4) (N := 24) (ty := .int) dX1_init_31 rfl ac_1 rfl (by decide) (fun _ => rfl) (nI_pos (by omega)) (nI_clamp (by omega)) (by decide) x6 ?_
  have e7_0 : zk (zNw y6 21 24) o = 1 := by rw [zk_Nw, if_neg (by omega)]; exact e6_0
  have e7_1 : zk (zNw y6 21 24) (o + 1) = 21 := by rw [zk_Nw, if_neg (by omega)]; exact e6_1
  have e7_2 : zn (zNw y6 21 24) (o + 1) = 24 := by rw [zn_Nw, if_neg (by omega)]; exact e6_2
  have e7_3 : zr (zNw y6 21 24) 32 o = some (o + 1) := by rw [zr_Nw, if_neg (by omega)]; exact e6_3
  have e7_4 : zk (zNw y6 21 24) (o + 2) = 21 := by rw [zk_Nw, if_neg (by omega)]; exact e6_4
  have e7_5 : zn (zNw y6 21 24) (o + 2) = 24 := by rw [zn_Nw, if_neg (by omega)]; exact e6_5
  have e7_6 : zr (zNw y6 21 24) 33 o = some (o + 2) := by rw [zr_Nw, if_neg (by omega)]; exact e6_6
  have e7_7 : zk (zNw y6 21 24) (o + 3) = 21 := by rw [zk_Nw, if_neg (by omega)]; exact e6_7
  have e7_8 : zn (zNw y6 21 24) (o + 3) = 24 := by rw [zn_Nw, if_neg (by omega)]; exact e6_8
  have e7_9 : zr (zNw y6 21 24) 34 o = some (o + 3) := by rw [zr_Nw, if_neg (by omega)]; exact e6_n0
  have e7_n0 : zk (zNw y6 21 24) (o + 4) = 21 := by rw [zk_Nw, if_pos x6.symm]
  have e7_n1 : zn (zNw y6 21 24) (o + 4) = 24 := by rw [zn_Nw, if_pos x6.symm]
  have x7 : zx (zNw y6 21 24) = o + 5 := by have q := zx_Nw y6 21 24; omega
  have t7 : zt (zNw y6 21 24) = zt h + 96 := by have q := zt_Nw y6 21 24; omega
  have F7 : FrC o h (zNw y6 21 24) := F6.nw
  generalize zNw y6 21 24 = y7 at x7 t7 F7 e7_0 e7_1 e7_2 e7_3 e7_4 e7_5 e7_6 e7_7 e7_8 e7_9 e7_n0 e7_n1 ⊢
  clear x6 t6 F6 e6_0 e6_1 e6_2 e6_3 e6_4 e6_5 e6_6 e6_7 e6_8 e6_n0
  refine g_putr (f := 35) dX1_init_33 fl_X1_21 (Or.inr ⟨rfl, fun _ _ _ q => by cases q; rfl⟩) e7_0 rfl ?_
  have e8_0 : zk (zSr y7 35 o (some (o + 4))) o = 1 := e7_0
  have e8_1 : zk (zSr y7 35 o (some (o + 4))) (o + 1) = 21 := e7_1
  have e8_2 : zn (zSr y7 35 o (some (o + 4))) (o + 1) = 24 := e7_2
  have e8_3 : zr (zSr y7 35 o (some (o + 4))) 32 o = some (o + 1) := by rw [zr_Sr, if_neg (by omega)]; exact e7_3
  have e8_4 : zk (zSr y7 35 o (some (o + 4))) (o + 2) = 21 := e7_4
  have e8_5 : zn (zSr y7 35 o (some (o + 4))) (o + 2) = 24 := e7_5
  have e8_6 : zr (zSr y7 35 o (some (o + 4))) 33 o = some (o + 2) := by rw [zr_Sr, if_neg (by omega)]; exact e7_6
  have e8_7 : zk (zSr y7 35 o (some (o + 4))) (o + 3) = 21 := e7_7
  have e8_8 : zn (zSr y7 35 o (some (o + 4))) (o + 3) = 24 := e7_8
  have e8_9 : zr (zSr y7 35 o (some (o + 4))) 34 o = some (o + 3) := by rw [zr_Sr, if_neg (by omega)]; exact e7_9
  have e8_10 : zk (zSr y7 35 o (some (o + 4))) (o + 4) = 21 := e7_n0
  have e8_11 : zn (zSr y7 35 o (some (o + 4))) (o + 4) = 24 := e7_n1
  have e8_n0 : zr (zSr y7 35 o (some (o + 4))) 35 o = some (o + 4) := by rw [zr_Sr, if_pos ⟨rfl, rfl⟩]
  have x8 : zx (zSr y7 35 o (some (o + 4))) = o + 5 := x7
  have t8 : zt (zSr y7 35 o (some (o + 4))) = zt h + 96 := t7
  have F8 : FrC o h (zSr y7 35 o (some (o + 4))) := F7.sr (by omega) (by omega)
  generalize zSr y7 35 o (some (o + 4)) = y8 at x8 t8 F8 e8_0 e8_1 e8_2 e8_3 e8_4 e8_5 e8_6 e8_7 e8_8 e8_9 e8_10 e8_11 e8_n0 ⊢
  clear x7 t7 F7 e7_0 e7_1 e7_2 e7_3 e7_4 e7_5 e7_6 e7_7 e7_8 e7_9 e7_n0 e7_n1
  refine g_return dX1_init_36 rfl ?_
  refine ⟨rfl, x8, t8, F8, fun j hj => ?_⟩
  rcases (show j = 0 ∨ j = 1 ∨ j = 2 ∨ j = 3 by omega) with e | e | e | e <;> subst e
  · exact ⟨e8_3, e8_1, e8_2⟩
  · exact ⟨e8_6, e8_4, e8_5⟩
  · exact ⟨e8_9, e8_7, e8_8⟩
  · exact ⟨e8_n0, e8_10, e8_11⟩
theorem c_flInit (hk : zk h o = 2) (hx : zx h = o + 1) : zM l w mX2_init [.ref o] h (fun u y => u = none ∧ zx y = o + 2 ∧ zt y = zt h + 4 ∧ FrC o h y ∧ zr y 64 o = some (o + 1) ∧ zk y (o + 1) = 21 ∧ zn y (o + 1) = 4) := by
  refine zM.of (by decide) (Nat.le_of_ble_eq_true rfl) ?_
  have t0 : zt h = zt h + 0 := rfl
  refine g_aload_n 0 dX2_init_0 rfl rfl ?_
  refine g_objInit dX2_init_1 ml_X2_3 oi_i oi_c (Nat.le_of_ble_eq_true rfl) (Nat.le_of_ble_eq_true rfl) ?_
  refine g_aload_n 0 dX2_init_4 rfl rfl ?_
  refine g_iconst (v := nI 4) dX2_init_5 (by decide) ?_
  refine g_newa (t := 1) (x := o + 1) (N := 4) (ty := .int) dX2_init_6 rfl ac_1 rfl (by decide) (fun _ => rfl) (nI_pos (by omega)) (nI_clamp (by omega)) (by decide) hx ?_
  have e1_0 : zk (zNw h 21 4) o = 2 := by rw [zk_Nw, if_neg (by omega)]; exact hk
  have e1_n0 : zk (zNw h 21 4) (o + 1) = 21 := by rw [zk_Nw, if_pos hx.symm]
  have e1_n1 : zn (zNw h 21 4) (o + 1) = 4 := by rw [zn_Nw, if_pos hx.symm]
  have x1 : zx (zNw h 21 4) = o + 2 := by have q := zx_Nw h 21 4; omega
  have t1 : zt (zNw h 21 4) = zt h + 4 := by have q := zt_Nw h 21 4; omega
  have F1 : FrC o h (zNw h 21 4) := FrC.rf.nw
  generalize zNw h 21 4 = y1 at x1 t1 F1 e1_0 e1_n0 e1_n1 ⊢
  clear t0
  refine g_putr (f := 64) dX2_init_8 fl_X2_9 (Or.inr ⟨rfl, fun _ _ _ q => by cases q; rfl⟩) e1_0 rfl ?_
  have e2_0 : zk (zSr y1 64 o (some (o + 1))) o = 2 := e1_0
  have e2_1 : zk (zSr y1 64 o (some (o + 1))) (o + 1) = 21 := e1_n0
  have e2_2 : zn (zSr y1 64 o (some (o + 1))) (o + 1) = 4 := e1_n1
  have e2_n0 : zr (zSr y1 64 o (some (o + 1))) 64 o = some (o + 1) := by rw [zr_Sr, if_pos ⟨rfl, rfl⟩]
  have x2 : zx (zSr y1 64 o (some (o + 1))) = o + 2 := x1
  have t2 : zt (zSr y1 64 o (some (o + 1))) = zt h + 4 := t1
  have F2 : FrC o h (zSr y1 64 o (some (o + 1))) := F1.sr (by omega) (by omega)
  generalize zSr y1 64 o (some (o + 1)) = y2 at x2 t2 F2 e2_0 e2_1 e2_2 e2_n0 ⊢
  clear x1 t1 F1 e1_0 e1_n0 e1_n1
  refine g_return dX2_init_11 rfl ?_
  exact ⟨rfl, x2, t2, F2, e2_n0, e2_1, e2_2⟩
theorem c_lkInit (hk : zk h o = 4) (hx : zx h = o + 1) : zM l w mX4_init [.ref o] h (fun u y => u = none ∧ zx y = o + 7 ∧ zt y = zt h + 30 ∧ FrC o h y ∧ (zr y 132 o = some (o + 1) ∧ zk y (o + 1) = 3) ∧ (zr y 133 o = some (o + 2) ∧ zk y (o + 2) = 3) ∧ (∀ j, j < 3 → zr y (137 + j) o = some (o + 3 + j) ∧ zk y (o + 3 + j) = 21 ∧ zn y (o + 3 + j) = 6) ∧ zr y 140 o = some (o + 6) ∧ zk y (o + 6) = 7) := by
  refine zM.of (by decide) (Nat.le_of_ble_eq_true rfl) ?_
  have t0 : zt h = zt h + 0 := rfl
  refine g_aload_n 0 dX4_init_0 rfl rfl ?_
  refine g_objInit dX4_init_1 ml_X4_3 oi_i oi_c (Nat.le_of_ble_eq_true rfl) (Nat.le_of_ble_eq_true rfl) ?_
  refine g_aload_n 0 dX4_init_4 rfl rfl ?_
  refine g_new (x := o + 1) dX4_init_5 mk_X4_9 hx ?_
  have e1_0 : zk (zNw h 3 3) o = 4 := by rw [zk_Nw, if_neg (by omega)]; exact hk
  have e1_n0 : zk (zNw h 3 3) (o + 1) = 3 := by rw [zk_Nw, if_pos hx.symm]
  have x1 : zx (zNw h 3 3) = o + 2 := by have q := zx_Nw h 3 3; omega
  have t1 : zt (zNw h 3 3) = zt h + 3 := by have q := zt_Nw h 3 3; omega
  have F1 : FrC o h (zNw h 3 3) := FrC.rf.nw
  generalize zNw h 3 3 = y1 at x1 t1 F1 e1_0 e1_n0 ⊢
  clear t0
  refine g_dup dX4_init_8 rfl ?_
  refine g_invn (M' := mX3_init) (As := []) (rest := [.ref (o + 1), .ref o]) dX4_init_9 nl_X4_11 okX3_init imX3_init rfl rfl ⟨(Nat.le_of_ble_eq_true rfl), (Nat.le_of_ble_eq_true rfl)⟩ rfl rfl (Nat.le_of_ble_eq_true rfl) c_lnInit ?_
  rintro _ q2 ⟨rfl, eq2⟩
  subst q2
  show zG l w mX4_init 12 [(0, .ref o)] [.ref (o + 1), .ref o] y1 _
  refine g_putr (f := 132) dX4_init_12 fl_X4_12 (Or.inr ⟨rfl, fun _ _ _ q => by cases q; rfl⟩) e1_0 rfl ?_
  have e3_0 : zk (zSr y1 132 o (some (o + 1))) o = 4 := e1_0
  have e3_1 : zk (zSr y1 132 o (some (o + 1))) (o + 1) = 3 := e1_n0
  have e3_n0 : zr (zSr y1 132 o (some (o + 1))) 132 o = some (o + 1) := by rw [zr_Sr, if_pos ⟨rfl, rfl⟩]
  have x3 : zx (zSr y1 132 o (some (o + 1))) = o + 2 := x1
  have t3 : zt (zSr y1 132 o (some (o + 1))) = zt h + 3 := t1
  have F3 : FrC o h (zSr y1 132 o (some (o + 1))) := F1.sr (by omega) (by omega)
  generalize zSr y1 132 o (some (o + 1)) = y3 at x3 t3 F3 e3_0 e3_1 e3_n0 ⊢
  clear x1 t1 F1 e1_0 e1_n0
  refine g_aload_n 0 dX4_init_15 rfl rfl ?_
  refine g_new (x := o + 2) dX4_init_16 mk_X4_9 x3 ?_
  have e4_0 : zk (zNw y3 3 3) o = 4 := by rw [zk_Nw, if_neg (by omega)]; exact e3_0
  have e4_1 : zk (zNw y3 3 3) (o + 1) = 3 := by rw [zk_Nw, if_neg (by omega)]; exact e3_1
  have e4_2 : zr (zNw y3 3 3) 132 o = some (o + 1) := by rw [zr_Nw, if_neg (by omega)]; exact e3_n0
  have e4_n0 : zk (zNw y3 3 3) (o + 2) = 3 := by rw [zk_Nw, if_pos x3.symm]
  have x4 : zx (zNw y3 3 3) = o + 3 := by have q := zx_Nw y3 3 3; omega
  have t4 : zt (zNw y3 3 3) = zt h + 6 := by have q := zt_Nw y3 3 3; omega
  have F4 : FrC o h (zNw y3 3 3) := F3.nw
  generalize zNw y3 3 3 = y4 at x4 t4 F4 e4_0 e4_1 e4_2 e4_n0 ⊢
  clear x3 t3 F3 e3_0 e3_1 e3_n0
  refine g_dup dX4_init_19 rfl ?_
  refine g_invn (M' := mX3_init) (As := []) (rest := [.ref (o + 2), .ref o]) dX4_init_20 nl_X4_11 okX3_init imX3_init rfl rfl ⟨(Nat.le_of_ble_eq_true rfl), (Nat.le_of_ble_eq_true rfl)⟩ rfl rfl (Nat.le_of_ble_eq_true rfl) c_lnInit ?_
  rintro _ q5 ⟨rfl, eq5⟩
  subst q5
  show zG l w mX4_init 23 [(0, .ref o)] [.ref (o + 2), .ref o] y4 _
  refine g_putr (f := 133) dX4_init_23 fl_X4_18 (Or.inr ⟨rfl, fun _ _ _ q => by cases q; rfl⟩) e4_0 rfl ?_
  have e6_0 : zk (zSr y4 133 o (some (o + 2))) o = 4 := e4_0
  have e6_1 : zk (zSr y4 133 o (some (o + 2))) (o + 1) = 3 := e4_1
  have e6_2 : zr (zSr y4 133 o (some (o + 2))) 132 o = some (o + 1) := by rw [zr_Sr, if_neg (by omega)]; exact e4_2
  have e6_3 : zk (zSr y4 133 o (some (o + 2))) (o + 2) = 3 := e4_n0
  have e6_n0 : zr (zSr y4 133 o (some (o + 2))) 133 o = some (o + 2) := by rw [zr_Sr, if_pos ⟨rfl, rfl⟩]
  have x6 : zx (zSr y4 133 o (some (o + 2))) = o + 3 := x4
  have t6 : zt (zSr y4 133 o (some (o + 2))) = zt h + 6 := t4
  have F6 : FrC o h (zSr y4 133 o (some (o + 2))) := F4.sr (by omega) (by omega)
  generalize zSr y4 133 o (some (o + 2)) = y6 at x6 t6 F6 e6_0 e6_1 e6_2 e6_3 e6_n0 ⊢
  clear x4 t4 F4 e4_0 e4_1 e4_2 e4_n0
  refine g_aload_n 0 dX4_init_26 rfl rfl ?_
  refine g_bipush (v := nI 6) dX4_init_27 (by decide) ?_
  refine g_newa (t := 1) (x := o + 3) (N := 6) (ty := .int) dX4_init_29 rfl ac_1 rfl (by decide) (fun _ => rfl) (nI_pos (by omega)) (nI_clamp (by omega)) (by decide) x6 ?_
  have e7_0 : zk (zNw y6 21 6) o = 4 := by rw [zk_Nw, if_neg (by omega)]; exact e6_0
  have e7_1 : zk (zNw y6 21 6) (o + 1) = 3 := by rw [zk_Nw, if_neg (by omega)]; exact e6_1
  have e7_2 : zr (zNw y6 21 6) 132 o = some (o + 1) := by rw [zr_Nw, if_neg (by omega)]; exact e6_2
  have e7_3 : zk (zNw y6 21 6) (o + 2) = 3 := by rw [zk_Nw, if_neg (by omega)]; exact e6_3
  have e7_4 : zr (zNw y6 21 6) 133 o = some (o + 2) := by rw [zr_Nw, if_neg (by omega)]; exact e6_n0
  have e7_n0 : zk (zNw y6 21 6) (o + 3) = 21 := by rw [zk_Nw, if_pos x6.symm]
  have e7_n1 : zn (zNw y6 21 6) (o + 3) = 6 := by rw [zn_Nw, if_pos x6.symm]
  have x7 : zx (zNw y6 21 6) = o + 4 := by have q := zx_Nw y6 21 6; omega
  have t7 : zt (zNw y6 21 6) = zt h + 12 := by have q := zt_Nw y6 21 6; omega
  have F7 : FrC o h (zNw y6 21 6) := F6.nw
  generalize zNw y6 21 6 = y7 at x7 t7 F7 e7_0 e7_1 e7_2 e7_3 e7_4 e7_n0 e7_n1 ⊢
  clear x6 t6 F6 e6_0 e6_1 e6_2 e6_3 e6_n0
  refine g_putr (f := 137) dX4_init_31 fl_X4_21 (Or.inr ⟨rfl, fun _ _ _ q => by cases q; rfl⟩) e7_0 rfl ?_
  have e8_0 : zk (zSr y7 137 o (some (o + 3))) o = 4 := e7_0
  have e8_1 : zk (zSr y7 137 o (some (o + 3))) (o + 1) = 3 := e7_1
  have e8_2 : zr (zSr y7 137 o (some (o + 3))) 132 o = some (o + 1) := by rw [zr_Sr, if_neg (by omega)]; exact e7_2
  have e8_3 : zk (zSr y7 137 o (some (o + 3))) (o + 2) = 3 := e7_3
  have e8_4 : zr (zSr y7 137 o (some (o + 3))) 133 o = some (o + 2) := by rw [zr_Sr, if_neg (by omega)]; exact e7_4
  have e8_5 : zk (zSr y7 137 o (some (o + 3))) (o + 3) = 21 := e7_n0
  have e8_6 : zn (zSr y7 137 o (some (o + 3))) (o + 3) = 6 := e7_n1
  have e8_n0 : zr (zSr y7 137 o (some (o + 3))) 137 o = some (o + 3) := by rw [zr_Sr, if_pos ⟨rfl, rfl⟩]
  have x8 : zx (zSr y7 137 o (some (o + 3))) = o + 4 := x7
  have t8 : zt (zSr y7 137 o (some (o + 3))) = zt h + 12 := t7
  have F8 : FrC o h (zSr y7 137 o (some (o + 3))) := F7.sr (by omega) (by omega)
  generalize zSr y7 137 o (some (o + 3)) = y8 at x8 t8 F8 e8_0 e8_1 e8_2 e8_3 e8_4 e8_5 e8_6 e8_n0 ⊢
  clear x7 t7 F7 e7_0 e7_1 e7_2 e7_3 e7_4 e7_n0 e7_n1
  refine g_aload_n 0 dX4_init_34 rfl rfl ?_
  refine g_bipush (v := nI 6) dX4_init_35 (by decide) ?_
  refine g_newa (t := 1) (x := o + 4) (N := 6) (ty := .int) dX4_init_37 rfl ac_1 rfl (by decide) (fun _ => rfl) (nI_pos (by omega)) (nI_clamp (by omega)) (by decide) x8 ?_
  have e9_0 : zk (zNw y8 21 6) o = 4 := by rw [zk_Nw, if_neg (by omega)]; exact e8_0
  have e9_1 : zk (zNw y8 21 6) (o + 1) = 3 := by rw [zk_Nw, if_neg (by omega)]; exact e8_1
  have e9_2 : zr (zNw y8 21 6) 132 o = some (o + 1) := by rw [zr_Nw, if_neg (by omega)]; exact e8_2
  have e9_3 : zk (zNw y8 21 6) (o + 2) = 3 := by rw [zk_Nw, if_neg (by omega)]; exact e8_3
  have e9_4 : zr (zNw y8 21 6) 133 o = some (o + 2) := by rw [zr_Nw, if_neg (by omega)]; exact e8_4
  have e9_5 : zk (zNw y8 21 6) (o + 3) = 21 := by rw [zk_Nw, if_neg (by omega)]; exact e8_5
  have e9_6 : zn (zNw y8 21 6) (o + 3) = 6 := by rw [zn_Nw, if_neg (by omega)]; exact e8_6
  have e9_7 : zr (zNw y8 21 6) 137 o = some (o + 3) := by rw [zr_Nw, if_neg (by omega)]; exact e8_n0
  have e9_n0 : zk (zNw y8 21 6) (o + 4) = 21 := by rw [zk_Nw, if_pos x8.symm]
  have e9_n1 : zn (zNw y8 21 6) (o + 4) = 6 := by rw [zn_Nw, if_pos x8.symm]
  have x9 : zx (zNw y8 21 6) = o + 5 := by have q := zx_Nw y8 21 6; omega
  have t9 : zt (zNw y8 21 6) = zt h + 18 := by have q := zt_Nw y8 21 6; omega
  have F9 : FrC o h (zNw y8 21 6) := F8.nw
  generalize zNw y8 21 6 = y9 at x9 t9 F9 e9_0 e9_1 e9_2 e9_3 e9_4 e9_5 e9_6 e9_7 e9_n0 e9_n1 ⊢
  clear x8 t8 F8 e8_0 e8_1 e8_2 e8_3 e8_4 e8_5 e8_6 e8_n0
  refine g_putr (f := 138) dX4_init_39 fl_X4_25 (Or.inr ⟨rfl, fun _ _ _ q => by cases q; rfl⟩) e9_0 rfl ?_
  have e10_0 : zk (zSr y9 138 o (some (o + 4))) o = 4 := e9_0
  have e10_1 : zk (zSr y9 138 o (some (o + 4))) (o + 1) = 3 := e9_1
  have e10_2 : zr (zSr y9 138 o (some (o + 4))) 132 o = some (o + 1) := by rw [zr_Sr, if_neg (by omega)]; exact e9_2
  have e10_3 : zk (zSr y9 138 o (some (o + 4))) (o + 2) = 3 := e9_3
  have e10_4 : zr (zSr y9 138 o (some (o + 4))) 133 o = some (o + 2) := by rw [zr_Sr, if_neg (by omega)]; exact e9_4
  have e10_5 : zk (zSr y9 138 o (some (o + 4))) (o + 3) = 21 := e9_5
  have e10_6 : zn (zSr y9 138 o (some (o + 4))) (o + 3) = 6 := e9_6
  have e10_7 : zr (zSr y9 138 o (some (o + 4))) 137 o = some (o + 3) := by rw [zr_Sr, if_neg (by omega)]; exact e9_7
  have e10_8 : zk (zSr y9 138 o (some (o + 4))) (o + 4) = 21 := e9_n0
  have e10_9 : zn (zSr y9 138 o (some (o + 4))) (o + 4) = 6 := e9_n1
  have e10_n0 : zr (zSr y9 138 o (some (o + 4))) 138 o = some (o + 4) := by rw [zr_Sr, if_pos ⟨rfl, rfl⟩]
  have x10 : zx (zSr y9 138 o (some (o + 4))) = o + 5 := x9
  have t10 : zt (zSr y9 138 o (some (o + 4))) = zt h + 18 := t9
  have F10 : FrC o h (zSr y9 138 o (some (o + 4))) := F9.sr (by omega) (by omega)
  generalize zSr y9 138 o (some (o + 4)) = y10 at x10 t10 F10 e10_0 e10_1 e10_2 e10_3 e10_4 e10_5 e10_6 e10_7 e10_8 e10_9 e10_n0 ⊢
  clear x9 t9 F9 e9_0 e9_1 e9_2 e9_3 e9_4 e9_5 e9_6 e9_7 e9_n0 e9_n1
  refine g_aload_n 0 dX4_init_42 rfl rfl ?_
  refine g_bipush (v := nI 6) dX4_init_43 (by decide) ?_
  refine g_newa (t := 1) (x := o + 5) (N := 6) (ty := .int) dX4_init_45 rfl ac_1 rfl (by decide) (fun _ => rfl) (nI_pos (by omega)) (nI_clamp (by omega)) (by decide) x10 ?_
  have e11_0 : zk (zNw y10 21 6) o = 4 := by rw [zk_Nw, if_neg (by omega)]; exact e10_0
  have e11_1 : zk (zNw y10 21 6) (o + 1) = 3 := by rw [zk_Nw, if_neg (by omega)]; exact e10_1
  have e11_2 : zr (zNw y10 21 6) 132 o = some (o + 1) := by rw [zr_Nw, if_neg (by omega)]; exact e10_2
  have e11_3 : zk (zNw y10 21 6) (o + 2) = 3 := by rw [zk_Nw, if_neg (by omega)]; exact e10_3
  have e11_4 : zr (zNw y10 21 6) 133 o = some (o + 2) := by rw [zr_Nw, if_neg (by omega)]; exact e10_4
  have e11_5 : zk (zNw y10 21 6) (o + 3) = 21 := by rw [zk_Nw, if_neg (by omega)]; exact e10_5
  have e11_6 : zn (zNw y10 21 6) (o + 3) = 6 := by rw [zn_Nw, if_neg (by omega)]; exact e10_6
  have e11_7 : zr (zNw y10 21 6) 137 o = some (o + 3) := by rw [zr_Nw, if_neg (by omega)]; exact e10_7
  have e11_8 : zk (zNw y10 21 6) (o + 4) = 21 := by rw [zk_Nw, if_neg (by omega)]; exact e10_8
  have e11_9 : zn (zNw y10 21 6) (o + 4) = 6 := by rw [zn_Nw, if_neg (by omega)]; exact e10_9
  have e11_10 : zr (zNw y10 21 6) 138 o = some (o + 4) := by rw [zr_Nw, if_neg (by omega)]; exact e10_n0
  have e11_n0 : zk (zNw y10 21 6) (o + 5) = 21 := by rw [zk_Nw, if_pos x10.symm]
  have e11_n1 : zn (zNw y10 21 6) (o + 5) = 6 := by rw [zn_Nw, if_pos x10.symm]
  have x11 : zx (zNw y10 21 6) = o + 6 := by have q := zx_Nw y10 21 6; omega
  have t11 : zt (zNw y10 21 6) = zt h + 24 := by have q := zt_Nw y10 21 6; omega
  have F11 : FrC o h (zNw y10 21 6) := F10.nw
  generalize zNw y10 21 6 = y11 at x11 t11 F11 e11_0 e11_1 e11_2 e11_3 e11_4 e11_5 e11_6 e11_7 e11_8 e11_9 e11_10 e11_n0 e11_n1 ⊢
  clear x10 t10 F10 e10_0 e10_1 e10_2 e10_3 e10_4 e10_5 e10_6 e10_7 e10_8 e10_9 e10_n0
  refine g_putr (f := 139) dX4_init_47 fl_X4_28 (Or.inr ⟨rfl, fun _ _ _ q => by cases q; rfl⟩) e11_0 rfl ?_
  have e12_0 : zk (zSr y11 139 o (some (o + 5))) o = 4 := e11_0
  have e12_1 : zk (zSr y11 139 o (some (o + 5))) (o + 1) = 3 := e11_1
  have e12_2 : zr (zSr y11 139 o (some (o + 5))) 132 o = some (o + 1) := by rw [zr_Sr, if_neg (by omega)]; exact e11_2
  have e12_3 : zk (zSr y11 139 o (some (o + 5))) (o + 2) = 3 := e11_3
  have e12_4 : zr (zSr y11 139 o (some (o + 5))) 133 o = some (o + 2) := by rw [zr_Sr, if_neg (by omega)]; exact e11_4
  have e12_5 : zk (zSr y11 139 o (some (o + 5))) (o + 3) = 21 := e11_5
  have e12_6 : zn (zSr y11 139 o (some (o + 5))) (o + 3) = 6 := e11_6
  have e12_7 : zr (zSr y11 139 o (some (o + 5))) 137 o = some (o + 3) := by rw [zr_Sr, if_neg (by omega)]; exact e11_7
  have e12_8 : zk (zSr y11 139 o (some (o + 5))) (o + 4) = 21 := e11_8
  have e12_9 : zn (zSr y11 139 o (some (o + 5))) (o + 4) = 6 := e11_9
  have e12_10 : zr (zSr y11 139 o (some (o + 5))) 138 o = some (o + 4) := by rw [zr_Sr, if_neg (by omega)]; exact e11_10
  have e12_11 : zk (zSr y11 139 o (some (o + 5))) (o + 5) = 21 := e11_n0
  have e12_12 : zn (zSr y11 139 o (some (o + 5))) (o + 5) = 6 := e11_n1
  have e12_n0 : zr (zSr y11 139 o (some (o + 5))) 139 o = some (o + 5) := by rw [zr_Sr, if_pos ⟨rfl, rfl⟩]
  have x12 : zx (zSr y11 139 o (some (o + 5))) = o + 6 := x11
  have t12 : zt (zSr y11 139 o (some (o + 5))) = zt h + 24 := t11
  have F12 : FrC o h (zSr y11 139 o (some (o + 5))) := F11.sr (by omega) (by omega)
  generalize zSr y11 139 o (some (o + 5)) = y12 at x12 t12 F12 e12_0 e12_1 e12_2 e12_3 e12_4 e12_5 e12_6 e12_7 e12_8 e12_9 e12_10 e12_11 e12_12 e12_n0 ⊢
  clear x11 t11 F11 e11_0 e11_1 e11_2 e11_3 e11_4 e11_5 e11_6 e11_7 e11_8 e11_9 e11_10 e11_n0 e11_n1
  refine g_aload_n 0 dX4_init_50 rfl rfl ?_
  refine g_new (x := o + 6) dX4_init_51 mk_X4_31 x12 ?_
  have e13_0 : zk (zNw y12 7 6) o = 4 := by rw [zk_Nw, if_neg (by omega)]; exact e12_0
  have e13_1 : zk (zNw y12 7 6) (o + 1) = 3 := by rw [zk_Nw, if_neg (by omega)]; exact e12_1
  have e13_2 : zr (zNw y12 7 6) 132 o = some (o + 1) := by rw [zr_Nw, if_neg (by omega)]; exact e12_2
  have e13_3 : zk (zNw y12 7 6) (o + 2) = 3 := by rw [zk_Nw, if_neg (by omega)]; exact e12_3
  have e13_4 : zr (zNw y12 7 6) 133 o = some (o + 2) := by rw [zr_Nw, if_neg (by omega)]; exact e12_4
  have e13_5 : zk (zNw y12 7 6) (o + 3) = 21 := by rw [zk_Nw, if_neg (by omega)]; exact e12_5
  have e13_6 : zn (zNw y12 7 6) (o + 3) = 6 := by rw [zn_Nw, if_neg (by omega)]; exact e12_6
  have e13_7 : zr (zNw y12 7 6) 137 o = some (o + 3) := by rw [zr_Nw, if_neg (by omega)]; exact e12_7
  have e13_8 : zk (zNw y12 7 6) (o + 4) = 21 := by rw [zk_Nw, if_neg (by omega)]; exact e12_8
  have e13_9 : zn (zNw y12 7 6) (o + 4) = 6 := by rw [zn_Nw, if_neg (by omega)]; exact e12_9
  have e13_10 : zr (zNw y12 7 6) 138 o = some (o + 4) := by rw [zr_Nw, if_neg (by omega)]; exact e12_10
  have e13_11 : zk (zNw y12 7 6) (o + 5) = 21 := by rw [zk_Nw, if_neg (by omega)]; exact e12_11
  have e13_12 : zn (zNw y12 7 6) (o + 5) = 6 := by rw [zn_Nw, if_neg (by omega)]; exact e12_12
  have e13_13 : zr (zNw y12 7 6) 139 o = some (o + 5) := by rw [zr_Nw, if_neg (by omega)]; exact e12_n0
  have e13_n0 : zk (zNw y12 7 6) (o + 6) = 7 := by rw [zk_Nw, if_pos x12.symm]
  have x13 : zx (zNw y12 7 6) = o + 7 := by have q := zx_Nw y12 7 6; omega
  have t13 : zt (zNw y12 7 6) = zt h + 30 := by have q := zt_Nw y12 7 6; omega
  have F13 : FrC o h (zNw y12 7 6) := F12.nw
  generalize zNw y12 7 6 = y13 at x13 t13 F13 e13_0 e13_1 e13_2 e13_3 e13_4 e13_5 e13_6 e13_7 e13_8 e13_9 e13_10 e13_11 e13_12 e13_13 e13_n0 ⊢
  clear x12 t12 F12 e12_0 e12_1 e12_2 e12_3 e12_4 e12_5 e12_6 e12_7 e12_8 e12_9 e12_10 e12_11 e12_12 e12_n0
  refine g_dup dX4_init_54 rfl ?_
  refine g_invn (M' := mX7_init) (As := []) (rest := [.ref (o + 6), .ref o]) dX4_init_55 nl_X4_33 okX7_init imX7_init rfl rfl ⟨(Nat.le_of_ble_eq_true rfl), (Nat.le_of_ble_eq_true rfl)⟩ rfl rfl (Nat.le_of_ble_eq_true rfl) c_suInit ?_
  rintro _ q14 ⟨rfl, eq14⟩
  subst q14
  show zG l w mX4_init 58 [(0, .ref o)] [.ref (o + 6), .ref o] y13 _
  refine g_putr (f := 140) dX4_init_58 fl_X4_34 (Or.inr ⟨rfl, fun _ _ _ q => by cases q; rfl⟩) e13_0 rfl ?_
  have e15_0 : zk (zSr y13 140 o (some (o + 6))) o = 4 := e13_0
  have e15_1 : zk (zSr y13 140 o (some (o + 6))) (o + 1) = 3 := e13_1
  have e15_2 : zr (zSr y13 140 o (some (o + 6))) 132 o = some (o + 1) := by rw [zr_Sr, if_neg (by omega)]; exact e13_2
  have e15_3 : zk (zSr y13 140 o (some (o + 6))) (o + 2) = 3 := e13_3
  have e15_4 : zr (zSr y13 140 o (some (o + 6))) 133 o = some (o + 2) := by rw [zr_Sr, if_neg (by omega)]; exact e13_4
  have e15_5 : zk (zSr y13 140 o (some (o + 6))) (o + 3) = 21 := e13_5
  have e15_6 : zn (zSr y13 140 o (some (o + 6))) (o + 3) = 6 := e13_6
  have e15_7 : zr (zSr y13 140 o (some (o + 6))) 137 o = some (o + 3) := by rw [zr_Sr, if_neg (by omega)]; exact e13_7
  have e15_8 : zk (zSr y13 140 o (some (o + 6))) (o + 4) = 21 := e13_8
  have e15_9 : zn (zSr y13 140 o (some (o + 6))) (o + 4) = 6 := e13_9
  have e15_10 : zr (zSr y13 140 o (some (o + 6))) 138 o = some (o + 4) := by rw [zr_Sr, if_neg (by omega)]; exact e13_10
  have e15_11 : zk (zSr y13 140 o (some (o + 6))) (o + 5) = 21 := e13_11
  have e15_12 : zn (zSr y13 140 o (some (o + 6))) (o + 5) = 6 := e13_12
  have e15_13 : zr (zSr y13 140 o (some (o + 6))) 139 o = some (o + 5) := by rw [zr_Sr, if_neg (by omega)]; exact e13_13
  have e15_14 : zk (zSr y13 140 o (some (o + 6))) (o + 6) = 7 := e13_n0
  have e15_n0 : zr (zSr y13 140 o (some (o + 6))) 140 o = some (o + 6) := by rw [zr_Sr, if_pos ⟨rfl, rfl⟩]
  have x15 : zx (zSr y13 140 o (some (o + 6))) = o + 7 := x13
  have t15 : zt (zSr y13 140 o (some (o + 6))) = zt h + 30 := t13
  have F15 : FrC o h (zSr y13 140 o (some (o + 6))) := F13.sr (by omega) (by omega)
  generalize zSr y13 140 o (some (o + 6)) = y15 at x15 t15 F15 e15_0 e15_1 e15_2 e15_3 e15_4 e15_5 e15_6 e15_7 e15_8 e15_9 e15_10 e15_11 e15_12 e15_13 e15_14 e15_n0 ⊢
  clear x13 t13 F13 e13_0 e13_1 e13_2 e13_3 e13_4 e13_5 e13_6 e13_7 e13_8 e13_9 e13_10 e13_11 e13_12 e13_13 e13_n0
  refine g_return dX4_init_61 rfl ?_
  refine ⟨rfl, x15, t15, F15, ⟨e15_2, e15_1⟩, ⟨e15_4, e15_3⟩, fun j hj => ?_, e15_n0, e15_14⟩
  rcases (show j = 0 ∨ j = 1 ∨ j = 2 by omega) with e | e | e <;> subst e
  · exact ⟨e15_7, e15_5, e15_6⟩
  · exact ⟨e15_10, e15_8, e15_9⟩
  · exact ⟨e15_13, e15_11, e15_12⟩
theorem c_bsInit (hk : zk h o = 0) (hx : zx h = o + 1) : zM l w mX0_init [.ref o] h (fun u y => u = none ∧ zx y = o + 4 ∧ zt y = zt h + 18 ∧ FrC o h y ∧ BsO y o) := by
  refine zM.of (by decide) (Nat.le_of_ble_eq_true rfl) ?_
  have t0 : zt h = zt h + 0 := rfl
  refine g_aload_n 0 dX0_init_0 rfl rfl ?_
  refine g_objInit dX0_init_1 ml_X0_3 oi_i oi_c (Nat.le_of_ble_eq_true rfl) (Nat.le_of_ble_eq_true rfl) ?_
  refine g_aload_n 0 dX0_init_4 rfl rfl ?_
  refine g_bipush (v := nI 6) dX0_init_5 (by decide) ?_
  refine g_newa (t := 1) (x := o + 1) (N := 6) (ty := .int) dX0_init_7 rfl ac_1 rfl (by decide) (fun _ => rfl) (nI_pos (by omega)) (nI_clamp (by omega)) (by decide) hx ?_
  have e1_0 : zk (zNw h 21 6) o = 0 := by rw [zk_Nw, if_neg (by omega)]; exact hk
  have e1_n0 : zk (zNw h 21 6) (o + 1) = 21 := by rw [zk_Nw, if_pos hx.symm]
  have e1_n1 : zn (zNw h 21 6) (o + 1) = 6 := by rw [zn_Nw, if_pos hx.symm]
  have x1 : zx (zNw h 21 6) = o + 2 := by have q := zx_Nw h 21 6; omega
  have t1 : zt (zNw h 21 6) = zt h + 6 := by have q := zt_Nw h 21 6; omega
  have F1 : FrC o h (zNw h 21 6) := FrC.rf.nw
  generalize zNw h 21 6 = y1 at x1 t1 F1 e1_0 e1_n0 e1_n1 ⊢
  clear t0
  refine g_putr (f := 0) dX0_init_9 fl_X0_9 (Or.inr ⟨rfl, fun _ _ _ q => by cases q; rfl⟩) e1_0 rfl ?_
  have e2_0 : zk (zSr y1 0 o (some (o + 1))) o = 0 := e1_0
  have e2_1 : zk (zSr y1 0 o (some (o + 1))) (o + 1) = 21 := e1_n0
  have e2_2 : zn (zSr y1 0 o (some (o + 1))) (o + 1) = 6 := e1_n1
  have e2_n0 : zr (zSr y1 0 o (some (o + 1))) 0 o = some (o + 1) := by rw [zr_Sr, if_pos ⟨rfl, rfl⟩]
  have x2 : zx (zSr y1 0 o (some (o + 1))) = o + 2 := x1
  have t2 : zt (zSr y1 0 o (some (o + 1))) = zt h + 6 := t1
  have F2 : FrC o h (zSr y1 0 o (some (o + 1))) := F1.sr (by omega) (by omega)
  generalize zSr y1 0 o (some (o + 1)) = y2 at x2 t2 F2 e2_0 e2_1 e2_2 e2_n0 ⊢
  clear x1 t1 F1 e1_0 e1_n0 e1_n1
  refine g_aload_n 0 dX0_init_12 rfl rfl ?_
  refine g_bipush (v := nI 6) dX0_init_13 (by decide) ?_
  refine g_newa (t := 1) (x := o + 2) (N := 6) (ty := .int) dX0_init_15 rfl ac_1 rfl (by decide) (fun _ => rfl) (nI_pos (by omega)) (nI_clamp (by omega)) (by decide) x2 ?_
  have e3_0 : zk (zNw y2 21 6) o = 0 := by rw [zk_Nw, if_neg (by omega)]; exact e2_0
  have e3_1 : zk (zNw y2 21 6) (o + 1) = 21 := by rw [zk_Nw, if_neg (by omega)]; exact e2_1
  have e3_2 : zn (zNw y2 21 6) (o + 1) = 6 := by rw [zn_Nw, if_neg (by omega)]; exact e2_2
  have e3_3 : zr (zNw y2 21 6) 0 o = some (o + 1) := by rw [zr_Nw, if_neg (by omega)]; exact e2_n0
  have e3_n0 : zk (zNw y2 21 6) (o + 2) = 21 := by rw [zk_Nw, if_pos x2.symm]
  have e3_n1 : zn (zNw y2 21 6) (o + 2) = 6 := by rw [zn_Nw, if_pos x2.symm]
  have x3 : zx (zNw y2 21 6) = o + 3 := by have q := zx_Nw y2 21 6; omega
  have t3 : zt (zNw y2 21 6) = zt h + 12 := by have q := zt_Nw y2 21 6; omega
  have F3 : FrC o h (zNw y2 21 6) := F2.nw
  generalize zNw y2 21 6 = y3 at x3 t3 F3 e3_0 e3_1 e3_2 e3_3 e3_n0 e3_n1 ⊢
  clear x2 t2 F2 e2_0 e2_1 e2_2 e2_n0
  refine g_putr (f := 1) dX0_init_17 fl_X0_15 (Or.inr ⟨rfl, fun _ _ _ q => by cases q; rfl⟩) e3_0 rfl ?_
  have e4_0 : zk (zSr y3 1 o (some (o + 2))) o = 0 := e3_0
  have e4_1 : zk (zSr y3 1 o (some (o + 2))) (o + 1) = 21 := e3_1
  have e4_2 : zn (zSr y3 1 o (some (o + 2))) (o + 1) = 6 := e3_2
  have e4_3 : zr (zSr y3 1 o (some (o + 2))) 0 o = some (o + 1) := by rw [zr_Sr, if_neg (by omega)]; exact e3_3
  have e4_4 : zk (zSr y3 1 o (some (o + 2))) (o + 2) = 21 := e3_n0
  have e4_5 : zn (zSr y3 1 o (some (o + 2))) (o + 2) = 6 := e3_n1
  have e4_n0 : zr (zSr y3 1 o (some (o + 2))) 1 o = some (o + 2) := by rw [zr_Sr, if_pos ⟨rfl, rfl⟩]
  have x4 : zx (zSr y3 1 o (some (o + 2))) = o + 3 := x3
  have t4 : zt (zSr y3 1 o (some (o + 2))) = zt h + 12 := t3
  have F4 : FrC o h (zSr y3 1 o (some (o + 2))) := F3.sr (by omega) (by omega)
  generalize zSr y3 1 o (some (o + 2)) = y4 at x4 t4 F4 e4_0 e4_1 e4_2 e4_3 e4_4 e4_5 e4_n0 ⊢
  clear x3 t3 F3 e3_0 e3_1 e3_2 e3_3 e3_n0 e3_n1
  refine g_aload_n 0 dX0_init_20 rfl rfl ?_
  refine g_bipush (v := nI 6) dX0_init_21 (by decide) ?_
  refine g_newa (t := 3) (x := o + 3) (N := 6) (ty := .boolean) dX0_init_23 rfl ac_3 rfl (by decide) (fun _ => rfl) (nI_pos (by omega)) (nI_clamp (by omega)) (by decide) x4 ?_
  have e5_0 : zk (zNw y4 23 6) o = 0 := by rw [zk_Nw, if_neg (by omega)]; exact e4_0
  have e5_1 : zk (zNw y4 23 6) (o + 1) = 21 := by rw [zk_Nw, if_neg (by omega)]; exact e4_1
  have e5_2 : zn (zNw y4 23 6) (o + 1) = 6 := by rw [zn_Nw, if_neg (by omega)]; exact e4_2
  have e5_3 : zr (zNw y4 23 6) 0 o = some (o + 1) := by rw [zr_Nw, if_neg (by omega)]; exact e4_3
  have e5_4 : zk (zNw y4 23 6) (o + 2) = 21 := by rw [zk_Nw, if_neg (by omega)]; exact e4_4
  have e5_5 : zn (zNw y4 23 6) (o + 2) = 6 := by rw [zn_Nw, if_neg (by omega)]; exact e4_5
  have e5_6 : zr (zNw y4 23 6) 1 o = some (o + 2) := by rw [zr_Nw, if_neg (by omega)]; exact e4_n0
  have e5_n0 : zk (zNw y4 23 6) (o + 3) = 23 := by rw [zk_Nw, if_pos x4.symm]
  have e5_n1 : zn (zNw y4 23 6) (o + 3) = 6 := by rw [zn_Nw, if_pos x4.symm]
  have x5 : zx (zNw y4 23 6) = o + 4 := by have q := zx_Nw y4 23 6; omega
  have t5 : zt (zNw y4 23 6) = zt h + 18 := by have q := zt_Nw y4 23 6; omega
  have F5 : FrC o h (zNw y4 23 6) := F4.nw
  generalize zNw y4 23 6 = y5 at x5 t5 F5 e5_0 e5_1 e5_2 e5_3 e5_4 e5_5 e5_6 e5_n0 e5_n1 ⊢
  clear x4 t4 F4 e4_0 e4_1 e4_2 e4_3 e4_4 e4_5 e4_n0
  refine g_putr (f := 2) dX0_init_25 fl_X0_18 (Or.inr ⟨rfl, fun _ _ _ q => by cases q; rfl⟩) e5_0 rfl ?_
  have e6_0 : zk (zSr y5 2 o (some (o + 3))) o = 0 := e5_0
  have e6_1 : zk (zSr y5 2 o (some (o + 3))) (o + 1) = 21 := e5_1
  have e6_2 : zn (zSr y5 2 o (some (o + 3))) (o + 1) = 6 := e5_2
  have e6_3 : zr (zSr y5 2 o (some (o + 3))) 0 o = some (o + 1) := by rw [zr_Sr, if_neg (by omega)]; exact e5_3
  have e6_4 : zk (zSr y5 2 o (some (o + 3))) (o + 2) = 21 := e5_4
  have e6_5 : zn (zSr y5 2 o (some (o + 3))) (o + 2) = 6 := e5_5
  have e6_6 : zr (zSr y5 2 o (some (o + 3))) 1 o = some (o + 2) := by rw [zr_Sr, if_neg (by omega)]; exact e5_6
  have e6_7 : zk (zSr y5 2 o (some (o + 3))) (o + 3) = 23 := e5_n0
  have e6_8 : zn (zSr y5 2 o (some (o + 3))) (o + 3) = 6 := e5_n1
  have e6_n0 : zr (zSr y5 2 o (some (o + 3))) 2 o = some (o + 3) := by rw [zr_Sr, if_pos ⟨rfl, rfl⟩]
  have x6 : zx (zSr y5 2 o (some (o + 3))) = o + 4 := x5
  have t6 : zt (zSr y5 2 o (some (o + 3))) = zt h + 18 := t5
  have F6 : FrC o h (zSr y5 2 o (some (o + 3))) := F5.sr (by omega) (by omega)
  generalize zSr y5 2 o (some (o + 3)) = y6 at x6 t6 F6 e6_0 e6_1 e6_2 e6_3 e6_4 e6_5 e6_6 e6_7 e6_8 e6_n0 ⊢
  clear x5 t5 F5 e5_0 e5_1 e5_2 e5_3 e5_4 e5_5 e5_6 e5_n0 e5_n1
  refine g_return dX0_init_28 rfl ?_
  exact ⟨rfl, x6, t6, F6, e6_0, ⟨e6_3, e6_1, e6_2⟩, ⟨e6_6, e6_4, e6_5⟩, e6_n0, e6_7, e6_8⟩
end CTR
