section CTM
variable {l : Launch} {w : zW} {h y z : zH} {m : Nat}
set_option maxHeartbeats 4000000 in
theorem c_mInit (hk : zk h m = 10) (hx : zx h = m + 1) (hz : ∀ f, zi h f m = 0) : zM l w mX10_init [.ref m] h (fun u y => u = none ∧ zx y = m + 6 ∧ zt y = zt h + 30232 ∧ (∀ a, a < m → SmA h y a) ∧ MoN y m (zeN 0) ∧ zi y 321 m = 0 ∧ zi y 322 m = 0 ∧ zi y 327 m = 0 ∧ zi y 334 m = -1 ∧ zi y 335 m = -1 ∧ ∀ i, zI y (m + 2) i = 0) := by
  refine zM.of (by decide) (Nat.le_of_ble_eq_true rfl) ?_
  have t0 : zt h = zt h + 0 := rfl
  refine g_aload_n 0 dX10_init_0 rfl rfl ?_
  refine g_objInit dX10_init_1 ml_X10_1 oi_i oi_c (Nat.le_of_ble_eq_true rfl) (Nat.le_of_ble_eq_true rfl) ?_
  refine g_aload_n 0 dX10_init_4 rfl rfl ?_
  refine g_sipush (v := nI 29020) dX10_init_5 (by decide) ?_
  refine g_newa (t := 2) (x := m + 1) (N := 29020) (ty := .long) dX10_init_8 rfl ac_2 rfl (by decide) (fun _ => rfl) (nI_pos (by omega)) (nI_clamp (by omega)) (by decide) hx ?_
  have e1_0 : zk (zNw h 22 29020) m = 10 := by rw [zk_Nw, if_neg (by omega)]; exact hk
  have e1_1 : zi (zNw h 22 29020) 321 m = 0 := by rw [zi_Nw, if_neg (by omega)]; exact (hz 321)
  have e1_2 : zi (zNw h 22 29020) 322 m = 0 := by rw [zi_Nw, if_neg (by omega)]; exact (hz 322)
  have e1_3 : zi (zNw h 22 29020) 323 m = 0 := by rw [zi_Nw, if_neg (by omega)]; exact (hz 323)
  have e1_4 : zi (zNw h 22 29020) 324 m = 0 := by rw [zi_Nw, if_neg (by omega)]; exact (hz 324)
  have e1_5 : zi (zNw h 22 29020) 327 m = 0 := by rw [zi_Nw, if_neg (by omega)]; exact (hz 327)
  have e1_n0 : zk (zNw h 22 29020) (m + 1) = 22 := by rw [zk_Nw, if_pos hx.symm]
  have e1_n1 : zn (zNw h 22 29020) (m + 1) = 29020 := by rw [zn_Nw, if_pos hx.symm]
  have x1 : zx (zNw h 22 29020) = m + 2 := by have q := zx_Nw h 22 29020; omega
  have t1 : zt (zNw h 22 29020) = zt h + 29020 := by have q := zt_Nw h 22 29020; omega
  have F1 : FrD m h (zNw h 22 29020) := FrD.rf.nw
  generalize zNw h 22 29020 = y1 at x1 t1 F1 e1_0 e1_1 e1_2 e1_3 e1_4 e1_5 e1_n0 e1_n1 ⊢
  clear t0
  refine g_putr (f := 320) dX10_init_10 fl_X10_7 (Or.inr ⟨rfl, fun _ _ _ q => by cases q; rfl⟩) e1_0 rfl ?_
  have e2_0 : zk (zSr y1 320 m (some (m + 1))) m = 10 := e1_0
  have e2_1 : zi (zSr y1 320 m (some (m + 1))) 321 m = 0 := e1_1
  have e2_2 : zi (zSr y1 320 m (some (m + 1))) 322 m = 0 := e1_2
  have e2_3 : zi (zSr y1 320 m (some (m + 1))) 323 m = 0 := e1_3
  have e2_4 : zi (zSr y1 320 m (some (m + 1))) 324 m = 0 := e1_4
  have e2_5 : zi (zSr y1 320 m (some (m + 1))) 327 m = 0 := e1_5
  have e2_6 : zk (zSr y1 320 m (some (m + 1))) (m + 1) = 22 := e1_n0
  have e2_7 : zn (zSr y1 320 m (some (m + 1))) (m + 1) = 29020 := e1_n1
  have e2_n0 : zr (zSr y1 320 m (some (m + 1))) 320 m = some (m + 1) := by rw [zr_Sr, if_pos ⟨rfl, rfl⟩]
  have x2 : zx (zSr y1 320 m (some (m + 1))) = m + 2 := x1
  have t2 : zt (zSr y1 320 m (some (m + 1))) = zt h + 29020 := t1
  have F2 : FrD m h (zSr y1 320 m (some (m + 1))) := F1.sr (by omega) (by omega)
  generalize zSr y1 320 m (some (m + 1)) = y2 at x2 t2 F2 e2_0 e2_1 e2_2 e2_3 e2_4 e2_5 e2_6 e2_7 e2_n0 ⊢
  clear x1 t1 F1 e1_0 e1_1 e1_2 e1_3 e1_4 e1_5 e1_n0 e1_n1
  refine g_aload_n 0 dX10_init_13 rfl rfl ?_
  refine g_sipush (v := nI 600) dX10_init_14 (by decide) ?_
  refine g_newa (t := 0) (x := m + 2) (N := 600) (ty := .byte) dX10_init_17 rfl ac_0 rfl (by decide) (fun _ => rfl) (nI_pos (by omega)) (nI_clamp (by omega)) (by decide) x2 ?_
  have e3_0 : zk (zNw y2 20 600) m = 10 := by rw [zk_Nw, if_neg (by omega)]; exact e2_0
  have e3_1 : zi (zNw y2 20 600) 321 m = 0 := by rw [zi_Nw, if_neg (by omega)]; exact e2_1
  have e3_2 : zi (zNw y2 20 600) 322 m = 0 := by rw [zi_Nw, if_neg (by omega)]; exact e2_2
  have e3_3 : zi (zNw y2 20 600) 323 m = 0 := by rw [zi_Nw, if_neg (by omega)]; exact e2_3
  have e3_4 : zi (zNw y2 20 600) 324 m = 0 := by rw [zi_Nw, if_neg (by omega)]; exact e2_4
  have e3_5 : zi (zNw y2 20 600) 327 m = 0 := by rw [zi_Nw, if_neg (by omega)]; exact e2_5
  have e3_6 : zk (zNw y2 20 600) (m + 1) = 22 := by rw [zk_Nw, if_neg (by omega)]; exact e2_6
  have e3_7 : zn (zNw y2 20 600) (m + 1) = 29020 := by rw [zn_Nw, if_neg (by omega)]; exact e2_7
  have e3_8 : zr (zNw y2 20 600) 320 m = some (m + 1) := by rw [zr_Nw, if_neg (by omega)]; exact e2_n0
  have e3_n0 : zk (zNw y2 20 600) (m + 2) = 20 := by rw [zk_Nw, if_pos x2.symm]
  have e3_n1 : zn (zNw y2 20 600) (m + 2) = 600 := by rw [zn_Nw, if_pos x2.symm]
  have x3 : zx (zNw y2 20 600) = m + 3 := by have q := zx_Nw y2 20 600; omega
  have t3 : zt (zNw y2 20 600) = zt h + 29620 := by have q := zt_Nw y2 20 600; omega
  have F3 : FrD m h (zNw y2 20 600) := F2.nw
  generalize zNw y2 20 600 = y3 at x3 t3 F3 e3_0 e3_1 e3_2 e3_3 e3_4 e3_5 e3_6 e3_7 e3_8 e3_n0 e3_n1 ⊢
  clear x2 t2 F2 e2_0 e2_1 e2_2 e2_3 e2_4 e2_5 e2_6 e2_7 e2_n0
  refine g_putr (f := 325) dX10_init_19 fl_X10_13 (Or.inr ⟨rfl, fun _ _ _ q => by cases q; rfl⟩) e3_0 rfl ?_
  have e4_0 : zk (zSr y3 325 m (some (m + 2))) m = 10 := e3_0
  have e4_1 : zi (zSr y3 325 m (some (m + 2))) 321 m = 0 := e3_1
  have e4_2 : zi (zSr y3 325 m (some (m + 2))) 322 m = 0 := e3_2
  have e4_3 : zi (zSr y3 325 m (some (m + 2))) 323 m = 0 := e3_3
  have e4_4 : zi (zSr y3 325 m (some (m + 2))) 324 m = 0 := e3_4
  have e4_5 : zi (zSr y3 325 m (some (m + 2))) 327 m = 0 := e3_5
  have e4_6 : zk (zSr y3 325 m (some (m + 2))) (m + 1) = 22 := e3_6
  have e4_7 : zn (zSr y3 325 m (some (m + 2))) (m + 1) = 29020 := e3_7
  have e4_8 : zr (zSr y3 325 m (some (m + 2))) 320 m = some (m + 1) := by rw [zr_Sr, if_neg (by omega)]; exact e3_8
  have e4_9 : zk (zSr y3 325 m (some (m + 2))) (m + 2) = 20 := e3_n0
  have e4_10 : zn (zSr y3 325 m (some (m + 2))) (m + 2) = 600 := e3_n1
  have e4_n0 : zr (zSr y3 325 m (some (m + 2))) 325 m = some (m + 2) := by rw [zr_Sr, if_pos ⟨rfl, rfl⟩]
  have x4 : zx (zSr y3 325 m (some (m + 2))) = m + 3 := x3
  have t4 : zt (zSr y3 325 m (some (m + 2))) = zt h + 29620 := t3
  have F4 : FrD m h (zSr y3 325 m (some (m + 2))) := F3.sr (by omega) (by omega)
  generalize zSr y3 325 m (some (m + 2)) = y4 at x4 t4 F4 e4_0 e4_1 e4_2 e4_3 e4_4 e4_5 e4_6 e4_7 e4_8 e4_9 e4_10 e4_n0 ⊢
  clear x3 t3 F3 e3_0 e3_1 e3_2 e3_3 e3_4 e3_5 e3_6 e3_7 e3_8 e3_n0 e3_n1
  refine g_aload_n 0 dX10_init_22 rfl rfl ?_
  refine g_sipush (v := nI 600) dX10_init_23 (by decide) ?_
  refine g_newa (t := 0) (x := m + 3) (N := 600) (ty := .byte) dX10_init_26 rfl ac_0 rfl (by decide) (fun _ => rfl) (nI_pos (by omega)) (nI_clamp (by omega)) (by decide) x4 ?_
  have e5_0 : zk (zNw y4 20 600) m = 10 := by rw [zk_Nw, if_neg (by omega)]; exact e4_0
  have e5_1 : zi (zNw y4 20 600) 321 m = 0 := by rw [zi_Nw, if_neg (by omega)]; exact e4_1
  have e5_2 : zi (zNw y4 20 600) 322 m = 0 := by rw [zi_Nw, if_neg (by omega)]; exact e4_2
  have e5_3 : zi (zNw y4 20 600) 323 m = 0 := by rw [zi_Nw, if_neg (by omega)]; exact e4_3
  have e5_4 : zi (zNw y4 20 600) 324 m = 0 := by rw [zi_Nw, if_neg (by omega)]; exact e4_4
  have e5_5 : zi (zNw y4 20 600) 327 m = 0 := by rw [zi_Nw, if_neg (by omega)]; exact e4_5
  have e5_6 : zk (zNw y4 20 600) (m + 1) = 22 := by rw [zk_Nw, if_neg (by omega)]; exact e4_6
  have e5_7 : zn (zNw y4 20 600) (m + 1) = 29020 := by rw [zn_Nw, if_neg (by omega)]; exact e4_7
  have e5_8 : zr (zNw y4 20 600) 320 m = some (m + 1) := by rw [zr_Nw, if_neg (by omega)]; exact e4_8
  have e5_9 : zk (zNw y4 20 600) (m + 2) = 20 := by rw [zk_Nw, if_neg (by omega)]; exact e4_9
  have e5_10 : zn (zNw y4 20 600) (m + 2) = 600 := by rw [zn_Nw, if_neg (by omega)]; exact e4_10
  have e5_11 : zr (zNw y4 20 600) 325 m = some (m + 2) := by rw [zr_Nw, if_neg (by omega)]; exact e4_n0
  have e5_n0 : zk (zNw y4 20 600) (m + 3) = 20 := by rw [zk_Nw, if_pos x4.symm]
  have e5_n1 : zn (zNw y4 20 600) (m + 3) = 600 := by rw [zn_Nw, if_pos x4.symm]
  have x5 : zx (zNw y4 20 600) = m + 4 := by have q := zx_Nw y4 20 600; omega
  have t5 : zt (zNw y4 20 600) = zt h + 30220 := by have q := zt_Nw y4 20 600; omega
  have F5 : FrD m h (zNw y4 20 600) := F4.nw
  generalize zNw y4 20 600 = y5 at x5 t5 F5 e5_0 e5_1 e5_2 e5_3 e5_4 e5_5 e5_6 e5_7 e5_8 e5_9 e5_10 e5_11 e5_n0 e5_n1 ⊢
  clear x4 t4 F4 e4_0 e4_1 e4_2 e4_3 e4_4 e4_5 e4_6 e4_7 e4_8 e4_9 e4_10 e4_n0
  refine g_putr (f := 326) dX10_init_28 fl_X10_17 (Or.inr ⟨rfl, fun _ _ _ q => by cases q; rfl⟩) e5_0 rfl ?_
  have e6_0 : zk (zSr y5 326 m (some (m + 3))) m = 10 := e5_0
  have e6_1 : zi (zSr y5 326 m (some (m + 3))) 321 m = 0 := e5_1
  have e6_2 : zi (zSr y5 326 m (some (m + 3))) 322 m = 0 := e5_2
  have e6_3 : zi (zSr y5 326 m (some (m + 3))) 323 m = 0 := e5_3
  have e6_4 : zi (zSr y5 326 m (some (m + 3))) 324 m = 0 := e5_4
  have e6_5 : zi (zSr y5 326 m (some (m + 3))) 327 m = 0 := e5_5
  have e6_6 : zk (zSr y5 326 m (some (m + 3))) (m + 1) = 22 := e5_6
  have e6_7 : zn (zSr y5 326 m (some (m + 3))) (m + 1) = 29020 := e5_7
  have e6_8 : zr (zSr y5 326 m (some (m + 3))) 320 m = some (m + 1) := by rw [zr_Sr, if_neg (by omega)]; exact e5_8
  have e6_9 : zk (zSr y5 326 m (some (m + 3))) (m + 2) = 20 := e5_9
  have e6_10 : zn (zSr y5 326 m (some (m + 3))) (m + 2) = 600 := e5_10
  have e6_11 : zr (zSr y5 326 m (some (m + 3))) 325 m = some (m + 2) := by rw [zr_Sr, if_neg (by omega)]; exact e5_11
  have e6_12 : zk (zSr y5 326 m (some (m + 3))) (m + 3) = 20 := e5_n0
  have e6_13 : zn (zSr y5 326 m (some (m + 3))) (m + 3) = 600 := e5_n1
  have e6_n0 : zr (zSr y5 326 m (some (m + 3))) 326 m = some (m + 3) := by rw [zr_Sr, if_pos ⟨rfl, rfl⟩]
  have x6 : zx (zSr y5 326 m (some (m + 3))) = m + 4 := x5
  have t6 : zt (zSr y5 326 m (some (m + 3))) = zt h + 30220 := t5
  have F6 : FrD m h (zSr y5 326 m (some (m + 3))) := F5.sr (by omega) (by omega)
  generalize zSr y5 326 m (some (m + 3)) = y6 at x6 t6 F6 e6_0 e6_1 e6_2 e6_3 e6_4 e6_5 e6_6 e6_7 e6_8 e6_9 e6_10 e6_11 e6_12 e6_13 e6_n0 ⊢
  clear x5 t5 F5 e5_0 e5_1 e5_2 e5_3 e5_4 e5_5 e5_6 e5_7 e5_8 e5_9 e5_10 e5_11 e5_n0 e5_n1
  refine g_aload_n 0 dX10_init_31 rfl rfl ?_
  refine g_iconst (v := (-1)) dX10_init_32 (by decide) ?_
  refine g_puti (f := 334) dX10_init_33 fl_X10_20 (Or.inl rfl) e6_0 rfl ?_
  have e7_0 : zk (zSi y6 334 m (-1)) m = 10 := e6_0
  have e7_1 : zi (zSi y6 334 m (-1)) 321 m = 0 := by rw [zi_Si, if_neg (by omega)]; exact e6_1
  have e7_2 : zi (zSi y6 334 m (-1)) 322 m = 0 := by rw [zi_Si, if_neg (by omega)]; exact e6_2
  have e7_3 : zi (zSi y6 334 m (-1)) 323 m = 0 := by rw [zi_Si, if_neg (by omega)]; exact e6_3
  have e7_4 : zi (zSi y6 334 m (-1)) 324 m = 0 := by rw [zi_Si, if_neg (by omega)]; exact e6_4
  have e7_5 : zi (zSi y6 334 m (-1)) 327 m = 0 := by rw [zi_Si, if_neg (by omega)]; exact e6_5
  have e7_6 : zk (zSi y6 334 m (-1)) (m + 1) = 22 := e6_6
  have e7_7 : zn (zSi y6 334 m (-1)) (m + 1) = 29020 := e6_7
  have e7_8 : zr (zSi y6 334 m (-1)) 320 m = some (m + 1) := e6_8
  have e7_9 : zk (zSi y6 334 m (-1)) (m + 2) = 20 := e6_9
  have e7_10 : zn (zSi y6 334 m (-1)) (m + 2) = 600 := e6_10
  have e7_11 : zr (zSi y6 334 m (-1)) 325 m = some (m + 2) := e6_11
  have e7_12 : zk (zSi y6 334 m (-1)) (m + 3) = 20 := e6_12
  have e7_13 : zn (zSi y6 334 m (-1)) (m + 3) = 600 := e6_13
  have e7_14 : zr (zSi y6 334 m (-1)) 326 m = some (m + 3) := e6_n0
  have e7_n0 : zi (zSi y6 334 m (-1)) 334 m = (-1) := zi_same
  have x7 : zx (zSi y6 334 m (-1)) = m + 4 := x6
  have t7 : zt (zSi y6 334 m (-1)) = zt h + 30220 := t6
  have F7 : FrD m h (zSi y6 334 m (-1)) := F6.sio (by omega)
  generalize zSi y6 334 m (-1) = y7 at x7 t7 F7 e7_0 e7_1 e7_2 e7_3 e7_4 e7_5 e7_6 e7_7 e7_8 e7_9 e7_10 e7_11 e7_12 e7_13 e7_14 e7_n0 ⊢
  clear x6 t6 F6 e6_0 e6_1 e6_2 e6_3 e6_4 e6_5 e6_6 e6_7 e6_8 e6_9 e6_10 e6_11 e6_12 e6_13 e6_n0
  refine g_aload_n 0 dX10_init_36 rfl rfl ?_
  refine g_iconst (v := (-1)) dX10_init_37 (by decide) ?_
  refine g_puti (f := 335) dX10_init_38 fl_X10_24 (Or.inl rfl) e7_0 rfl ?_
  have e8_0 : zk (zSi y7 335 m (-1)) m = 10 := e7_0
  have e8_1 : zi (zSi y7 335 m (-1)) 321 m = 0 := by rw [zi_Si, if_neg (by omega)]; exact e7_1
  have e8_2 : zi (zSi y7 335 m (-1)) 322 m = 0 := by rw [zi_Si, if_neg (by omega)]; exact e7_2
  have e8_3 : zi (zSi y7 335 m (-1)) 323 m = 0 := by rw [zi_Si, if_neg (by omega)]; exact e7_3
  have e8_4 : zi (zSi y7 335 m (-1)) 324 m = 0 := by rw [zi_Si, if_neg (by omega)]; exact e7_4
  have e8_5 : zi (zSi y7 335 m (-1)) 327 m = 0 := by rw [zi_Si, if_neg (by omega)]; exact e7_5
  have e8_6 : zk (zSi y7 335 m (-1)) (m + 1) = 22 := e7_6
  have e8_7 : zn (zSi y7 335 m (-1)) (m + 1) = 29020 := e7_7
  have e8_8 : zr (zSi y7 335 m (-1)) 320 m = some (m + 1) := e7_8
  have e8_9 : zk (zSi y7 335 m (-1)) (m + 2) = 20 := e7_9
  have e8_10 : zn (zSi y7 335 m (-1)) (m + 2) = 600 := e7_10
  have e8_11 : zr (zSi y7 335 m (-1)) 325 m = some (m + 2) := e7_11
  have e8_12 : zk (zSi y7 335 m (-1)) (m + 3) = 20 := e7_12
  have e8_13 : zn (zSi y7 335 m (-1)) (m + 3) = 600 := e7_13
  have e8_14 : zr (zSi y7 335 m (-1)) 326 m = some (m + 3) := e7_14
  have e8_15 : zi (zSi y7 335 m (-1)) 334 m = (-1) := by rw [zi_Si, if_neg (by omega)]; exact e7_n0
  have e8_n0 : zi (zSi y7 335 m (-1)) 335 m = (-1) := zi_same
  have x8 : zx (zSi y7 335 m (-1)) = m + 4 := x7
  have t8 : zt (zSi y7 335 m (-1)) = zt h + 30220 := t7
  have F8 : FrD m h (zSi y7 335 m (-1)) := F7.sio (by omega)
  generalize zSi y7 335 m (-1) = y8 at x8 t8 F8 e8_0 e8_1 e8_2 e8_3 e8_4 e8_5 e8_6 e8_7 e8_8 e8_9 e8_10 e8_11 e8_12 e8_13 e8_14 e8_15 e8_n0 ⊢
  clear x7 t7 F7 e7_0 e7_1 e7_2 e7_3 e7_4 e7_5 e7_6 e7_7 e7_8 e7_9 e7_10 e7_11 e7_12 e7_13 e7_14 e7_n0
  refine g_aload_n 0 dX10_init_41 rfl rfl ?_
  refine g_bipush (v := nI 6) dX10_init_42 (by decide) ?_
  refine g_newa (t := 2) (x := m + 4) (N := 6) (ty := .long) dX10_init_44 rfl ac_2 rfl (by decide) (fun _ => rfl) (nI_pos (by omega)) (nI_clamp (by omega)) (by decide) x8 ?_
  have e9_0 : zk (zNw y8 22 6) m = 10 := by rw [zk_Nw, if_neg (by omega)]; exact e8_0
  have e9_1 : zi (zNw y8 22 6) 321 m = 0 := by rw [zi_Nw, if_neg (by omega)]; exact e8_1
  have e9_2 : zi (zNw y8 22 6) 322 m = 0 := by rw [zi_Nw, if_neg (by omega)]; exact e8_2
  have e9_3 : zi (zNw y8 22 6) 323 m = 0 := by rw [zi_Nw, if_neg (by omega)]; exact e8_3
  have e9_4 : zi (zNw y8 22 6) 324 m = 0 := by rw [zi_Nw, if_neg (by omega)]; exact e8_4
  have e9_5 : zi (zNw y8 22 6) 327 m = 0 := by rw [zi_Nw, if_neg (by omega)]; exact e8_5
  have e9_6 : zk (zNw y8 22 6) (m + 1) = 22 := by rw [zk_Nw, if_neg (by omega)]; exact e8_6
  have e9_7 : zn (zNw y8 22 6) (m + 1) = 29020 := by rw [zn_Nw, if_neg (by omega)]; exact e8_7
  have e9_8 : zr (zNw y8 22 6) 320 m = some (m + 1) := by rw [zr_Nw, if_neg (by omega)]; exact e8_8
  have e9_9 : zk (zNw y8 22 6) (m + 2) = 20 := by rw [zk_Nw, if_neg (by omega)]; exact e8_9
  have e9_10 : zn (zNw y8 22 6) (m + 2) = 600 := by rw [zn_Nw, if_neg (by omega)]; exact e8_10
  have e9_11 : zr (zNw y8 22 6) 325 m = some (m + 2) := by rw [zr_Nw, if_neg (by omega)]; exact e8_11
  have e9_12 : zk (zNw y8 22 6) (m + 3) = 20 := by rw [zk_Nw, if_neg (by omega)]; exact e8_12
  have e9_13 : zn (zNw y8 22 6) (m + 3) = 600 := by rw [zn_Nw, if_neg (by omega)]; exact e8_13
  have e9_14 : zr (zNw y8 22 6) 326 m = some (m + 3) := by rw [zr_Nw, if_neg (by omega)]; exact e8_14
  have e9_15 : zi (zNw y8 22 6) 334 m = (-1) := by rw [zi_Nw, if_neg (by omega)]; exact e8_15
  have e9_16 : zi (zNw y8 22 6) 335 m = (-1) := by rw [zi_Nw, if_neg (by omega)]; exact e8_n0
  have e9_n0 : zk (zNw y8 22 6) (m + 4) = 22 := by rw [zk_Nw, if_pos x8.symm]
  have e9_n1 : zn (zNw y8 22 6) (m + 4) = 6 := by rw [zn_Nw, if_pos x8.symm]
  have x9 : zx (zNw y8 22 6) = m + 5 := by have q := zx_Nw y8 22 6; omega
  have t9 : zt (zNw y8 22 6) = zt h + 30226 := by have q := zt_Nw y8 22 6; omega
  have F9 : FrD m h (zNw y8 22 6) := F8.nw
  generalize zNw y8 22 6 = y9 at x9 t9 F9 e9_0 e9_1 e9_2 e9_3 e9_4 e9_5 e9_6 e9_7 e9_8 e9_9 e9_10 e9_11 e9_12 e9_13 e9_14 e9_15 e9_16 e9_n0 e9_n1 ⊢
  clear x8 t8 F8 e8_0 e8_1 e8_2 e8_3 e8_4 e8_5 e8_6 e8_7 e8_8 e8_9 e8_10 e8_11 e8_12 e8_13 e8_14 e8_15 e8_n0
  refine g_putr (f := 336) dX10_init_46 fl_X10_27 (Or.inr ⟨rfl, fun _ _ _ q => by cases q; rfl⟩) e9_0 rfl ?_
  have e10_0 : zk (zSr y9 336 m (some (m + 4))) m = 10 := e9_0
  have e10_1 : zi (zSr y9 336 m (some (m + 4))) 321 m = 0 := e9_1
  have e10_2 : zi (zSr y9 336 m (some (m + 4))) 322 m = 0 := e9_2
  have e10_3 : zi (zSr y9 336 m (some (m + 4))) 323 m = 0 := e9_3
  have e10_4 : zi (zSr y9 336 m (some (m + 4))) 324 m = 0 := e9_4
  have e10_5 : zi (zSr y9 336 m (some (m + 4))) 327 m = 0 := e9_5
  have e10_6 : zk (zSr y9 336 m (some (m + 4))) (m + 1) = 22 := e9_6
  have e10_7 : zn (zSr y9 336 m (some (m + 4))) (m + 1) = 29020 := e9_7
  have e10_8 : zr (zSr y9 336 m (some (m + 4))) 320 m = some (m + 1) := by rw [zr_Sr, if_neg (by omega)]; exact e9_8
  have e10_9 : zk (zSr y9 336 m (some (m + 4))) (m + 2) = 20 := e9_9
  have e10_10 : zn (zSr y9 336 m (some (m + 4))) (m + 2) = 600 := e9_10
  have e10_11 : zr (zSr y9 336 m (some (m + 4))) 325 m = some (m + 2) := by rw [zr_Sr, if_neg (by omega)]; exact e9_11
  have e10_12 : zk (zSr y9 336 m (some (m + 4))) (m + 3) = 20 := e9_12
  have e10_13 : zn (zSr y9 336 m (some (m + 4))) (m + 3) = 600 := e9_13
  have e10_14 : zr (zSr y9 336 m (some (m + 4))) 326 m = some (m + 3) := by rw [zr_Sr, if_neg (by omega)]; exact e9_14
  have e10_15 : zi (zSr y9 336 m (some (m + 4))) 334 m = (-1) := e9_15
  have e10_16 : zi (zSr y9 336 m (some (m + 4))) 335 m = (-1) := e9_16
  have e10_17 : zk (zSr y9 336 m (some (m + 4))) (m + 4) = 22 := e9_n0
  have e10_18 : zn (zSr y9 336 m (some (m + 4))) (m + 4) = 6 := e9_n1
  have e10_n0 : zr (zSr y9 336 m (some (m + 4))) 336 m = some (m + 4) := by rw [zr_Sr, if_pos ⟨rfl, rfl⟩]
  have x10 : zx (zSr y9 336 m (some (m + 4))) = m + 5 := x9
  have t10 : zt (zSr y9 336 m (some (m + 4))) = zt h + 30226 := t9
  have F10 : FrD m h (zSr y9 336 m (some (m + 4))) := F9.sr (by omega) (by omega)
  generalize zSr y9 336 m (some (m + 4)) = y10 at x10 t10 F10 e10_0 e10_1 e10_2 e10_3 e10_4 e10_5 e10_6 e10_7 e10_8 e10_9 e10_10 e10_11 e10_12 e10_13 e10_14 e10_15 e10_16 e10_17 e10_18 e10_n0 ⊢
  clear x9 t9 F9 e9_0 e9_1 e9_2 e9_3 e9_4 e9_5 e9_6 e9_7 e9_8 e9_9 e9_10 e9_11 e9_12 e9_13 e9_14 e9_15 e9_16 e9_n0 e9_n1
  refine g_aload_n 0 dX10_init_49 rfl rfl ?_
  refine g_bipush (v := nI 6) dX10_init_50 (by decide) ?_
  refine g_newa (t := 1) (x := m + 5) (N := 6) (ty := .int) dX10_init_52 rfl ac_1 rfl (by decide) (fun _ => rfl) (nI_pos (by omega)) (nI_clamp (by omega)) (by decide) x10 ?_
  have e11_0 : zk (zNw y10 21 6) m = 10 := by rw [zk_Nw, if_neg (by omega)]; exact e10_0
  have e11_1 : zi (zNw y10 21 6) 321 m = 0 := by rw [zi_Nw, if_neg (by omega)]; exact e10_1
  have e11_2 : zi (zNw y10 21 6) 322 m = 0 := by rw [zi_Nw, if_neg (by omega)]; exact e10_2
  have e11_3 : zi (zNw y10 21 6) 323 m = 0 := by rw [zi_Nw, if_neg (by omega)]; exact e10_3
  have e11_4 : zi (zNw y10 21 6) 324 m = 0 := by rw [zi_Nw, if_neg (by omega)]; exact e10_4
  have e11_5 : zi (zNw y10 21 6) 327 m = 0 := by rw [zi_Nw, if_neg (by omega)]; exact e10_5
  have e11_6 : zk (zNw y10 21 6) (m + 1) = 22 := by rw [zk_Nw, if_neg (by omega)]; exact e10_6
  have e11_7 : zn (zNw y10 21 6) (m + 1) = 29020 := by rw [zn_Nw, if_neg (by omega)]; exact e10_7
  have e11_8 : zr (zNw y10 21 6) 320 m = some (m + 1) := by rw [zr_Nw, if_neg (by omega)]; exact e10_8
  have e11_9 : zk (zNw y10 21 6) (m + 2) = 20 := by rw [zk_Nw, if_neg (by omega)]; exact e10_9
  have e11_10 : zn (zNw y10 21 6) (m + 2) = 600 := by rw [zn_Nw, if_neg (by omega)]; exact e10_10
  have e11_11 : zr (zNw y10 21 6) 325 m = some (m + 2) := by rw [zr_Nw, if_neg (by omega)]; exact e10_11
  have e11_12 : zk (zNw y10 21 6) (m + 3) = 20 := by rw [zk_Nw, if_neg (by omega)]; exact e10_12
  have e11_13 : zn (zNw y10 21 6) (m + 3) = 600 := by rw [zn_Nw, if_neg (by omega)]; exact e10_13
  have e11_14 : zr (zNw y10 21 6) 326 m = some (m + 3) := by rw [zr_Nw, if_neg (by omega)]; exact e10_14
  have e11_15 : zi (zNw y10 21 6) 334 m = (-1) := by rw [zi_Nw, if_neg (by omega)]; exact e10_15
  have e11_16 : zi (zNw y10 21 6) 335 m = (-1) := by rw [zi_Nw, if_neg (by omega)]; exact e10_16
  have e11_17 : zk (zNw y10 21 6) (m + 4) = 22 := by rw [zk_Nw, if_neg (by omega)]; exact e10_17
  have e11_18 : zn (zNw y10 21 6) (m + 4) = 6 := by rw [zn_Nw, if_neg (by omega)]; exact e10_18
  have e11_19 : zr (zNw y10 21 6) 336 m = some (m + 4) := by rw [zr_Nw, if_neg (by omega)]; exact e10_n0
  have e11_n0 : zk (zNw y10 21 6) (m + 5) = 21 := by rw [zk_Nw, if_pos x10.symm]
  have e11_n1 : zn (zNw y10 21 6) (m + 5) = 6 := by rw [zn_Nw, if_pos x10.symm]
  have x11 : zx (zNw y10 21 6) = m + 6 := by have q := zx_Nw y10 21 6; omega
  have t11 : zt (zNw y10 21 6) = zt h + 30232 := by have q := zt_Nw y10 21 6; omega
  have F11 : FrD m h (zNw y10 21 6) := F10.nw
  generalize zNw y10 21 6 = y11 at x11 t11 F11 e11_0 e11_1 e11_2 e11_3 e11_4 e11_5 e11_6 e11_7 e11_8 e11_9 e11_10 e11_11 e11_12 e11_13 e11_14 e11_15 e11_16 e11_17 e11_18 e11_19 e11_n0 e11_n1 ⊢
  clear x10 t10 F10 e10_0 e10_1 e10_2 e10_3 e10_4 e10_5 e10_6 e10_7 e10_8 e10_9 e10_10 e10_11 e10_12 e10_13 e10_14 e10_15 e10_16 e10_17 e10_18 e10_n0
  refine g_putr (f := 337) dX10_init_54 fl_X10_30 (Or.inr ⟨rfl, fun _ _ _ q => by cases q; rfl⟩) e11_0 rfl ?_
  have e12_0 : zk (zSr y11 337 m (some (m + 5))) m = 10 := e11_0
  have e12_1 : zi (zSr y11 337 m (some (m + 5))) 321 m = 0 := e11_1
  have e12_2 : zi (zSr y11 337 m (some (m + 5))) 322 m = 0 := e11_2
  have e12_3 : zi (zSr y11 337 m (some (m + 5))) 323 m = 0 := e11_3
  have e12_4 : zi (zSr y11 337 m (some (m + 5))) 324 m = 0 := e11_4
  have e12_5 : zi (zSr y11 337 m (some (m + 5))) 327 m = 0 := e11_5
  have e12_6 : zk (zSr y11 337 m (some (m + 5))) (m + 1) = 22 := e11_6
  have e12_7 : zn (zSr y11 337 m (some (m + 5))) (m + 1) = 29020 := e11_7
  have e12_8 : zr (zSr y11 337 m (some (m + 5))) 320 m = some (m + 1) := by rw [zr_Sr, if_neg (by omega)]; exact e11_8
  have e12_9 : zk (zSr y11 337 m (some (m + 5))) (m + 2) = 20 := e11_9
  have e12_10 : zn (zSr y11 337 m (some (m + 5))) (m + 2) = 600 := e11_10
  have e12_11 : zr (zSr y11 337 m (some (m + 5))) 325 m = some (m + 2) := by rw [zr_Sr, if_neg (by omega)]; exact e11_11
  have e12_12 : zk (zSr y11 337 m (some (m + 5))) (m + 3) = 20 := e11_12
  have e12_13 : zn (zSr y11 337 m (some (m + 5))) (m + 3) = 600 := e11_13
  have e12_14 : zr (zSr y11 337 m (some (m + 5))) 326 m = some (m + 3) := by rw [zr_Sr, if_neg (by omega)]; exact e11_14
  have e12_15 : zi (zSr y11 337 m (some (m + 5))) 334 m = (-1) := e11_15
  have e12_16 : zi (zSr y11 337 m (some (m + 5))) 335 m = (-1) := e11_16
  have e12_17 : zk (zSr y11 337 m (some (m + 5))) (m + 4) = 22 := e11_17
  have e12_18 : zn (zSr y11 337 m (some (m + 5))) (m + 4) = 6 := e11_18
  have e12_19 : zr (zSr y11 337 m (some (m + 5))) 336 m = some (m + 4) := by rw [zr_Sr, if_neg (by omega)]; exact e11_19
  have e12_20 : zk (zSr y11 337 m (some (m + 5))) (m + 5) = 21 := e11_n0
  have e12_21 : zn (zSr y11 337 m (some (m + 5))) (m + 5) = 6 := e11_n1
  have e12_n0 : zr (zSr y11 337 m (some (m + 5))) 337 m = some (m + 5) := by rw [zr_Sr, if_pos ⟨rfl, rfl⟩]
  have x12 : zx (zSr y11 337 m (some (m + 5))) = m + 6 := x11
  have t12 : zt (zSr y11 337 m (some (m + 5))) = zt h + 30232 := t11
  have F12 : FrD m h (zSr y11 337 m (some (m + 5))) := F11.sr (by omega) (by omega)
  generalize zSr y11 337 m (some (m + 5)) = y12 at x12 t12 F12 e12_0 e12_1 e12_2 e12_3 e12_4 e12_5 e12_6 e12_7 e12_8 e12_9 e12_10 e12_11 e12_12 e12_13 e12_14 e12_15 e12_16 e12_17 e12_18 e12_19 e12_20 e12_21 e12_n0 ⊢
  clear x11 t11 F11 e11_0 e11_1 e11_2 e11_3 e11_4 e11_5 e11_6 e11_7 e11_8 e11_9 e11_10 e11_11 e11_12 e11_13 e11_14 e11_15 e11_16 e11_17 e11_18 e11_19 e11_n0 e11_n1
  refine g_aload_n 0 dX10_init_57 rfl rfl ?_
  have M : Mo y12 m := ⟨e12_0, ⟨e12_8, e12_6, e12_7⟩, ⟨e12_11, e12_9, e12_10⟩, ⟨e12_14, e12_12, e12_13⟩, ⟨e12_19, e12_17, e12_18⟩, ⟨e12_n0, e12_20, e12_21⟩⟩
  refine g_invv (M' := mX10_begins) (As := []) (rest := []) dX10_init_58 ml_X10_34 okX10_begins imX10_begins seX10_begins ⟨(Nat.le_of_ble_eq_true rfl), (Nat.le_of_ble_eq_true rfl)⟩ (ci := 10) rfl rfl e12_0 rfl rfl (Nat.le_of_ble_eq_true rfl) (c_begins M) ?_
  rintro _ yz ⟨rfl, ez⟩
  show zG l w mX10_init 61 [(0, .ref m)] [] yz _
  refine g_return dX10_init_61 rfl ?_
  have e9 : MoN yz m (zeN 0) := by
    rw [ez]
    refine ⟨M, by rw [zL_SG]; exact z0G_R, ?_, ?_⟩
    · rw [zeN_0 (by omega)]; exact e12_3
    · rw [zeN_0 (by omega)]; exact e12_4
  refine ⟨rfl, by rw [ez]; exact x12, by rw [ez]; exact t12, fun a ha => ?_, e9, by rw [ez]; exact e12_1, by rw [ez]; exact e12_2, by rw [ez]; exact e12_5, by rw [ez]; exact e12_15, by rw [ez]; exact e12_16, fun i => by rw [ez]; exact ((F12.2.2 (m + 2) (by omega) (by omega)).2.1 i).1⟩
  have s := F12.2.1 a (by omega) (by omega)
  rw [ez]
  exact ⟨s.1, s.2.1, fun i => ⟨(s.2.2 i).1, (show (if a = m + 1 then _ else zL y12 a i) = _ from if_neg (by omega)).trans (s.2.2 i).2.1, (s.2.2 i).2.2⟩⟩
end CTM
