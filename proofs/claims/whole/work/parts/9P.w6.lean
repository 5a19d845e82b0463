section QM6
variable {l : Launch} {w : zW} {h : zH} {m x b : Nat} {π : Nat → Nat} {ls : Nat → List Nat} {N : nT} {X : List Nat} {t : Nat}
theorem zi_same {f a : Nat} {v : Int32} : zi (zSi h f a v) f a = v := by rw [zi_Si, if_pos ⟨rfl, rfl⟩]
def qFault (k : Int) (p q : Int32) : Int32 := if k = 0 then p else if k = 1 then q else -1
/-- a byte of a number; the tape with one more byte, four more, twenty more -/
def by8 (v : Int32) (s : Nat) : Int32 := (v >>> (nI s &&& 31)).toInt8.toInt32.toInt8.toInt32
def pb (h : zH) (a f c n : Nat) (v : Int32) : zH := zSi (zSI h a n v) f c (nI (n + 1))
def put4 (h : zH) (a f c n : Nat) (v : Int32) : zH := pb (pb (pb (pb h a f c n (by8 v 24)) a f c (n + 1) (by8 v 16)) a f c (n + 1 + 1) (by8 v 8)) a f c (n + 1 + 1 + 1) (by8 v 0)
def put20 (h : zH) (a f c n : Nat) (v1 v2 v3 v4 v5 : Int32) : zH := put4 (put4 (put4 (put4 (put4 h a f c n v1) a f c (n + 4) v2) a f c (n + 8) v3) a f c (n + 12) v4) a f c (n + 16) v5
theorem nar_by8 {v : Int32} {s : Nat} : narrow .byte (.int ((v >>> (nI s &&& 31)).toInt8.toInt32)) = .int (by8 v s) := rfl
theorem pb_n {a f c n : Nat} {v : Int32} : zi (pb h a f c n v) f c = nI (n + 1) := zi_same
def TpF (h : zH) (c k fr a f n : Nat) : Prop := zk h c = k ∧ zr h fr c = some a ∧ zk h a = 20 ∧ zn h a = 600 ∧ zi h f c = nI n
theorem TpF.pb {c k fr a f n : Nat} {v : Int32} (T : TpF h c k fr a f n) : TpF (pb h a f c n v) c k fr a f (n + 1) := ⟨T.1, T.2.1, T.2.2.1, T.2.2.2.1, pb_n⟩
theorem TpF.put4 {c k fr a f n : Nat} {v : Int32} (T : TpF h c k fr a f n) : TpF (put4 h a f c n v) c k fr a f (n + 4) := T.pb.pb.pb.pb
theorem put4_n {a f c n : Nat} {v : Int32} : zi (put4 h a f c n v) f c = nI (n + 4) := zi_same
theorem put20_n {a f c n : Nat} {v1 v2 v3 v4 v5 : Int32} : zi (put20 h a f c n v1 v2 v3 v4 v5) f c = nI (n + 20) := zi_same
theorem c_statusM (hk : zk h m = 10) : zM l w mX10_status [.ref m] h (fun u h1 => u = some (.int (zi h 321 m)) ∧ h1 = h) := by
  refine zM.of (by decide) (Nat.le_of_ble_eq_true rfl) ?_
  refine g_aload_n 0 dX10_status_0 rfl rfl ?_
  refine g_geti (f := 321) dX10_status_1 fl_X10_37 hk (by decide) rfl ?_
  refine g_ireturn dX10_status_4 rfl ?_
  exact ⟨rfl, rfl⟩
theorem c_statusC (hk : zk h x = 9) : zM l w mX9_status [.ref x] h (fun u h1 => u = some (.int (zi h 290 x)) ∧ h1 = h) := by
  refine zM.of (by decide) (Nat.le_of_ble_eq_true rfl) ?_
  refine g_aload_n 0 dX9_status_0 rfl rfl ?_
  refine g_geti (f := 290) dX9_status_1 fl_X9_48 hk (by decide) rfl ?_
  refine g_ireturn dX9_status_4 rfl ?_
  exact ⟨rfl, rfl⟩
theorem c_faultM (hk : zk h m = 10) {k : Int} (kb : -2147483648 ≤ k ∧ k < 2147483648) : zM l w mX10_fault [.ref m, .int (jI k)] h (fun u h1 => u = some (.int (qFault k (zi h 335 m) (zi h 334 m))) ∧ h1 = h) := by
  refine zM.of (by decide) (Nat.le_of_ble_eq_true rfl) ?_
  refine g_iload_n 1 dX10_fault_0 rfl rfl ?_
  refine g_zif_ne (a := k) (tgt := 11) rfl dX10_fault_1 (by decide) (by omega) (fun g => ?_) (fun g => ?_)
  · refine g_iload_n 1 dX10_fault_11 rfl rfl ?_
    refine g_iconst (v := nI 1) dX10_fault_12 (by decide) ?_
    refine g_zcmp_ne (a := k) (b := 1) (tgt := 23) rfl (by decide) dX10_fault_13 (by decide) (by omega) (by omega) (fun g2 => ?_) (fun g2 => ?_)
    · refine g_iconst (v := (-1)) dX10_fault_23 (by decide) ?_
      refine g_ireturn dX10_fault_24 rfl ?_
      exact ⟨by unfold qFault; rw [if_neg g, if_neg g2], rfl⟩
    · refine g_aload_n 0 dX10_fault_16 rfl rfl ?_
      refine g_geti (f := 334) dX10_fault_17 fl_X10_20 hk (by decide) rfl ?_
      refine g_goto (tgt := 24) dX10_fault_20 (by decide) ?_
      refine g_ireturn dX10_fault_24 rfl ?_
      exact ⟨by unfold qFault; rw [if_neg g, if_pos g2], rfl⟩
  · refine g_aload_n 0 dX10_fault_4 rfl rfl ?_
    refine g_geti (f := 335) dX10_fault_5 fl_X10_24 hk (by decide) rfl ?_
    refine g_goto (tgt := 24) dX10_fault_8 (by decide) ?_
    refine g_ireturn dX10_fault_24 rfl ?_
    exact ⟨by unfold qFault; rw [if_pos g], rfl⟩
theorem c_faultC (hk : zk h x = 9) {k : Int} (kb : -2147483648 ≤ k ∧ k < 2147483648) : zM l w mX9_fault [.ref x, .int (jI k)] h (fun u h1 => u = some (.int (qFault k (zi h 291 x) (zi h 292 x))) ∧ h1 = h) := by
  refine zM.of (by decide) (Nat.le_of_ble_eq_true rfl) ?_
  refine g_iload_n 1 dX9_fault_0 rfl rfl ?_
  refine g_zif_ne (a := k) (tgt := 9) rfl dX9_fault_1 (by decide) (by omega) (fun g => ?_) (fun g => ?_)
  · refine g_iload_n 1 dX9_fault_9 rfl rfl ?_
    refine g_iconst (v := nI 1) dX9_fault_10 (by decide) ?_
    refine g_zcmp_ne (a := k) (b := 1) (tgt := 21) rfl (by decide) dX9_fault_11 (by decide) (by omega) (by omega) (fun g2 => ?_) (fun g2 => ?_)
    · refine g_iconst (v := (-1)) dX9_fault_21 (by decide) ?_
      refine g_ireturn dX9_fault_22 rfl ?_
      exact ⟨by unfold qFault; rw [if_neg g, if_neg g2], rfl⟩
    · refine g_aload_n 0 dX9_fault_14 rfl rfl ?_
      refine g_geti (f := 292) dX9_fault_15 fl_X9_17 hk (by decide) rfl ?_
      refine g_goto (tgt := 22) dX9_fault_18 (by decide) ?_
      refine g_ireturn dX9_fault_22 rfl ?_
      exact ⟨by unfold qFault; rw [if_neg g, if_pos g2], rfl⟩
  · refine g_aload_n 0 dX9_fault_4 rfl rfl ?_
    refine g_geti (f := 291) dX9_fault_5 fl_X9_13 hk (by decide) rfl ?_
    refine g_ireturn dX9_fault_8 rfl ?_
    exact ⟨by unfold qFault; rw [if_pos g], rfl⟩
theorem c_four {n : Nat} {v : Int32} (T0 : TpF h m 10 325 (m + 2) 327 n) (n6 : n + 4 ≤ 600) : zM l w mX10_four [.ref m, .int v] h (fun u h1 => u = none ∧ h1 = put4 h (m + 2) 327 m n v) := by
  refine zM.of (by decide) (Nat.le_of_ble_eq_true rfl) ?_
  refine g_iconst (v := nI 3) dX10_four_0 (by decide) ?_
  refine g_istore_n (lv2 := [(2, .int (nI 3)), (0, .ref m), (1, .int v)]) dX10_four_1 rfl (by decide) rfl ?_
  refine g_iload_n 0 dX10_four_2 rfl rfl ?_
  refine g_if_lt (tgt := 38) dX10_four_3 (by decide) (fun c => absurd c (by decide : ¬ nI 3 < 0)) (fun _ => ?_)
  refine g_aload_n 1 dX10_four_6 rfl rfl ?_
  refine g_getr (f := 325) (b := m + 2) dX10_four_7 fl_X10_13 T0.1 rfl T0.2.1 ?_
  refine g_aload_n 1 dX10_four_10 rfl rfl ?_
  refine g_geti (f := 327) dX10_four_11 fl_X10_199 T0.1 (by decide) rfl ?_
  rw [show zi h 327 m = nI n from T0.2.2.2.2]
  refine g_iload_n 2 dX10_four_14 rfl rfl ?_
  refine g_bipush (v := nI 8) dX10_four_15 (by decide) ?_
  refine g_iload_n 0 dX10_four_17 rfl rfl ?_
  refine g_imul dX10_four_18 ?_
  rw [pk_mul 8 3]
  rw [show (8 : Nat) * 3 = 24 from rfl]
  refine g_ishr dX10_four_19 ?_
  refine g_i2b dX10_four_20 ?_
  refine g_bast (n := n) (v := by8 v 24) dX10_four_21 T0.2.2.1 (by rw [show zn h (m + 2) = 600 from T0.2.2.2.1]; exact vp_in_nI (by omega) (by omega)) (nI_clamp (by omega)) nar_by8 ?_
  refine g_aload_n 1 dX10_four_22 rfl rfl ?_
  refine g_dup dX10_four_23 rfl ?_
  refine g_geti (f := 327) dX10_four_24 fl_X10_199 ((zk_SI _ _ _ _ _).trans T0.1) (by decide) rfl ?_
  rw [zi_SI, show zi h 327 m = nI n from T0.2.2.2.2]
  refine g_iconst (v := nI 1) dX10_four_27 (by decide) ?_
  refine g_iadd dX10_four_28 ?_
  rw [nI_add n 1]
  refine g_puti (f := 327) dX10_four_29 fl_X10_199 (Or.inl rfl) ((zk_SI _ _ _ _ _).trans T0.1) rfl ?_
  show zG l w mX10_four 32 [(2, .int (nI 3)), (0, .ref m), (1, .int v)] [] (pb h (m + 2) 327 m n (by8 v 24)) _
  have T1 := T0.pb (v := by8 v 24)
  generalize e1 : pb h (m + 2) 327 m n (by8 v 24) = y1 at T1 ⊢
  refine g_inc (v := nI 2) (lv2 := [(2, .int (nI 2)), (0, .ref m), (1, .int v)]) 0 dX10_four_32 rfl (by decide) (by decide) rfl ?_
  refine g_goto (tgt := 2) dX10_four_35 (by decide) ?_
  refine g_iload_n 0 dX10_four_2 rfl rfl ?_
  refine g_if_lt (tgt := 38) dX10_four_3 (by decide) (fun c => absurd c (by decide : ¬ nI 2 < 0)) (fun _ => ?_)
  refine g_aload_n 1 dX10_four_6 rfl rfl ?_
  refine g_getr (f := 325) (b := m + 2) dX10_four_7 fl_X10_13 T1.1 rfl T1.2.1 ?_
  refine g_aload_n 1 dX10_four_10 rfl rfl ?_
  refine g_geti (f := 327) dX10_four_11 fl_X10_199 T1.1 (by decide) rfl ?_
  rw [show zi y1 327 m = nI (n + 1) from T1.2.2.2.2]
  refine g_iload_n 2 dX10_four_14 rfl rfl ?_
  refine g_bipush (v := nI 8) dX10_four_15 (by decide) ?_
  refine g_iload_n 0 dX10_four_17 rfl rfl ?_
  refine g_imul dX10_four_18 ?_
  rw [pk_mul 8 2]
  rw [show (8 : Nat) * 2 = 16 from rfl]
  refine g_ishr dX10_four_19 ?_
  refine g_i2b dX10_four_20 ?_
  refine g_bast (n := (n + 1)) (v := by8 v 16) dX10_four_21 T1.2.2.1 (by rw [show zn y1 (m + 2) = 600 from T1.2.2.2.1]; exact vp_in_nI (by omega) (by omega)) (nI_clamp (by omega)) nar_by8 ?_
  refine g_aload_n 1 dX10_four_22 rfl rfl ?_
  refine g_dup dX10_four_23 rfl ?_
  refine g_geti (f := 327) dX10_four_24 fl_X10_199 ((zk_SI _ _ _ _ _).trans T1.1) (by decide) rfl ?_
  rw [zi_SI, show zi y1 327 m = nI (n + 1) from T1.2.2.2.2]
  refine g_iconst (v := nI 1) dX10_four_27 (by decide) ?_
  refine g_iadd dX10_four_28 ?_
  rw [nI_add (n + 1) 1]
  refine g_puti (f := 327) dX10_four_29 fl_X10_199 (Or.inl rfl) ((zk_SI _ _ _ _ _).trans T1.1) rfl ?_
  show zG l w mX10_four 32 [(2, .int (nI 2)), (0, .ref m), (1, .int v)] [] (pb y1 (m + 2) 327 m (n + 1) (by8 v 16)) _
  have T2 := T1.pb (v := by8 v 16)
  generalize e2 : pb y1 (m + 2) 327 m (n + 1) (by8 v 16) = y2 at T2 ⊢
  refine g_inc (v := nI 1) (lv2 := [(2, .int (nI 1)), (0, .ref m), (1, .int v)]) 0 dX10_four_32 rfl (by decide) (by decide) rfl ?_
  refine g_goto (tgt := 2) dX10_four_35 (by decide) ?_
  refine g_iload_n 0 dX10_four_2 rfl rfl ?_
  refine g_if_lt (tgt := 38) dX10_four_3 (by decide) (fun c => absurd c (by decide : ¬ nI 1 < 0)) (fun _ => ?_)
  refine g_aload_n 1 dX10_four_6 rfl rfl ?_
  refine g_getr (f := 325) (b := m + 2) dX10_four_7 fl_X10_13 T2.1 rfl T2.2.1 ?_
  refine g_aload_n 1 dX10_four_10 rfl rfl ?_
  refine g_geti (f := 327) dX10_four_11 fl_X10_199 T2.1 (by decide) rfl ?_
  rw [show zi y2 327 m = nI (n + 1 + 1) from T2.2.2.2.2]
  refine g_iload_n 2 dX10_four_14 rfl rfl ?_
  refine g_bipush (v := nI 8) dX10_four_15 (by decide) ?_
  refine g_iload_n 0 dX10_four_17 rfl rfl ?_
  refine g_imul dX10_four_18 ?_
  rw [pk_mul 8 1]
  rw [show (8 : Nat) * 1 = 8 from rfl]
  refine g_ishr dX10_four_19 ?_
  refine g_i2b dX10_four_20 ?_
  refine g_bast (n := (n + 1 + 1)) (v := by8 v 8) dX10_four_21 T2.2.2.1 (by rw [show zn y2 (m + 2) = 600 from T2.2.2.2.1]; exact vp_in_nI (by omega) (by omega)) (nI_clamp (by omega)) nar_by8 ?_
  refine g_aload_n 1 dX10_four_22 rfl rfl ?_
  refine g_dup dX10_four_23 rfl ?_
  refine g_geti (f := 327) dX10_four_24 fl_X10_199 ((zk_SI _ _ _ _ _).trans T2.1) (by decide) rfl ?_
  rw [zi_SI, show zi y2 327 m = nI (n + 1 + 1) from T2.2.2.2.2]
  refine g_iconst (v := nI 1) dX10_four_27 (by decide) ?_
  refine g_iadd dX10_four_28 ?_
  rw [nI_add (n + 1 + 1) 1]
  refine g_puti (f := 327) dX10_four_29 fl_X10_199 (Or.inl rfl) ((zk_SI _ _ _ _ _).trans T2.1) rfl ?_
  show zG l w mX10_four 32 [(2, .int (nI 1)), (0, .ref m), (1, .int v)] [] (pb y2 (m + 2) 327 m (n + 1 + 1) (by8 v 8)) _
  have T3 := T2.pb (v := by8 v 8)
  generalize e3 : pb y2 (m + 2) 327 m (n + 1 + 1) (by8 v 8) = y3 at T3 ⊢
  refine g_inc (v := nI 0) (lv2 := [(2, .int (nI 0)), (0, .ref m), (1, .int v)]) 0 dX10_four_32 rfl (by decide) (by decide) rfl ?_
  refine g_goto (tgt := 2) dX10_four_35 (by decide) ?_
  refine g_iload_n 0 dX10_four_2 rfl rfl ?_
  refine g_if_lt (tgt := 38) dX10_four_3 (by decide) (fun c => absurd c (by decide : ¬ nI 0 < 0)) (fun _ => ?_)
  refine g_aload_n 1 dX10_four_6 rfl rfl ?_
  refine g_getr (f := 325) (b := m + 2) dX10_four_7 fl_X10_13 T3.1 rfl T3.2.1 ?_
  refine g_aload_n 1 dX10_four_10 rfl rfl ?_
  refine g_geti (f := 327) dX10_four_11 fl_X10_199 T3.1 (by decide) rfl ?_
  rw [show zi y3 327 m = nI (n + 1 + 1 + 1) from T3.2.2.2.2]
  refine g_iload_n 2 dX10_four_14 rfl rfl ?_
  refine g_bipush (v := nI 8) dX10_four_15 (by decide) ?_
  refine g_iload_n 0 dX10_four_17 rfl rfl ?_
  refine g_imul dX10_four_18 ?_
  rw [pk_mul 8 0]
  rw [show (8 : Nat) * 0 = 0 from rfl]
  refine g_ishr dX10_four_19 ?_
  refine g_i2b dX10_four_20 ?_
  refine g_bast (n := (n + 1 + 1 + 1)) (v := by8 v 0) dX10_four_21 T3.2.2.1 (by rw [show zn y3 (m + 2) = 600 from T3.2.2.2.1]; exact vp_in_nI (by omega) (by omega)) (nI_clamp (by omega)) nar_by8 ?_
  refine g_aload_n 1 dX10_four_22 rfl rfl ?_
  refine g_dup dX10_four_23 rfl ?_
  refine g_geti (f := 327) dX10_four_24 fl_X10_199 ((zk_SI _ _ _ _ _).trans T3.1) (by decide) rfl ?_
  rw [zi_SI, show zi y3 327 m = nI (n + 1 + 1 + 1) from T3.2.2.2.2]
  refine g_iconst (v := nI 1) dX10_four_27 (by decide) ?_
  refine g_iadd dX10_four_28 ?_
  rw [nI_add (n + 1 + 1 + 1) 1]
  refine g_puti (f := 327) dX10_four_29 fl_X10_199 (Or.inl rfl) ((zk_SI _ _ _ _ _).trans T3.1) rfl ?_
  show zG l w mX10_four 32 [(2, .int (nI 0)), (0, .ref m), (1, .int v)] [] (pb y3 (m + 2) 327 m (n + 1 + 1 + 1) (by8 v 0)) _
  have T4 := T3.pb (v := by8 v 0)
  generalize e4 : pb y3 (m + 2) 327 m (n + 1 + 1 + 1) (by8 v 0) = y4 at T4 ⊢
  refine g_inc (v := (-1)) (lv2 := [(2, .int (-1)), (0, .ref m), (1, .int v)]) 0 dX10_four_32 rfl (by decide) (by decide) rfl ?_
  refine g_goto (tgt := 2) dX10_four_35 (by decide) ?_
  refine g_iload_n 0 dX10_four_2 rfl rfl ?_
  refine g_if_lt (tgt := 38) dX10_four_3 (by decide) (fun _ => ?_) (fun c => absurd (by decide : (-1 : Int32) < 0) c)
  refine g_return dX10_four_38 rfl ?_
  exact ⟨rfl, by unfold put4; rw [e1, e2, e3, e4]⟩
theorem c_putBytes {n : Nat} {v : Int32} (T0 : TpF h x 9 288 (x + 1) 289 n) (n6 : n + 4 ≤ 600) : zM l w mX9_putBytes [.ref x, .int v] h (fun u h1 => u = none ∧ h1 = put4 h (x + 1) 289 x n v) := by
  refine zM.of (by decide) (Nat.le_of_ble_eq_true rfl) ?_
  refine g_bipush (v := nI 24) dX9_putBytes_0 (by decide) ?_
  refine g_istore_n (lv2 := [(2, .int (nI 24)), (0, .ref x), (1, .int v)]) dX9_putBytes_2 rfl (by decide) rfl ?_
  refine g_iload_n 0 dX9_putBytes_3 rfl rfl ?_
  refine g_if_lt (tgt := 48) dX9_putBytes_4 (by decide) (fun c => absurd c (by decide : ¬ nI 24 < 0)) (fun _ => ?_)
  refine g_aload_n 1 dX9_putBytes_7 rfl rfl ?_
  refine g_geti (f := 289) dX9_putBytes_8 fl_X9_51 T0.1 (by decide) rfl ?_
  rw [show zi h 289 x = nI n from T0.2.2.2.2]
  refine g_aload_n 1 dX9_putBytes_11 rfl rfl ?_
  refine g_getr (f := 288) (b := x + 1) dX9_putBytes_12 fl_X9_9 T0.1 rfl T0.2.1 ?_
  refine g_alen (t := 0) (v := nI 600) dX9_putBytes_15 T0.2.2.1 rfl (fun _ => rfl) (congrArg Int32.ofNat T0.2.2.2.1) ?_
  refine g_ncmp_ge (tgt := 42) dX9_putBytes_16 (by decide) (by omega) (by omega) (fun k24 => ?_) (fun k24 => ?_)
  · exact absurd k24 (by omega)
  · refine g_aload_n 1 dX9_putBytes_19 rfl rfl ?_
    refine g_getr (f := 288) (b := x + 1) dX9_putBytes_20 fl_X9_9 T0.1 rfl T0.2.1 ?_
    refine g_aload_n 1 dX9_putBytes_23 rfl rfl ?_
    refine g_geti (f := 289) dX9_putBytes_24 fl_X9_51 T0.1 (by decide) rfl ?_
    rw [show zi h 289 x = nI n from T0.2.2.2.2]
    refine g_iload_n 2 dX9_putBytes_27 rfl rfl ?_
    refine g_iload_n 0 dX9_putBytes_28 rfl rfl ?_
    refine g_ishr dX9_putBytes_29 ?_
    refine g_i2b dX9_putBytes_30 ?_
    refine g_bast (n := n) (v := by8 v 24) dX9_putBytes_31 T0.2.2.1 (by rw [show zn h (x + 1) = 600 from T0.2.2.2.1]; exact vp_in_nI (by omega) (by omega)) (nI_clamp (by omega)) nar_by8 ?_
    refine g_aload_n 1 dX9_putBytes_32 rfl rfl ?_
    refine g_dup dX9_putBytes_33 rfl ?_
    refine g_geti (f := 289) dX9_putBytes_34 fl_X9_51 ((zk_SI _ _ _ _ _).trans T0.1) (by decide) rfl ?_
    rw [zi_SI, show zi h 289 x = nI n from T0.2.2.2.2]
    refine g_iconst (v := nI 1) dX9_putBytes_37 (by decide) ?_
    refine g_iadd dX9_putBytes_38 ?_
    rw [nI_add n 1]
    refine g_puti (f := 289) dX9_putBytes_39 fl_X9_51 (Or.inl rfl) ((zk_SI _ _ _ _ _).trans T0.1) rfl ?_
    show zG l w mX9_putBytes 42 [(2, .int (nI 24)), (0, .ref x), (1, .int v)] [] (pb h (x + 1) 289 x n (by8 v 24)) _
    have T1 := T0.pb (v := by8 v 24)
    generalize e1 : pb h (x + 1) 289 x n (by8 v 24) = y1 at T1 ⊢
    refine g_inc (v := nI 16) (lv2 := [(2, .int (nI 16)), (0, .ref x), (1, .int v)]) 0 dX9_putBytes_42 rfl (by decide) (by decide) rfl ?_
    refine g_goto (tgt := 3) dX9_putBytes_45 (by decide) ?_
    refine g_iload_n 0 dX9_putBytes_3 rfl rfl ?_
    refine g_if_lt (tgt := 48) dX9_putBytes_4 (by decide) (fun c => absurd c (by decide : ¬ nI 16 < 0)) (fun _ => ?_)
    refine g_aload_n 1 dX9_putBytes_7 rfl rfl ?_
    refine g_geti (f := 289) dX9_putBytes_8 fl_X9_51 T1.1 (by decide) rfl ?_
    rw [show zi y1 289 x = nI (n + 1) from T1.2.2.2.2]
    refine g_aload_n 1 dX9_putBytes_11 rfl rfl ?_
    refine g_getr (f := 288) (b := x + 1) dX9_putBytes_12 fl_X9_9 T1.1 rfl T1.2.1 ?_
    refine g_alen (t := 0) (v := nI 600) dX9_putBytes_15 T1.2.2.1 rfl (fun _ => rfl) (congrArg Int32.ofNat T1.2.2.2.1) ?_
    refine g_ncmp_ge (tgt := 42) dX9_putBytes_16 (by decide) (by omega) (by omega) (fun k16 => ?_) (fun k16 => ?_)
    · exact absurd k16 (by omega)
    · refine g_aload_n 1 dX9_putBytes_19 rfl rfl ?_
      refine g_getr (f := 288) (b := x + 1) dX9_putBytes_20 fl_X9_9 T1.1 rfl T1.2.1 ?_
      refine g_aload_n 1 dX9_putBytes_23 rfl rfl ?_
      refine g_geti (f := 289) dX9_putBytes_24 fl_X9_51 T1.1 (by decide) rfl ?_
      rw [show zi y1 289 x = nI (n + 1) from T1.2.2.2.2]
      refine g_iload_n 2 dX9_putBytes_27 rfl rfl ?_
      refine g_iload_n 0 dX9_putBytes_28 rfl rfl ?_
      refine g_ishr dX9_putBytes_29 ?_
      refine g_i2b dX9_putBytes_30 ?_
      refine g_bast (n := (n + 1)) (v := by8 v 16) dX9_putBytes_31 T1.2.2.1 (by rw [show zn y1 (x + 1) = 600 from T1.2.2.2.1]; exact vp_in_nI (by omega) (by omega)) (nI_clamp (by omega)) nar_by8 ?_
      refine g_aload_n 1 dX9_putBytes_32 rfl rfl ?_
      refine g_dup dX9_putBytes_33 rfl ?_
      refine g_geti (f := 289) dX9_putBytes_34 fl_X9_51 ((zk_SI _ _ _ _ _).trans T1.1) (by decide) rfl ?_
      rw [zi_SI, show zi y1 289 x = nI (n + 1) from T1.2.2.2.2]
      refine g_iconst (v := nI 1) dX9_putBytes_37 (by decide) ?_
      refine g_iadd dX9_putBytes_38 ?_
      rw [nI_add (n + 1) 1]
      refine g_puti (f := 289) dX9_putBytes_39 fl_X9_51 (Or.inl rfl) ((zk_SI _ _ _ _ _).trans T1.1) rfl ?_
      show zG l w mX9_putBytes 42 [(2, .int (nI 16)), (0, .ref x), (1, .int v)] [] (pb y1 (x + 1) 289 x (n + 1) (by8 v 16)) _
      have T2 := T1.pb (v := by8 v 16)
      generalize e2 : pb y1 (x + 1) 289 x (n + 1) (by8 v 16) = y2 at T2 ⊢
      refine g_inc (v := nI 8) (lv2 := [(2, .int (nI 8)), (0, .ref x), (1, .int v)]) 0 dX9_putBytes_42 rfl (by decide) (by decide) rfl ?_
      refine g_goto (tgt := 3) dX9_putBytes_45 (by decide) ?_
      refine g_iload_n 0 dX9_putBytes_3 rfl rfl ?_
      refine g_if_lt (tgt := 48) dX9_putBytes_4 (by decide) (fun c => absurd c (by decide : ¬ nI 8 < 0)) (fun _ => ?_)
      refine g_aload_n 1 dX9_putBytes_7 rfl rfl ?_
      refine g_geti (f := 289) dX9_putBytes_8 fl_X9_51 T2.1 (by decide) rfl ?_
      rw [show zi y2 289 x = nI (n + 1 + 1) from T2.2.2.2.2]
      refine g_aload_n 1 dX9_putBytes_11 rfl rfl ?_
      refine g_getr (f := 288) (b := x + 1) dX9_putBytes_12 fl_X9_9 T2.1 rfl T2.2.1 ?_
      refine g_alen (t := 0) (v := nI 600) dX9_putBytes_15 T2.2.2.1 rfl (fun _ => rfl) (congrArg Int32.ofNat T2.2.2.2.1) ?_
      refine g_ncmp_ge (tgt := 42) dX9_putBytes_16 (by decide) (by omega) (by omega) (fun k8 => ?_) (fun k8 => ?_)
      · exact absurd k8 (by omega)
      · refine g_aload_n 1 dX9_putBytes_19 rfl rfl ?_
        refine g_getr (f := 288) (b := x + 1) dX9_putBytes_20 fl_X9_9 T2.1 rfl T2.2.1 ?_
        refine g_aload_n 1 dX9_putBytes_23 rfl rfl ?_
        refine g_geti (f := 289) dX9_putBytes_24 fl_X9_51 T2.1 (by decide) rfl ?_
        rw [show zi y2 289 x = nI (n + 1 + 1) from T2.2.2.2.2]
        refine g_iload_n 2 dX9_putBytes_27 rfl rfl ?_
        refine g_iload_n 0 dX9_putBytes_28 rfl rfl ?_
        refine g_ishr dX9_putBytes_29 ?_
        refine g_i2b dX9_putBytes_30 ?_
        refine g_bast (n := (n + 1 + 1)) (v := by8 v 8) dX9_putBytes_31 T2.2.2.1 (by rw [show zn y2 (x + 1) = 600 from T2.2.2.2.1]; exact vp_in_nI (by omega) (by omega)) (nI_clamp (by omega)) nar_by8 ?_
        refine g_aload_n 1 dX9_putBytes_32 rfl rfl ?_
        refine g_dup dX9_putBytes_33 rfl ?_
        refine g_geti (f := 289) dX9_putBytes_34 fl_X9_51 ((zk_SI _ _ _ _ _).trans T2.1) (by decide) rfl ?_
        rw [zi_SI, show zi y2 289 x = nI (n + 1 + 1) from T2.2.2.2.2]
        refine g_iconst (v := nI 1) dX9_putBytes_37 (by decide) ?_
        refine g_iadd dX9_putBytes_38 ?_
        rw [nI_add (n + 1 + 1) 1]
        refine g_puti (f := 289) dX9_putBytes_39 fl_X9_51 (Or.inl rfl) ((zk_SI _ _ _ _ _).trans T2.1) rfl ?_
        show zG l w mX9_putBytes 42 [(2, .int (nI 8)), (0, .ref x), (1, .int v)] [] (pb y2 (x + 1) 289 x (n + 1 + 1) (by8 v 8)) _
        have T3 := T2.pb (v := by8 v 8)
        generalize e3 : pb y2 (x + 1) 289 x (n + 1 + 1) (by8 v 8) = y3 at T3 ⊢
        refine g_inc (v := nI 0) (lv2 := [(2, .int (nI 0)), (0, .ref x), (1, .int v)]) 0 dX9_putBytes_42 rfl (by decide) (by decide) rfl ?_
        refine g_goto (tgt := 3) dX9_putBytes_45 (by decide) ?_
        refine g_iload_n 0 dX9_putBytes_3 rfl rfl ?_
        refine g_if_lt (tgt := 48) dX9_putBytes_4 (by decide) (fun c => absurd c (by decide : ¬ nI 0 < 0)) (fun _ => ?_)
        refine g_aload_n 1 dX9_putBytes_7 rfl rfl ?_
        refine g_geti (f := 289) dX9_putBytes_8 fl_X9_51 T3.1 (by decide) rfl ?_
        rw [show zi y3 289 x = nI (n + 1 + 1 + 1) from T3.2.2.2.2]
        refine g_aload_n 1 dX9_putBytes_11 rfl rfl ?_
        refine g_getr (f := 288) (b := x + 1) dX9_putBytes_12 fl_X9_9 T3.1 rfl T3.2.1 ?_
        refine g_alen (t := 0) (v := nI 600) dX9_putBytes_15 T3.2.2.1 rfl (fun _ => rfl) (congrArg Int32.ofNat T3.2.2.2.1) ?_
        refine g_ncmp_ge (tgt := 42) dX9_putBytes_16 (by decide) (by omega) (by omega) (fun k0 => ?_) (fun k0 => ?_)
        · exact absurd k0 (by omega)
        · refine g_aload_n 1 dX9_putBytes_19 rfl rfl ?_
          refine g_getr (f := 288) (b := x + 1) dX9_putBytes_20 fl_X9_9 T3.1 rfl T3.2.1 ?_
          refine g_aload_n 1 dX9_putBytes_23 rfl rfl ?_
          refine g_geti (f := 289) dX9_putBytes_24 fl_X9_51 T3.1 (by decide) rfl ?_
          rw [show zi y3 289 x = nI (n + 1 + 1 + 1) from T3.2.2.2.2]
          refine g_iload_n 2 dX9_putBytes_27 rfl rfl ?_
          refine g_iload_n 0 dX9_putBytes_28 rfl rfl ?_
          refine g_ishr dX9_putBytes_29 ?_
          refine g_i2b dX9_putBytes_30 ?_
          refine g_bast (n := (n + 1 + 1 + 1)) (v := by8 v 0) dX9_putBytes_31 T3.2.2.1 (by rw [show zn y3 (x + 1) = 600 from T3.2.2.2.1]; exact vp_in_nI (by omega) (by omega)) (nI_clamp (by omega)) nar_by8 ?_
          refine g_aload_n 1 dX9_putBytes_32 rfl rfl ?_
          refine g_dup dX9_putBytes_33 rfl ?_
          refine g_geti (f := 289) dX9_putBytes_34 fl_X9_51 ((zk_SI _ _ _ _ _).trans T3.1) (by decide) rfl ?_
          rw [zi_SI, show zi y3 289 x = nI (n + 1 + 1 + 1) from T3.2.2.2.2]
          refine g_iconst (v := nI 1) dX9_putBytes_37 (by decide) ?_
          refine g_iadd dX9_putBytes_38 ?_
          rw [nI_add (n + 1 + 1 + 1) 1]
          refine g_puti (f := 289) dX9_putBytes_39 fl_X9_51 (Or.inl rfl) ((zk_SI _ _ _ _ _).trans T3.1) rfl ?_
          show zG l w mX9_putBytes 42 [(2, .int (nI 0)), (0, .ref x), (1, .int v)] [] (pb y3 (x + 1) 289 x (n + 1 + 1 + 1) (by8 v 0)) _
          have T4 := T3.pb (v := by8 v 0)
          generalize e4 : pb y3 (x + 1) 289 x (n + 1 + 1 + 1) (by8 v 0) = y4 at T4 ⊢
          refine g_inc (v := (-8)) (lv2 := [(2, .int (-8)), (0, .ref x), (1, .int v)]) 0 dX9_putBytes_42 rfl (by decide) (by decide) rfl ?_
          refine g_goto (tgt := 3) dX9_putBytes_45 (by decide) ?_
          refine g_iload_n 0 dX9_putBytes_3 rfl rfl ?_
          refine g_if_lt (tgt := 48) dX9_putBytes_4 (by decide) (fun _ => ?_) (fun c => absurd (by decide : (-8 : Int32) < 0) c)
          refine g_return dX9_putBytes_48 rfl ?_
          exact ⟨rfl, by unfold put4; rw [e1, e2, e3, e4]⟩
theorem c_feedM {n : Nat} {v1 v2 v3 v4 v5 : Int32} (T0 : TpF h m 10 325 (m + 2) 327 n) (n6 : n ≤ 600) : zM l w mX10_feed [.ref m, .int v1, .int v2, .int v3, .int v4, .int v5] h (fun u h1 => u = some (.int (if n ≤ 580 then nI (n + 20) else -1)) ∧ h1 = if n ≤ 580 then put20 h (m + 2) 327 m n v1 v2 v3 v4 v5 else h) := by
  refine zM.of (by decide) (Nat.le_of_ble_eq_true rfl) ?_
  refine g_aload_n 0 dX10_feed_0 rfl rfl ?_
  refine g_geti (f := 327) dX10_feed_1 fl_X10_199 T0.1 (by decide) rfl ?_
  rw [show zi h 327 m = nI n from T0.2.2.2.2]
  refine g_sipush (v := nI 580) dX10_feed_4 (by decide) ?_
  refine g_ncmp_le (tgt := 12) dX10_feed_7 (by decide) (by omega) (by omega) (fun g => ?_) (fun g => ?_)
  · refine g_aload_n 0 dX10_feed_12 rfl rfl ?_
    refine g_iload_n 1 dX10_feed_13 rfl rfl ?_
    refine g_invv (M' := mX10_four) (As := [.int v1]) (rest := []) dX10_feed_14 ml_X10_202 okX10_four imX10_four seX10_four ⟨(Nat.le_of_ble_eq_true rfl), (Nat.le_of_ble_eq_true rfl)⟩ (ci := 10) rfl rfl T0.1 rfl rfl (Nat.le_of_ble_eq_true rfl) (c_four T0 (by omega)) ?_
    rintro _ q1 ⟨rfl, eq1⟩
    subst q1
    show zG l w mX10_feed 17 [(0, .ref m), (1, .int v1), (2, .int v2), (3, .int v3), (4, .int v4), (5, .int v5)] [] (put4 h (m + 2) 327 m n v1) _
    have T1 := T0.put4 (v := v1)
    generalize e1 : put4 h (m + 2) 327 m n v1 = y1 at T1 ⊢
    refine g_aload_n 0 dX10_feed_17 rfl rfl ?_
    refine g_iload_n 2 dX10_feed_18 rfl rfl ?_
    refine g_invv (M' := mX10_four) (As := [.int v2]) (rest := []) dX10_feed_19 ml_X10_202 okX10_four imX10_four seX10_four ⟨(Nat.le_of_ble_eq_true rfl), (Nat.le_of_ble_eq_true rfl)⟩ (ci := 10) rfl rfl T1.1 rfl rfl (Nat.le_of_ble_eq_true rfl) (c_four T1 (by omega)) ?_
    rintro _ q2 ⟨rfl, eq2⟩
    subst q2
    show zG l w mX10_feed 22 [(0, .ref m), (1, .int v1), (2, .int v2), (3, .int v3), (4, .int v4), (5, .int v5)] [] (put4 y1 (m + 2) 327 m (n + 4) v2) _
    have T2 := T1.put4 (v := v2)
    generalize e2 : put4 y1 (m + 2) 327 m (n + 4) v2 = y2 at T2 ⊢
    refine g_aload_n 0 dX10_feed_22 rfl rfl ?_
    refine g_iload_n 3 dX10_feed_23 rfl rfl ?_
    refine g_invv (M' := mX10_four) (As := [.int v3]) (rest := []) dX10_feed_24 ml_X10_202 okX10_four imX10_four seX10_four ⟨(Nat.le_of_ble_eq_true rfl), (Nat.le_of_ble_eq_true rfl)⟩ (ci := 10) rfl rfl T2.1 rfl rfl (Nat.le_of_ble_eq_true rfl) (c_four T2 (by omega)) ?_
    rintro _ q3 ⟨rfl, eq3⟩
    subst q3
    show zG l w mX10_feed 27 [(0, .ref m), (1, .int v1), (2, .int v2), (3, .int v3), (4, .int v4), (5, .int v5)] [] (put4 y2 (m + 2) 327 m (n + 8) v3) _
    have T3 := T2.put4 (v := v3)
    generalize e3 : put4 y2 (m + 2) 327 m (n + 8) v3 = y3 at T3 ⊢
    refine g_aload_n 0 dX10_feed_27 rfl rfl ?_
    refine g_iload 4 dX10_feed_28 rfl ?_
    refine g_invv (M' := mX10_four) (As := [.int v4]) (rest := []) dX10_feed_30 ml_X10_202 okX10_four imX10_four seX10_four ⟨(Nat.le_of_ble_eq_true rfl), (Nat.le_of_ble_eq_true rfl)⟩ (ci := 10) rfl rfl T3.1 rfl rfl (Nat.le_of_ble_eq_true rfl) (c_four T3 (by omega)) ?_
    rintro _ q4 ⟨rfl, eq4⟩
    subst q4
    show zG l w mX10_feed 33 [(0, .ref m), (1, .int v1), (2, .int v2), (3, .int v3), (4, .int v4), (5, .int v5)] [] (put4 y3 (m + 2) 327 m (n + 12) v4) _
    have T4 := T3.put4 (v := v4)
    generalize e4 : put4 y3 (m + 2) 327 m (n + 12) v4 = y4 at T4 ⊢
    refine g_aload_n 0 dX10_feed_33 rfl rfl ?_
    refine g_iload 5 dX10_feed_34 rfl ?_
    refine g_invv (M' := mX10_four) (As := [.int v5]) (rest := []) dX10_feed_36 ml_X10_202 okX10_four imX10_four seX10_four ⟨(Nat.le_of_ble_eq_true rfl), (Nat.le_of_ble_eq_true rfl)⟩ (ci := 10) rfl rfl T4.1 rfl rfl (Nat.le_of_ble_eq_true rfl) (c_four T4 (by omega)) ?_
    rintro _ q5 ⟨rfl, eq5⟩
    subst q5
    show zG l w mX10_feed 39 [(0, .ref m), (1, .int v1), (2, .int v2), (3, .int v3), (4, .int v4), (5, .int v5)] [] (put4 y4 (m + 2) 327 m (n + 16) v5) _
    have T5 := T4.put4 (v := v5)
    generalize e5 : put4 y4 (m + 2) 327 m (n + 16) v5 = y5 at T5 ⊢
    refine g_aload_n 0 dX10_feed_39 rfl rfl ?_
    refine g_geti (f := 327) dX10_feed_40 fl_X10_199 T5.1 (by decide) rfl ?_
    rw [show zi y5 327 m = nI (n + 20) from T5.2.2.2.2]
    refine g_ireturn dX10_feed_43 rfl ?_
    exact ⟨by rw [if_pos (by omega)], by rw [if_pos (by omega)]; unfold put20; rw [e1, e2, e3, e4, e5]⟩
  · refine g_iconst (v := (-1)) dX10_feed_10 (by decide) ?_
    refine g_ireturn dX10_feed_11 rfl ?_
    exact ⟨by rw [if_neg (by omega)], by rw [if_neg (by omega)]⟩
theorem c_feedC {n : Nat} {v1 v2 v3 v4 v5 : Int32} (T0 : TpF h x 9 288 (x + 1) 289 n) (n6 : n ≤ 600) : zM l w mX9_feed [.ref x, .int v1, .int v2, .int v3, .int v4, .int v5] h (fun u h1 => u = some (.int (if n ≤ 580 then nI (n + 20) else -1)) ∧ h1 = if n ≤ 580 then put20 h (x + 1) 289 x n v1 v2 v3 v4 v5 else h) := by
  refine zM.of (by decide) (Nat.le_of_ble_eq_true rfl) ?_
  refine g_aload_n 0 dX9_feed_0 rfl rfl ?_
  refine g_geti (f := 289) dX9_feed_1 fl_X9_51 T0.1 (by decide) rfl ?_
  rw [show zi h 289 x = nI n from T0.2.2.2.2]
  refine g_bipush (v := nI 20) dX9_feed_4 (by decide) ?_
  refine g_iadd dX9_feed_6 ?_
  rw [nI_add n 20]
  refine g_sipush (v := nI 600) dX9_feed_7 (by decide) ?_
  refine g_ncmp_le (tgt := 15) dX9_feed_10 (by decide) (by omega) (by omega) (fun g => ?_) (fun g => ?_)
  · refine g_aload_n 0 dX9_feed_15 rfl rfl ?_
    refine g_iload_n 1 dX9_feed_16 rfl rfl ?_
    refine g_invv (M' := mX9_putBytes) (As := [.int v1]) (rest := []) dX9_feed_17 ml_X9_54 okX9_putBytes imX9_putBytes seX9_putBytes ⟨(Nat.le_of_ble_eq_true rfl), (Nat.le_of_ble_eq_true rfl)⟩ (ci := 9) rfl rfl T0.1 rfl rfl (Nat.le_of_ble_eq_true rfl) (c_putBytes T0 (by omega)) ?_
    rintro _ q1 ⟨rfl, eq1⟩
    subst q1
    show zG l w mX9_feed 20 [(0, .ref x), (1, .int v1), (2, .int v2), (3, .int v3), (4, .int v4), (5, .int v5)] [] (put4 h (x + 1) 289 x n v1) _
    have T1 := T0.put4 (v := v1)
    generalize e1 : put4 h (x + 1) 289 x n v1 = y1 at T1 ⊢
    refine g_aload_n 0 dX9_feed_20 rfl rfl ?_
    refine g_iload_n 2 dX9_feed_21 rfl rfl ?_
    refine g_invv (M' := mX9_putBytes) (As := [.int v2]) (rest := []) dX9_feed_22 ml_X9_54 okX9_putBytes imX9_putBytes seX9_putBytes ⟨(Nat.le_of_ble_eq_true rfl), (Nat.le_of_ble_eq_true rfl)⟩ (ci := 9) rfl rfl T1.1 rfl rfl (Nat.le_of_ble_eq_true rfl) (c_putBytes T1 (by omega)) ?_
    rintro _ q2 ⟨rfl, eq2⟩
    subst q2
    show zG l w mX9_feed 25 [(0, .ref x), (1, .int v1), (2, .int v2), (3, .int v3), (4, .int v4), (5, .int v5)] [] (put4 y1 (x + 1) 289 x (n + 4) v2) _
    have T2 := T1.put4 (v := v2)
    generalize e2 : put4 y1 (x + 1) 289 x (n + 4) v2 = y2 at T2 ⊢
    refine g_aload_n 0 dX9_feed_25 rfl rfl ?_
    refine g_iload_n 3 dX9_feed_26 rfl rfl ?_
    refine g_invv (M' := mX9_putBytes) (As := [.int v3]) (rest := []) dX9_feed_27 ml_X9_54 okX9_putBytes imX9_putBytes seX9_putBytes ⟨(Nat.le_of_ble_eq_true rfl), (Nat.le_of_ble_eq_true rfl)⟩ (ci := 9) rfl rfl T2.1 rfl rfl (Nat.le_of_ble_eq_true rfl) (c_putBytes T2 (by omega)) ?_
    rintro _ q3 ⟨rfl, eq3⟩
    subst q3
    show zG l w mX9_feed 30 [(0, .ref x), (1, .int v1), (2, .int v2), (3, .int v3), (4, .int v4), (5, .int v5)] [] (put4 y2 (x + 1) 289 x (n + 8) v3) _
    have T3 := T2.put4 (v := v3)
    generalize e3 : put4 y2 (x + 1) 289 x (n + 8) v3 = y3 at T3 ⊢
    refine g_aload_n 0 dX9_feed_30 rfl rfl ?_
    refine g_iload 4 dX9_feed_31 rfl ?_
    refine g_invv (M' := mX9_putBytes) (As := [.int v4]) (rest := []) dX9_feed_33 ml_X9_54 okX9_putBytes imX9_putBytes seX9_putBytes ⟨(Nat.le_of_ble_eq_true rfl), (Nat.le_of_ble_eq_true rfl)⟩ (ci := 9) rfl rfl T3.1 rfl rfl (Nat.le_of_ble_eq_true rfl) (c_putBytes T3 (by omega)) ?_
    rintro _ q4 ⟨rfl, eq4⟩
    subst q4
    show zG l w mX9_feed 36 [(0, .ref x), (1, .int v1), (2, .int v2), (3, .int v3), (4, .int v4), (5, .int v5)] [] (put4 y3 (x + 1) 289 x (n + 12) v4) _
    have T4 := T3.put4 (v := v4)
    generalize e4 : put4 y3 (x + 1) 289 x (n + 12) v4 = y4 at T4 ⊢
    refine g_aload_n 0 dX9_feed_36 rfl rfl ?_
    refine g_iload 5 dX9_feed_37 rfl ?_
    refine g_invv (M' := mX9_putBytes) (As := [.int v5]) (rest := []) dX9_feed_39 ml_X9_54 okX9_putBytes imX9_putBytes seX9_putBytes ⟨(Nat.le_of_ble_eq_true rfl), (Nat.le_of_ble_eq_true rfl)⟩ (ci := 9) rfl rfl T4.1 rfl rfl (Nat.le_of_ble_eq_true rfl) (c_putBytes T4 (by omega)) ?_
    rintro _ q5 ⟨rfl, eq5⟩
    subst q5
    show zG l w mX9_feed 42 [(0, .ref x), (1, .int v1), (2, .int v2), (3, .int v3), (4, .int v4), (5, .int v5)] [] (put4 y4 (x + 1) 289 x (n + 16) v5) _
    have T5 := T4.put4 (v := v5)
    generalize e5 : put4 y4 (x + 1) 289 x (n + 16) v5 = y5 at T5 ⊢
    refine g_aload_n 0 dX9_feed_42 rfl rfl ?_
    refine g_geti (f := 289) dX9_feed_43 fl_X9_51 T5.1 (by decide) rfl ?_
    rw [show zi y5 289 x = nI (n + 20) from T5.2.2.2.2]
    refine g_ireturn dX9_feed_46 rfl ?_
    exact ⟨by rw [if_pos (by omega)], by rw [if_pos (by omega)]; unfold put20; rw [e1, e2, e3, e4, e5]⟩
  · refine g_iconst (v := (-1)) dX9_feed_13 (by decide) ?_
    refine g_ireturn dX9_feed_14 rfl ?_
    exact ⟨by rw [if_neg (by omega)], by rw [if_neg (by omega)]⟩
end QM6
