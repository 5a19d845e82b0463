/-! THE MODEL: its object at m, its rows behind it -/
def Mo (h : zH) (m : Nat) : Prop := zk h m = 10 ∧ (zr h 320 m = some (m + 1) ∧ zk h (m + 1) = 22 ∧ zn h (m + 1) = 29020) ∧ (zr h 325 m = some (m + 2) ∧ zk h (m + 2) = 20 ∧ zn h (m + 2) = 600) ∧ (zr h 326 m = some (m + 3) ∧ zk h (m + 3) = 20 ∧ zn h (m + 3) = 600) ∧ (zr h 336 m = some (m + 4) ∧ zk h (m + 4) = 22 ∧ zn h (m + 4) = 6) ∧ (zr h 337 m = some (m + 5) ∧ zk h (m + 5) = 21 ∧ zn h (m + 5) = 6)
section M1
variable {l : Launch} {w : zW} {h : zH} {m : Nat}
theorem c_of (hM : Mo h m) {k : Nat} (hk : k < 29020) : zM l w mX10_of [.ref m, .int (nI k)] h (fun v h1 => v = some (.long (zL h (m + 1) k)) ∧ h1 = h) := by
  refine zM.of (by decide) (Nat.le_of_ble_eq_true rfl) ?_
  refine g_aload_n 0 dX10_of_0 rfl rfl ?_
  refine g_getr (f := 320) (b := m + 1) dX10_of_1 fl_X10_7 hM.1 rfl hM.2.1.1 ?_
  refine g_iload_n 1 dX10_of_4 rfl rfl ?_
  refine g_lald dX10_of_5 hM.2.1.2.1 (by rw [hM.2.1.2.2]; exact vp_in_nI (by omega) (by omega)) ?_
  rw [nI_clamp (by omega)]
  refine g_lreturn dX10_of_6 rfl ?_
  exact ⟨rfl, rfl⟩
theorem c_at (hM : Mo h m) {k : Nat} (hk : k < 29020) : zM l w mX10_at [.ref m, .int (nI k)] h (fun v h1 => v = some (.int (zL h (m + 1) k).toInt32) ∧ h1 = h) := by
  refine zM.of (by decide) (Nat.le_of_ble_eq_true rfl) ?_
  refine g_aload_n 0 dX10_at_0 rfl rfl ?_
  refine g_getr (f := 320) (b := m + 1) dX10_at_1 fl_X10_7 hM.1 rfl hM.2.1.1 ?_
  refine g_iload_n 1 dX10_at_4 rfl rfl ?_
  refine g_lald dX10_at_5 hM.2.1.2.1 (by rw [hM.2.1.2.2]; exact vp_in_nI (by omega) (by omega)) ?_
  rw [nI_clamp (by omega)]
  refine g_l2i dX10_at_6 ?_
  refine g_ireturn dX10_at_7 rfl ?_
  exact ⟨rfl, rfl⟩
theorem c_puts (hM : Mo h m) {k : Nat} {x : Int64} (hk : k < 29020) : zM l w mX10_puts [.ref m, .int (nI k), .long x] h (fun v h1 => v = none ∧ h1 = zSL h (m + 1) k x) := by
  refine zM.of (by decide) (Nat.le_of_ble_eq_true rfl) ?_
  refine g_aload_n 0 dX10_puts_0 rfl rfl ?_
  refine g_getr (f := 320) (b := m + 1) dX10_puts_1 fl_X10_7 hM.1 rfl hM.2.1.1 ?_
  refine g_iload_n 1 dX10_puts_4 rfl rfl ?_
  refine g_lload_n 2 dX10_puts_5 rfl rfl ?_
  refine g_last (n := k) dX10_puts_6 hM.2.1.2.1 (by rw [hM.2.1.2.2]; exact vp_in_nI (by omega) (by omega)) (nI_clamp (by omega)) ?_
  refine g_return dX10_puts_7 rfl ?_
  exact ⟨rfl, rfl⟩
theorem c_adds (hM : Mo h m) {k : Nat} {x : Int64} (hk : k < 29020) : zM l w mX10_adds [.ref m, .int (nI k), .long x] h (fun v h1 => v = none ∧ h1 = zSL h (m + 1) k (zL h (m + 1) k + x)) := by
  refine zM.of (by decide) (Nat.le_of_ble_eq_true rfl) ?_
  refine g_aload_n 0 dX10_adds_0 rfl rfl ?_
  refine g_getr (f := 320) (b := m + 1) dX10_adds_1 fl_X10_7 hM.1 rfl hM.2.1.1 ?_
  refine g_iload_n 1 dX10_adds_4 rfl rfl ?_
  refine g_dup2 dX10_adds_5 rfl rfl ?_
  refine g_lald dX10_adds_6 hM.2.1.2.1 (by rw [hM.2.1.2.2]; exact vp_in_nI (by omega) (by omega)) ?_
  rw [nI_clamp (by omega)]
  refine g_lload_n 2 dX10_adds_7 rfl rfl ?_
  refine g_ladd dX10_adds_8 ?_
  refine g_last (n := k) dX10_adds_9 hM.2.1.2.1 (by rw [hM.2.1.2.2]; exact vp_in_nI (by omega) (by omega)) (nI_clamp (by omega)) ?_
  refine g_return dX10_adds_10 rfl ?_
  exact ⟨rfl, rfl⟩
theorem c_link0 {a k : Nat} : zM l w mX10_link0 [.int (nI a), .int (nI k)] h (fun v h1 => v = some (.int (nI (8 + 40 * a + k))) ∧ h1 = h) := by
  refine zM.of (by decide) (Nat.le_of_ble_eq_true rfl) ?_
  refine g_bipush (v := nI 8) dX10_link0_0 (by decide) ?_
  refine g_bipush (v := nI 40) dX10_link0_2 (by decide) ?_
  refine g_iload_n 0 dX10_link0_4 rfl rfl ?_
  refine g_imul dX10_link0_5 ?_
  rw [pk_mul 40 a]
  refine g_iadd dX10_link0_6 ?_
  rw [nI_add 8 (40 * a)]
  refine g_iload_n 1 dX10_link0_7 rfl rfl ?_
  refine g_iadd dX10_link0_8 ?_
  rw [nI_add (8 + 40 * a) k]
  refine g_ireturn dX10_link0_9 rfl ?_
  exact ⟨rfl, rfl⟩
theorem c_flow0 {a k : Nat} : zM l w mX10_flow0 [.int (nI a), .int (nI k)] h (fun v h1 => v = some (.int (nI (248 + 20 * a + k))) ∧ h1 = h) := by
  refine zM.of (by decide) (Nat.le_of_ble_eq_true rfl) ?_
  refine g_sipush (v := nI 248) dX10_flow0_0 (by decide) ?_
  refine g_bipush (v := nI 20) dX10_flow0_3 (by decide) ?_
  refine g_iload_n 0 dX10_flow0_5 rfl rfl ?_
  refine g_imul dX10_flow0_6 ?_
  rw [pk_mul 20 a]
  refine g_iadd dX10_flow0_7 ?_
  rw [nI_add 248 (20 * a)]
  refine g_iload_n 1 dX10_flow0_8 rfl rfl ?_
  refine g_iadd dX10_flow0_9 ?_
  rw [nI_add (248 + 20 * a) k]
  refine g_ireturn dX10_flow0_10 rfl ?_
  exact ⟨rfl, rfl⟩
theorem c_packet0 {a k : Nat} : zM l w mX10_packet0 [.int (nI a), .int (nI k)] h (fun v h1 => v = some (.int (nI (368 + 8 * a + k))) ∧ h1 = h) := by
  refine zM.of (by decide) (Nat.le_of_ble_eq_true rfl) ?_
  refine g_sipush (v := nI 368) dX10_packet0_0 (by decide) ?_
  refine g_bipush (v := nI 8) dX10_packet0_3 (by decide) ?_
  refine g_iload_n 0 dX10_packet0_5 rfl rfl ?_
  refine g_imul dX10_packet0_6 ?_
  rw [pk_mul 8 a]
  refine g_iadd dX10_packet0_7 ?_
  rw [nI_add 368 (8 * a)]
  refine g_iload_n 1 dX10_packet0_8 rfl rfl ?_
  refine g_iadd dX10_packet0_9 ?_
  rw [nI_add (368 + 8 * a) k]
  refine g_ireturn dX10_packet0_10 rfl ?_
  exact ⟨rfl, rfl⟩
theorem c_ofLink (hM : Mo h m) {a k : Nat} (hk : 8 + 40 * a + k < 29020) : zM l w mX10_ofLink [.ref m, .int (nI a), .int (nI k)] h (fun v h1 => v = some (.long (zL h (m + 1) (8 + 40 * a + k))) ∧ h1 = h) := by
  refine zM.of (by decide) (Nat.le_of_ble_eq_true rfl) ?_
  refine g_aload_n 0 dX10_ofLink_0 rfl rfl ?_
  refine g_iload_n 1 dX10_ofLink_1 rfl rfl ?_
  refine g_iload_n 2 dX10_ofLink_2 rfl rfl ?_
  refine g_invs (M' := mX10_link0) (As := [.int (nI a), .int (nI k)]) (rest := [.ref m]) dX10_ofLink_3 ml_X10_44 okX10_link0 stX10_link0 ⟨(Nat.le_of_ble_eq_true rfl), (Nat.le_of_ble_eq_true rfl)⟩ rfl rfl (Nat.le_of_ble_eq_true rfl) c_link0 ?_
  rintro _ q3 ⟨rfl, eq3⟩
  subst q3
  show zG l w mX10_ofLink 6 [(0, .ref m), (1, .int (nI a)), (2, .int (nI k))] [.int (nI (8 + 40 * a + k)), .ref m] h _
  refine g_invv (M' := mX10_of) (As := [.int (nI (8 + 40 * a + k))]) (rest := []) dX10_ofLink_6 ml_X10_48 okX10_of imX10_of seX10_of ⟨(Nat.le_of_ble_eq_true rfl), (Nat.le_of_ble_eq_true rfl)⟩ (ci := 10) rfl rfl hM.1 rfl rfl (Nat.le_of_ble_eq_true rfl) (c_of hM hk) ?_
  rintro _ q6 ⟨rfl, eq6⟩
  subst q6
  show zG l w mX10_ofLink 9 [(0, .ref m), (1, .int (nI a)), (2, .int (nI k))] [.long (zL h (m + 1) (8 + 40 * a + k))] h _
  refine g_lreturn dX10_ofLink_9 rfl ?_
  exact ⟨rfl, rfl⟩
theorem c_ofFlow (hM : Mo h m) {a k : Nat} (hk : 248 + 20 * a + k < 29020) : zM l w mX10_ofFlow [.ref m, .int (nI a), .int (nI k)] h (fun v h1 => v = some (.long (zL h (m + 1) (248 + 20 * a + k))) ∧ h1 = h) := by
  refine zM.of (by decide) (Nat.le_of_ble_eq_true rfl) ?_
  refine g_aload_n 0 dX10_ofFlow_0 rfl rfl ?_
  refine g_iload_n 1 dX10_ofFlow_1 rfl rfl ?_
  refine g_iload_n 2 dX10_ofFlow_2 rfl rfl ?_
  refine g_invs (M' := mX10_flow0) (As := [.int (nI a), .int (nI k)]) (rest := [.ref m]) dX10_ofFlow_3 ml_X10_52 okX10_flow0 stX10_flow0 ⟨(Nat.le_of_ble_eq_true rfl), (Nat.le_of_ble_eq_true rfl)⟩ rfl rfl (Nat.le_of_ble_eq_true rfl) c_flow0 ?_
  rintro _ q3 ⟨rfl, eq3⟩
  subst q3
  show zG l w mX10_ofFlow 6 [(0, .ref m), (1, .int (nI a)), (2, .int (nI k))] [.int (nI (248 + 20 * a + k)), .ref m] h _
  refine g_invv (M' := mX10_of) (As := [.int (nI (248 + 20 * a + k))]) (rest := []) dX10_ofFlow_6 ml_X10_48 okX10_of imX10_of seX10_of ⟨(Nat.le_of_ble_eq_true rfl), (Nat.le_of_ble_eq_true rfl)⟩ (ci := 10) rfl rfl hM.1 rfl rfl (Nat.le_of_ble_eq_true rfl) (c_of hM hk) ?_
  rintro _ q6 ⟨rfl, eq6⟩
  subst q6
  show zG l w mX10_ofFlow 9 [(0, .ref m), (1, .int (nI a)), (2, .int (nI k))] [.long (zL h (m + 1) (248 + 20 * a + k))] h _
  refine g_lreturn dX10_ofFlow_9 rfl ?_
  exact ⟨rfl, rfl⟩
end M1
