section CY3
variable {l : Launch} {w : zW} {h : zH} {b : Nat} {π : Nat → Nat} {ls : Nat → List Nat} {N : nT} {X : List Nat} {t : Nat}
theorem c_plusFor (c : CX h b π ls N X t) {a : Nat} (ha : (a : Int) < nA N 0) (a6 : a < 6) (hB : nBd N) {g : Int} (hq : nLq N a) (hg : 0 ≤ g ∧ g ≤ nA N (8 + 40 * a + 10)) : zM l w mX7_plusFor [.ref (b + 11 + 7 * a + 6), .long (jL g)] h (fun v h1 => v = some (.long (jL (plusN N a g))) ∧ h1 = h) := by
  refine zM.of (by decide) (Nat.le_of_ble_eq_true rfl) ?_
  have b1 := hq.2.1
  have b2 := mul_bd hg hq.1.1
  have b3 := hq.2.2.2.2
  have b4 := hB (8 + 40 * a + 10) (by omega)
  refine g_aload_n 0 dX7_plusFor_0 rfl rfl ?_
  refine g_getl (f := 226) dX7_plusFor_1 fl_X7_16 (c.1.2.2.2.2.2.2.2.2.1 a a6).2.2.2.2.2.2 rfl ?_
  rw [show zl h 226 (b + 11 + 7 * a + 6) = jL (nA N (8 + 40 * a + 10)) from (c.2.2.2.1 a ha a6).2.2.1 10 (by omega) (by omega)]
  refine g_lconst (v := jL 0) dX7_plusFor_4 (by decide) ?_
  have b1 := hB (8 + 40 * a + 10) (by omega)
  refine g_lif_le (a := (nA N (8 + 40 * a + 10))) (b := 0) (tgt := 23) dX7_plusFor_5 rfl dX7_plusFor_6 (by decide) (by omega) (by omega) (fun q => ?_) (fun q => ?_)
  · exact absurd q (by omega)
  · refine g_lload_n 1 dX7_plusFor_9 rfl rfl ?_
    refine g_aload_n 0 dX7_plusFor_10 rfl rfl ?_
    refine g_getl (f := 224) dX7_plusFor_11 fl_X7_7 (c.1.2.2.2.2.2.2.2.2.1 a a6).2.2.2.2.2.2 rfl ?_
    rw [show zl h 224 (b + 11 + 7 * a + 6) = jL (nA N (8 + 40 * a + 8)) from (c.2.2.2.1 a ha a6).2.2.1 8 (by omega) (by omega)]
    refine g_lmul dX7_plusFor_14 ?_
    rw [jL_mul]
    refine g_aload_n 0 dX7_plusFor_15 rfl rfl ?_
    refine g_getl (f := 226) dX7_plusFor_16 fl_X7_16 (c.1.2.2.2.2.2.2.2.2.1 a a6).2.2.2.2.2.2 rfl ?_
    rw [show zl h 226 (b + 11 + 7 * a + 6) = jL (nA N (8 + 40 * a + 10)) from (c.2.2.2.1 a ha a6).2.2.1 10 (by omega) (by omega)]
    refine g_ldiv dX7_plusFor_19 (jL_ne0 (by omega)) ?_
    rw [jL_div (by omega) (by omega)]
    refine g_goto (tgt := 24) dX7_plusFor_20 (by decide) ?_
    refine g_lreturn dX7_plusFor_24 rfl ?_
    exact ⟨rfl, rfl⟩
theorem c_minusFor (c : CX h b π ls N X t) {a : Nat} (ha : (a : Int) < nA N 0) (a6 : a < 6) (hB : nBd N) {g : Int} (hq : nLq N a) (hg : 0 ≤ g ∧ g ≤ nA N (8 + 40 * a + 11)) : zM l w mX7_minusFor [.ref (b + 11 + 7 * a + 6), .long (jL g)] h (fun v h1 => v = some (.long (jL (minusN N a g))) ∧ h1 = h) := by
  refine zM.of (by decide) (Nat.le_of_ble_eq_true rfl) ?_
  have b1 := hq.2.1
  have b2 := mul_bd hg hq.1.2
  have b3 := hq.2.2.2.2
  have b4 := hB (8 + 40 * a + 11) (by omega)
  refine g_aload_n 0 dX7_minusFor_0 rfl rfl ?_
  refine g_getl (f := 227) dX7_minusFor_1 fl_X7_19 (c.1.2.2.2.2.2.2.2.2.1 a a6).2.2.2.2.2.2 rfl ?_
  rw [show zl h 227 (b + 11 + 7 * a + 6) = jL (nA N (8 + 40 * a + 11)) from (c.2.2.2.1 a ha a6).2.2.1 11 (by omega) (by omega)]
  refine g_lconst (v := jL 0) dX7_minusFor_4 (by decide) ?_
  have b1 := hB (8 + 40 * a + 11) (by omega)
  refine g_lif_le (a := (nA N (8 + 40 * a + 11))) (b := 0) (tgt := 23) dX7_minusFor_5 rfl dX7_minusFor_6 (by decide) (by omega) (by omega) (fun q => ?_) (fun q => ?_)
  · exact absurd q (by omega)
  · refine g_lload_n 1 dX7_minusFor_9 rfl rfl ?_
    refine g_aload_n 0 dX7_minusFor_10 rfl rfl ?_
    refine g_getl (f := 225) dX7_minusFor_11 fl_X7_13 (c.1.2.2.2.2.2.2.2.2.1 a a6).2.2.2.2.2.2 rfl ?_
    rw [show zl h 225 (b + 11 + 7 * a + 6) = jL (nA N (8 + 40 * a + 9)) from (c.2.2.2.1 a ha a6).2.2.1 9 (by omega) (by omega)]
    refine g_lmul dX7_minusFor_14 ?_
    rw [jL_mul]
    refine g_aload_n 0 dX7_minusFor_15 rfl rfl ?_
    refine g_getl (f := 227) dX7_minusFor_16 fl_X7_19 (c.1.2.2.2.2.2.2.2.2.1 a a6).2.2.2.2.2.2 rfl ?_
    rw [show zl h 227 (b + 11 + 7 * a + 6) = jL (nA N (8 + 40 * a + 11)) from (c.2.2.2.1 a ha a6).2.2.1 11 (by omega) (by omega)]
    refine g_ldiv dX7_minusFor_19 (jL_ne0 (by omega)) ?_
    rw [jL_div (by omega) (by omega)]
    refine g_goto (tgt := 24) dX7_minusFor_20 (by decide) ?_
    refine g_lreturn dX7_minusFor_24 rfl ?_
    exact ⟨rfl, rfl⟩
theorem c_gotC (c : CX h b π ls N X t) {a : Nat} (ha : (a : Int) < nA N 0) (a6 : a < 6) (hB : nBd N) {p : Nat} (hq : nLq N a) (h4 : 0 ≤ nA N (368 + 8 * p + 4)) (h3 : 0 < nA N (368 + 8 * p + 3)) : zM l w mX7_gotWith [.ref (b + 11 + 7 * a + 6), .long (jL (partN N p))] h (fun v h1 => v = some (.long (jL (gotN N a p))) ∧ h1 = h) := by
  refine zM.of (by decide) (Nat.le_of_ble_eq_true rfl) ?_
  have bp := partN_bd hB h4 h3
  have b2 := hB (8 + 40 * a + 12) (by omega)
  have b3 := hB (8 + 40 * a + 10) (by omega)
  refine g_aload_n 0 dX7_gotWith_0 rfl rfl ?_
  refine g_getl (f := 228) dX7_gotWith_1 fl_X7_22 (c.1.2.2.2.2.2.2.2.2.1 a a6).2.2.2.2.2.2 rfl ?_
  rw [show zl h 228 (b + 11 + 7 * a + 6) = jL (nA N (8 + 40 * a + 12)) from (c.2.2.2.1 a ha a6).2.2.1 12 (by omega) (by omega)]
  refine g_lload_n 1 dX7_gotWith_4 rfl rfl ?_
  refine g_ladd dX7_gotWith_5 ?_
  rw [jL_add]
  refine g_aload_n 0 dX7_gotWith_6 rfl rfl ?_
  refine g_getl (f := 226) dX7_gotWith_7 fl_X7_16 (c.1.2.2.2.2.2.2.2.2.1 a a6).2.2.2.2.2.2 rfl ?_
  rw [show zl h 226 (b + 11 + 7 * a + 6) = jL (nA N (8 + 40 * a + 10)) from (c.2.2.2.1 a ha a6).2.2.1 10 (by omega) (by omega)]
  refine g_invs (M' := mJ9_min_f86c9) (As := [.long (jL ((nA N (8 + 40 * a + 12)) + (partN N p))), .long (jL (nA N (8 + 40 * a + 10)))]) (rest := []) dX7_gotWith_10 ml_X7_44 okJ9_min_f86c9 stJ9_min_f86c9 ⟨(Nat.le_of_ble_eq_true rfl), (Nat.le_of_ble_eq_true rfl)⟩ rfl rfl (Nat.le_of_ble_eq_true rfl) (c_minL (by omega) (by omega)) ?_
  rintro _ q1 ⟨rfl, eq1⟩
  subst q1
  show zG l w mX7_gotWith 13 [(0, .ref (b + 11 + 7 * a + 6)), (1, .long (jL (partN N p)))] [.long (jL (min (nA N (8 + 40 * a + 12) + partN N p) (nA N (8 + 40 * a + 10))))] h _
  rw [show min (nA N (8 + 40 * a + 12) + partN N p) (nA N (8 + 40 * a + 10)) = gotN N a p by unfold gotN; rw [Int.min_comm]]
  refine g_lreturn dX7_gotWith_13 rfl ?_
  exact ⟨rfl, rfl⟩
theorem c_tookC (c : CX h b π ls N X t) {a : Nat} (ha : (a : Int) < nA N 0) (a6 : a < 6) (hB : nBd N) : zM l w mX7_tookWithOne [.ref (b + 11 + 7 * a + 6)] h (fun v h1 => v = some (.long (jL (tookN N a))) ∧ h1 = h) := by
  refine zM.of (by decide) (Nat.le_of_ble_eq_true rfl) ?_
  have b2 := hB (8 + 40 * a + 13) (by omega)
  have b3 := hB (8 + 40 * a + 11) (by omega)
  refine g_aload_n 0 dX7_tookWithOne_0 rfl rfl ?_
  refine g_getl (f := 229) dX7_tookWithOne_1 fl_X7_25 (c.1.2.2.2.2.2.2.2.2.1 a a6).2.2.2.2.2.2 rfl ?_
  rw [show zl h 229 (b + 11 + 7 * a + 6) = jL (nA N (8 + 40 * a + 13)) from (c.2.2.2.1 a ha a6).2.2.1 13 (by omega) (by omega)]
  refine g_lconst (v := jL 1) dX7_tookWithOne_4 (by decide) ?_
  refine g_ladd dX7_tookWithOne_5 ?_
  rw [jL_add]
  refine g_aload_n 0 dX7_tookWithOne_6 rfl rfl ?_
  refine g_getl (f := 227) dX7_tookWithOne_7 fl_X7_19 (c.1.2.2.2.2.2.2.2.2.1 a a6).2.2.2.2.2.2 rfl ?_
  rw [show zl h 227 (b + 11 + 7 * a + 6) = jL (nA N (8 + 40 * a + 11)) from (c.2.2.2.1 a ha a6).2.2.1 11 (by omega) (by omega)]
  refine g_invs (M' := mJ9_min_f86c9) (As := [.long (jL ((nA N (8 + 40 * a + 13)) + 1)), .long (jL (nA N (8 + 40 * a + 11)))]) (rest := []) dX7_tookWithOne_10 ml_X7_44 okJ9_min_f86c9 stJ9_min_f86c9 ⟨(Nat.le_of_ble_eq_true rfl), (Nat.le_of_ble_eq_true rfl)⟩ rfl rfl (Nat.le_of_ble_eq_true rfl) (c_minL (by omega) (by omega)) ?_
  rintro _ q1 ⟨rfl, eq1⟩
  subst q1
  show zG l w mX7_tookWithOne 13 [(0, .ref (b + 11 + 7 * a + 6))] [.long (jL (min (nA N (8 + 40 * a + 13) + 1) (nA N (8 + 40 * a + 11))))] h _
  rw [show min (nA N (8 + 40 * a + 13) + 1) (nA N (8 + 40 * a + 11)) = tookN N a by unfold tookN; rw [Int.min_comm]]
  refine g_lreturn dX7_tookWithOne_13 rfl ?_
  exact ⟨rfl, rfl⟩
theorem c_shareC (c : CX h b π ls N X t) {a : Nat} (ha : (a : Int) < nA N 0) (a6 : a < 6) (hB : nBd N) {p : Nat} (hq : nLq N a) (h4 : 0 ≤ nA N (368 + 8 * p + 4)) (h3 : 0 < nA N (368 + 8 * p + 3)) : zM l w mX7_shareOf [.ref (b + 11 + 7 * a + 6), .long (jL (partN N p))] h (fun v h1 => v = some (.int (jI (shareN N a p))) ∧ h1 = h) := by
  refine zM.of (by decide) (Nat.le_of_ble_eq_true rfl) ?_
  refine g_aload_n 0 dX7_shareOf_0 rfl rfl ?_
  refine g_aload_n 0 dX7_shareOf_1 rfl rfl ?_
  refine g_lload_n 1 dX7_shareOf_2 rfl rfl ?_
  refine g_invv (M' := mX7_gotWith) (As := [.long (jL (partN N p))]) (rest := [.ref (b + 11 + 7 * a + 6)]) dX7_shareOf_3 ml_X7_47 okX7_gotWith imX7_gotWith seX7_gotWith ⟨(Nat.le_of_ble_eq_true rfl), (Nat.le_of_ble_eq_true rfl)⟩ (ci := 7) rfl rfl (c.1.2.2.2.2.2.2.2.2.1 a a6).2.2.2.2.2.2 rfl rfl (Nat.le_of_ble_eq_true rfl) (c_gotC c ha a6 hB hq h4 h3) ?_
  rintro _ q1 ⟨rfl, eq1⟩
  subst q1
  show zG l w mX7_shareOf 6 [(0, .ref (b + 11 + 7 * a + 6)), (1, .long (jL (partN N p)))] [.long (jL (gotN N a p)), .ref (b + 11 + 7 * a + 6)] h _
  refine g_invv (M' := mX7_plusFor) (As := [.long (jL (gotN N a p))]) (rest := []) dX7_shareOf_6 ml_X7_50 okX7_plusFor imX7_plusFor seX7_plusFor ⟨(Nat.le_of_ble_eq_true rfl), (Nat.le_of_ble_eq_true rfl)⟩ (ci := 7) rfl rfl (c.1.2.2.2.2.2.2.2.2.1 a a6).2.2.2.2.2.2 rfl rfl (Nat.le_of_ble_eq_true rfl) (c_plusFor c ha a6 hB hq (gotN_bd hB hq h4 h3)) ?_
  rintro _ q2 ⟨rfl, eq2⟩
  subst q2
  show zG l w mX7_shareOf 9 [(0, .ref (b + 11 + 7 * a + 6)), (1, .long (jL (partN N p)))] [.long (jL (plusN N a (gotN N a p)))] h _
  refine g_aload_n 0 dX7_shareOf_9 rfl rfl ?_
  refine g_aload_n 0 dX7_shareOf_10 rfl rfl ?_
  refine g_getl (f := 228) dX7_shareOf_11 fl_X7_22 (c.1.2.2.2.2.2.2.2.2.1 a a6).2.2.2.2.2.2 rfl ?_
  rw [show zl h 228 (b + 11 + 7 * a + 6) = jL (nA N (8 + 40 * a + 12)) from (c.2.2.2.1 a ha a6).2.2.1 12 (by omega) (by omega)]
  refine g_invv (M' := mX7_plusFor) (As := [.long (jL (nA N (8 + 40 * a + 12)))]) (rest := [.long (jL (plusN N a (gotN N a p)))]) dX7_shareOf_14 ml_X7_50 okX7_plusFor imX7_plusFor seX7_plusFor ⟨(Nat.le_of_ble_eq_true rfl), (Nat.le_of_ble_eq_true rfl)⟩ (ci := 7) rfl rfl (c.1.2.2.2.2.2.2.2.2.1 a a6).2.2.2.2.2.2 rfl rfl (Nat.le_of_ble_eq_true rfl) (c_plusFor c ha a6 hB hq hq.2.2.1) ?_
  rintro _ q3 ⟨rfl, eq3⟩
  subst q3
  show zG l w mX7_shareOf 17 [(0, .ref (b + 11 + 7 * a + 6)), (1, .long (jL (partN N p)))] [.long (jL (plusN N a (nA N (8 + 40 * a + 12)))), .long (jL (plusN N a (gotN N a p)))] h _
  refine g_lsub dX7_shareOf_17 ?_
  rw [jL_sub]
  refine g_lstore_n (lv2 := [(3, .long (jL ((plusN N a (gotN N a p)) - (plusN N a (nA N (8 + 40 * a + 12)))))), (0, .ref (b + 11 + 7 * a + 6)), (1, .long (jL (partN N p)))]) dX7_shareOf_18 rfl (by decide) rfl ?_
  refine g_aload_n 1 dX7_shareOf_19 rfl rfl ?_
  refine g_aload_n 1 dX7_shareOf_20 rfl rfl ?_
  refine g_invv (M' := mX7_tookWithOne) (As := []) (rest := [.ref (b + 11 + 7 * a + 6)]) dX7_shareOf_21 ml_X7_53 okX7_tookWithOne imX7_tookWithOne seX7_tookWithOne ⟨(Nat.le_of_ble_eq_true rfl), (Nat.le_of_ble_eq_true rfl)⟩ (ci := 7) rfl rfl (c.1.2.2.2.2.2.2.2.2.1 a a6).2.2.2.2.2.2 rfl rfl (Nat.le_of_ble_eq_true rfl) (c_tookC c ha a6 hB) ?_
  rintro _ q4 ⟨rfl, eq4⟩
  subst q4
  show zG l w mX7_shareOf 24 [(3, .long (jL ((plusN N a (gotN N a p)) - (plusN N a (nA N (8 + 40 * a + 12)))))), (0, .ref (b + 11 + 7 * a + 6)), (1, .long (jL (partN N p)))] [.long (jL (tookN N a)), .ref (b + 11 + 7 * a + 6)] h _
  refine g_invv (M' := mX7_minusFor) (As := [.long (jL (tookN N a))]) (rest := []) dX7_shareOf_24 ml_X7_57 okX7_minusFor imX7_minusFor seX7_minusFor ⟨(Nat.le_of_ble_eq_true rfl), (Nat.le_of_ble_eq_true rfl)⟩ (ci := 7) rfl rfl (c.1.2.2.2.2.2.2.2.2.1 a a6).2.2.2.2.2.2 rfl rfl (Nat.le_of_ble_eq_true rfl) (c_minusFor c ha a6 hB hq (tookN_bd hq)) ?_
  rintro _ q5 ⟨rfl, eq5⟩
  subst q5
  show zG l w mX7_shareOf 27 [(3, .long (jL ((plusN N a (gotN N a p)) - (plusN N a (nA N (8 + 40 * a + 12)))))), (0, .ref (b + 11 + 7 * a + 6)), (1, .long (jL (partN N p)))] [.long (jL (minusN N a (tookN N a)))] h _
  refine g_aload_n 1 dX7_shareOf_27 rfl rfl ?_
  refine g_aload_n 1 dX7_shareOf_28 rfl rfl ?_
  refine g_getl (f := 229) dX7_shareOf_29 fl_X7_25 (c.1.2.2.2.2.2.2.2.2.1 a a6).2.2.2.2.2.2 rfl ?_
  rw [show zl h 229 (b + 11 + 7 * a + 6) = jL (nA N (8 + 40 * a + 13)) from (c.2.2.2.1 a ha a6).2.2.1 13 (by omega) (by omega)]
  refine g_invv (M' := mX7_minusFor) (As := [.long (jL (nA N (8 + 40 * a + 13)))]) (rest := [.long (jL (minusN N a (tookN N a)))]) dX7_shareOf_32 ml_X7_57 okX7_minusFor imX7_minusFor seX7_minusFor ⟨(Nat.le_of_ble_eq_true rfl), (Nat.le_of_ble_eq_true rfl)⟩ (ci := 7) rfl rfl (c.1.2.2.2.2.2.2.2.2.1 a a6).2.2.2.2.2.2 rfl rfl (Nat.le_of_ble_eq_true rfl) (c_minusFor c ha a6 hB hq hq.2.2.2.1) ?_
  rintro _ q6 ⟨rfl, eq6⟩
  subst q6
  show zG l w mX7_shareOf 35 [(3, .long (jL ((plusN N a (gotN N a p)) - (plusN N a (nA N (8 + 40 * a + 12)))))), (0, .ref (b + 11 + 7 * a + 6)), (1, .long (jL (partN N p)))] [.long (jL (minusN N a (nA N (8 + 40 * a + 13)))), .long (jL (minusN N a (tookN N a)))] h _
  refine g_lsub dX7_shareOf_35 ?_
  rw [jL_sub]
  refine g_lstore (lv2 := [(5, .long (jL ((minusN N a (tookN N a)) - (minusN N a (nA N (8 + 40 * a + 13)))))), (3, .long (jL ((plusN N a (gotN N a p)) - (plusN N a (nA N (8 + 40 * a + 12)))))), (0, .ref (b + 11 + 7 * a + 6)), (1, .long (jL (partN N p)))]) dX7_shareOf_36 (by decide) rfl ?_
  refine g_lload_n 1 dX7_shareOf_38 rfl rfl ?_
  refine g_lload 0 dX7_shareOf_39 rfl ?_
  refine g_lsub dX7_shareOf_41 ?_
  rw [jL_sub]
  refine g_l2i dX7_shareOf_42 ?_
  rw [jL_i]
  refine g_ireturn dX7_shareOf_43 rfl ?_
  exact ⟨by congr 3; unfold shareN; omega, rfl⟩
theorem c_giveShare (c : CX h b π ls N X t) {a : Nat} (ha : (a : Int) < nA N 0) (a6 : a < 6) (hB : nBd N) {p : Nat} (hq : nLq N a) (h4 : 0 ≤ nA N (368 + 8 * p + 4)) (h3 : 0 < nA N (368 + 8 * p + 3)) : zM l w mX7_giveShare [.ref (b + 11 + 7 * a + 6), .long (jL (partN N p))] h (fun v h1 => v = some (.int (jI (shareN N a p))) ∧ CX h1 b π ls (uA (uA N (8 + 40 * a + 12) (gotN N a p)) (8 + 40 * a + 13) (tookN N a)) X t ∧ CSt b ls h ls h1) := by
  refine zM.of (by decide) (Nat.le_of_ble_eq_true rfl) ?_
  refine g_aload_n 0 dX7_giveShare_0 rfl rfl ?_
  refine g_lload_n 1 dX7_giveShare_1 rfl rfl ?_
  refine g_invv (M' := mX7_shareOf) (As := [.long (jL (partN N p))]) (rest := []) dX7_giveShare_2 ml_X7_60 okX7_shareOf imX7_shareOf seX7_shareOf ⟨(Nat.le_of_ble_eq_true rfl), (Nat.le_of_ble_eq_true rfl)⟩ (ci := 7) rfl rfl (c.1.2.2.2.2.2.2.2.2.1 a a6).2.2.2.2.2.2 rfl rfl (Nat.le_of_ble_eq_true rfl) (c_shareC c ha a6 hB hq h4 h3) ?_
  rintro _ q1 ⟨rfl, eq1⟩
  subst q1
  show zG l w mX7_giveShare 5 [(0, .ref (b + 11 + 7 * a + 6)), (1, .long (jL (partN N p)))] [.int (jI (shareN N a p))] h _
  refine g_istore_n (lv2 := [(3, .int (jI (shareN N a p))), (0, .ref (b + 11 + 7 * a + 6)), (1, .long (jL (partN N p)))]) dX7_giveShare_5 rfl (by decide) rfl ?_
  refine g_aload_n 1 dX7_giveShare_6 rfl rfl ?_
  refine g_aload_n 1 dX7_giveShare_7 rfl rfl ?_
  refine g_lload_n 2 dX7_giveShare_8 rfl rfl ?_
  refine g_invv (M' := mX7_gotWith) (As := [.long (jL (partN N p))]) (rest := [.ref (b + 11 + 7 * a + 6)]) dX7_giveShare_9 ml_X7_47 okX7_gotWith imX7_gotWith seX7_gotWith ⟨(Nat.le_of_ble_eq_true rfl), (Nat.le_of_ble_eq_true rfl)⟩ (ci := 7) rfl rfl (c.1.2.2.2.2.2.2.2.2.1 a a6).2.2.2.2.2.2 rfl rfl (Nat.le_of_ble_eq_true rfl) (c_gotC c ha a6 hB hq h4 h3) ?_
  rintro _ q2 ⟨rfl, eq2⟩
  subst q2
  show zG l w mX7_giveShare 12 [(3, .int (jI (shareN N a p))), (0, .ref (b + 11 + 7 * a + 6)), (1, .long (jL (partN N p)))] [.long (jL (gotN N a p)), .ref (b + 11 + 7 * a + 6)] h _
  refine g_putl (f := 228) dX7_giveShare_12 fl_X7_22 (Or.inl rfl) (c.1.2.2.2.2.2.2.2.2.1 a a6).2.2.2.2.2.2 rfl ?_
  have cx3 : CX (zSl h 228 (b + 11 + 7 * a + 6) (jL (gotN N a p))) b π ls (uA N (8 + 40 * a + 12) (gotN N a p)) X t ∧ CSt b ls h ls (zSl h 228 (b + 11 + 7 * a + 6) (jL (gotN N a p))) := c.setS (j := 12) a6 (by omega) (by omega)
  generalize zSl h 228 (b + 11 + 7 * a + 6) (jL (gotN N a p)) = y3 at cx3 ⊢
  refine g_aload_n 1 dX7_giveShare_15 rfl rfl ?_
  refine g_aload_n 1 dX7_giveShare_16 rfl rfl ?_
  have b12 : -17592186044416 ≤ gotN N a p ∧ gotN N a p < 17592186044416 := by have q := gotN_bd hB hq h4 h3; have q2 := hB (8 + 40 * a + 10) (by omega); omega
  have hB2 := nBd_uA (k := 8 + 40 * a + 12) (z := gotN N a p) hB b12
  refine g_invv (M' := mX7_tookWithOne) (As := []) (rest := [.ref (b + 11 + 7 * a + 6)]) dX7_giveShare_17 ml_X7_53 okX7_tookWithOne imX7_tookWithOne seX7_tookWithOne ⟨(Nat.le_of_ble_eq_true rfl), (Nat.le_of_ble_eq_true rfl)⟩ (ci := 7) rfl rfl (cx3.1.1.2.2.2.2.2.2.2.2.1 a a6).2.2.2.2.2.2 rfl rfl (Nat.le_of_ble_eq_true rfl) (c_tookC cx3.1 (by rw [nA_ne (by omega)]; exact ha) a6 hB2) ?_
  rintro _ q4 ⟨rfl, eq4⟩
  subst q4
  show zG l w mX7_giveShare 20 [(3, .int (jI (shareN N a p))), (0, .ref (b + 11 + 7 * a + 6)), (1, .long (jL (partN N p)))] [.long (jL (tookN (uA N (8 + 40 * a + 12) (gotN N a p)) a)), .ref (b + 11 + 7 * a + 6)] y3 _
  rw [show tookN (uA N (8 + 40 * a + 12) (gotN N a p)) a = tookN N a by unfold tookN; rw [nA_ne (by omega), nA_ne (by omega)]]
  refine g_putl (f := 229) dX7_giveShare_20 fl_X7_25 (Or.inl rfl) (cx3.1.1.2.2.2.2.2.2.2.2.1 a a6).2.2.2.2.2.2 rfl ?_
  have cx5 : CX (zSl y3 229 (b + 11 + 7 * a + 6) (jL (tookN N a))) b π ls (uA (uA N (8 + 40 * a + 12) (gotN N a p)) (8 + 40 * a + 13) (tookN N a)) X t ∧ CSt b ls y3 ls (zSl y3 229 (b + 11 + 7 * a + 6) (jL (tookN N a))) := cx3.1.setS (j := 13) a6 (by omega) (by omega)
  generalize zSl y3 229 (b + 11 + 7 * a + 6) (jL (tookN N a)) = y5 at cx5 ⊢
  refine g_iload_n 0 dX7_giveShare_23 rfl rfl ?_
  refine g_ireturn dX7_giveShare_24 rfl ?_
  exact ⟨rfl, cx5.1, ((CSt.rf.tr cx3.2).tr cx5.2)⟩
end CY3
