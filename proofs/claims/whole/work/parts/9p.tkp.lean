section TKP
variable {l : Launch} {w : zW} {h y z : zH} {m o lo hi : Nat} {t : Nat → Nat} {n : Nat} {T : tkT} {N : nT}
def kS (i : Nat) : Nat := [1, 6, 11, 16, 21, 26, 31, 38, 42].getD i 42
theorem ky_f : ((List.range 8).all fun i => decide (kS (i + 1) = kS i + zLen.getD i 0 + 1) && (decide (kS i + zLen.getD i 0 < 42) && (decide (bN 8 (kS i + zLen.getD i 0) = 32) && (List.range (zLen.getD i 0)).all fun j => decide (bN 8 (kS i + j) = bN i j) && decide (¬ bN i j = 32)))) = true := by decide +kernel
theorem ky_g {i : Nat} (hi : i < 8) : kS (i + 1) = kS i + zLen.getD i 0 + 1 ∧ kS i + zLen.getD i 0 < 42 ∧ bN 8 (kS i + zLen.getD i 0) = 32 ∧ ∀ j, j < zLen.getD i 0 → bN 8 (kS i + j) = bN i j ∧ ¬ bN i j = 32 := by
  have q := List.all_eq_true.mp ky_f i (List.mem_range.mpr hi)
  simp only [Bool.and_eq_true, decide_eq_true_eq, List.all_eq_true, List.mem_range] at q
  exact ⟨q.1, q.2.1, q.2.2.1, fun j hj => q.2.2.2 j hj⟩
def lkA (t : Nat → Nat) (T : tkT) (i j : Nat) : Bool := decide (zLen.getD i 0 = T.2.2.1 - T.2.1) && (List.range j).all fun p => decide (t (T.2.1 + p) = bN i p)
theorem lkA_0 {i : Nat} : lkA t T i 0 = decide (zLen.getD i 0 = T.2.2.1 - T.2.1) := by unfold lkA; rw [List.range_zero, List.all_nil, Bool.and_true]
theorem lkA_s {i j : Nat} : lkA t T i (j + 1) = (lkA t T i j && decide (t (T.2.1 + j) = bN i j)) := by
  unfold lkA
  rw [List.range_succ, List.all_append, List.all_cons, List.all_nil, Bool.and_true, Bool.and_assoc]
theorem lkA_le {i j k : Nat} (hk : j ≤ k) (e : lkA t T i j = false) : lkA t T i k = false := by
  induction k with
  | zero => rw [show j = 0 by omega] at e; exact e
  | succ k ih =>
    by_cases c : j = k + 1
    · rw [← c]; exact e
    · rw [lkA_s, ih (by omega), Bool.false_and]
theorem lkA_w {i : Nat} (h1 : T.1 = 1) : wdB t T i = lkA t T i (zLen.getD i 0) := by
  unfold wdB lkA
  rw [decide_eq_true h1, Bool.true_and]
  congr 1
  by_cases c : zLen.getD i 0 = T.2.2.1 - T.2.1
  · rw [decide_eq_true c, decide_eq_true c.symm]
  · rw [decide_eq_false c, decide_eq_false (fun q => c q.symm)]
theorem ky_no (h : ∀ i, i < 8 → wdB t T i = false) : keyN t T = -1 := by
  have q := key_bd (t := t) (T := T)
  by_cases c : keyN t T = -1
  · exact c
  · exfalso
    have e : keyN t T = ((keyN t T).toNat : Int) := by omega
    have z := key_wd (t := t) (T := T) (i := (keyN t T).toNat) (by omega)
    rw [decide_eq_true e, h _ (by omega)] at z
    cases z
theorem ky_is {i : Nat} (hi : i < 8) (e : wdB t T i = true) : keyN t T = (i : Int) := by
  rw [key_wd hi] at e
  exact of_decide_eq_true e
theorem mdK_2 {k : Nat} : mdK k = 2 ↔ k = 1 := by unfold mdK; (repeat' split) <;> omega
theorem mdK_3 {k : Nat} : mdK k = 3 ↔ k = 2 := by unfold mdK; (repeat' split) <;> omega
theorem mdK_4 {k : Nat} : mdK k = 4 ↔ k = 3 := by unfold mdK; (repeat' split) <;> omega
theorem mdK_0 {k : Nat} : mdK k = 0 ↔ k = 0 := by unfold mdK; (repeat' split) <;> omega
theorem mdK_1 {k : Nat} (h : k ≤ 4) : mdK k = 1 ↔ k = 4 := by unfold mdK; (repeat' split) <;> omega
theorem c_keyM (x : TxM h m n t) (tk : TkM h m T) (ok : tkOk n T) : zM l w mX10_key [.ref m] h (fun u h1 => u = some (.int (jI (keyN t T))) ∧ h1 = h) := by
  refine zM.of (by decide) (Nat.le_of_ble_eq_true rfl) ?_
  have n6 := x.2.2.1
  have mb := mdK_bd T.1
  have o1 := ok.2.1
  have o2 := ok.2.2.1
  refine g_aload_n 0 dX10_key_0 rfl rfl ?_
  refine g_geti (f := 329) dX10_key_1 fl_X10_217 x.1.1 (by decide) rfl ?_
  rw [show zi h 329 m = nI (mdK T.1) from tk.1]
  refine g_iconst (v := nI 2) dX10_key_4 (by decide) ?_
  refine g_ncmp_eq (tgt := 10) dX10_key_5 (by decide) (by omega) (by omega) (fun c1 => ?_) (fun c1 => ?_)
  · have t1 := mdK_2.mp c1
    have outer : ∀ r i : Nat, i + r = 8 → (∀ j, j < i → wdB t T j = false) → zG l w mX10_key 14 [(2, .int (nI (kS i))), (1, .int (nI i)), (0, .ref m)] [] h (fun u h1 => u = some (.int (jI (keyN t T))) ∧ h1 = h) := by
      intro r
      induction r with
      | zero =>
        intro i hi hu
        obtain rfl : i = 8 := by omega
        show zG l w mX10_key 14 [(2, .int (nI 42)), (1, .int (nI 8)), (0, .ref m)] [] h _
        refine g_iload_n 0 dX10_key_14 rfl rfl ?_
        refine g_ldcS (i := 8) dX10_key_15 rfl ?_
        refine g_invvS (M' := mJ0_length_8abf5) (As := []) (rest := [.int (nI 42)]) dX10_key_17 ml_X10_234 okJ0_length_8abf5 imJ0_length_8abf5 seJ0_length_8abf5 ⟨(Nat.le_of_ble_eq_true rfl), (Nat.le_of_ble_eq_true rfl)⟩ rfl (show 8 < 9 by omega) rfl rfl (Nat.le_of_ble_eq_true rfl) (c_sLen (by omega)) ?_
        rintro _ q1 ⟨rfl, eq1⟩
        subst q1
        show zG l w mX10_key 20 [(2, .int (nI 42)), (1, .int (nI 8)), (0, .ref m)] [.int (nI 42), .int (nI 42)] h _
        refine g_ncmp_ge (tgt := 133) dX10_key_20 (by decide) (by omega) (by omega) (fun c => ?_) (fun c => ?_)
        · refine g_iconst (v := (-1)) dX10_key_133 (by decide) ?_
          refine g_ireturn dX10_key_134 rfl ?_
          exact ⟨by rw [ky_no hu]; rfl, rfl⟩
        · exact absurd c (by omega)
      | succ r ih =>
        intro i hi hu
        obtain ⟨g1, g2, g3, g4⟩ := ky_g (i := i) (by omega)
        refine g_iload_n 0 dX10_key_14 rfl rfl ?_
        refine g_ldcS (i := 8) dX10_key_15 rfl ?_
        refine g_invvS (M' := mJ0_length_8abf5) (As := []) (rest := [.int (nI (kS i))]) dX10_key_17 ml_X10_234 okJ0_length_8abf5 imJ0_length_8abf5 seJ0_length_8abf5 ⟨(Nat.le_of_ble_eq_true rfl), (Nat.le_of_ble_eq_true rfl)⟩ rfl (show 8 < 9 by omega) rfl rfl (Nat.le_of_ble_eq_true rfl) (c_sLen (by omega)) ?_
        rintro _ q2 ⟨rfl, eq2⟩
        subst q2
        show zG l w mX10_key 20 [(2, .int (nI (kS i))), (1, .int (nI i)), (0, .ref m)] [.int (nI 42), .int (nI (kS i))] h _
        refine g_ncmp_ge (tgt := 133) dX10_key_20 (by decide) (by omega) (by omega) (fun c => ?_) (fun c => ?_)
        · exact absurd c (by omega)
        · have fin : ∀ j : Nat, zG l w mX10_key 116 [(5, .int (nI j)), (4, .int (bI (lkA t T i (zLen.getD i 0)))), (3, .int (nI (kS i + zLen.getD i 0))), (2, .int (nI (kS i))), (1, .int (nI i)), (0, .ref m)] [] h (fun u h1 => u = some (.int (jI (keyN t T))) ∧ h1 = h) := by
            intro j
            refine g_iload 1 dX10_key_116 rfl ?_
            refine g_bif_eq (tgt := 123) dX10_key_118 (by decide) (fun d => ?_) (fun d => ?_)
            · refine g_inc (v := nI (i + 1)) (lv2 := [(1, .int (nI (i + 1))), (5, .int (nI j)), (4, .int (bI (lkA t T i (zLen.getD i 0)))), (3, .int (nI (kS i + zLen.getD i 0))), (2, .int (nI (kS i))), (0, .ref m)]) 4 dX10_key_123 rfl (nI_add _ 1) (by decide) rfl ?_
              refine g_iload_n 3 dX10_key_126 rfl rfl ?_
              refine g_iconst (v := nI 1) dX10_key_127 (by decide) ?_
              refine g_iadd dX10_key_128 ?_
              rw [nI_add (kS i + zLen.getD i 0) 1]
              refine g_istore_n (lv2 := [(2, .int (nI (kS i + zLen.getD i 0 + 1))), (1, .int (nI (i + 1))), (5, .int (nI j)), (4, .int (bI (lkA t T i (zLen.getD i 0)))), (3, .int (nI (kS i + zLen.getD i 0))), (0, .ref m)]) dX10_key_129 rfl (by decide) rfl ?_
              refine g_goto (tgt := 14) dX10_key_130 (by decide) ?_
              have go := ih (i + 1) (by omega) (fun j hj => if e9 : j = i then by rw [e9, lkA_w t1]; exact d else hu j (by omega))
              rw [g1] at go
              exact zG.sub [0, 1, 5] rfl go
            · refine g_iload_n 4 dX10_key_121 rfl rfl ?_
              refine g_ireturn dX10_key_122 rfl ?_
              exact ⟨by rw [ky_is (i := i) (by omega) (by rw [lkA_w t1]; exact d), jI_nat], rfl⟩
          have cmp : ∀ k j : Nat, j + k = zLen.getD i 0 → zG l w mX10_key 67 [(5, .int (nI j)), (4, .int (bI (lkA t T i j))), (3, .int (nI (kS i + zLen.getD i 0))), (2, .int (nI (kS i))), (1, .int (nI i)), (0, .ref m)] [] h (fun u h1 => u = some (.int (jI (keyN t T))) ∧ h1 = h) := by
            intro k
            induction k with
            | zero =>
              intro j hj
              refine g_iload 0 dX10_key_67 rfl ?_
              refine g_iload_n 2 dX10_key_69 rfl rfl ?_
              refine g_iload_n 3 dX10_key_70 rfl rfl ?_
              refine g_isub dX10_key_71 ?_
              rw [nI_sub (by omega), Nat.add_sub_cancel_left]
              refine g_ncmp_ge (tgt := 116) dX10_key_72 (by decide) (by omega) (by omega) (fun d1 => ?_) (fun d1 => ?_)
              · obtain rfl : j = zLen.getD i 0 := by omega
                exact fin _
              · exact absurd d1 (by omega)
            | succ k ih2 =>
              intro j hj
              refine g_iload 0 dX10_key_67 rfl ?_
              refine g_iload_n 2 dX10_key_69 rfl rfl ?_
              refine g_iload_n 3 dX10_key_70 rfl rfl ?_
              refine g_isub dX10_key_71 ?_
              rw [nI_sub (by omega), Nat.add_sub_cancel_left]
              refine g_ncmp_ge (tgt := 116) dX10_key_72 (by decide) (by omega) (by omega) (fun d1 => ?_) (fun d1 => ?_)
              · exact absurd d1 (by omega)
              · refine g_iload 1 dX10_key_75 rfl ?_
                refine g_bif_eq (tgt := 116) dX10_key_77 (by decide) (fun d2 => ?_) (fun d2 => ?_)
                · have z := fin j
                  rw [lkA_le (j := j) (by omega) d2] at z
                  rw [d2]
                  exact z
                · have lq : zLen.getD i 0 = T.2.2.1 - T.2.1 := by
                    unfold lkA at d2
                    simp only [Bool.and_eq_true, decide_eq_true_eq] at d2
                    exact d2.1
                  obtain ⟨b1, b2⟩ := bN_eq (i := 8) (j := kS i + j) (by omega) (show kS i + j < 42 by omega)
                  have b3 := (g4 j (by omega)).1
                  refine g_ldcS (i := 8) dX10_key_80 rfl ?_
                  refine g_iload_n 3 dX10_key_82 rfl rfl ?_
                  refine g_iload 0 dX10_key_83 rfl ?_
                  refine g_iadd dX10_key_85 ?_
                  rw [nI_add (kS i) j]
                  refine g_invvS (M' := mJ0_charAt_5068e) (As := [.int (nI (kS i + j))]) (rest := []) dX10_key_86 ml_X10_239 okJ0_charAt_5068e imJ0_charAt_5068e seJ0_charAt_5068e ⟨(Nat.le_of_ble_eq_true rfl), (Nat.le_of_ble_eq_true rfl)⟩ rfl (show 8 < 9 by omega) rfl rfl (Nat.le_of_ble_eq_true rfl) (c_sCh (by omega) (show kS i + j < 42 by omega)) ?_
                  rintro _ q3 ⟨rfl, eq3⟩
                  subst q3
                  show zG l w mX10_key 89 [(5, .int (nI j)), (4, .int (bI (lkA t T i j))), (3, .int (nI (kS i + zLen.getD i 0))), (2, .int (nI (kS i))), (1, .int (nI i)), (0, .ref m)] [.int ((zByt.getD 8 []).getD (kS i + j) 0)] h _
                  rw [b1, b3]
                  have b4 := b3 ▸ b2
                  refine g_aload_n 5 dX10_key_89 rfl rfl ?_
                  refine g_aload_n 5 dX10_key_90 rfl rfl ?_
                  refine g_geti (f := 330) dX10_key_91 fl_X10_214 x.1.1 (by decide) rfl ?_
                  rw [show zi h 330 m = nI T.2.1 from tk.2.1]
                  refine g_iload 0 dX10_key_94 rfl ?_
                  refine g_iadd dX10_key_96 ?_
                  rw [nI_add T.2.1 j]
                  refine g_invv (M' := mX10_byteAt) (As := [.int (nI (T.2.1 + j))]) (rest := [.int (nI (bN i j))]) dX10_key_97 ml_X10_211 okX10_byteAt imX10_byteAt seX10_byteAt ⟨(Nat.le_of_ble_eq_true rfl), (Nat.le_of_ble_eq_true rfl)⟩ (ci := 10) rfl rfl x.1.1 rfl rfl (Nat.le_of_ble_eq_true rfl) (c_byteM x (by omega)) ?_
                  rintro _ q4 ⟨rfl, eq4⟩
                  subst q4
                  show zG l w mX10_key 100 [(5, .int (nI j)), (4, .int (bI (lkA t T i j))), (3, .int (nI (kS i + zLen.getD i 0))), (2, .int (nI (kS i))), (1, .int (nI i)), (0, .ref m)] [.int (jI (btZ t n (T.2.1 + j))), .int (nI (bN i j))] h _
                  have tb := btZ_bd (k := T.2.1 + j) x
                  have eb : btZ t n (T.2.1 + j) = (t (T.2.1 + j) : Int) := by unfold btZ; rw [if_pos (by omega)]
                  refine g_zcmp_ne (a := ((bN i j : Nat) : Int)) (b := (btZ t n (T.2.1 + j))) (tgt := 107) (jI_nat (bN i j)).symm rfl dX10_key_100 (by decide) (by omega) (by omega) (fun d3 => ?_) (fun d3 => ?_)
                  · have es : lkA t T i (j + 1) = false := by rw [lkA_s, d2, Bool.true_and]; exact decide_eq_false (by omega)
                    refine g_iconst (v := nI 0) dX10_key_107 (by decide) ?_
                    refine g_istore (lv2 := [(4, .int (nI 0)), (5, .int (nI j)), (3, .int (nI (kS i + zLen.getD i 0))), (2, .int (nI (kS i))), (1, .int (nI i)), (0, .ref m)]) dX10_key_108 (by decide) rfl ?_
                    refine g_inc (v := nI (j + 1)) (lv2 := [(5, .int (nI (j + 1))), (4, .int (nI 0)), (3, .int (nI (kS i + zLen.getD i 0))), (2, .int (nI (kS i))), (1, .int (nI i)), (0, .ref m)]) 1 dX10_key_110 rfl (nI_add _ 1) (by decide) rfl ?_
                    refine g_goto (tgt := 67) dX10_key_113 (by decide) ?_
                    have z := ih2 (j + 1) (by omega)
                    rw [es] at z
                    exact zG.sub [0, 1, 2, 3, 4, 5] rfl z
                  · have es : lkA t T i (j + 1) = true := by rw [lkA_s, d2, Bool.true_and]; exact decide_eq_true (by omega)
                    refine g_iconst (v := nI 1) dX10_key_103 (by decide) ?_
                    refine g_goto (tgt := 108) dX10_key_104 (by decide) ?_
                    refine g_istore (lv2 := [(4, .int (nI 1)), (5, .int (nI j)), (3, .int (nI (kS i + zLen.getD i 0))), (2, .int (nI (kS i))), (1, .int (nI i)), (0, .ref m)]) dX10_key_108 (by decide) rfl ?_
                    refine g_inc (v := nI (j + 1)) (lv2 := [(5, .int (nI (j + 1))), (4, .int (nI 1)), (3, .int (nI (kS i + zLen.getD i 0))), (2, .int (nI (kS i))), (1, .int (nI i)), (0, .ref m)]) 1 dX10_key_110 rfl (nI_add _ 1) (by decide) rfl ?_
                    refine g_goto (tgt := 67) dX10_key_113 (by decide) ?_
                    have z := ih2 (j + 1) (by omega)
                    rw [es] at z
                    exact zG.sub [0, 1, 2, 3, 4, 5] rfl z
          have scan : ∀ k j : Nat, j + k = zLen.getD i 0 → zG l w mX10_key 25 [(3, .int (nI (kS i + j))), (2, .int (nI (kS i))), (1, .int (nI i)), (0, .ref m)] [] h (fun u h1 => u = some (.int (jI (keyN t T))) ∧ h1 = h) := by
            intro k
            induction k with
            | zero =>
              intro j hj
              obtain ⟨b1, b2⟩ := bN_eq (i := 8) (j := kS i + j) (by omega) (show kS i + j < 42 by omega)
              refine g_ldcS (i := 8) dX10_key_25 rfl ?_
              refine g_iload_n 0 dX10_key_27 rfl rfl ?_
              refine g_invvS (M' := mJ0_charAt_5068e) (As := [.int (nI (kS i + j))]) (rest := []) dX10_key_28 ml_X10_239 okJ0_charAt_5068e imJ0_charAt_5068e seJ0_charAt_5068e ⟨(Nat.le_of_ble_eq_true rfl), (Nat.le_of_ble_eq_true rfl)⟩ rfl (show 8 < 9 by omega) rfl rfl (Nat.le_of_ble_eq_true rfl) (c_sCh (by omega) (show kS i + j < 42 by omega)) ?_
              rintro _ q5 ⟨rfl, eq5⟩
              subst q5
              show zG l w mX10_key 31 [(3, .int (nI (kS i + j))), (2, .int (nI (kS i))), (1, .int (nI i)), (0, .ref m)] [.int ((zByt.getD 8 []).getD (kS i + j) 0)] h _
              rw [b1]
              refine g_bipush (v := nI 32) dX10_key_31 (by decide) ?_
              refine g_ncmp_eq (tgt := 42) dX10_key_33 (by decide) (by omega) (by omega) (fun d1 => ?_) (fun d1 => ?_)
              · obtain rfl : j = zLen.getD i 0 := by omega
                refine g_iload_n 0 dX10_key_42 rfl rfl ?_
                refine g_iload_n 1 dX10_key_43 rfl rfl ?_
                refine g_isub dX10_key_44 ?_
                rw [nI_sub (by omega), Nat.add_sub_cancel_left]
                refine g_aload_n 3 dX10_key_45 rfl rfl ?_
                refine g_geti (f := 331) dX10_key_46 fl_X10_208 x.1.1 (by decide) rfl ?_
                rw [show zi h 331 m = nI T.2.2.1 from tk.2.2.1]
                refine g_aload_n 3 dX10_key_49 rfl rfl ?_
                refine g_geti (f := 330) dX10_key_50 fl_X10_214 x.1.1 (by decide) rfl ?_
                rw [show zi h 330 m = nI T.2.1 from tk.2.1]
                refine g_isub dX10_key_53 ?_
                rw [nI_sub o1]
                refine g_ncmp_ne (tgt := 61) dX10_key_54 (by decide) (by omega) (by omega) (fun d2 => ?_) (fun d2 => ?_)
                · refine g_iconst (v := nI 0) dX10_key_61 (by decide) ?_
                  refine g_istore (lv2 := [(4, .int (nI 0)), (3, .int (nI (kS i + zLen.getD i 0))), (2, .int (nI (kS i))), (1, .int (nI i)), (0, .ref m)]) dX10_key_62 (by decide) rfl ?_
                  refine g_iconst (v := nI 0) dX10_key_64 (by decide) ?_
                  refine g_istore (lv2 := [(5, .int (nI 0)), (4, .int (nI 0)), (3, .int (nI (kS i + zLen.getD i 0))), (2, .int (nI (kS i))), (1, .int (nI i)), (0, .ref m)]) dX10_key_65 (by decide) rfl ?_
                  have z := cmp (zLen.getD i 0) 0 (Nat.zero_add _)
                  rw [lkA_0, decide_eq_false d2] at z
                  exact zG.sub [0, 1, 2, 3, 4, 5] rfl z
                · refine g_iconst (v := nI 1) dX10_key_57 (by decide) ?_
                  refine g_goto (tgt := 62) dX10_key_58 (by decide) ?_
                  refine g_istore (lv2 := [(4, .int (nI 1)), (3, .int (nI (kS i + zLen.getD i 0))), (2, .int (nI (kS i))), (1, .int (nI i)), (0, .ref m)]) dX10_key_62 (by decide) rfl ?_
                  refine g_iconst (v := nI 0) dX10_key_64 (by decide) ?_
                  refine g_istore (lv2 := [(5, .int (nI 0)), (4, .int (nI 1)), (3, .int (nI (kS i + zLen.getD i 0))), (2, .int (nI (kS i))), (1, .int (nI i)), (0, .ref m)]) dX10_key_65 (by decide) rfl ?_
                  have z := cmp (zLen.getD i 0) 0 (Nat.zero_add _)
                  rw [lkA_0, decide_eq_true d2] at z
                  exact zG.sub [0, 1, 2, 3, 4, 5] rfl z
              · exact absurd (by rw [show j = zLen.getD i 0 by omega]; exact g3) d1
            | succ k ih2 =>
              intro j hj
              obtain ⟨b1, b2⟩ := bN_eq (i := 8) (j := kS i + j) (by omega) (show kS i + j < 42 by omega)
              refine g_ldcS (i := 8) dX10_key_25 rfl ?_
              refine g_iload_n 0 dX10_key_27 rfl rfl ?_
              refine g_invvS (M' := mJ0_charAt_5068e) (As := [.int (nI (kS i + j))]) (rest := []) dX10_key_28 ml_X10_239 okJ0_charAt_5068e imJ0_charAt_5068e seJ0_charAt_5068e ⟨(Nat.le_of_ble_eq_true rfl), (Nat.le_of_ble_eq_true rfl)⟩ rfl (show 8 < 9 by omega) rfl rfl (Nat.le_of_ble_eq_true rfl) (c_sCh (by omega) (show kS i + j < 42 by omega)) ?_
              rintro _ q6 ⟨rfl, eq6⟩
              subst q6
              show zG l w mX10_key 31 [(3, .int (nI (kS i + j))), (2, .int (nI (kS i))), (1, .int (nI i)), (0, .ref m)] [.int ((zByt.getD 8 []).getD (kS i + j) 0)] h _
              rw [b1]
              refine g_bipush (v := nI 32) dX10_key_31 (by decide) ?_
              refine g_ncmp_eq (tgt := 42) dX10_key_33 (by decide) (by omega) (by omega) (fun d1 => ?_) (fun d1 => ?_)
              · have z := g4 j (by omega)
                exact absurd d1 (by rw [z.1]; exact z.2)
              · refine g_inc (v := nI ((kS i + j) + 1)) (lv2 := [(3, .int (nI ((kS i + j) + 1))), (2, .int (nI (kS i))), (1, .int (nI i)), (0, .ref m)]) 0 dX10_key_36 rfl (nI_add _ 1) (by decide) rfl ?_
                refine g_goto (tgt := 25) dX10_key_39 (by decide) ?_
                exact zG.sub [0, 1, 2, 3] rfl (ih2 (j + 1) (by omega))
          refine g_iload_n 0 dX10_key_23 rfl rfl ?_
          refine g_istore_n (lv2 := [(3, .int (nI (kS i))), (2, .int (nI (kS i))), (1, .int (nI i)), (0, .ref m)]) dX10_key_24 rfl (by decide) rfl ?_
          exact zG.sub [0, 1, 2, 3] rfl (scan (zLen.getD i 0) 0 (Nat.zero_add _))
    refine g_iconst (v := nI 0) dX10_key_10 (by decide) ?_
    refine g_istore_n (lv2 := [(1, .int (nI 0)), (0, .ref m)]) dX10_key_11 rfl (by decide) rfl ?_
    refine g_iconst (v := nI 1) dX10_key_12 (by decide) ?_
    refine g_istore_n (lv2 := [(2, .int (nI 1)), (1, .int (nI 0)), (0, .ref m)]) dX10_key_13 rfl (by decide) rfl ?_
    exact zG.sub [0, 1, 2] rfl (outer 8 0 rfl (fun j hj => absurd hj (by omega)))
  · refine g_iconst (v := (-1)) dX10_key_8 (by decide) ?_
    refine g_ireturn dX10_key_9 rfl ?_
    exact ⟨by rw [key_word (fun z => c1 (mdK_2.mpr z))]; rfl, rfl⟩
theorem c_failsM {k : Nat} (hM : Mo h m) (tk : TkM h m T) (ok : tkOk n T) (z3 : zi h 333 m = nI 0) : zM l w mX10_fails [.ref m, .int (nI k)] h (fun u h1 => u = some (.int (bI false)) ∧ zi h1 333 m = jI (flt T (k : Int)).1 ∧ zi h1 334 m = jI (flt T (k : Int)).2 ∧ FrF m 333 334 h h1) := by
  refine zM.of (by decide) (Nat.le_of_ble_eq_true rfl) ?_
  have mb := mdK_bd T.1
  have o1 := ok.2.1
  refine g_aload_n 0 dX10_fails_0 rfl rfl ?_
  refine g_geti (f := 333) dX10_fails_1 fl_X10_243 hM.1 (by decide) rfl ?_
  rw [show zi h 333 m = nI 0 from z3]
  refine g_zif_ne (a := 0) (tgt := 32) (by decide) dX10_fails_4 (by decide) (by omega) (fun c => ?_) (fun c => ?_)
  · exact absurd rfl c
  · refine g_aload_n 0 dX10_fails_7 rfl rfl ?_
    refine g_aload_n 0 dX10_fails_8 rfl rfl ?_
    refine g_geti (f := 329) dX10_fails_9 fl_X10_217 hM.1 (by decide) rfl ?_
    rw [show zi h 329 m = nI (mdK T.1) from tk.1]
    refine g_iconst (v := nI 1) dX10_fails_12 (by decide) ?_
    refine g_ncmp_ne (tgt := 20) dX10_fails_13 (by decide) (by omega) (by omega) (fun d => ?_) (fun d => ?_)
    · refine g_iload_n 1 dX10_fails_20 rfl rfl ?_
      refine g_puti (f := 333) dX10_fails_21 fl_X10_243 (Or.inl rfl) hM.1 rfl ?_
      refine g_aload_n 0 dX10_fails_24 rfl rfl ?_
      refine g_aload_n 0 dX10_fails_25 rfl rfl ?_
      refine g_geti (f := 330) dX10_fails_26 fl_X10_214 hM.1 (by decide) rfl ?_
      rw [show zi (zSi h 333 m (nI k)) 330 m = nI T.2.1 from (by rw [zi_Si, if_neg (by omega)]; exact tk.2.1)]
      refine g_puti (f := 334) dX10_fails_29 fl_X10_20 (Or.inl rfl) hM.1 rfl ?_
      refine g_iconst (v := bI false) dX10_fails_32 (by decide) ?_
      refine g_zreturn dX10_fails_33 rfl (bI_nar _) ?_
      exact ⟨rfl, by rw [zi_Si, if_neg (by omega), zi_same]; unfold flt; rw [if_neg (fun z => d ((mdK_1 ok.1).mpr z)), jI_nat], by rw [zi_same]; unfold flt; rw [jI_nat], (FrF.rf.si (by omega)).si (by omega)⟩
    · refine g_iconst (v := nI 1) dX10_fails_16 (by decide) ?_
      refine g_goto (tgt := 21) dX10_fails_17 (by decide) ?_
      refine g_puti (f := 333) dX10_fails_21 fl_X10_243 (Or.inl rfl) hM.1 rfl ?_
      refine g_aload_n 0 dX10_fails_24 rfl rfl ?_
      refine g_aload_n 0 dX10_fails_25 rfl rfl ?_
      refine g_geti (f := 330) dX10_fails_26 fl_X10_214 hM.1 (by decide) rfl ?_
      rw [show zi (zSi h 333 m (nI 1)) 330 m = nI T.2.1 from (by rw [zi_Si, if_neg (by omega)]; exact tk.2.1)]
      refine g_puti (f := 334) dX10_fails_29 fl_X10_20 (Or.inl rfl) hM.1 rfl ?_
      refine g_iconst (v := bI false) dX10_fails_32 (by decide) ?_
      refine g_zreturn dX10_fails_33 rfl (bI_nar _) ?_
      exact ⟨rfl, by rw [zi_Si, if_neg (by omega), zi_same]; unfold flt; rw [if_pos ((mdK_1 ok.1).mp d)]; rfl, by rw [zi_same]; unfold flt; rw [jI_nat], (FrF.rf.si (by omega)).si (by omega)⟩
theorem c_takesM (x : TxM h m n t) (tk : TkM h m T) (ok : tkOk n T) : zM l w mX10_takes [.ref m] h (fun u h1 => u = some (.int (bI true)) ∧ TkM h1 m (nxT t n T) ∧ FrF m 329 332 h h1) := by
  refine zM.of (by decide) (Nat.le_of_ble_eq_true rfl) ?_
  refine g_aload_n 0 dX10_takes_0 rfl rfl ?_
  refine g_invv (M' := mX10_ahead) (As := []) (rest := []) dX10_takes_1 ml_X10_246 okX10_ahead imX10_ahead seX10_ahead ⟨(Nat.le_of_ble_eq_true rfl), (Nat.le_of_ble_eq_true rfl)⟩ (ci := 10) rfl rfl x.1.1 rfl rfl (Nat.le_of_ble_eq_true rfl) (c_ahead x tk.2.2.1 ok.2.2.1) ?_
  rintro _ y1 ⟨rfl, k1, f1⟩
  show zG l w mX10_takes 4 [(0, .ref m)] [] y1 _
  refine g_iconst (v := bI true) dX10_takes_4 (by decide) ?_
  refine g_zreturn dX10_takes_5 rfl (bI_nar _) ?_
  exact ⟨rfl, k1, f1⟩
end TKP
