section QF
variable {l : Launch} {w : zW} {h : zH} {m x b : Nat} {π : Nat → Nat} {ls : Nat → List Nat} {N : nT} {X : List Nat} {t LN f : Nat} {L : List Nat}
theorem c_among (r : MoN h m N) (f6 : f < 6) {q : Nat} {bb : Bool} (hq : q + L.length ≤ 6000) (hc : ∀ (j p : Nat), L[j]? = some p → zL h (m + 1) (q + j) = lN p) (hl : ∀ p, p ∈ L → p < 480 ∧ (1 ≤ nA N (368 + 8 * p + 0) ∧ nA N (368 + 8 * p + 0) ≤ 6) ∧ (nA N (368 + 8 * p + 7) = 0 ∨ nA N (368 + 8 * p + 7) = 1)) : zM l w mX10_among [.ref m, .int (nI f), .int (nI q), .long (jL (L.length : Int)), .int (bI bb)] h (fun u h1 => u = some (.int (nI (cntN N f bb L))) ∧ h1 = h) := by
  refine zM.of (by decide) (Nat.le_of_ble_eq_true rfl) ?_
  have loop : ∀ n j : Nat, j + n = L.length → zG l w mX10_among 6 [(7, .int (nI j)), (6, .int (nI (cntN N f bb (L.take j)))), (0, .ref m), (1, .int (nI f)), (2, .int (nI q)), (3, .long (jL (L.length : Int))), (5, .int (bI bb))] [] h (fun u h1 => u = some (.int (nI (cntN N f bb L))) ∧ h1 = h) := by
    intro n
    induction n with
    | zero =>
      intro j hj
      refine g_iload 0 dX10_among_6 rfl ?_
      refine g_i2l dX10_among_8 ?_
      rw [nI_l (by omega), ← jL_nat]
      refine g_lload_n 5 dX10_among_9 rfl rfl ?_
      refine g_lif_ge (a := ((j : Nat) : Int)) (b := (L.length : Int)) (tgt := 71) dX10_among_10 rfl dX10_among_11 (by decide) (by omega) (by omega) (fun c => ?_) (fun c => ?_)
      · refine g_iload 1 dX10_among_71 rfl ?_
        refine g_ireturn dX10_among_73 rfl ?_
        exact ⟨by rw [show j = L.length by omega, List.take_length], rfl⟩
      · exact absurd c (by omega)
    | succ n ih =>
      intro j hj
      obtain ⟨p, hp⟩ : ∃ p, L[j]? = some p := ⟨_, List.getElem?_eq_getElem (by omega)⟩
      have pl := hl p (List.mem_of_getElem? hp)
      have p480 := pl.1
      have cs := cnt_succ (N := N) (f := f) (b := bb) hp
      have p7 := pl.2.2
      refine g_iload 0 dX10_among_6 rfl ?_
      refine g_i2l dX10_among_8 ?_
      rw [nI_l (by omega), ← jL_nat]
      refine g_lload_n 5 dX10_among_9 rfl rfl ?_
      refine g_lif_ge (a := ((j : Nat) : Int)) (b := (L.length : Int)) (tgt := 71) dX10_among_10 rfl dX10_among_11 (by decide) (by omega) (by omega) (fun c => ?_) (fun c => ?_)
      · exact absurd c (by omega)
      · refine g_aload_n 2 dX10_among_14 rfl rfl ?_
        refine g_iload_n 4 dX10_among_15 rfl rfl ?_
        refine g_iload 0 dX10_among_16 rfl ?_
        refine g_iadd dX10_among_18 ?_
        rw [nI_add q j]
        refine g_invv (M' := mX10_at) (As := [.int (nI (q + j))]) (rest := []) dX10_among_19 ml_X10_58 okX10_at imX10_at seX10_at ⟨(Nat.le_of_ble_eq_true rfl), (Nat.le_of_ble_eq_true rfl)⟩ (ci := 10) rfl rfl r.1.1 rfl rfl (Nat.le_of_ble_eq_true rfl) (by have q9 := c_at (l := l) (w := w) (k := q + j) r.1 (by omega); rw [hc j p hp, lN_i] at q9; exact q9) ?_
        rintro _ q1 ⟨rfl, eq1⟩
        subst q1
        show zG l w mX10_among 22 [(7, .int (nI j)), (6, .int (nI (cntN N f bb (L.take j)))), (0, .ref m), (1, .int (nI f)), (2, .int (nI q)), (3, .long (jL (L.length : Int))), (5, .int (bI bb))] [.int (nI p)] h _
        refine g_istore (lv2 := [(8, .int (nI p)), (7, .int (nI j)), (6, .int (nI (cntN N f bb (L.take j)))), (0, .ref m), (1, .int (nI f)), (2, .int (nI q)), (3, .long (jL (L.length : Int))), (5, .int (bI bb))]) dX10_among_22 (by decide) rfl ?_
        refine g_iload 2 dX10_among_24 rfl ?_
        refine g_aload_n 3 dX10_among_26 rfl rfl ?_
        refine g_iload 0 dX10_among_27 rfl ?_
        refine g_invv (M' := mX10_flowOf) (As := [.int (nI p)]) (rest := [.int (nI (cntN N f bb (L.take j)))]) dX10_among_29 ml_X10_79 okX10_flowOf imX10_flowOf seX10_flowOf ⟨(Nat.le_of_ble_eq_true rfl), (Nat.le_of_ble_eq_true rfl)⟩ (ci := 10) rfl rfl r.1.1 rfl rfl (Nat.le_of_ble_eq_true rfl) (c_flowOfZ r pl.1) ?_
        rintro _ q2 ⟨rfl, eq2⟩
        subst q2
        show zG l w mX10_among 32 [(8, .int (nI p)), (7, .int (nI j)), (6, .int (nI (cntN N f bb (L.take j)))), (0, .ref m), (1, .int (nI f)), (2, .int (nI q)), (3, .long (jL (L.length : Int))), (5, .int (bI bb))] [.int (jI (nA N (368 + 8 * p + 0) - 1)), .int (nI (cntN N f bb (L.take j)))] h _
        refine g_iload_n 4 dX10_among_32 rfl rfl ?_
        refine g_zcmp_ne (a := (nA N (368 + 8 * p + 0) - 1)) (b := ((f : Nat) : Int)) (tgt := 61) rfl (jI_nat f).symm dX10_among_33 (by decide) (by omega) (by omega) (fun d => ?_) (fun d => ?_)
        · refine g_iconst (v := nI 0) dX10_among_61 (by decide) ?_
          refine g_iadd dX10_among_62 ?_
          rw [nI_add (cntN N f bb (L.take j)) 0]
          refine g_istore (lv2 := [(6, .int (nI (cntN N f bb (L.take j) + 0))), (8, .int (nI p)), (7, .int (nI j)), (0, .ref m), (1, .int (nI f)), (2, .int (nI q)), (3, .long (jL (L.length : Int))), (5, .int (bI bb))]) dX10_among_63 (by decide) rfl ?_
          refine g_inc (v := nI (j + 1)) (lv2 := [(7, .int (nI (j + 1))), (6, .int (nI (cntN N f bb (L.take j) + 0))), (8, .int (nI p)), (0, .ref m), (1, .int (nI f)), (2, .int (nI q)), (3, .long (jL (L.length : Int))), (5, .int (bI bb))]) 2 dX10_among_65 rfl (nI_add _ 1) (by decide) rfl ?_
          refine g_goto (tgt := 6) dX10_among_68 (by decide) ?_
          refine zG.sub [0, 1, 3, 4, 5, 6, 7] ?_ (ih (j + 1) (by omega))
          rw [cs, decide_eq_false (p := nA N (368 + 8 * p + 0) = (f : Int) + 1) (by omega), Bool.false_and, if_neg (by decide)]; rfl
        · refine g_iload 7 dX10_among_36 rfl ?_
          refine g_bif_eq (tgt := 57) dX10_among_38 (by decide) (fun e => ?_) (fun e => ?_)
          · refine g_iconst (v := nI 1) dX10_among_57 (by decide) ?_
            refine g_goto (tgt := 62) dX10_among_58 (by decide) ?_
            refine g_iadd dX10_among_62 ?_
            rw [nI_add (cntN N f bb (L.take j)) 1]
            refine g_istore (lv2 := [(6, .int (nI (cntN N f bb (L.take j) + 1))), (8, .int (nI p)), (7, .int (nI j)), (0, .ref m), (1, .int (nI f)), (2, .int (nI q)), (3, .long (jL (L.length : Int))), (5, .int (bI bb))]) dX10_among_63 (by decide) rfl ?_
            refine g_inc (v := nI (j + 1)) (lv2 := [(7, .int (nI (j + 1))), (6, .int (nI (cntN N f bb (L.take j) + 1))), (8, .int (nI p)), (0, .ref m), (1, .int (nI f)), (2, .int (nI q)), (3, .long (jL (L.length : Int))), (5, .int (bI bb))]) 2 dX10_among_65 rfl (nI_add _ 1) (by decide) rfl ?_
            refine g_goto (tgt := 6) dX10_among_68 (by decide) ?_
            refine zG.sub [0, 1, 3, 4, 5, 6, 7] ?_ (ih (j + 1) (by omega))
            rw [cs, decide_eq_true (p := nA N (368 + 8 * p + 0) = (f : Int) + 1) (by omega), Bool.true_and, e, if_pos (by rfl)]; rfl
          · refine g_aload_n 3 dX10_among_41 rfl rfl ?_
            refine g_iload 0 dX10_among_42 rfl ?_
            refine g_bipush (v := nI 7) dX10_among_44 (by decide) ?_
            refine g_invs (M' := mX10_packet0) (As := [.int (nI p), .int (nI 7)]) (rest := [.ref m, .int (nI (cntN N f bb (L.take j)))]) dX10_among_46 ml_X10_55 okX10_packet0 stX10_packet0 ⟨(Nat.le_of_ble_eq_true rfl), (Nat.le_of_ble_eq_true rfl)⟩ rfl rfl (Nat.le_of_ble_eq_true rfl) c_packet0 ?_
            rintro _ q3 ⟨rfl, eq3⟩
            subst q3
            show zG l w mX10_among 49 [(8, .int (nI p)), (7, .int (nI j)), (6, .int (nI (cntN N f bb (L.take j)))), (0, .ref m), (1, .int (nI f)), (2, .int (nI q)), (3, .long (jL (L.length : Int))), (5, .int (bI bb))] [.int (nI (368 + 8 * p + 7)), .ref m, .int (nI (cntN N f bb (L.take j)))] h _
            refine g_invv (M' := mX10_of) (As := [.int (nI (368 + 8 * p + 7))]) (rest := [.int (nI (cntN N f bb (L.take j)))]) dX10_among_49 ml_X10_48 okX10_of imX10_of seX10_of ⟨(Nat.le_of_ble_eq_true rfl), (Nat.le_of_ble_eq_true rfl)⟩ (ci := 10) rfl rfl r.1.1 rfl rfl (Nat.le_of_ble_eq_true rfl) (c_ofN r (by omega) (by unfold nSp; omega)) ?_
            rintro _ q4 ⟨rfl, eq4⟩
            subst q4
            show zG l w mX10_among 52 [(8, .int (nI p)), (7, .int (nI j)), (6, .int (nI (cntN N f bb (L.take j)))), (0, .ref m), (1, .int (nI f)), (2, .int (nI q)), (3, .long (jL (L.length : Int))), (5, .int (bI bb))] [.long (jL (nA N (368 + 8 * p + 7))), .int (nI (cntN N f bb (L.take j)))] h _
            refine g_lconst (v := jL 1) dX10_among_52 (by decide) ?_
            refine g_lif_ne (a := (nA N (368 + 8 * p + 7))) (b := 1) (tgt := 61) dX10_among_53 rfl dX10_among_54 (by decide) (by omega) (by omega) (fun g => ?_) (fun g => ?_)
            · refine g_iconst (v := nI 0) dX10_among_61 (by decide) ?_
              refine g_iadd dX10_among_62 ?_
              rw [nI_add (cntN N f bb (L.take j)) 0]
              refine g_istore (lv2 := [(6, .int (nI (cntN N f bb (L.take j) + 0))), (8, .int (nI p)), (7, .int (nI j)), (0, .ref m), (1, .int (nI f)), (2, .int (nI q)), (3, .long (jL (L.length : Int))), (5, .int (bI bb))]) dX10_among_63 (by decide) rfl ?_
              refine g_inc (v := nI (j + 1)) (lv2 := [(7, .int (nI (j + 1))), (6, .int (nI (cntN N f bb (L.take j) + 0))), (8, .int (nI p)), (0, .ref m), (1, .int (nI f)), (2, .int (nI q)), (3, .long (jL (L.length : Int))), (5, .int (bI bb))]) 2 dX10_among_65 rfl (nI_add _ 1) (by decide) rfl ?_
              refine g_goto (tgt := 6) dX10_among_68 (by decide) ?_
              refine zG.sub [0, 1, 3, 4, 5, 6, 7] ?_ (ih (j + 1) (by omega))
              rw [cs, decide_eq_true (p := nA N (368 + 8 * p + 0) = (f : Int) + 1) (by omega), Bool.true_and, e, decide_eq_false g, if_neg (by decide)]; rfl
            · refine g_iconst (v := nI 1) dX10_among_57 (by decide) ?_
              refine g_goto (tgt := 62) dX10_among_58 (by decide) ?_
              refine g_iadd dX10_among_62 ?_
              rw [nI_add (cntN N f bb (L.take j)) 1]
              refine g_istore (lv2 := [(6, .int (nI (cntN N f bb (L.take j) + 1))), (8, .int (nI p)), (7, .int (nI j)), (0, .ref m), (1, .int (nI f)), (2, .int (nI q)), (3, .long (jL (L.length : Int))), (5, .int (bI bb))]) dX10_among_63 (by decide) rfl ?_
              refine g_inc (v := nI (j + 1)) (lv2 := [(7, .int (nI (j + 1))), (6, .int (nI (cntN N f bb (L.take j) + 1))), (8, .int (nI p)), (0, .ref m), (1, .int (nI f)), (2, .int (nI q)), (3, .long (jL (L.length : Int))), (5, .int (bI bb))]) 2 dX10_among_65 rfl (nI_add _ 1) (by decide) rfl ?_
              refine g_goto (tgt := 6) dX10_among_68 (by decide) ?_
              refine zG.sub [0, 1, 3, 4, 5, 6, 7] ?_ (ih (j + 1) (by omega))
              rw [cs, decide_eq_true (p := nA N (368 + 8 * p + 0) = (f : Int) + 1) (by omega), Bool.true_and, e, decide_eq_true g, if_pos (by rfl)]; rfl
  refine g_iconst (v := nI 0) dX10_among_0 (by decide) ?_
  refine g_istore (lv2 := [(6, .int (nI 0)), (0, .ref m), (1, .int (nI f)), (2, .int (nI q)), (3, .long (jL (L.length : Int))), (5, .int (bI bb))]) dX10_among_1 (by decide) rfl ?_
  refine g_iconst (v := nI 0) dX10_among_3 (by decide) ?_
  refine g_istore (lv2 := [(7, .int (nI 0)), (6, .int (nI 0)), (0, .ref m), (1, .int (nI f)), (2, .int (nI q)), (3, .long (jL (L.length : Int))), (5, .int (bI bb))]) dX10_among_4 (by decide) rfl ?_
  exact zG.sub [0, 1, 2, 3, 4, 5, 6] rfl (loop _ 0 (Nat.zero_add _))
theorem c_countOf (c : CX h b π ls N X t) (hL : isL h LN) (el : ls LN = L.map π) (f6 : f < 6) (hl : ∀ p, p ∈ L → liv N p ∧ (1 ≤ nA N (368 + 8 * p + 0) ∧ nA N (368 + 8 * p + 0) ≤ 6) ∧ (nA N (368 + 8 * p + 7) = 0 ∨ nA N (368 + 8 * p + 7) = 1)) : zM l w mX3_countOf [.ref LN, .int (nI f)] h (fun u h1 => u = some (.int (nI (cntN N f false L))) ∧ h1 = h) := by
  refine zM.of (by decide) (Nat.le_of_ble_eq_true rfl) ?_
  have S := c.2.1.1 LN hL
  rw [el] at S
  have loop : ∀ n j : Nat, j + n = L.length → zG l w mX3_countOf 7 [(3, rfO (L.map π)[j]?), (2, .int (nI (cntN N f false (L.take j)))), (0, .ref LN), (1, .int (nI f))] [] h (fun u h1 => u = some (.int (nI (cntN N f false L))) ∧ h1 = h) := by
    intro n
    induction n with
    | zero =>
      intro j hj
      rw [show (L.map π)[j]? = none from List.getElem?_eq_none (by rw [List.length_map]; omega)]
      show zG l w mX3_countOf 7 [(3, .null), (2, .int (nI (cntN N f false (L.take j)))), (0, .ref LN), (1, .int (nI f))] [] h _
      refine g_aload_nN 0 dX3_countOf_7 rfl rfl ?_
      refine g_ifnullN (tgt := 30) dX3_countOf_8 (by decide) ?_
      refine g_iload_n 1 dX3_countOf_30 rfl rfl ?_
      refine g_ireturn dX3_countOf_31 rfl ?_
      exact ⟨by rw [show j = L.length by omega, List.take_length], rfl⟩
    | succ n ih =>
      intro j hj
      obtain ⟨p, hp⟩ : ∃ p, L[j]? = some p := ⟨_, List.getElem?_eq_getElem (by omega)⟩
      have hm : (L.map π)[j]? = some (π p) := by rw [List.getElem?_map, hp]; rfl
      have pl := hl p (List.mem_of_getElem? hp)
      have hx := pl.1
      have p1 := pl.2.1
      have p7 := pl.2.2
      have nx := (S.2.2.2 j (π p) hm).2
      have cs := cnt_succ (N := N) (f := f) (b := false) hp
      rw [hm]
      show zG l w mX3_countOf 7 [(3, .ref (π p)), (2, .int (nI (cntN N f false (L.take j)))), (0, .ref LN), (1, .int (nI f))] [] h _
      refine g_aload_n 0 dX3_countOf_7 rfl rfl ?_
      refine g_ifnull dX3_countOf_8 ?_
      refine g_aload_n 0 dX3_countOf_11 rfl rfl ?_
      refine g_geti (f := 192) dX3_countOf_12 fl_X3_35 (c.2.2.2.2.2.1.1 p hx).2.2 (by decide) rfl ?_
      rw [show zi h 192 (π p) = jI (nA N (368 + 8 * p + 0) - 1) from (c.2.2.2.2.2.1.1 p hx).1.1]
      refine g_iload_n 3 dX3_countOf_15 rfl rfl ?_
      refine g_zcmp_ne (a := (nA N (368 + 8 * p + 0) - 1)) (b := ((f : Nat) : Int)) (tgt := 22) rfl (jI_nat f).symm dX3_countOf_16 (by decide) (by omega) (by omega) (fun d => ?_) (fun d => ?_)
      · refine g_aload_n 0 dX3_countOf_22 rfl rfl ?_
        cases e : (L.map π)[j + 1]? with
        | none =>
          refine g_getrN (f := 201) dX3_countOf_23 fl_X3_9 (c.2.2.2.2.2.1.1 p hx).2.2 rfl (nx.trans e) ?_
          refine g_astore_nN (lv2 := [(3, .null), (2, .int (nI (cntN N f false (L.take j)))), (0, .ref LN), (1, .int (nI f))]) dX3_countOf_26 rfl (by decide) rfl ?_
          refine g_goto (tgt := 7) dX3_countOf_27 (by decide) ?_
          have z9 := ih (j + 1) (by omega)
          rw [e] at z9
          refine zG.sub [0, 1, 2, 3] ?_ z9
          rw [cs, decide_eq_false (p := nA N (368 + 8 * p + 0) = (f : Int) + 1) (by omega), Bool.false_and, if_neg (by decide)]; rfl
        | some q =>
          refine g_getr (f := 201) (b := q) dX3_countOf_23 fl_X3_9 (c.2.2.2.2.2.1.1 p hx).2.2 rfl (nx.trans e) ?_
          refine g_astore_n (lv2 := [(3, .ref q), (2, .int (nI (cntN N f false (L.take j)))), (0, .ref LN), (1, .int (nI f))]) dX3_countOf_26 rfl (by decide) rfl ?_
          refine g_goto (tgt := 7) dX3_countOf_27 (by decide) ?_
          have z9 := ih (j + 1) (by omega)
          rw [e] at z9
          refine zG.sub [0, 1, 2, 3] ?_ z9
          rw [cs, decide_eq_false (p := nA N (368 + 8 * p + 0) = (f : Int) + 1) (by omega), Bool.false_and, if_neg (by decide)]; rfl
      · refine g_inc (v := nI ((cntN N f false (L.take j)) + 1)) (lv2 := [(2, .int (nI ((cntN N f false (L.take j)) + 1))), (3, .ref (π p)), (0, .ref LN), (1, .int (nI f))]) 1 dX3_countOf_19 rfl (nI_add _ 1) (by decide) rfl ?_
        refine g_aload_n 1 dX3_countOf_22 rfl rfl ?_
        cases e : (L.map π)[j + 1]? with
        | none =>
          refine g_getrN (f := 201) dX3_countOf_23 fl_X3_9 (c.2.2.2.2.2.1.1 p hx).2.2 rfl (nx.trans e) ?_
          refine g_astore_nN (lv2 := [(3, .null), (2, .int (nI ((cntN N f false (L.take j)) + 1))), (0, .ref LN), (1, .int (nI f))]) dX3_countOf_26 rfl (by decide) rfl ?_
          refine g_goto (tgt := 7) dX3_countOf_27 (by decide) ?_
          have z9 := ih (j + 1) (by omega)
          rw [e] at z9
          refine zG.sub [0, 1, 2, 3] ?_ z9
          rw [cs, decide_eq_true (p := nA N (368 + 8 * p + 0) = (f : Int) + 1) (by omega), Bool.true_and, if_pos (by rfl)]; rfl
        | some q =>
          refine g_getr (f := 201) (b := q) dX3_countOf_23 fl_X3_9 (c.2.2.2.2.2.1.1 p hx).2.2 rfl (nx.trans e) ?_
          refine g_astore_n (lv2 := [(3, .ref q), (2, .int (nI ((cntN N f false (L.take j)) + 1))), (0, .ref LN), (1, .int (nI f))]) dX3_countOf_26 rfl (by decide) rfl ?_
          refine g_goto (tgt := 7) dX3_countOf_27 (by decide) ?_
          have z9 := ih (j + 1) (by omega)
          rw [e] at z9
          refine zG.sub [0, 1, 2, 3] ?_ z9
          rw [cs, decide_eq_true (p := nA N (368 + 8 * p + 0) = (f : Int) + 1) (by omega), Bool.true_and, if_pos (by rfl)]; rfl
  refine g_iconst (v := nI 0) dX3_countOf_0 (by decide) ?_
  refine g_istore_n (lv2 := [(2, .int (nI 0)), (0, .ref LN), (1, .int (nI f))]) dX3_countOf_1 rfl (by decide) rfl ?_
  refine g_aload_n 1 dX3_countOf_2 rfl rfl ?_
  have hd := S.1
  rw [List.head?_eq_getElem?] at hd
  cases e : (L.map π)[0]? with
  | none =>
    refine g_getrN (f := 96) dX3_countOf_3 fl_X3_20 hL.2 rfl (hd.trans e) ?_
    refine g_astore_nN (lv2 := [(3, .null), (2, .int (nI 0)), (0, .ref LN), (1, .int (nI f))]) dX3_countOf_6 rfl (by decide) rfl ?_
    have z9 := loop _ 0 (Nat.zero_add _)
    rw [e] at z9
    exact zG.sub [0, 1, 2, 3] rfl z9
  | some q =>
    refine g_getr (f := 96) (b := q) dX3_countOf_3 fl_X3_20 hL.2 rfl (hd.trans e) ?_
    refine g_astore_n (lv2 := [(3, .ref q), (2, .int (nI 0)), (0, .ref LN), (1, .int (nI f))]) dX3_countOf_6 rfl (by decide) rfl ?_
    have z9 := loop _ 0 (Nat.zero_add _)
    rw [e] at z9
    exact zG.sub [0, 1, 2, 3] rfl z9
theorem c_lostOf (c : CX h b π ls N X t) (hL : isL h LN) (el : ls LN = L.map π) (f6 : f < 6) (hl : ∀ p, p ∈ L → liv N p ∧ (1 ≤ nA N (368 + 8 * p + 0) ∧ nA N (368 + 8 * p + 0) ≤ 6) ∧ (nA N (368 + 8 * p + 7) = 0 ∨ nA N (368 + 8 * p + 7) = 1)) : zM l w mX3_lostOf [.ref LN, .int (nI f)] h (fun u h1 => u = some (.int (nI (cntN N f true L))) ∧ h1 = h) := by
  refine zM.of (by decide) (Nat.le_of_ble_eq_true rfl) ?_
  have S := c.2.1.1 LN hL
  rw [el] at S
  have loop : ∀ n j : Nat, j + n = L.length → zG l w mX3_lostOf 7 [(3, rfO (L.map π)[j]?), (2, .int (nI (cntN N f true (L.take j)))), (0, .ref LN), (1, .int (nI f))] [] h (fun u h1 => u = some (.int (nI (cntN N f true L))) ∧ h1 = h) := by
    intro n
    induction n with
    | zero =>
      intro j hj
      rw [show (L.map π)[j]? = none from List.getElem?_eq_none (by rw [List.length_map]; omega)]
      show zG l w mX3_lostOf 7 [(3, .null), (2, .int (nI (cntN N f true (L.take j)))), (0, .ref LN), (1, .int (nI f))] [] h _
      refine g_aload_nN 0 dX3_lostOf_7 rfl rfl ?_
      refine g_ifnullN (tgt := 37) dX3_lostOf_8 (by decide) ?_
      refine g_iload_n 1 dX3_lostOf_37 rfl rfl ?_
      refine g_ireturn dX3_lostOf_38 rfl ?_
      exact ⟨by rw [show j = L.length by omega, List.take_length], rfl⟩
    | succ n ih =>
      intro j hj
      obtain ⟨p, hp⟩ : ∃ p, L[j]? = some p := ⟨_, List.getElem?_eq_getElem (by omega)⟩
      have hm : (L.map π)[j]? = some (π p) := by rw [List.getElem?_map, hp]; rfl
      have pl := hl p (List.mem_of_getElem? hp)
      have hx := pl.1
      have p1 := pl.2.1
      have p7 := pl.2.2
      have nx := (S.2.2.2 j (π p) hm).2
      have cs := cnt_succ (N := N) (f := f) (b := true) hp
      rw [hm]
      show zG l w mX3_lostOf 7 [(3, .ref (π p)), (2, .int (nI (cntN N f true (L.take j)))), (0, .ref LN), (1, .int (nI f))] [] h _
      refine g_aload_n 0 dX3_lostOf_7 rfl rfl ?_
      refine g_ifnull dX3_lostOf_8 ?_
      refine g_aload_n 0 dX3_lostOf_11 rfl rfl ?_
      refine g_geti (f := 192) dX3_lostOf_12 fl_X3_35 (c.2.2.2.2.2.1.1 p hx).2.2 (by decide) rfl ?_
      rw [show zi h 192 (π p) = jI (nA N (368 + 8 * p + 0) - 1) from (c.2.2.2.2.2.1.1 p hx).1.1]
      refine g_iload_n 3 dX3_lostOf_15 rfl rfl ?_
      refine g_zcmp_ne (a := (nA N (368 + 8 * p + 0) - 1)) (b := ((f : Nat) : Int)) (tgt := 29) rfl (jI_nat f).symm dX3_lostOf_16 (by decide) (by omega) (by omega) (fun d => ?_) (fun d => ?_)
      · refine g_aload_n 0 dX3_lostOf_29 rfl rfl ?_
        cases e : (L.map π)[j + 1]? with
        | none =>
          refine g_getrN (f := 201) dX3_lostOf_30 fl_X3_9 (c.2.2.2.2.2.1.1 p hx).2.2 rfl (nx.trans e) ?_
          refine g_astore_nN (lv2 := [(3, .null), (2, .int (nI (cntN N f true (L.take j)))), (0, .ref LN), (1, .int (nI f))]) dX3_lostOf_33 rfl (by decide) rfl ?_
          refine g_goto (tgt := 7) dX3_lostOf_34 (by decide) ?_
          have z9 := ih (j + 1) (by omega)
          rw [e] at z9
          refine zG.sub [0, 1, 2, 3] ?_ z9
          rw [cs, decide_eq_false (p := nA N (368 + 8 * p + 0) = (f : Int) + 1) (by omega), Bool.false_and, if_neg (by decide)]; rfl
        | some q =>
          refine g_getr (f := 201) (b := q) dX3_lostOf_30 fl_X3_9 (c.2.2.2.2.2.1.1 p hx).2.2 rfl (nx.trans e) ?_
          refine g_astore_n (lv2 := [(3, .ref q), (2, .int (nI (cntN N f true (L.take j)))), (0, .ref LN), (1, .int (nI f))]) dX3_lostOf_33 rfl (by decide) rfl ?_
          refine g_goto (tgt := 7) dX3_lostOf_34 (by decide) ?_
          have z9 := ih (j + 1) (by omega)
          rw [e] at z9
          refine zG.sub [0, 1, 2, 3] ?_ z9
          rw [cs, decide_eq_false (p := nA N (368 + 8 * p + 0) = (f : Int) + 1) (by omega), Bool.false_and, if_neg (by decide)]; rfl
      · refine g_aload_n 0 dX3_lostOf_19 rfl rfl ?_
        refine g_geti (f := 200) dX3_lostOf_20 fl_X3_38 (c.2.2.2.2.2.1.1 p hx).2.2 (by decide) rfl ?_
        rw [show zi h 200 (π p) = jI (nA N (368 + 8 * p + 7)) from (c.2.2.2.2.2.1.1 p hx).1.2.2.2.2.2.2]
        refine g_zif_eq (a := (nA N (368 + 8 * p + 7))) (tgt := 29) rfl dX3_lostOf_23 (by decide) (by omega) (fun g => ?_) (fun g => ?_)
        · refine g_aload_n 0 dX3_lostOf_29 rfl rfl ?_
          cases e : (L.map π)[j + 1]? with
          | none =>
            refine g_getrN (f := 201) dX3_lostOf_30 fl_X3_9 (c.2.2.2.2.2.1.1 p hx).2.2 rfl (nx.trans e) ?_
            refine g_astore_nN (lv2 := [(3, .null), (2, .int (nI (cntN N f true (L.take j)))), (0, .ref LN), (1, .int (nI f))]) dX3_lostOf_33 rfl (by decide) rfl ?_
            refine g_goto (tgt := 7) dX3_lostOf_34 (by decide) ?_
            have z9 := ih (j + 1) (by omega)
            rw [e] at z9
            refine zG.sub [0, 1, 2, 3] ?_ z9
            rw [cs, decide_eq_true (p := nA N (368 + 8 * p + 0) = (f : Int) + 1) (by omega), Bool.true_and, decide_eq_false (p := nA N (368 + 8 * p + 7) = 1) (by omega), if_neg (by decide)]; rfl
          | some q =>
            refine g_getr (f := 201) (b := q) dX3_lostOf_30 fl_X3_9 (c.2.2.2.2.2.1.1 p hx).2.2 rfl (nx.trans e) ?_
            refine g_astore_n (lv2 := [(3, .ref q), (2, .int (nI (cntN N f true (L.take j)))), (0, .ref LN), (1, .int (nI f))]) dX3_lostOf_33 rfl (by decide) rfl ?_
            refine g_goto (tgt := 7) dX3_lostOf_34 (by decide) ?_
            have z9 := ih (j + 1) (by omega)
            rw [e] at z9
            refine zG.sub [0, 1, 2, 3] ?_ z9
            rw [cs, decide_eq_true (p := nA N (368 + 8 * p + 0) = (f : Int) + 1) (by omega), Bool.true_and, decide_eq_false (p := nA N (368 + 8 * p + 7) = 1) (by omega), if_neg (by decide)]; rfl
        · refine g_inc (v := nI ((cntN N f true (L.take j)) + 1)) (lv2 := [(2, .int (nI ((cntN N f true (L.take j)) + 1))), (3, .ref (π p)), (0, .ref LN), (1, .int (nI f))]) 1 dX3_lostOf_26 rfl (nI_add _ 1) (by decide) rfl ?_
          refine g_aload_n 1 dX3_lostOf_29 rfl rfl ?_
          cases e : (L.map π)[j + 1]? with
          | none =>
            refine g_getrN (f := 201) dX3_lostOf_30 fl_X3_9 (c.2.2.2.2.2.1.1 p hx).2.2 rfl (nx.trans e) ?_
            refine g_astore_nN (lv2 := [(3, .null), (2, .int (nI ((cntN N f true (L.take j)) + 1))), (0, .ref LN), (1, .int (nI f))]) dX3_lostOf_33 rfl (by decide) rfl ?_
            refine g_goto (tgt := 7) dX3_lostOf_34 (by decide) ?_
            have z9 := ih (j + 1) (by omega)
            rw [e] at z9
            refine zG.sub [0, 1, 2, 3] ?_ z9
            rw [cs, decide_eq_true (p := nA N (368 + 8 * p + 0) = (f : Int) + 1) (by omega), Bool.true_and, decide_eq_true (p := nA N (368 + 8 * p + 7) = 1) (by omega), if_pos (by rfl)]; rfl
          | some q =>
            refine g_getr (f := 201) (b := q) dX3_lostOf_30 fl_X3_9 (c.2.2.2.2.2.1.1 p hx).2.2 rfl (nx.trans e) ?_
            refine g_astore_n (lv2 := [(3, .ref q), (2, .int (nI ((cntN N f true (L.take j)) + 1))), (0, .ref LN), (1, .int (nI f))]) dX3_lostOf_33 rfl (by decide) rfl ?_
            refine g_goto (tgt := 7) dX3_lostOf_34 (by decide) ?_
            have z9 := ih (j + 1) (by omega)
            rw [e] at z9
            refine zG.sub [0, 1, 2, 3] ?_ z9
            rw [cs, decide_eq_true (p := nA N (368 + 8 * p + 0) = (f : Int) + 1) (by omega), Bool.true_and, decide_eq_true (p := nA N (368 + 8 * p + 7) = 1) (by omega), if_pos (by rfl)]; rfl
  refine g_iconst (v := nI 0) dX3_lostOf_0 (by decide) ?_
  refine g_istore_n (lv2 := [(2, .int (nI 0)), (0, .ref LN), (1, .int (nI f))]) dX3_lostOf_1 rfl (by decide) rfl ?_
  refine g_aload_n 1 dX3_lostOf_2 rfl rfl ?_
  have hd := S.1
  rw [List.head?_eq_getElem?] at hd
  cases e : (L.map π)[0]? with
  | none =>
    refine g_getrN (f := 96) dX3_lostOf_3 fl_X3_20 hL.2 rfl (hd.trans e) ?_
    refine g_astore_nN (lv2 := [(3, .null), (2, .int (nI 0)), (0, .ref LN), (1, .int (nI f))]) dX3_lostOf_6 rfl (by decide) rfl ?_
    have z9 := loop _ 0 (Nat.zero_add _)
    rw [e] at z9
    exact zG.sub [0, 1, 2, 3] rfl z9
  | some q =>
    refine g_getr (f := 96) (b := q) dX3_lostOf_3 fl_X3_20 hL.2 rfl (hd.trans e) ?_
    refine g_astore_n (lv2 := [(3, .ref q), (2, .int (nI 0)), (0, .ref LN), (1, .int (nI f))]) dX3_lostOf_6 rfl (by decide) rfl ?_
    have z9 := loop _ 0 (Nat.zero_add _)
    rw [e] at z9
    exact zG.sub [0, 1, 2, 3] rfl z9
theorem iN.lst (h : iN [] N) {p : Nat} (hp : p < 480 ∧ 0 < nA N (368 + 8 * p + 0)) : (1 ≤ nA N (368 + 8 * p + 0) ∧ nA N (368 + 8 * p + 0) ≤ 6) ∧ (nA N (368 + 8 * p + 7) = 0 ∨ nA N (368 + 8 * p + 7) = 1) := by
  have P := h.P p hp.1 hp.2
  have H1 := h.H.2.1
  have q := P.1
  exact ⟨by omega, P.2.2.2.2.2.2⟩
def sumL (g : Nat → Nat) : Nat → Nat
  | 0 => 0
  | n + 1 => sumL g n + g n
theorem sumL_le {g : Nat → Nat} {k : Nat} (h : ∀ i, i < 6 → g i ≤ k) : ∀ n, n ≤ 6 → sumL g n ≤ n * k := by
  intro n
  induction n with
  | zero => intro _; exact Nat.zero_le _
  | succ n ih =>
    intro hn
    have a := ih (by omega)
    have b := h n (by omega)
    unfold sumL
    rw [Nat.succ_mul]
    omega
def whv (N : nT) (f k : Nat) : Int := if k = 0 then (sumL (fun a => cntN N f false (nR N a)) (nA N 0).toNat : Int) else if k = 1 then (sumL (fun a => cntN N f false (nW N a)) (nA N 0).toNat : Int) else if k = 2 then (cntN N f false (nK N) : Int) else (cntN N f true (nK N) : Int)
def qWhere (N : nT) (z k : Int) : Int × Int := if 0 ≤ k ∧ k ≤ 3 then (if 0 ≤ z ∧ z < nA N 1 then (0, whv N z.toNat k.toNat) else (2, -1)) else (1, -1)
theorem c_standingOf (c : CX h b π ls N X t) (hI : iN [] N) (f6 : f < 6) : zM l w mX5_standingOf [.ref b, .int (nI f)] h (fun u h1 => u = some (.int (nI (sumL (fun a => cntN N f false (nR N a)) (nA N 0).toNat))) ∧ h1 = h) := by
  refine zM.of (by decide) (Nat.le_of_ble_eq_true rfl) ?_
  have H0 := hI.H.1
  have loop : ∀ n i : Nat, ((i + n : Nat) : Int) = nA N 0 → zG l w mX5_standingOf 4 [(3, .int (nI i)), (2, .int (nI (sumL (fun a => cntN N f false (nR N a)) i))), (0, .ref b), (1, .int (nI f))] [] h (fun u h1 => u = some (.int (nI (sumL (fun a => cntN N f false (nR N a)) (nA N 0).toNat))) ∧ h1 = h) := by
    intro n
    induction n with
    | zero =>
      intro i hi
      refine g_iload_n 0 dX5_standingOf_4 rfl rfl ?_
      refine g_aload_n 2 dX5_standingOf_5 rfl rfl ?_
      refine g_geti (f := 161) dX5_standingOf_6 fl_X5_49 c.1.1.2 (by decide) rfl ?_
      rw [show zi h 161 b = jI (nA N 0) from c.2.2.1.1]
      refine g_zcmp_ge (a := ((i : Nat) : Int)) (b := (nA N 0)) (tgt := 34) (jI_nat i).symm rfl dX5_standingOf_9 (by decide) (by omega) (by omega) (fun g => ?_) (fun g => ?_)
      · refine g_iload_n 1 dX5_standingOf_34 rfl rfl ?_
        refine g_ireturn dX5_standingOf_35 rfl ?_
        exact ⟨by rw [← show i = (nA N 0).toNat by omega], rfl⟩
      · exact absurd g (by omega)
    | succ n ih =>
      intro i hi
      refine g_iload_n 0 dX5_standingOf_4 rfl rfl ?_
      refine g_aload_n 2 dX5_standingOf_5 rfl rfl ?_
      refine g_geti (f := 161) dX5_standingOf_6 fl_X5_49 c.1.1.2 (by decide) rfl ?_
      rw [show zi h 161 b = jI (nA N 0) from c.2.2.1.1]
      refine g_zcmp_ge (a := ((i : Nat) : Int)) (b := (nA N 0)) (tgt := 34) (jI_nat i).symm rfl dX5_standingOf_9 (by decide) (by omega) (by omega) (fun g => ?_) (fun g => ?_)
      · exact absurd g (by omega)
      · have ha : (i : Int) < nA N 0 := by omega
        have i6 : i < 6 := by omega
        refine g_iload_n 1 dX5_standingOf_12 rfl rfl ?_
        refine g_aload_n 2 dX5_standingOf_13 rfl rfl ?_
        refine g_getr (f := 160) (b := b + 1) dX5_standingOf_14 fl_X5_11 c.1.1.2 rfl c.1.2.1.1 ?_
        refine g_iload_n 0 dX5_standingOf_17 rfl rfl ?_
        refine g_aald (t := 5) (b := b + 11 + 7 * i) dX5_standingOf_18 c.1.2.1.2.1 rfl (fun _ => rfl) (by decide) (by rw [show zn h (b + 1) = 6 from c.1.2.1.2.2]; exact vp_in_nI (by omega) (by omega)) (by rw [nI_clamp (by omega)]; exact (c.1.2.2.2.2.2.2.2.2.1 i i6).1) ?_
        refine g_getr (f := 132) (b := b + 11 + 7 * i + 1) dX5_standingOf_19 fl_X5_73 (c.1.2.2.2.2.2.2.2.2.1 i i6).2.1 rfl (c.1.2.2.2.2.2.2.2.2.1 i i6).2.2.1.1 ?_
        refine g_iload_n 3 dX5_standingOf_22 rfl rfl ?_
        refine g_invv (M' := mX3_countOf) (As := [.int (nI f)]) (rest := [.int (nI (sumL (fun a => cntN N f false (nR N a)) i))]) dX5_standingOf_23 ml_X5_249 okX3_countOf imX3_countOf seX3_countOf ⟨(Nat.le_of_ble_eq_true rfl), (Nat.le_of_ble_eq_true rfl)⟩ (ci := 3) rfl rfl (c.1.2.2.2.2.2.2.2.2.1 i i6).2.2.1.2 rfl rfl (Nat.le_of_ble_eq_true rfl) (c_countOf c (c.1.iR i6) (c.2.2.2.2.2.1.2.2.2.1 i i6).1 f6 (fun p hp => ⟨hI.C.memR i6 hp, hI.lst (hI.C.memR i6 hp)⟩)) ?_
        rintro _ q1 ⟨rfl, eq1⟩
        subst q1
        show zG l w mX5_standingOf 26 [(3, .int (nI i)), (2, .int (nI (sumL (fun a => cntN N f false (nR N a)) i))), (0, .ref b), (1, .int (nI f))] [.int (nI (cntN N f false (nR N i))), .int (nI (sumL (fun a => cntN N f false (nR N a)) i))] h _
        refine g_iadd dX5_standingOf_26 ?_
        rw [nI_add (sumL (fun a => cntN N f false (nR N a)) i) (cntN N f false (nR N i))]
        refine g_istore_n (lv2 := [(2, .int (nI (sumL (fun a => cntN N f false (nR N a)) i + cntN N f false (nR N i)))), (3, .int (nI i)), (0, .ref b), (1, .int (nI f))]) dX5_standingOf_27 rfl (by decide) rfl ?_
        refine g_inc (v := nI (i + 1)) (lv2 := [(3, .int (nI (i + 1))), (2, .int (nI (sumL (fun a => cntN N f false (nR N a)) i + cntN N f false (nR N i)))), (0, .ref b), (1, .int (nI f))]) 1 dX5_standingOf_28 rfl (nI_add _ 1) (by decide) rfl ?_
        refine g_goto (tgt := 4) dX5_standingOf_31 (by decide) ?_
        exact zG.sub [0, 1, 2, 3] rfl (ih (i + 1) (by omega))
  refine g_iconst (v := nI 0) dX5_standingOf_0 (by decide) ?_
  refine g_istore_n (lv2 := [(2, .int (nI 0)), (0, .ref b), (1, .int (nI f))]) dX5_standingOf_1 rfl (by decide) rfl ?_
  refine g_iconst (v := nI 0) dX5_standingOf_2 (by decide) ?_
  refine g_istore_n (lv2 := [(3, .int (nI 0)), (2, .int (nI 0)), (0, .ref b), (1, .int (nI f))]) dX5_standingOf_3 rfl (by decide) rfl ?_
  exact zG.sub [0, 1, 2, 3] rfl (loop (nA N 0).toNat 0 (by omega))
theorem c_wiredOf (c : CX h b π ls N X t) (hI : iN [] N) (f6 : f < 6) : zM l w mX5_wiredOf [.ref b, .int (nI f)] h (fun u h1 => u = some (.int (nI (sumL (fun a => cntN N f false (nW N a)) (nA N 0).toNat))) ∧ h1 = h) := by
  refine zM.of (by decide) (Nat.le_of_ble_eq_true rfl) ?_
  have H0 := hI.H.1
  have loop : ∀ n i : Nat, ((i + n : Nat) : Int) = nA N 0 → zG l w mX5_wiredOf 4 [(3, .int (nI i)), (2, .int (nI (sumL (fun a => cntN N f false (nW N a)) i))), (0, .ref b), (1, .int (nI f))] [] h (fun u h1 => u = some (.int (nI (sumL (fun a => cntN N f false (nW N a)) (nA N 0).toNat))) ∧ h1 = h) := by
    intro n
    induction n with
    | zero =>
      intro i hi
      refine g_iload_n 0 dX5_wiredOf_4 rfl rfl ?_
      refine g_aload_n 2 dX5_wiredOf_5 rfl rfl ?_
      refine g_geti (f := 161) dX5_wiredOf_6 fl_X5_49 c.1.1.2 (by decide) rfl ?_
      rw [show zi h 161 b = jI (nA N 0) from c.2.2.1.1]
      refine g_zcmp_ge (a := ((i : Nat) : Int)) (b := (nA N 0)) (tgt := 34) (jI_nat i).symm rfl dX5_wiredOf_9 (by decide) (by omega) (by omega) (fun g => ?_) (fun g => ?_)
      · refine g_iload_n 1 dX5_wiredOf_34 rfl rfl ?_
        refine g_ireturn dX5_wiredOf_35 rfl ?_
        exact ⟨by rw [← show i = (nA N 0).toNat by omega], rfl⟩
      · exact absurd g (by omega)
    | succ n ih =>
      intro i hi
      refine g_iload_n 0 dX5_wiredOf_4 rfl rfl ?_
      refine g_aload_n 2 dX5_wiredOf_5 rfl rfl ?_
      refine g_geti (f := 161) dX5_wiredOf_6 fl_X5_49 c.1.1.2 (by decide) rfl ?_
      rw [show zi h 161 b = jI (nA N 0) from c.2.2.1.1]
      refine g_zcmp_ge (a := ((i : Nat) : Int)) (b := (nA N 0)) (tgt := 34) (jI_nat i).symm rfl dX5_wiredOf_9 (by decide) (by omega) (by omega) (fun g => ?_) (fun g => ?_)
      · exact absurd g (by omega)
      · have ha : (i : Int) < nA N 0 := by omega
        have i6 : i < 6 := by omega
        refine g_iload_n 1 dX5_wiredOf_12 rfl rfl ?_
        refine g_aload_n 2 dX5_wiredOf_13 rfl rfl ?_
        refine g_getr (f := 160) (b := b + 1) dX5_wiredOf_14 fl_X5_11 c.1.1.2 rfl c.1.2.1.1 ?_
        refine g_iload_n 0 dX5_wiredOf_17 rfl rfl ?_
        refine g_aald (t := 5) (b := b + 11 + 7 * i) dX5_wiredOf_18 c.1.2.1.2.1 rfl (fun _ => rfl) (by decide) (by rw [show zn h (b + 1) = 6 from c.1.2.1.2.2]; exact vp_in_nI (by omega) (by omega)) (by rw [nI_clamp (by omega)]; exact (c.1.2.2.2.2.2.2.2.2.1 i i6).1) ?_
        refine g_getr (f := 133) (b := b + 11 + 7 * i + 2) dX5_wiredOf_19 fl_X5_80 (c.1.2.2.2.2.2.2.2.2.1 i i6).2.1 rfl (c.1.2.2.2.2.2.2.2.2.1 i i6).2.2.2.1.1 ?_
        refine g_iload_n 3 dX5_wiredOf_22 rfl rfl ?_
        refine g_invv (M' := mX3_countOf) (As := [.int (nI f)]) (rest := [.int (nI (sumL (fun a => cntN N f false (nW N a)) i))]) dX5_wiredOf_23 ml_X5_249 okX3_countOf imX3_countOf seX3_countOf ⟨(Nat.le_of_ble_eq_true rfl), (Nat.le_of_ble_eq_true rfl)⟩ (ci := 3) rfl rfl (c.1.2.2.2.2.2.2.2.2.1 i i6).2.2.2.1.2 rfl rfl (Nat.le_of_ble_eq_true rfl) (c_countOf c (c.1.iW i6) (c.2.2.2.2.2.1.2.2.2.1 i i6).2.1 f6 (fun p hp => ⟨hI.C.memW i6 hp, hI.lst (hI.C.memW i6 hp)⟩)) ?_
        rintro _ q1 ⟨rfl, eq1⟩
        subst q1
        show zG l w mX5_wiredOf 26 [(3, .int (nI i)), (2, .int (nI (sumL (fun a => cntN N f false (nW N a)) i))), (0, .ref b), (1, .int (nI f))] [.int (nI (cntN N f false (nW N i))), .int (nI (sumL (fun a => cntN N f false (nW N a)) i))] h _
        refine g_iadd dX5_wiredOf_26 ?_
        rw [nI_add (sumL (fun a => cntN N f false (nW N a)) i) (cntN N f false (nW N i))]
        refine g_istore_n (lv2 := [(2, .int (nI (sumL (fun a => cntN N f false (nW N a)) i + cntN N f false (nW N i)))), (3, .int (nI i)), (0, .ref b), (1, .int (nI f))]) dX5_wiredOf_27 rfl (by decide) rfl ?_
        refine g_inc (v := nI (i + 1)) (lv2 := [(3, .int (nI (i + 1))), (2, .int (nI (sumL (fun a => cntN N f false (nW N a)) i + cntN N f false (nW N i)))), (0, .ref b), (1, .int (nI f))]) 1 dX5_wiredOf_28 rfl (nI_add _ 1) (by decide) rfl ?_
        refine g_goto (tgt := 4) dX5_wiredOf_31 (by decide) ?_
        exact zG.sub [0, 1, 2, 3] rfl (ih (i + 1) (by omega))
  refine g_iconst (v := nI 0) dX5_wiredOf_0 (by decide) ?_
  refine g_istore_n (lv2 := [(2, .int (nI 0)), (0, .ref b), (1, .int (nI f))]) dX5_wiredOf_1 rfl (by decide) rfl ?_
  refine g_iconst (v := nI 0) dX5_wiredOf_2 (by decide) ?_
  refine g_istore_n (lv2 := [(3, .int (nI 0)), (2, .int (nI 0)), (0, .ref b), (1, .int (nI f))]) dX5_wiredOf_3 rfl (by decide) rfl ?_
  exact zG.sub [0, 1, 2, 3] rfl (loop (nA N 0).toNat 0 (by omega))
theorem c_whereC (c : CX h b π ls N [] t) (xo : XO h x b) (hI : iN [] N) {z k : Int} (zb : -2147483648 ≤ z ∧ z < 2147483648) (kb : -2147483648 ≤ k ∧ k < 2147483648) : zM l w mX9_where [.ref x, .int (jI z), .int (jI k)] h (fun u h1 => u = some (.int (jI (qWhere N z k).2)) ∧ h1 = zSi h 290 x (jI (qWhere N z k).1)) := by
  refine zM.of (by decide) (Nat.le_of_ble_eq_true rfl) ?_
  have H0 := hI.H.1
  have H1 := hI.H.2.1
  refine g_iload_n 2 dX9_where_0 rfl rfl ?_
  refine g_zif_lt (a := k) (tgt := 9) rfl dX9_where_1 (by decide) (by omega) (fun g => ?_) (fun g => ?_)
  · refine g_aload_n 0 dX9_where_9 rfl rfl ?_
    refine g_iconst (v := nI 1) dX9_where_10 (by decide) ?_
    refine g_invv (M' := mX9_refuse) (As := [.int (nI 1)]) (rest := []) dX9_where_11 ml_X9_58 okX9_refuse imX9_refuse seX9_refuse ⟨(Nat.le_of_ble_eq_true rfl), (Nat.le_of_ble_eq_true rfl)⟩ (ci := 9) rfl rfl xo.1 rfl rfl (Nat.le_of_ble_eq_true rfl) (c_refC xo.1) ?_
    rintro _ q1 ⟨rfl, eq1⟩
    subst q1
    show zG l w mX9_where 14 [(0, .ref x), (1, .int (jI z)), (2, .int (jI k))] [.int (-1)] (zSi h 290 x (nI 1)) _
    refine g_ireturn dX9_where_14 rfl ?_
    rw [show qWhere N z k = (1, -1) by unfold qWhere; rw [if_neg (by omega)]]
    exact ⟨rfl, rfl⟩
  · refine g_iload_n 2 dX9_where_4 rfl rfl ?_
    refine g_iconst (v := nI 3) dX9_where_5 (by decide) ?_
    refine g_zcmp_le (a := k) (b := 3) (tgt := 15) rfl (by decide) dX9_where_6 (by decide) (by omega) (by omega) (fun g2 => ?_) (fun g2 => ?_)
    · refine g_aload_n 0 dX9_where_15 rfl rfl ?_
      refine g_getr (f := 293) (b := b) dX9_where_16 fl_X9_23 xo.1 rfl xo.2 ?_
      refine g_iload_n 1 dX9_where_19 rfl rfl ?_
      by_cases d : 0 ≤ z ∧ z < nA N 1
      · rw [show qWhere N z k = (0, whv N z.toNat k.toNat) by unfold qWhere; rw [if_pos (by omega), if_pos d]]
        obtain ⟨f, ef⟩ : ∃ f : Nat, z = (f : Int) := ⟨_, (Int.toNat_of_nonneg d.1).symm⟩
        subst ef
        obtain ⟨j, ej⟩ : ∃ j : Nat, k = (j : Int) := ⟨_, (Int.toNat_of_nonneg (by omega)).symm⟩
        subst ej
        simp only [jI_nat]
        have f6 : f < 6 := by omega
        refine g_invv (M' := mX5_flowAt) (As := [.int (nI f)]) (rest := []) dX9_where_20 ml_X9_127 okX5_flowAt imX5_flowAt seX5_flowAt ⟨(Nat.le_of_ble_eq_true rfl), (Nat.le_of_ble_eq_true rfl)⟩ (ci := 5) rfl rfl c.1.1.2 rfl rfl (Nat.le_of_ble_eq_true rfl) (c_flowIn c H1 d.2) ?_
        rintro _ q5 ⟨rfl, eq5⟩
        subst q5
        show zG l w mX9_where 23 [(0, .ref x), (1, .int (nI f)), (2, .int (nI j))] [.ref (b + 53 + 2 * f)] h _
        refine g_ifnonnull (tgt := 32) dX9_where_23 (by decide) ?_
        refine g_iload_n 2 dX9_where_32 rfl rfl ?_
        rcases (show j = 0 ∨ j = 1 ∨ j = 2 ∨ j = 3 by omega) with rfl | rfl | rfl | rfl
        · refine g_tableIn (off := 27) (tgt := 60) dX9_where_33 (by decide) (by decide) (by decide) (by decide) ?_
          refine g_aload_n 0 dX9_where_60 rfl rfl ?_
          refine g_aload_n 0 dX9_where_61 rfl rfl ?_
          refine g_getr (f := 293) (b := b) dX9_where_62 fl_X9_23 xo.1 rfl xo.2 ?_
          refine g_iload_n 1 dX9_where_65 rfl rfl ?_
          refine g_invv (M' := mX5_standingOf) (As := [.int (nI f)]) (rest := [.ref x]) dX9_where_66 ml_X9_183 okX5_standingOf imX5_standingOf seX5_standingOf ⟨(Nat.le_of_ble_eq_true rfl), (Nat.le_of_ble_eq_true rfl)⟩ (ci := 5) rfl rfl c.1.1.2 rfl rfl (Nat.le_of_ble_eq_true rfl) (c_standingOf c hI f6) ?_
          rintro _ q6 ⟨rfl, eq6⟩
          subst q6
          show zG l w mX9_where 69 [(0, .ref x), (1, .int (nI f)), (2, .int (nI 0))] [.int (nI (sumL (fun a => cntN N f false (nR N a)) (nA N 0).toNat)), .ref x] h _
          refine g_invv (M' := mX9_answer) (As := [.int (nI (sumL (fun a => cntN N f false (nR N a)) (nA N 0).toNat))]) (rest := []) dX9_where_69 ml_X9_75 okX9_answer imX9_answer seX9_answer ⟨(Nat.le_of_ble_eq_true rfl), (Nat.le_of_ble_eq_true rfl)⟩ (ci := 9) rfl rfl xo.1 rfl rfl (Nat.le_of_ble_eq_true rfl) (c_ans xo.1) ?_
          rintro _ q7 ⟨rfl, eq7⟩
          subst q7
          show zG l w mX9_where 72 [(0, .ref x), (1, .int (nI f)), (2, .int (nI 0))] [.int (nI (sumL (fun a => cntN N f false (nR N a)) (nA N 0).toNat))] (zSi h 290 x (nI 0)) _
          refine g_ireturn dX9_where_72 rfl ?_
          exact ⟨by rw [← jI_nat]; rfl, rfl⟩
        · refine g_tableIn (off := 40) (tgt := 73) dX9_where_33 (by decide) (by decide) (by decide) (by decide) ?_
          refine g_aload_n 0 dX9_where_73 rfl rfl ?_
          refine g_aload_n 0 dX9_where_74 rfl rfl ?_
          refine g_getr (f := 293) (b := b) dX9_where_75 fl_X9_23 xo.1 rfl xo.2 ?_
          refine g_iload_n 1 dX9_where_78 rfl rfl ?_
          refine g_invv (M' := mX5_wiredOf) (As := [.int (nI f)]) (rest := [.ref x]) dX9_where_79 ml_X9_186 okX5_wiredOf imX5_wiredOf seX5_wiredOf ⟨(Nat.le_of_ble_eq_true rfl), (Nat.le_of_ble_eq_true rfl)⟩ (ci := 5) rfl rfl c.1.1.2 rfl rfl (Nat.le_of_ble_eq_true rfl) (c_wiredOf c hI f6) ?_
          rintro _ q8 ⟨rfl, eq8⟩
          subst q8
          show zG l w mX9_where 82 [(0, .ref x), (1, .int (nI f)), (2, .int (nI 1))] [.int (nI (sumL (fun a => cntN N f false (nW N a)) (nA N 0).toNat)), .ref x] h _
          refine g_invv (M' := mX9_answer) (As := [.int (nI (sumL (fun a => cntN N f false (nW N a)) (nA N 0).toNat))]) (rest := []) dX9_where_82 ml_X9_75 okX9_answer imX9_answer seX9_answer ⟨(Nat.le_of_ble_eq_true rfl), (Nat.le_of_ble_eq_true rfl)⟩ (ci := 9) rfl rfl xo.1 rfl rfl (Nat.le_of_ble_eq_true rfl) (c_ans xo.1) ?_
          rintro _ q9 ⟨rfl, eq9⟩
          subst q9
          show zG l w mX9_where 85 [(0, .ref x), (1, .int (nI f)), (2, .int (nI 1))] [.int (nI (sumL (fun a => cntN N f false (nW N a)) (nA N 0).toNat))] (zSi h 290 x (nI 0)) _
          refine g_ireturn dX9_where_85 rfl ?_
          exact ⟨by rw [← jI_nat]; rfl, rfl⟩
        · refine g_tableIn (off := 53) (tgt := 86) dX9_where_33 (by decide) (by decide) (by decide) (by decide) ?_
          refine g_aload_n 0 dX9_where_86 rfl rfl ?_
          refine g_aload_n 0 dX9_where_87 rfl rfl ?_
          refine g_getr (f := 293) (b := b) dX9_where_88 fl_X9_23 xo.1 rfl xo.2 ?_
          refine g_getr (f := 165) (b := b + 3) dX9_where_91 fl_X9_94 c.1.1.2 rfl c.1.2.2.2.1.1 ?_
          refine g_iload_n 1 dX9_where_94 rfl rfl ?_
          refine g_invv (M' := mX3_countOf) (As := [.int (nI f)]) (rest := [.ref x]) dX9_where_95 ml_X9_189 okX3_countOf imX3_countOf seX3_countOf ⟨(Nat.le_of_ble_eq_true rfl), (Nat.le_of_ble_eq_true rfl)⟩ (ci := 3) rfl rfl c.1.2.2.2.1.2 rfl rfl (Nat.le_of_ble_eq_true rfl) (c_countOf c c.1.iK c.2.2.2.2.2.1.2.2.2.2.1.1 f6 (fun p hp => ⟨hI.C.memK hp, hI.lst (hI.C.memK hp)⟩)) ?_
          rintro _ q10 ⟨rfl, eq10⟩
          subst q10
          show zG l w mX9_where 98 [(0, .ref x), (1, .int (nI f)), (2, .int (nI 2))] [.int (nI (cntN N f false (nK N))), .ref x] h _
          refine g_invv (M' := mX9_answer) (As := [.int (nI (cntN N f false (nK N)))]) (rest := []) dX9_where_98 ml_X9_75 okX9_answer imX9_answer seX9_answer ⟨(Nat.le_of_ble_eq_true rfl), (Nat.le_of_ble_eq_true rfl)⟩ (ci := 9) rfl rfl xo.1 rfl rfl (Nat.le_of_ble_eq_true rfl) (c_ans xo.1) ?_
          rintro _ q11 ⟨rfl, eq11⟩
          subst q11
          show zG l w mX9_where 101 [(0, .ref x), (1, .int (nI f)), (2, .int (nI 2))] [.int (nI (cntN N f false (nK N)))] (zSi h 290 x (nI 0)) _
          refine g_ireturn dX9_where_101 rfl ?_
          exact ⟨by rw [← jI_nat]; rfl, rfl⟩
        · refine g_tableOut (tgt := 102) dX9_where_33 (by decide) (by decide) ?_
          refine g_aload_n 0 dX9_where_102 rfl rfl ?_
          refine g_aload_n 0 dX9_where_103 rfl rfl ?_
          refine g_getr (f := 293) (b := b) dX9_where_104 fl_X9_23 xo.1 rfl xo.2 ?_
          refine g_getr (f := 165) (b := b + 3) dX9_where_107 fl_X9_94 c.1.1.2 rfl c.1.2.2.2.1.1 ?_
          refine g_iload_n 1 dX9_where_110 rfl rfl ?_
          refine g_invv (M' := mX3_lostOf) (As := [.int (nI f)]) (rest := [.ref x]) dX9_where_111 ml_X9_192 okX3_lostOf imX3_lostOf seX3_lostOf ⟨(Nat.le_of_ble_eq_true rfl), (Nat.le_of_ble_eq_true rfl)⟩ (ci := 3) rfl rfl c.1.2.2.2.1.2 rfl rfl (Nat.le_of_ble_eq_true rfl) (c_lostOf c c.1.iK c.2.2.2.2.2.1.2.2.2.2.1.1 f6 (fun p hp => ⟨hI.C.memK hp, hI.lst (hI.C.memK hp)⟩)) ?_
          rintro _ q12 ⟨rfl, eq12⟩
          subst q12
          show zG l w mX9_where 114 [(0, .ref x), (1, .int (nI f)), (2, .int (nI 3))] [.int (nI (cntN N f true (nK N))), .ref x] h _
          refine g_invv (M' := mX9_answer) (As := [.int (nI (cntN N f true (nK N)))]) (rest := []) dX9_where_114 ml_X9_75 okX9_answer imX9_answer seX9_answer ⟨(Nat.le_of_ble_eq_true rfl), (Nat.le_of_ble_eq_true rfl)⟩ (ci := 9) rfl rfl xo.1 rfl rfl (Nat.le_of_ble_eq_true rfl) (c_ans xo.1) ?_
          rintro _ q13 ⟨rfl, eq13⟩
          subst q13
          show zG l w mX9_where 117 [(0, .ref x), (1, .int (nI f)), (2, .int (nI 3))] [.int (nI (cntN N f true (nK N)))] (zSi h 290 x (nI 0)) _
          refine g_ireturn dX9_where_117 rfl ?_
          exact ⟨by rw [← jI_nat]; rfl, rfl⟩
      · refine g_invv (M' := mX5_flowAt) (As := [.int (jI z)]) (rest := []) dX9_where_20 ml_X9_127 okX5_flowAt imX5_flowAt seX5_flowAt ⟨(Nat.le_of_ble_eq_true rfl), (Nat.le_of_ble_eq_true rfl)⟩ (ci := 5) rfl rfl c.1.1.2 rfl rfl (Nat.le_of_ble_eq_true rfl) (c_flowOut c H1 zb d) ?_
        rintro _ q3 ⟨rfl, eq3⟩
        subst q3
        show zG l w mX9_where 23 [(0, .ref x), (1, .int (jI z)), (2, .int (jI k))] [.null] h _
        refine g_ifnonnullN dX9_where_23 ?_
        refine g_aload_n 0 dX9_where_26 rfl rfl ?_
        refine g_iconst (v := nI 2) dX9_where_27 (by decide) ?_
        refine g_invv (M' := mX9_refuse) (As := [.int (nI 2)]) (rest := []) dX9_where_28 ml_X9_58 okX9_refuse imX9_refuse seX9_refuse ⟨(Nat.le_of_ble_eq_true rfl), (Nat.le_of_ble_eq_true rfl)⟩ (ci := 9) rfl rfl xo.1 rfl rfl (Nat.le_of_ble_eq_true rfl) (c_refC xo.1) ?_
        rintro _ q4 ⟨rfl, eq4⟩
        subst q4
        show zG l w mX9_where 31 [(0, .ref x), (1, .int (jI z)), (2, .int (jI k))] [.int (-1)] (zSi h 290 x (nI 2)) _
        refine g_ireturn dX9_where_31 rfl ?_
        rw [show qWhere N z k = (2, -1) by unfold qWhere; rw [if_pos (by omega), if_neg d]]
        exact ⟨rfl, rfl⟩
    · refine g_aload_n 0 dX9_where_9 rfl rfl ?_
      refine g_iconst (v := nI 1) dX9_where_10 (by decide) ?_
      refine g_invv (M' := mX9_refuse) (As := [.int (nI 1)]) (rest := []) dX9_where_11 ml_X9_58 okX9_refuse imX9_refuse seX9_refuse ⟨(Nat.le_of_ble_eq_true rfl), (Nat.le_of_ble_eq_true rfl)⟩ (ci := 9) rfl rfl xo.1 rfl rfl (Nat.le_of_ble_eq_true rfl) (c_refC xo.1) ?_
      rintro _ q2 ⟨rfl, eq2⟩
      subst q2
      show zG l w mX9_where 14 [(0, .ref x), (1, .int (jI z)), (2, .int (jI k))] [.int (-1)] (zSi h 290 x (nI 1)) _
      refine g_ireturn dX9_where_14 rfl ?_
      rw [show qWhere N z k = (1, -1) by unfold qWhere; rw [if_neg (by omega)]]
      exact ⟨rfl, rfl⟩
theorem c_whereM (r : MoN h m N) (hI : iN [] N) (hRl : ∀ a, a < 6 → (nR N a).length ≤ 90) (hWl : ∀ a, a < 6 → (nW N a).length ≤ 90) {z k : Int} (zb : -2147483648 ≤ z ∧ z < 2147483648) (kb : -2147483648 ≤ k ∧ k < 2147483648) : zM l w mX10_where [.ref m, .int (jI z), .int (jI k)] h (fun u h1 => u = some (.int (jI (qWhere N z k).2)) ∧ h1 = zSi h 321 m (jI (qWhere N z k).1)) := by
  refine zM.of (by decide) (Nat.le_of_ble_eq_true rfl) ?_
  have H0 := hI.H.1
  have H1 := hI.H.2.1
  have hB := hI.B
  refine g_iload_n 2 dX10_where_0 rfl rfl ?_
  refine g_i2l dX10_where_1 ?_
  rw [jI_l (by omega) (by omega)]
  refine g_lconst (v := jL 0) dX10_where_2 (by decide) ?_
  refine g_ldc2J (z := 3) dX10_where_3 kl_X10_134 (by decide) ?_
  refine g_invs (M' := mX10_isFrom) (As := [.long (jL k), .long (jL 0), .long (jL 3)]) (rest := []) dX10_where_6 ml_X10_252 okX10_isFrom stX10_isFrom ⟨(Nat.le_of_ble_eq_true rfl), (Nat.le_of_ble_eq_true rfl)⟩ rfl rfl (Nat.le_of_ble_eq_true rfl) (c_isFrom (by omega) (by omega) (by omega)) ?_
  rintro _ q1 ⟨rfl, eq1⟩
  subst q1
  show zG l w mX10_where 9 [(0, .ref m), (1, .int (jI z)), (2, .int (jI k))] [.int (bI (decide (0 ≤ k ∧ k ≤ 3)))] h _
  refine g_bif_ne (tgt := 18) dX10_where_9 (by decide) (fun c => ?_) (fun c => ?_)
  · have c := of_decide_eq_true c
    refine g_aload_n 0 dX10_where_18 rfl rfl ?_
    refine g_iload_n 1 dX10_where_19 rfl rfl ?_
    refine g_invv (M' := mX10_isFlow) (As := [.int (jI z)]) (rest := []) dX10_where_20 ml_X10_321 okX10_isFlow imX10_isFlow seX10_isFlow ⟨(Nat.le_of_ble_eq_true rfl), (Nat.le_of_ble_eq_true rfl)⟩ (ci := 10) rfl rfl r.1.1 rfl rfl (Nat.le_of_ble_eq_true rfl) (c_isFlow r H1 (by omega)) ?_
    rintro _ q3 ⟨rfl, eq3⟩
    subst q3
    show zG l w mX10_where 23 [(0, .ref m), (1, .int (jI z)), (2, .int (jI k))] [.int (bI (decide (0 ≤ z ∧ z < nA N 1)))] h _
    refine g_bif_ne (tgt := 32) dX10_where_23 (by decide) (fun d => ?_) (fun d => ?_)
    · have d := of_decide_eq_true d
      rw [show qWhere N z k = (0, whv N z.toNat k.toNat) by unfold qWhere; rw [if_pos c, if_pos d]]
      obtain ⟨f, ef⟩ : ∃ f : Nat, z = (f : Int) := ⟨_, (Int.toNat_of_nonneg d.1).symm⟩
      subst ef
      obtain ⟨j, ej⟩ : ∃ j : Nat, k = (j : Int) := ⟨_, (Int.toNat_of_nonneg c.1).symm⟩
      subst ej
      simp only [jI_nat]
      have f6 : f < 6 := by omega
      have l480 := hI.C.lenK
      have K480 : (nK N).length ≤ 480 := by simp at l480; omega
      refine g_iload_n 2 dX10_where_32 rfl rfl ?_
      refine g_iconst (v := nI 1) dX10_where_33 (by decide) ?_
      refine g_zcmp_le (a := ((j : Nat) : Int)) (b := 1) (tgt := 66) (jI_nat j).symm (by decide) dX10_where_34 (by decide) (by omega) (by omega) (fun g => ?_) (fun g => ?_)
      · have J : j = 0 ∨ j = 1 := by omega
        rcases J with rfl | rfl
        · have g60 : ∀ a, a < 6 → cntN N f false (nR N a) ≤ 90 := fun a ha => Nat.le_trans cnt_le (hRl a ha)
          have loop : ∀ n i : Nat, ((i + n : Nat) : Int) = nA N 0 → zG l w mX10_where 71 [(4, .int (nI i)), (3, .int (nI (sumL (fun a => cntN N f false (nR N a)) i))), (0, .ref m), (1, .int (nI f)), (2, .int (nI 0))] [] h (fun u h1 => u = some (.int (jI (0, whv N (f : Int).toNat ((0 : Nat) : Int).toNat).2)) ∧ h1 = zSi h 321 m (jI (0, whv N (f : Int).toNat ((0 : Nat) : Int).toNat).1)) := by
            intro n
            induction n with
            | zero =>
              intro i hi
              have sl := sumL_le g60 i (by omega)
              refine g_iload 0 dX10_where_71 rfl ?_
              refine g_i2l dX10_where_73 ?_
              rw [nI_l (by omega), ← jL_nat]
              refine g_aload_n 2 dX10_where_74 rfl rfl ?_
              refine g_iconst (v := nI 0) dX10_where_75 (by decide) ?_
              refine g_invv (M' := mX10_of) (As := [.int (nI 0)]) (rest := [.long (jL ((i : Nat) : Int))]) dX10_where_76 ml_X10_48 okX10_of imX10_of seX10_of ⟨(Nat.le_of_ble_eq_true rfl), (Nat.le_of_ble_eq_true rfl)⟩ (ci := 10) rfl rfl r.1.1 rfl rfl (Nat.le_of_ble_eq_true rfl) (c_ofN r (by omega) (by unfold nSp; omega)) ?_
              rintro _ q10 ⟨rfl, eq10⟩
              subst q10
              show zG l w mX10_where 79 [(4, .int (nI i)), (3, .int (nI (sumL (fun a => cntN N f false (nR N a)) i))), (0, .ref m), (1, .int (nI f)), (2, .int (nI 0))] [.long (jL (nA N 0)), .long (jL ((i : Nat) : Int))] h _
              refine g_lif_ge (a := ((i : Nat) : Int)) (b := (nA N 0)) (tgt := 143) dX10_where_79 rfl dX10_where_80 (by decide) (by omega) (by omega) (fun c1 => ?_) (fun c1 => ?_)
              · refine g_aload_n 2 dX10_where_143 rfl rfl ?_
                refine g_iload_n 1 dX10_where_144 rfl rfl ?_
                refine g_i2l dX10_where_145 ?_
                rw [nI_l (by omega), ← jL_nat]
                refine g_invv (M' := mX10_gives) (As := [.long (jL ((sumL (fun a => cntN N f false (nR N a)) i : Nat) : Int))]) (rest := []) dX10_where_146 ml_X10_298 okX10_gives imX10_gives seX10_gives ⟨(Nat.le_of_ble_eq_true rfl), (Nat.le_of_ble_eq_true rfl)⟩ (ci := 10) rfl rfl r.1.1 rfl rfl (Nat.le_of_ble_eq_true rfl) (c_gives r.1.1) ?_
                rintro _ q11 ⟨rfl, eq11⟩
                subst q11
                show zG l w mX10_where 149 [(4, .int (nI i)), (3, .int (nI (sumL (fun a => cntN N f false (nR N a)) i))), (0, .ref m), (1, .int (nI f)), (2, .int (nI 0))] [.int (jI ((sumL (fun a => cntN N f false (nR N a)) i : Nat) : Int))] (zSi h 321 m (nI 0)) _
                refine g_ireturn dX10_where_149 rfl ?_
                exact ⟨by rw [show i = (nA N 0).toNat by omega]; rfl, rfl⟩
              · exact absurd c1 (by omega)
            | succ n ih =>
              intro i hi
              refine g_iload 0 dX10_where_71 rfl ?_
              refine g_i2l dX10_where_73 ?_
              rw [nI_l (by omega), ← jL_nat]
              refine g_aload_n 2 dX10_where_74 rfl rfl ?_
              refine g_iconst (v := nI 0) dX10_where_75 (by decide) ?_
              refine g_invv (M' := mX10_of) (As := [.int (nI 0)]) (rest := [.long (jL ((i : Nat) : Int))]) dX10_where_76 ml_X10_48 okX10_of imX10_of seX10_of ⟨(Nat.le_of_ble_eq_true rfl), (Nat.le_of_ble_eq_true rfl)⟩ (ci := 10) rfl rfl r.1.1 rfl rfl (Nat.le_of_ble_eq_true rfl) (c_ofN r (by omega) (by unfold nSp; omega)) ?_
              rintro _ q12 ⟨rfl, eq12⟩
              subst q12
              show zG l w mX10_where 79 [(4, .int (nI i)), (3, .int (nI (sumL (fun a => cntN N f false (nR N a)) i))), (0, .ref m), (1, .int (nI f)), (2, .int (nI 0))] [.long (jL (nA N 0)), .long (jL ((i : Nat) : Int))] h _
              refine g_lif_ge (a := ((i : Nat) : Int)) (b := (nA N 0)) (tgt := 143) dX10_where_79 rfl dX10_where_80 (by decide) (by omega) (by omega) (fun c1 => ?_) (fun c1 => ?_)
              · exact absurd c1 (by omega)
              · have i6 : i < 6 := by omega
                refine g_iload_n 1 dX10_where_83 rfl rfl ?_
                refine g_iload_n 4 dX10_where_84 rfl rfl ?_
                refine g_zif_ne (a := 0) (tgt := 113) (by decide) dX10_where_85 (by decide) (by omega) (fun k0 => ?_) (fun k0 => ?_)
                · exact absurd k0 (by omega)
                · refine g_aload_n 2 dX10_where_88 rfl rfl ?_
                  refine g_iload_n 3 dX10_where_89 rfl rfl ?_
                  refine g_sipush (v := nI 4208) dX10_where_90 (by decide) ?_
                  refine g_bipush (v := nI 60) dX10_where_93 (by decide) ?_
                  refine g_iload 0 dX10_where_95 rfl ?_
                  refine g_imul dX10_where_97 ?_
                  rw [pk_mul 60 i]
                  refine g_iadd dX10_where_98 ?_
                  rw [nI_add 4208 (60 * i)]
                  refine g_aload_n 2 dX10_where_99 rfl rfl ?_
                  refine g_iload 0 dX10_where_100 rfl ?_
                  refine g_iconst (v := nI 4) dX10_where_102 (by decide) ?_
                  refine g_invv (M' := mX10_ofLink) (As := [.int (nI i), .int (nI 4)]) (rest := [.int (nI (4208 + 60 * i)), .int (nI f), .ref m, .int (nI (sumL (fun a => cntN N f false (nR N a)) i))]) dX10_where_103 ml_X10_69 okX10_ofLink imX10_ofLink seX10_ofLink ⟨(Nat.le_of_ble_eq_true rfl), (Nat.le_of_ble_eq_true rfl)⟩ (ci := 10) rfl rfl r.1.1 rfl rfl (Nat.le_of_ble_eq_true rfl) (c_ofStood r (by omega)) ?_
                  rintro _ q13 ⟨rfl, eq13⟩
                  subst q13
                  show zG l w mX10_where 106 [(4, .int (nI i)), (3, .int (nI (sumL (fun a => cntN N f false (nR N a)) i))), (0, .ref m), (1, .int (nI f)), (2, .int (nI 0))] [.long (lN (nR N i).length), .int (nI (4208 + 60 * i)), .int (nI f), .ref m, .int (nI (sumL (fun a => cntN N f false (nR N a)) i))] h _
                  rw [← jL_nat]
                  refine g_iconst (v := bI false) dX10_where_106 (by decide) ?_
                  refine g_invv (M' := mX10_among) (As := [.int (nI f), .int (nI (4208 + 60 * i)), .long (jL (((nR N i).length : Nat) : Int)), .int (bI false)]) (rest := [.int (nI (sumL (fun a => cntN N f false (nR N a)) i))]) dX10_where_107 ml_X10_327 okX10_among imX10_among seX10_among ⟨(Nat.le_of_ble_eq_true rfl), (Nat.le_of_ble_eq_true rfl)⟩ (ci := 10) rfl rfl r.1.1 rfl rfl (Nat.le_of_ble_eq_true rfl) (c_among r f6 (q := 4208 + 60 * i) (L := nR N i) (bb := false) (by have := hRl i i6; omega) (fun j p hp => r.2.1.2.2.2.1 i i6 j p hp) (fun p hp => ⟨(hI.C.memR i6 hp).1, hI.lst (hI.C.memR i6 hp)⟩)) ?_
                  rintro _ q14 ⟨rfl, eq14⟩
                  subst q14
                  show zG l w mX10_where 110 [(4, .int (nI i)), (3, .int (nI (sumL (fun a => cntN N f false (nR N a)) i))), (0, .ref m), (1, .int (nI f)), (2, .int (nI 0))] [.int (nI (cntN N f false (nR N i))), .int (nI (sumL (fun a => cntN N f false (nR N a)) i))] h _
                  refine g_goto (tgt := 135) dX10_where_110 (by decide) ?_
                  refine g_iadd dX10_where_135 ?_
                  rw [nI_add (sumL (fun a => cntN N f false (nR N a)) i) (cntN N f false (nR N i))]
                  refine g_istore_n (lv2 := [(3, .int (nI (sumL (fun a => cntN N f false (nR N a)) i + cntN N f false (nR N i)))), (4, .int (nI i)), (0, .ref m), (1, .int (nI f)), (2, .int (nI 0))]) dX10_where_136 rfl (by decide) rfl ?_
                  refine g_inc (v := nI (i + 1)) (lv2 := [(4, .int (nI (i + 1))), (3, .int (nI (sumL (fun a => cntN N f false (nR N a)) i + cntN N f false (nR N i)))), (0, .ref m), (1, .int (nI f)), (2, .int (nI 0))]) 1 dX10_where_137 rfl (nI_add _ 1) (by decide) rfl ?_
                  refine g_goto (tgt := 71) dX10_where_140 (by decide) ?_
                  exact zG.sub [0, 1, 2, 3, 4] rfl (ih (i + 1) (by omega))
          refine g_iconst (v := nI 0) dX10_where_66 (by decide) ?_
          refine g_istore_n (lv2 := [(3, .int (nI 0)), (0, .ref m), (1, .int (nI f)), (2, .int (nI 0))]) dX10_where_67 rfl (by decide) rfl ?_
          refine g_iconst (v := nI 0) dX10_where_68 (by decide) ?_
          refine g_istore (lv2 := [(4, .int (nI 0)), (3, .int (nI 0)), (0, .ref m), (1, .int (nI f)), (2, .int (nI 0))]) dX10_where_69 (by decide) rfl ?_
          exact zG.sub [0, 1, 2, 3, 4] rfl (loop (nA N 0).toNat 0 (by omega))
        · have g60 : ∀ a, a < 6 → cntN N f false (nW N a) ≤ 90 := fun a ha => Nat.le_trans cnt_le (hWl a ha)
          have loop : ∀ n i : Nat, ((i + n : Nat) : Int) = nA N 0 → zG l w mX10_where 71 [(4, .int (nI i)), (3, .int (nI (sumL (fun a => cntN N f false (nW N a)) i))), (0, .ref m), (1, .int (nI f)), (2, .int (nI 1))] [] h (fun u h1 => u = some (.int (jI (0, whv N (f : Int).toNat ((1 : Nat) : Int).toNat).2)) ∧ h1 = zSi h 321 m (jI (0, whv N (f : Int).toNat ((1 : Nat) : Int).toNat).1)) := by
            intro n
            induction n with
            | zero =>
              intro i hi
              have sl := sumL_le g60 i (by omega)
              refine g_iload 0 dX10_where_71 rfl ?_
              refine g_i2l dX10_where_73 ?_
              rw [nI_l (by omega), ← jL_nat]
              refine g_aload_n 2 dX10_where_74 rfl rfl ?_
              refine g_iconst (v := nI 0) dX10_where_75 (by decide) ?_
              refine g_invv (M' := mX10_of) (As := [.int (nI 0)]) (rest := [.long (jL ((i : Nat) : Int))]) dX10_where_76 ml_X10_48 okX10_of imX10_of seX10_of ⟨(Nat.le_of_ble_eq_true rfl), (Nat.le_of_ble_eq_true rfl)⟩ (ci := 10) rfl rfl r.1.1 rfl rfl (Nat.le_of_ble_eq_true rfl) (c_ofN r (by omega) (by unfold nSp; omega)) ?_
              rintro _ q15 ⟨rfl, eq15⟩
              subst q15
              show zG l w mX10_where 79 [(4, .int (nI i)), (3, .int (nI (sumL (fun a => cntN N f false (nW N a)) i))), (0, .ref m), (1, .int (nI f)), (2, .int (nI 1))] [.long (jL (nA N 0)), .long (jL ((i : Nat) : Int))] h _
              refine g_lif_ge (a := ((i : Nat) : Int)) (b := (nA N 0)) (tgt := 143) dX10_where_79 rfl dX10_where_80 (by decide) (by omega) (by omega) (fun c1 => ?_) (fun c1 => ?_)
              · refine g_aload_n 2 dX10_where_143 rfl rfl ?_
                refine g_iload_n 1 dX10_where_144 rfl rfl ?_
                refine g_i2l dX10_where_145 ?_
                rw [nI_l (by omega), ← jL_nat]
                refine g_invv (M' := mX10_gives) (As := [.long (jL ((sumL (fun a => cntN N f false (nW N a)) i : Nat) : Int))]) (rest := []) dX10_where_146 ml_X10_298 okX10_gives imX10_gives seX10_gives ⟨(Nat.le_of_ble_eq_true rfl), (Nat.le_of_ble_eq_true rfl)⟩ (ci := 10) rfl rfl r.1.1 rfl rfl (Nat.le_of_ble_eq_true rfl) (c_gives r.1.1) ?_
                rintro _ q16 ⟨rfl, eq16⟩
                subst q16
                show zG l w mX10_where 149 [(4, .int (nI i)), (3, .int (nI (sumL (fun a => cntN N f false (nW N a)) i))), (0, .ref m), (1, .int (nI f)), (2, .int (nI 1))] [.int (jI ((sumL (fun a => cntN N f false (nW N a)) i : Nat) : Int))] (zSi h 321 m (nI 0)) _
                refine g_ireturn dX10_where_149 rfl ?_
                exact ⟨by rw [show i = (nA N 0).toNat by omega]; rfl, rfl⟩
              · exact absurd c1 (by omega)
            | succ n ih =>
              intro i hi
              refine g_iload 0 dX10_where_71 rfl ?_
              refine g_i2l dX10_where_73 ?_
              rw [nI_l (by omega), ← jL_nat]
              refine g_aload_n 2 dX10_where_74 rfl rfl ?_
              refine g_iconst (v := nI 0) dX10_where_75 (by decide) ?_
              refine g_invv (M' := mX10_of) (As := [.int (nI 0)]) (rest := [.long (jL ((i : Nat) : Int))]) dX10_where_76 ml_X10_48 okX10_of imX10_of seX10_of ⟨(Nat.le_of_ble_eq_true rfl), (Nat.le_of_ble_eq_true rfl)⟩ (ci := 10) rfl rfl r.1.1 rfl rfl (Nat.le_of_ble_eq_true rfl) (c_ofN r (by omega) (by unfold nSp; omega)) ?_
              rintro _ q17 ⟨rfl, eq17⟩
              subst q17
              show zG l w mX10_where 79 [(4, .int (nI i)), (3, .int (nI (sumL (fun a => cntN N f false (nW N a)) i))), (0, .ref m), (1, .int (nI f)), (2, .int (nI 1))] [.long (jL (nA N 0)), .long (jL ((i : Nat) : Int))] h _
              refine g_lif_ge (a := ((i : Nat) : Int)) (b := (nA N 0)) (tgt := 143) dX10_where_79 rfl dX10_where_80 (by decide) (by omega) (by omega) (fun c1 => ?_) (fun c1 => ?_)
              · exact absurd c1 (by omega)
              · have i6 : i < 6 := by omega
                refine g_iload_n 1 dX10_where_83 rfl rfl ?_
                refine g_iload_n 4 dX10_where_84 rfl rfl ?_
                refine g_zif_ne (a := 1) (tgt := 113) (by decide) dX10_where_85 (by decide) (by omega) (fun k0 => ?_) (fun k0 => ?_)
                · refine g_aload_n 2 dX10_where_113 rfl rfl ?_
                  refine g_iload_n 3 dX10_where_114 rfl rfl ?_
                  refine g_sipush (v := nI 4568) dX10_where_115 (by decide) ?_
                  refine g_bipush (v := nI 90) dX10_where_118 (by decide) ?_
                  refine g_iload 0 dX10_where_120 rfl ?_
                  refine g_imul dX10_where_122 ?_
                  rw [pk_mul 90 i]
                  refine g_iadd dX10_where_123 ?_
                  rw [nI_add 4568 (90 * i)]
                  refine g_aload_n 2 dX10_where_124 rfl rfl ?_
                  refine g_iload 0 dX10_where_125 rfl ?_
                  refine g_iconst (v := nI 5) dX10_where_127 (by decide) ?_
                  refine g_invv (M' := mX10_ofLink) (As := [.int (nI i), .int (nI 5)]) (rest := [.int (nI (4568 + 90 * i)), .int (nI f), .ref m, .int (nI (sumL (fun a => cntN N f false (nW N a)) i))]) dX10_where_128 ml_X10_69 okX10_ofLink imX10_ofLink seX10_ofLink ⟨(Nat.le_of_ble_eq_true rfl), (Nat.le_of_ble_eq_true rfl)⟩ (ci := 10) rfl rfl r.1.1 rfl rfl (Nat.le_of_ble_eq_true rfl) (c_ofWired r (by omega)) ?_
                  rintro _ q18 ⟨rfl, eq18⟩
                  subst q18
                  show zG l w mX10_where 131 [(4, .int (nI i)), (3, .int (nI (sumL (fun a => cntN N f false (nW N a)) i))), (0, .ref m), (1, .int (nI f)), (2, .int (nI 1))] [.long (lN (nW N i).length), .int (nI (4568 + 90 * i)), .int (nI f), .ref m, .int (nI (sumL (fun a => cntN N f false (nW N a)) i))] h _
                  rw [← jL_nat]
                  refine g_iconst (v := bI false) dX10_where_131 (by decide) ?_
                  refine g_invv (M' := mX10_among) (As := [.int (nI f), .int (nI (4568 + 90 * i)), .long (jL (((nW N i).length : Nat) : Int)), .int (bI false)]) (rest := [.int (nI (sumL (fun a => cntN N f false (nW N a)) i))]) dX10_where_132 ml_X10_327 okX10_among imX10_among seX10_among ⟨(Nat.le_of_ble_eq_true rfl), (Nat.le_of_ble_eq_true rfl)⟩ (ci := 10) rfl rfl r.1.1 rfl rfl (Nat.le_of_ble_eq_true rfl) (c_among r f6 (q := 4568 + 90 * i) (L := nW N i) (bb := false) (by have := hWl i i6; omega) (fun j p hp => r.2.1.2.2.2.2.1 i i6 j p hp) (fun p hp => ⟨(hI.C.memW i6 hp).1, hI.lst (hI.C.memW i6 hp)⟩)) ?_
                  rintro _ q19 ⟨rfl, eq19⟩
                  subst q19
                  show zG l w mX10_where 135 [(4, .int (nI i)), (3, .int (nI (sumL (fun a => cntN N f false (nW N a)) i))), (0, .ref m), (1, .int (nI f)), (2, .int (nI 1))] [.int (nI (cntN N f false (nW N i))), .int (nI (sumL (fun a => cntN N f false (nW N a)) i))] h _
                  refine g_iadd dX10_where_135 ?_
                  rw [nI_add (sumL (fun a => cntN N f false (nW N a)) i) (cntN N f false (nW N i))]
                  refine g_istore_n (lv2 := [(3, .int (nI (sumL (fun a => cntN N f false (nW N a)) i + cntN N f false (nW N i)))), (4, .int (nI i)), (0, .ref m), (1, .int (nI f)), (2, .int (nI 1))]) dX10_where_136 rfl (by decide) rfl ?_
                  refine g_inc (v := nI (i + 1)) (lv2 := [(4, .int (nI (i + 1))), (3, .int (nI (sumL (fun a => cntN N f false (nW N a)) i + cntN N f false (nW N i)))), (0, .ref m), (1, .int (nI f)), (2, .int (nI 1))]) 1 dX10_where_137 rfl (nI_add _ 1) (by decide) rfl ?_
                  refine g_goto (tgt := 71) dX10_where_140 (by decide) ?_
                  exact zG.sub [0, 1, 2, 3, 4] rfl (ih (i + 1) (by omega))
                · exact absurd k0 (by omega)
          refine g_iconst (v := nI 0) dX10_where_66 (by decide) ?_
          refine g_istore_n (lv2 := [(3, .int (nI 0)), (0, .ref m), (1, .int (nI f)), (2, .int (nI 1))]) dX10_where_67 rfl (by decide) rfl ?_
          refine g_iconst (v := nI 0) dX10_where_68 (by decide) ?_
          refine g_istore (lv2 := [(4, .int (nI 0)), (3, .int (nI 0)), (0, .ref m), (1, .int (nI f)), (2, .int (nI 1))]) dX10_where_69 (by decide) rfl ?_
          exact zG.sub [0, 1, 2, 3, 4] rfl (loop (nA N 0).toNat 0 (by omega))
      · refine g_aload_n 0 dX10_where_37 rfl rfl ?_
        refine g_aload_n 0 dX10_where_38 rfl rfl ?_
        refine g_iload_n 1 dX10_where_39 rfl rfl ?_
        refine g_sipush (v := nI 5108) dX10_where_40 (by decide) ?_
        refine g_aload_n 0 dX10_where_43 rfl rfl ?_
        refine g_iconst (v := nI 5) dX10_where_44 (by decide) ?_
        refine g_invv (M' := mX10_of) (As := [.int (nI 5)]) (rest := [.int (nI 5108), .int (nI f), .ref m, .ref m]) dX10_where_45 ml_X10_48 okX10_of imX10_of seX10_of ⟨(Nat.le_of_ble_eq_true rfl), (Nat.le_of_ble_eq_true rfl)⟩ (ci := 10) rfl rfl r.1.1 rfl rfl (Nat.le_of_ble_eq_true rfl) (c_ofBack r) ?_
        rintro _ q5 ⟨rfl, eq5⟩
        subst q5
        show zG l w mX10_where 48 [(0, .ref m), (1, .int (nI f)), (2, .int (nI j))] [.long (lN (nK N).length), .int (nI 5108), .int (nI f), .ref m, .ref m] h _
        rw [← jL_nat]
        refine g_iload_n 2 dX10_where_48 rfl rfl ?_
        refine g_iconst (v := nI 3) dX10_where_49 (by decide) ?_
        refine g_zcmp_ne (a := ((j : Nat) : Int)) (b := 3) (tgt := 57) (jI_nat j).symm (by decide) dX10_where_50 (by decide) (by omega) (by omega) (fun g3 => ?_) (fun g3 => ?_)
        · have ej : j = 2 := by omega
          subst ej
          refine g_iconst (v := bI false) dX10_where_57 (by decide) ?_
          refine g_invv (M' := mX10_among) (As := [.int (nI f), .int (nI 5108), .long (jL (((nK N).length : Nat) : Int)), .int (bI false)]) (rest := [.ref m]) dX10_where_58 ml_X10_327 okX10_among imX10_among seX10_among ⟨(Nat.le_of_ble_eq_true rfl), (Nat.le_of_ble_eq_true rfl)⟩ (ci := 10) rfl rfl r.1.1 rfl rfl (Nat.le_of_ble_eq_true rfl) (c_among r f6 (q := 5108) (bb := false) (by omega) (fun j p hp => r.2.1.2.2.2.2.2.1 j p hp) (fun p hp => ⟨(hI.C.memK hp).1, hI.lst (hI.C.memK hp)⟩)) ?_
          rintro _ q6 ⟨rfl, eq6⟩
          subst q6
          show zG l w mX10_where 61 [(0, .ref m), (1, .int (nI f)), (2, .int (nI 2))] [.int (nI (cntN N f false (nK N))), .ref m] h _
          have cl := @cnt_le N f false (nK N)
          refine g_i2l dX10_where_61 ?_
          rw [nI_l (by omega), ← jL_nat]
          refine g_invv (M' := mX10_gives) (As := [.long (jL ((cntN N f false (nK N) : Nat) : Int))]) (rest := []) dX10_where_62 ml_X10_298 okX10_gives imX10_gives seX10_gives ⟨(Nat.le_of_ble_eq_true rfl), (Nat.le_of_ble_eq_true rfl)⟩ (ci := 10) rfl rfl r.1.1 rfl rfl (Nat.le_of_ble_eq_true rfl) (c_gives r.1.1) ?_
          rintro _ q7 ⟨rfl, eq7⟩
          subst q7
          show zG l w mX10_where 65 [(0, .ref m), (1, .int (nI f)), (2, .int (nI 2))] [.int (jI ((cntN N f false (nK N) : Nat) : Int))] (zSi h 321 m (nI 0)) _
          refine g_ireturn dX10_where_65 rfl ?_
          exact ⟨rfl, rfl⟩
        · have ej : j = 3 := by omega
          subst ej
          refine g_iconst (v := bI true) dX10_where_53 (by decide) ?_
          refine g_goto (tgt := 58) dX10_where_54 (by decide) ?_
          refine g_invv (M' := mX10_among) (As := [.int (nI f), .int (nI 5108), .long (jL (((nK N).length : Nat) : Int)), .int (bI true)]) (rest := [.ref m]) dX10_where_58 ml_X10_327 okX10_among imX10_among seX10_among ⟨(Nat.le_of_ble_eq_true rfl), (Nat.le_of_ble_eq_true rfl)⟩ (ci := 10) rfl rfl r.1.1 rfl rfl (Nat.le_of_ble_eq_true rfl) (c_among r f6 (q := 5108) (bb := true) (by omega) (fun j p hp => r.2.1.2.2.2.2.2.1 j p hp) (fun p hp => ⟨(hI.C.memK hp).1, hI.lst (hI.C.memK hp)⟩)) ?_
          rintro _ q8 ⟨rfl, eq8⟩
          subst q8
          show zG l w mX10_where 61 [(0, .ref m), (1, .int (nI f)), (2, .int (nI 3))] [.int (nI (cntN N f true (nK N))), .ref m] h _
          have cl := @cnt_le N f true (nK N)
          refine g_i2l dX10_where_61 ?_
          rw [nI_l (by omega), ← jL_nat]
          refine g_invv (M' := mX10_gives) (As := [.long (jL ((cntN N f true (nK N) : Nat) : Int))]) (rest := []) dX10_where_62 ml_X10_298 okX10_gives imX10_gives seX10_gives ⟨(Nat.le_of_ble_eq_true rfl), (Nat.le_of_ble_eq_true rfl)⟩ (ci := 10) rfl rfl r.1.1 rfl rfl (Nat.le_of_ble_eq_true rfl) (c_gives r.1.1) ?_
          rintro _ q9 ⟨rfl, eq9⟩
          subst q9
          show zG l w mX10_where 65 [(0, .ref m), (1, .int (nI f)), (2, .int (nI 3))] [.int (jI ((cntN N f true (nK N) : Nat) : Int))] (zSi h 321 m (nI 0)) _
          refine g_ireturn dX10_where_65 rfl ?_
          exact ⟨rfl, rfl⟩
    · have d := of_decide_eq_false d
      refine g_aload_n 0 dX10_where_26 rfl rfl ?_
      refine g_iconst (v := nI 2) dX10_where_27 (by decide) ?_
      refine g_invv (M' := mX10_refuse) (As := [.int (nI 2)]) (rest := []) dX10_where_28 ml_X10_289 okX10_refuse imX10_refuse seX10_refuse ⟨(Nat.le_of_ble_eq_true rfl), (Nat.le_of_ble_eq_true rfl)⟩ (ci := 10) rfl rfl r.1.1 rfl rfl (Nat.le_of_ble_eq_true rfl) (c_refuse r.1.1) ?_
      rintro _ q4 ⟨rfl, eq4⟩
      subst q4
      show zG l w mX10_where 31 [(0, .ref m), (1, .int (jI z)), (2, .int (jI k))] [.int (-1)] (zSi h 321 m (nI 2)) _
      refine g_ireturn dX10_where_31 rfl ?_
      rw [show qWhere N z k = (2, -1) by unfold qWhere; rw [if_pos c, if_neg d]]
      exact ⟨rfl, rfl⟩
  · have c := of_decide_eq_false c
    refine g_aload_n 0 dX10_where_12 rfl rfl ?_
    refine g_iconst (v := nI 1) dX10_where_13 (by decide) ?_
    refine g_invv (M' := mX10_refuse) (As := [.int (nI 1)]) (rest := []) dX10_where_14 ml_X10_289 okX10_refuse imX10_refuse seX10_refuse ⟨(Nat.le_of_ble_eq_true rfl), (Nat.le_of_ble_eq_true rfl)⟩ (ci := 10) rfl rfl r.1.1 rfl rfl (Nat.le_of_ble_eq_true rfl) (c_refuse r.1.1) ?_
    rintro _ q2 ⟨rfl, eq2⟩
    subst q2
    show zG l w mX10_where 17 [(0, .ref m), (1, .int (jI z)), (2, .int (jI k))] [.int (-1)] (zSi h 321 m (nI 1)) _
    refine g_ireturn dX10_where_17 rfl ?_
    rw [show qWhere N z k = (1, -1) by unfold qWhere; rw [if_neg c]]
    exact ⟨rfl, rfl⟩
end QF
