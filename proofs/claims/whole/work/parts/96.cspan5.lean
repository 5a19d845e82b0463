section DA1
variable {l : Launch} {w : zW} {h : zH} {b : Nat} {π : Nat → Nat} {ls : Nat → List Nat} {N : nT} {X : List Nat} {t a : Nat}
theorem has_nat {s f : Nat} : hasN (s : Int) f = decide (s / 2 ^ f % 2 = 1) := by
  unfold hasN
  apply decide_eq_decide.mpr
  have e : ((s / 2 ^ f % 2 : Nat) : Int) = (s : Int) / 2 ^ f % 2 := by simp
  omega
theorem c_tellCaught (c : CX h b π ls (esN N a) [] t) (hI : iN [] N) (ha : (a : Int) < nA N 0) {s0 s1 : Nat} (h0 : nA N (8 + 40 * a + 14) = (s0 : Int)) (h1 : csN N a 6 = (s1 : Int)) : zM l w mX5_tellCaught [.ref b, .int (nI a), .int (nI s0), .int (nI s1)] h (fun v h1 => v = none ∧ CX h1 b π ls (spanN N a) [] t ∧ CSt b ls h ls h1) := by
  refine zM.of (by decide) (Nat.le_of_ble_eq_true rfl) ?_
  have H0 := hI.H.1
  have H1 := hI.H.2.1
  have a6 : a < 6 := by omega
  have en1 : nA (esN N a) 1 = nA N 1 := (es_ne (by omega) (by omega) (by omega) (by omega) (by omega) (by omega) (by omega) (by omega)).trans (sp1_ne (by omega))
  have en2 : nA (esN N a) 2 = nA N 2 := (es_ne (by omega) (by omega) (by omega) (by omega) (by omega) (by omega) (by omega) (by omega)).trans (sp1_ne (by omega))
  have s64 : s0 < 64 := by have q := (hI.L a ha).2.2.2.1.1; omega
  have t64 : s1 < 64 := by
    have q := @csN_bd N a 6
    have e : (2 : Int) ^ 6 = 64 := by decide
    omega
  have loop : ∀ n i : Nat, ((i + n : Nat) : Int) = nA N 1 → ∀ (h' : zH), CX h' b π ls (uE (esN N a) (tcE N a (nE N) i)) [] t → CSt b ls h ls h' → zG l w mX5_tellCaught 3 [(4, .int (nI i)), (0, .ref b), (1, .int (nI a)), (2, .int (nI s0)), (3, .int (nI s1))] [] h' (fun v h1 => v = none ∧ CX h1 b π ls (spanN N a) [] t ∧ CSt b ls h ls h1) := by
    intro n
    induction n with
    | zero =>
      intro i hi h' c' s'
      refine g_iload 0 dX5_tellCaught_3 rfl ?_
      refine g_aload_n 1 dX5_tellCaught_5 rfl rfl ?_
      refine g_geti (f := 163) dX5_tellCaught_6 fl_X5_53 c'.1.1.2 (by decide) rfl ?_
      rw [show zi h' 163 b = jI (nA (uE (esN N a) (tcE N a (nE N) i)) 1) from c'.2.2.1.2.1]
      rw [show nA (uE (esN N a) (tcE N a (nE N) i)) 1 = nA N 1 from en1]
      refine g_zcmp_ge (a := ((i : Nat) : Int)) (b := (nA N 1)) (tgt := 66) (jI_nat i).symm rfl dX5_tellCaught_9 (by decide) (by omega) (by omega) (fun q => ?_) (fun q => ?_)
      · refine g_return dX5_tellCaught_66 rfl ?_
        refine ⟨rfl, ?_, s'⟩
        rw [← span_eq hI ha, ← show i = (nA N 1).toNat by omega]
        exact c'
      · exact absurd q (by omega)
    | succ n ih =>
      intro i hi h' c' s'
      refine g_iload 0 dX5_tellCaught_3 rfl ?_
      refine g_aload_n 1 dX5_tellCaught_5 rfl rfl ?_
      refine g_geti (f := 163) dX5_tellCaught_6 fl_X5_53 c'.1.1.2 (by decide) rfl ?_
      rw [show zi h' 163 b = jI (nA (uE (esN N a) (tcE N a (nE N) i)) 1) from c'.2.2.1.2.1]
      rw [show nA (uE (esN N a) (tcE N a (nE N) i)) 1 = nA N 1 from en1]
      refine g_zcmp_ge (a := ((i : Nat) : Int)) (b := (nA N 1)) (tgt := 66) (jI_nat i).symm rfl dX5_tellCaught_9 (by decide) (by omega) (by omega) (fun q => ?_) (fun q => ?_)
      · exact absurd q (by omega)
      · have i6 : i < 6 := by omega
        have B0 : hasN (nA N (8 + 40 * a + 14)) i = decide (s0 / 2 ^ i % 2 = 1) := by rw [h0]; exact has_nat
        have B1 : isN N a i = decide (s1 / 2 ^ i % 2 = 1) := by rw [← csN_bits 6 (Nat.le_refl _) i i6, h1]; exact has_nat
        have m0 : s0 / 2 ^ i % 2 < 2 := Nat.mod_lt _ (by decide)
        have m1 : s1 / 2 ^ i % 2 < 2 := Nat.mod_lt _ (by decide)
        refine g_iload_n 3 dX5_tellCaught_12 rfl rfl ?_
        refine g_iload 0 dX5_tellCaught_13 rfl ?_
        refine g_ishr dX5_tellCaught_15 ?_
        refine g_iconst (v := nI 1) dX5_tellCaught_16 (by decide) ?_
        refine g_iand dX5_tellCaught_17 ?_
        refine zG.top (has_calI s0 s64 i i6) ?_
        refine g_istore (lv2 := [(5, .int (nI (s0 / 2 ^ i % 2))), (4, .int (nI i)), (0, .ref b), (1, .int (nI a)), (2, .int (nI s0)), (3, .int (nI s1))]) dX5_tellCaught_18 (by decide) rfl ?_
        refine g_iload_n 5 dX5_tellCaught_20 rfl rfl ?_
        refine g_iload 1 dX5_tellCaught_21 rfl ?_
        refine g_ishr dX5_tellCaught_23 ?_
        refine g_iconst (v := nI 1) dX5_tellCaught_24 (by decide) ?_
        refine g_iand dX5_tellCaught_25 ?_
        refine zG.top (has_calI s1 t64 i i6) ?_
        refine g_istore (lv2 := [(6, .int (nI (s1 / 2 ^ i % 2))), (5, .int (nI (s0 / 2 ^ i % 2))), (4, .int (nI i)), (0, .ref b), (1, .int (nI a)), (2, .int (nI s0)), (3, .int (nI s1))]) dX5_tellCaught_26 (by decide) rfl ?_
        refine g_iload 1 dX5_tellCaught_28 rfl ?_
        refine g_iload 0 dX5_tellCaught_30 rfl ?_
        refine g_zcmp_eq (a := ((s0 / 2 ^ i % 2 : Nat) : Int)) (b := ((s1 / 2 ^ i % 2 : Nat) : Int)) (tgt := 60) (jI_nat (s0 / 2 ^ i % 2)).symm (jI_nat (s1 / 2 ^ i % 2)).symm dX5_tellCaught_32 (by decide) (by omega) (by omega) (fun g => ?_) (fun g => ?_)
        · refine g_inc (v := nI (i + 1)) (lv2 := [(4, .int (nI (i + 1))), (6, .int (nI (s1 / 2 ^ i % 2))), (5, .int (nI (s0 / 2 ^ i % 2))), (0, .ref b), (1, .int (nI a)), (2, .int (nI s0)), (3, .int (nI s1))]) 2 dX5_tellCaught_60 rfl (nI_add _ 1) (by decide) rfl ?_
          refine g_goto (tgt := 3) dX5_tellCaught_63 (by decide) ?_
          refine zG.sub [0, 3, 4, 5, 6] rfl (ih (i + 1) (by omega) h' ?_ s')
          have e : tcE N a (nE N) (i + 1) = tcE N a (nE N) i := by rw [tcE, if_pos (by rw [B0, B1]; apply decide_eq_decide.mpr; omega)]
          rw [e]
          exact c'
        · refine g_aload_n 3 dX5_tellCaught_35 rfl rfl ?_
          refine g_getr (f := 168) (b := b + 5) dX5_tellCaught_36 fl_X5_36 c'.1.1.2 rfl c'.1.2.2.2.2.2.1.1 ?_
          refine g_iload 0 dX5_tellCaught_39 rfl ?_
          refine g_iconst (v := nI 1) dX5_tellCaught_41 (by decide) ?_
          refine g_zcmp_ne (a := ((s1 / 2 ^ i % 2 : Nat) : Int)) (b := 1) (tgt := 49) (jI_nat (s1 / 2 ^ i % 2)).symm (by decide) dX5_tellCaught_42 (by decide) (by omega) (by omega) (fun k => ?_) (fun k => ?_)
          · refine g_iconst (v := nI 2) dX5_tellCaught_49 (by decide) ?_
            refine g_aload_n 3 dX5_tellCaught_50 rfl rfl ?_
            refine g_geti (f := 164) dX5_tellCaught_51 fl_X5_56 c'.1.1.2 (by decide) rfl ?_
            rw [show zi h' 164 b = jI (nA (uE (esN N a) (tcE N a (nE N) i)) 2) from c'.2.2.1.2.2.1]
            refine g_iload_n 4 dX5_tellCaught_54 rfl rfl ?_
            refine g_iload 2 dX5_tellCaught_55 rfl ?_
            refine g_invv (M' := mX1_add) (As := [.int (nI 2), .int (jI (nA (uE (esN N a) (tcE N a (nE N) i)) 2)), .int (nI a), .int (nI i)]) (rest := []) dX5_tellCaught_57 ml_X5_187 okX1_add imX1_add seX1_add ⟨(Nat.le_of_ble_eq_true rfl), (Nat.le_of_ble_eq_true rfl)⟩ (ci := 1) rfl rfl c'.1.2.2.2.2.2.1.2 rfl rfl (Nat.le_of_ble_eq_true rfl) (c_evN c' (k := 2) (q := a) (f := i) (tcE_len hI.E.1 i)) ?_
            rintro _ y1 ⟨rfl, cx1, sx1⟩
            show zG l w mX5_tellCaught 60 [(6, .int (nI (s1 / 2 ^ i % 2))), (5, .int (nI (s0 / 2 ^ i % 2))), (4, .int (nI i)), (0, .ref b), (1, .int (nI a)), (2, .int (nI s0)), (3, .int (nI s1))] [] y1 _
            refine g_inc (v := nI (i + 1)) (lv2 := [(4, .int (nI (i + 1))), (6, .int (nI (s1 / 2 ^ i % 2))), (5, .int (nI (s0 / 2 ^ i % 2))), (0, .ref b), (1, .int (nI a)), (2, .int (nI s0)), (3, .int (nI s1))]) 2 dX5_tellCaught_60 rfl (nI_add _ 1) (by decide) rfl ?_
            refine g_goto (tgt := 3) dX5_tellCaught_63 (by decide) ?_
            refine zG.sub [0, 3, 4, 5, 6] rfl (ih (i + 1) (by omega) y1 ?_ (s'.tr sx1))
            have e : tcE N a (nE N) (i + 1) = evL (tcE N a (nE N) i) (2, nA N 2, (a : Int), (i : Int)) := by
              rw [tcE, if_neg (by rw [B0, B1]; intro z; have z := decide_eq_decide.mp z; omega), B1, decide_eq_false (by omega), if_neg (by decide)]
            rw [e, ← en2]
            exact cx1
          · refine g_iconst (v := nI 1) dX5_tellCaught_45 (by decide) ?_
            refine g_goto (tgt := 50) dX5_tellCaught_46 (by decide) ?_
            refine g_aload_n 3 dX5_tellCaught_50 rfl rfl ?_
            refine g_geti (f := 164) dX5_tellCaught_51 fl_X5_56 c'.1.1.2 (by decide) rfl ?_
            rw [show zi h' 164 b = jI (nA (uE (esN N a) (tcE N a (nE N) i)) 2) from c'.2.2.1.2.2.1]
            refine g_iload_n 4 dX5_tellCaught_54 rfl rfl ?_
            refine g_iload 2 dX5_tellCaught_55 rfl ?_
            refine g_invv (M' := mX1_add) (As := [.int (nI 1), .int (jI (nA (uE (esN N a) (tcE N a (nE N) i)) 2)), .int (nI a), .int (nI i)]) (rest := []) dX5_tellCaught_57 ml_X5_187 okX1_add imX1_add seX1_add ⟨(Nat.le_of_ble_eq_true rfl), (Nat.le_of_ble_eq_true rfl)⟩ (ci := 1) rfl rfl c'.1.2.2.2.2.2.1.2 rfl rfl (Nat.le_of_ble_eq_true rfl) (c_evN c' (k := 1) (q := a) (f := i) (tcE_len hI.E.1 i)) ?_
            rintro _ y2 ⟨rfl, cx2, sx2⟩
            show zG l w mX5_tellCaught 60 [(6, .int (nI (s1 / 2 ^ i % 2))), (5, .int (nI (s0 / 2 ^ i % 2))), (4, .int (nI i)), (0, .ref b), (1, .int (nI a)), (2, .int (nI s0)), (3, .int (nI s1))] [] y2 _
            refine g_inc (v := nI (i + 1)) (lv2 := [(4, .int (nI (i + 1))), (6, .int (nI (s1 / 2 ^ i % 2))), (5, .int (nI (s0 / 2 ^ i % 2))), (0, .ref b), (1, .int (nI a)), (2, .int (nI s0)), (3, .int (nI s1))]) 2 dX5_tellCaught_60 rfl (nI_add _ 1) (by decide) rfl ?_
            refine g_goto (tgt := 3) dX5_tellCaught_63 (by decide) ?_
            refine zG.sub [0, 3, 4, 5, 6] rfl (ih (i + 1) (by omega) y2 ?_ (s'.tr sx2))
            have e : tcE N a (nE N) (i + 1) = evL (tcE N a (nE N) i) (1, nA N 2, (a : Int), (i : Int)) := by
              rw [tcE, if_neg (by rw [B0, B1]; intro z; have z := decide_eq_decide.mp z; omega), B1, decide_eq_true (by omega), if_pos rfl]
            rw [e, ← en2]
            exact cx2
  refine g_iconst (v := nI 0) dX5_tellCaught_0 (by decide) ?_
  refine g_istore (lv2 := [(4, .int (nI 0)), (0, .ref b), (1, .int (nI a)), (2, .int (nI s0)), (3, .int (nI s1))]) dX5_tellCaught_1 (by decide) rfl ?_
  exact zG.sub [0, 1, 2, 3, 4] rfl (loop (nA N 1).toNat 0 (by omega) h c CSt.rf)
theorem c_endIfDue (c : CX h b π ls N [] t) (hI : iN [] N) (ha : (a : Int) < nA N 0) : zM l w mX5_endSpanIfDue [.ref b, .int (nI a), .ref (b + 11 + 7 * a)] h (fun v h1 => v = none ∧ CX h1 b π ls (dueN N a) [] t ∧ CSt b ls h ls h1) := by
  refine zM.of (by decide) (Nat.le_of_ble_eq_true rfl) ?_
  have H0 := hI.H.1
  have a6 : a < 6 := by omega
  have L := hI.L a ha
  have tb := hI.H.2.2.1
  have L14 := L.2.2.2.1.1
  have bd := @csN_bd N a 6
  obtain ⟨s0, e0⟩ : ∃ s : Nat, nA N (8 + 40 * a + 14) = (s : Int) := ⟨_, (Int.toNat_of_nonneg L14.1).symm⟩
  obtain ⟨s1, e1⟩ : ∃ s : Nat, csN N a 6 = (s : Int) := ⟨_, (Int.toNat_of_nonneg bd.1).symm⟩
  refine g_aload_n 2 dX5_endSpanIfDue_0 rfl rfl ?_
  refine g_aload_n 0 dX5_endSpanIfDue_1 rfl rfl ?_
  refine g_geti (f := 164) dX5_endSpanIfDue_2 fl_X5_56 c.1.1.2 (by decide) rfl ?_
  rw [show zi h 164 b = jI (nA N 2) from c.2.2.1.2.2.1]
  refine g_invv (M' := mX4_endsSpanAt) (As := [.int (jI (nA N 2))]) (rest := []) dX5_endSpanIfDue_5 ml_X5_224 okX4_endsSpanAt imX4_endsSpanAt seX4_endsSpanAt ⟨(Nat.le_of_ble_eq_true rfl), (Nat.le_of_ble_eq_true rfl)⟩ (ci := 4) rfl rfl (c.1.2.2.2.2.2.2.2.2.1 a a6).2.1 rfl rfl (Nat.le_of_ble_eq_true rfl) (c_endsAt c ha a6 (by omega) L.1.2.2.2) ?_
  rintro _ q1 ⟨rfl, eq1⟩
  subst q1
  show zG l w mX5_endSpanIfDue 8 [(0, .ref b), (1, .int (nI a)), (2, .ref (b + 11 + 7 * a))] [.int (bI (decide (nA N 2 % nA N (8 + 40 * a + 3) = 0)))] h _
  refine g_bif_eq (tgt := 30) dX5_endSpanIfDue_8 (by decide) (fun q => ?_) (fun q => ?_)
  · refine g_return dX5_endSpanIfDue_30 rfl ?_
    exact ⟨rfl, by unfold dueN; rw [if_neg (of_decide_eq_false q)]; exact c, CSt.rf⟩
  · refine g_aload_n 2 dX5_endSpanIfDue_11 rfl rfl ?_
    refine g_geti (f := 141) dX5_endSpanIfDue_12 fl_X5_227 (c.1.2.2.2.2.2.2.2.2.1 a a6).2.1 (by decide) rfl ?_
    rw [show zi h 141 (b + 11 + 7 * a) = jI (nA N (8 + 40 * a + 14)) from (c.2.2.2.1 a ha a6).1 14 (by unfold lkJ; omega)]
    refine zG.top (show jI (nA N (8 + 40 * a + 14)) = nI s0 by rw [e0, jI_nat]) ?_
    refine g_istore_n (lv2 := [(3, .int (nI s0)), (0, .ref b), (1, .int (nI a)), (2, .ref (b + 11 + 7 * a))]) dX5_endSpanIfDue_15 rfl (by decide) rfl ?_
    refine g_aload_n 3 dX5_endSpanIfDue_16 rfl rfl ?_
    refine g_invv (M' := mX4_endSpan) (As := []) (rest := []) dX5_endSpanIfDue_17 ml_X5_230 okX4_endSpan imX4_endSpan seX4_endSpan ⟨(Nat.le_of_ble_eq_true rfl), (Nat.le_of_ble_eq_true rfl)⟩ (ci := 4) rfl rfl (c.1.2.2.2.2.2.2.2.2.1 a a6).2.1 rfl rfl (Nat.le_of_ble_eq_true rfl) (c_endSpan c hI ha a6) ?_
    rintro _ y2 ⟨rfl, cx2, sx2⟩
    show zG l w mX5_endSpanIfDue 20 [(3, .int (nI s0)), (0, .ref b), (1, .int (nI a)), (2, .ref (b + 11 + 7 * a))] [] y2 _
    have ha' : (a : Int) < nA (esN N a) 0 := by rw [es_ne (by omega) (by omega) (by omega) (by omega) (by omega) (by omega) (by omega) (by omega), sp1_ne (by omega)]; exact ha
    refine g_aload_n 1 dX5_endSpanIfDue_20 rfl rfl ?_
    refine g_iload_n 2 dX5_endSpanIfDue_21 rfl rfl ?_
    refine g_iload_n 0 dX5_endSpanIfDue_22 rfl rfl ?_
    refine g_aload_n 3 dX5_endSpanIfDue_23 rfl rfl ?_
    refine g_geti (f := 141) dX5_endSpanIfDue_24 fl_X5_227 (cx2.1.2.2.2.2.2.2.2.2.1 a a6).2.1 (by decide) rfl ?_
    rw [show zi y2 141 (b + 11 + 7 * a) = jI (nA (esN N a) (8 + 40 * a + 14)) from (cx2.2.2.2.1 a ha' a6).1 14 (by unfold lkJ; omega)]
    refine zG.top (show jI (nA (esN N a) (8 + 40 * a + 14)) = nI s1 by rw [es_at.1, e1, jI_nat]) ?_
    refine g_invv (M' := mX5_tellCaught) (As := [.int (nI a), .int (nI s0), .int (nI s1)]) (rest := []) dX5_endSpanIfDue_27 ml_X5_233 okX5_tellCaught imX5_tellCaught seX5_tellCaught ⟨(Nat.le_of_ble_eq_true rfl), (Nat.le_of_ble_eq_true rfl)⟩ (ci := 5) rfl rfl cx2.1.1.2 rfl rfl (Nat.le_of_ble_eq_true rfl) (c_tellCaught cx2 hI ha e0 e1) ?_
    rintro _ y3 ⟨rfl, cx3, sx3⟩
    show zG l w mX5_endSpanIfDue 30 [(3, .int (nI s0)), (0, .ref b), (1, .int (nI a)), (2, .ref (b + 11 + 7 * a))] [] y3 _
    refine g_return dX5_endSpanIfDue_30 rfl ?_
    exact ⟨rfl, by unfold dueN; rw [if_pos (of_decide_eq_true q)]; exact cx3, ((CSt.rf.tr sx2).tr sx3)⟩
/-- a row of the past, its first i written -/
def kwF (g : Nat → Int32) (N : nT) (s i : Nat) : Nat → Int32 := fun k => if s ≤ k ∧ k < s + i then jI (nA N (248 + 20 * (k - s) + 5)) else g k
theorem kwF_0 {g : Nat → Int32} {s : Nat} : kwF g N s 0 = g := by funext k; unfold kwF; rw [if_neg (by omega)]
theorem kwF_succ {g : Nat → Int32} {s i : Nat} : (fun k => if k = s + i then jI (nA N (248 + 20 * i + 5)) else kwF g N s i k) = kwF g N s (i + 1) := by
  funext k
  unfold kwF
  by_cases e : k = s + i
  · rw [if_pos e, if_pos (by omega), show k - s = i by omega]
  · rw [if_neg e]
    by_cases e2 : s ≤ k ∧ k < s + i
    · rw [if_pos e2, if_pos (by omega)]
    · rw [if_neg e2, if_neg (by omega)]
theorem CX.keep {n : Nat} (c : CX h b π ls N X t) (h2 : nA N 2 = ((t + 1 : Nat) : Int)) (hn : ((n : Nat) : Int) = nA N 1) (n6 : n ≤ 6) : CX (zSF h (b + 10) (kwF (zI h (b + 10)) N ((t + 1) % 20 * 6) n)) b π ls (pastN N) X (t + 1) ∧ CSt b ls h ls (zSF h (b + 10) (kwF (zI h (b + 10)) N ((t + 1) % 20 * 6) n)) := by
  obtain ⟨c1, c2, c3, c4, c5, c6, c7, c8⟩ := c
  have hb := c1.1.1
  refine ⟨⟨c1.fr (Nat.le_refl _) (fun a _ _ => ⟨rfl, rfl, fun _ _ _ _ => rfl, fun _ => rfl⟩), c2.fr rfl (fun _ => rfl) (fun _ _ => rfl) (fun _ => rfl), c3, fun a ha a6 => (c4 a ha a6).congr (fun _ _ => rfl) rfl (fun _ _ _ => rfl) (fun d f h3 h6 => by rw [zI_SF, if_neg (by omega)]) (fun _ _ _ => rfl), fun f hf f6 => (c5 f hf f6).congr (fun _ _ => rfl) (fun i => by rw [zI_SF, if_neg (by omega)]) (fun _ _ _ => rfl) (fun _ _ => rfl), c6.same rfl (fun _ => rfl) (fun _ _ _ => rfl) (fun _ => rfl) (fun _ _ => rfl) rfl rfl rfl, ?_, ?_⟩, ⟨⟨Nat.le_refl _, rfl, mdB.rf⟩, fun _ _ => ⟨rfl, rfl⟩, fun a _ ho hk => by
    clear hk
    exact ⟨fun _ => ⟨rfl, rfl, rfl⟩, fun i => ⟨by rw [zI_SF, if_neg (by omega)], rfl, rfl⟩⟩⟩, fun _ _ => rfl⟩
  · obtain ⟨s, q1, q2, q3, q4⟩ := c7
    exact ⟨s, q1, q2, q3, fun i u hu => by rw [zI_SF, if_neg (by omega), zI_SF, if_neg (by omega), zI_SF, if_neg (by omega), zI_SF, if_neg (by omega)]; exact q4 i u hu⟩
  · have e := PaC.add (h1 := zSF h (b + 10) (kwF (zI h (b + 10)) N ((t + 1) % 20 * 6) n)) (q := fun f => nA N (248 + 20 * f + 5)) c8 (by omega) (fun i => by
      rw [zI_SF, if_pos rfl]
      unfold kwF
      by_cases g : (t + 1) % 20 * 6 ≤ i ∧ i < (t + 1) % 20 * 6 + n
      · rw [if_pos g, if_pos (by omega)]
      · rw [if_neg g, if_neg (by omega)])
    exact e
theorem c_keepWindows (c : CX h b π ls N [] t) (hI : iN [] N) (h2 : nA N 2 = ((t + 1 : Nat) : Int)) : zM l w mX5_keepWindows [.ref b] h (fun v h1 => v = none ∧ CX h1 b π ls (pastN N) [] (t + 1) ∧ CSt b ls h ls h1) := by
  refine zM.of (by decide) (Nat.le_of_ble_eq_true rfl) ?_
  have H1 := hI.H.2.1
  have tb := hI.H.2.2.1
  have hm : (t + 1) % 20 < 20 := Nat.mod_lt _ (by decide)
  have loop : ∀ n i : Nat, ((i + n : Nat) : Int) = nA N 1 → zG l w mX5_keepWindows 18 [(2, .int (nI i)), (1, .int (nI ((t + 1) % 20 * 6))), (0, .ref b)] [] (zSF h (b + 10) (kwF (zI h (b + 10)) N ((t + 1) % 20 * 6) i)) (fun v h1 => v = none ∧ CX h1 b π ls (pastN N) [] (t + 1) ∧ CSt b ls h ls h1) := by
    intro n
    induction n with
    | zero =>
      intro i hi
      refine g_iload_n 0 dX5_keepWindows_18 rfl rfl ?_
      refine g_aload_n 2 dX5_keepWindows_19 rfl rfl ?_
      refine g_geti (f := 163) dX5_keepWindows_20 fl_X5_53 c.1.1.2 (by decide) rfl ?_
      rw [show zi (zSF h (b + 10) (kwF (zI h (b + 10)) N ((t + 1) % 20 * 6) i)) 163 b = jI (nA N 1) from c.2.2.1.2.1]
      refine g_zcmp_ge (a := ((i : Nat) : Int)) (b := (nA N 1)) (tgt := 49) (jI_nat i).symm rfl dX5_keepWindows_23 (by decide) (by omega) (by omega) (fun q => ?_) (fun q => ?_)
      · refine g_return dX5_keepWindows_49 rfl ?_
        have k := c.keep h2 (n := i) (by omega) (by omega)
        exact ⟨rfl, k.1, k.2⟩
      · exact absurd q (by omega)
    | succ n ih =>
      intro i hi
      refine g_iload_n 0 dX5_keepWindows_18 rfl rfl ?_
      refine g_aload_n 2 dX5_keepWindows_19 rfl rfl ?_
      refine g_geti (f := 163) dX5_keepWindows_20 fl_X5_53 c.1.1.2 (by decide) rfl ?_
      rw [show zi (zSF h (b + 10) (kwF (zI h (b + 10)) N ((t + 1) % 20 * 6) i)) 163 b = jI (nA N 1) from c.2.2.1.2.1]
      refine g_zcmp_ge (a := ((i : Nat) : Int)) (b := (nA N 1)) (tgt := 49) (jI_nat i).symm rfl dX5_keepWindows_23 (by decide) (by omega) (by omega) (fun q => ?_) (fun q => ?_)
      · exact absurd q (by omega)
      · have hf : (i : Int) < nA N 1 := by omega
        have i6 : i < 6 := by omega
        refine g_aload_n 2 dX5_keepWindows_26 rfl rfl ?_
        refine g_getr (f := 169) (b := b + 10) dX5_keepWindows_27 fl_X5_40 c.1.1.2 rfl c.1.2.2.2.2.2.2.2.1.1 ?_
        refine g_iload_n 1 dX5_keepWindows_30 rfl rfl ?_
        refine g_iload_n 0 dX5_keepWindows_31 rfl rfl ?_
        refine g_iadd dX5_keepWindows_32 ?_
        rw [nI_add ((t + 1) % 20 * 6) i]
        refine g_aload_n 2 dX5_keepWindows_33 rfl rfl ?_
        refine g_getr (f := 162) (b := b + 2) dX5_keepWindows_34 fl_X5_19 c.1.1.2 rfl c.1.2.2.1.1 ?_
        refine g_iload_n 0 dX5_keepWindows_37 rfl rfl ?_
        refine g_aald (t := 4) (b := b + 53 + 2 * i) dX5_keepWindows_38 c.1.2.2.1.2.1 rfl (fun _ => rfl) (by decide) (by rw [show zn (zSF h (b + 10) (kwF (zI h (b + 10)) N ((t + 1) % 20 * 6) i)) (b + 2) = 6 from c.1.2.2.1.2.2]; exact vp_in_nI (by omega) (by omega)) (by rw [nI_clamp (by omega)]; exact (c.1.2.2.2.2.2.2.2.2.2 i i6).1) ?_
        refine g_geti (f := 70) dX5_keepWindows_39 fl_X5_237 (c.1.2.2.2.2.2.2.2.2.2 i i6).2.1 (by decide) rfl ?_
        rw [show zi (zSF h (b + 10) (kwF (zI h (b + 10)) N ((t + 1) % 20 * 6) i)) 70 (b + 53 + 2 * i) = jI (nA N (248 + 20 * i + 5)) from (c.2.2.2.2.1 i hf i6).1 5 (by omega) (by omega)]
        refine g_iast (n := (((t + 1) % 20 * 6) + i)) dX5_keepWindows_42 c.1.2.2.2.2.2.2.2.1.2.1 (by rw [show zn (zSF h (b + 10) (kwF (zI h (b + 10)) N ((t + 1) % 20 * 6) i)) (b + 10) = 120 from c.1.2.2.2.2.2.2.2.1.2.2]; exact vp_in_nI (by omega) (by omega)) (nI_clamp (by omega)) ?_
        rw [zSI_SF, kwF_succ]
        refine g_inc (v := nI (i + 1)) (lv2 := [(2, .int (nI (i + 1))), (1, .int (nI ((t + 1) % 20 * 6))), (0, .ref b)]) 0 dX5_keepWindows_43 rfl (nI_add _ 1) (by decide) rfl ?_
        refine g_goto (tgt := 18) dX5_keepWindows_46 (by decide) ?_
        exact ih (i + 1) (by omega)
  refine g_aload_n 0 dX5_keepWindows_0 rfl rfl ?_
  refine g_geti (f := 164) dX5_keepWindows_1 fl_X5_56 c.1.1.2 (by decide) rfl ?_
  rw [show zi h 164 b = jI (nA N 2) from c.2.2.1.2.2.1]
  refine zG.top (show jI (nA N 2) = nI (t + 1) by rw [h2, jI_nat]) ?_
  refine g_bipush (v := nI 20) dX5_keepWindows_4 (by decide) ?_
  refine g_irem dX5_keepWindows_6 (by decide) ?_
  refine zG.top (nI_rem (by omega) (by omega) (by omega)) ?_
  refine g_bipush (v := nI 6) dX5_keepWindows_7 (by decide) ?_
  refine g_imul dX5_keepWindows_9 ?_
  rw [pk_mul ((t + 1) % 20) 6]
  refine g_istore_n (lv2 := [(1, .int (nI (((t + 1) % 20) * 6))), (0, .ref b)]) dX5_keepWindows_10 rfl (by decide) rfl ?_
  refine g_iload_n 0 dX5_keepWindows_11 rfl rfl ?_
  refine g_zif_ge (a := ((((t + 1) % 20) * 6 : Nat) : Int)) (tgt := 16) (jI_nat (((t + 1) % 20) * 6)).symm dX5_keepWindows_12 (by decide) (by omega) (fun q => ?_) (fun q => ?_)
  · refine g_iconst (v := nI 0) dX5_keepWindows_16 (by decide) ?_
    refine g_istore_n (lv2 := [(2, .int (nI 0)), (1, .int (nI (((t + 1) % 20) * 6))), (0, .ref b)]) dX5_keepWindows_17 rfl (by decide) rfl ?_
    have z := loop (nA N 1).toNat 0 (by omega)
    rw [kwF_0, zSF_id] at z
    exact zG.sub [0, 1, 2] rfl z
  · exact absurd q (by omega)
end DA1
