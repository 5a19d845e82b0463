section PE5
variable {l : Launch} {w : zW} {h h1 y : zH} {x n : Nat} {B : Nat → Nat} {ls lt : Nat → List Nat} {N M : nT} {Ms : Nat → nT}
theorem jI_0 {a b : Int} : jI (a - b) = 0 ↔ jI a = jI b := by
  constructor
  · intro q
    have e : jI a = jI (a - b) + jI b := by rw [jI_add, Int.sub_add_cancel]
    rw [e, q, Int32.zero_add]
  · intro q
    rw [← jI_sub, q, jI_sub, Int.sub_self]
    rfl
variable {n0 : Nat}
theorem c_foretell (g : GC h x B ls N Ms n0) (ht : nA N 2 ≤ 39000) {bb : Nat} (hb : bb ≤ 1) {n k : Int} (nb : -2147483648 ≤ n ∧ n < 2147483648) (kb : -2147483648 ≤ k ∧ k < 2147483648) : zM l w mX9_foretell [.ref x, .int (jI n), .int (jI k), .int (nI bb)] h (PPc h x B N Ms n0 (qAfter N bb n k)) := by
  refine zM.of (by decide) (Nat.le_of_ble_eq_true rfl) ?_
  obtain ⟨π, t, c1, c2, c3⟩ := g.2.2.2.2.2.2.1
  refine g_iload_n 1 dX9_foretell_0 rfl rfl ?_
  refine g_zif_lt (a := n) (tgt := 19) rfl dX9_foretell_1 (by decide) (by omega) (fun d1 => ?_) (fun d1 => ?_)
  · refine g_aload_n 0 dX9_foretell_19 rfl rfl ?_
    refine g_iconst (v := nI 1) dX9_foretell_20 (by decide) ?_
    refine g_invv (M' := mX9_refuse) (As := [.int (nI 1)]) (rest := []) dX9_foretell_21 ml_X9_58 okX9_refuse imX9_refuse seX9_refuse ⟨(Nat.le_of_ble_eq_true rfl), (Nat.le_of_ble_eq_true rfl)⟩ (ci := 9) rfl rfl g.1.2.1 rfl rfl (Nat.le_of_ble_eq_true rfl) (c_refC g.1.2.1) ?_
    rintro _ q1 ⟨rfl, eq1⟩
    subst q1
    show zG l w mX9_foretell 24 [(0, .ref x), (1, .int (jI n)), (2, .int (jI k)), (3, .int (nI bb))] [.int (-1)] (zSi h 290 x (nI 1)) _
    refine g_ireturn dX9_foretell_24 rfl ?_
    have e : qAfter N bb n k = (1, -1) := by unfold qAfter; rw [if_neg (by omega)]
    exact PPc.ref g (by rw [e]; rfl) (by rw [e]; rfl)
  · refine g_iload_n 1 dX9_foretell_4 rfl rfl ?_
    refine g_bipush (v := nI 120) dX9_foretell_5 (by decide) ?_
    refine g_zcmp_gt (a := n) (b := 120) (tgt := 19) rfl (by decide) dX9_foretell_7 (by decide) (by omega) (by omega) (fun d2 => ?_) (fun d2 => ?_)
    · refine g_aload_n 0 dX9_foretell_19 rfl rfl ?_
      refine g_iconst (v := nI 1) dX9_foretell_20 (by decide) ?_
      refine g_invv (M' := mX9_refuse) (As := [.int (nI 1)]) (rest := []) dX9_foretell_21 ml_X9_58 okX9_refuse imX9_refuse seX9_refuse ⟨(Nat.le_of_ble_eq_true rfl), (Nat.le_of_ble_eq_true rfl)⟩ (ci := 9) rfl rfl g.1.2.1 rfl rfl (Nat.le_of_ble_eq_true rfl) (c_refC g.1.2.1) ?_
      rintro _ q2 ⟨rfl, eq2⟩
      subst q2
      show zG l w mX9_foretell 24 [(0, .ref x), (1, .int (jI n)), (2, .int (jI k)), (3, .int (nI bb))] [.int (-1)] (zSi h 290 x (nI 1)) _
      refine g_ireturn dX9_foretell_24 rfl ?_
      have e : qAfter N bb n k = (1, -1) := by unfold qAfter; rw [if_neg (by omega)]
      exact PPc.ref g (by rw [e]; rfl) (by rw [e]; rfl)
    · refine g_iload_n 2 dX9_foretell_10 rfl rfl ?_
      refine g_zif_lt (a := k) (tgt := 19) rfl dX9_foretell_11 (by decide) (by omega) (fun d3 => ?_) (fun d3 => ?_)
      · refine g_aload_n 0 dX9_foretell_19 rfl rfl ?_
        refine g_iconst (v := nI 1) dX9_foretell_20 (by decide) ?_
        refine g_invv (M' := mX9_refuse) (As := [.int (nI 1)]) (rest := []) dX9_foretell_21 ml_X9_58 okX9_refuse imX9_refuse seX9_refuse ⟨(Nat.le_of_ble_eq_true rfl), (Nat.le_of_ble_eq_true rfl)⟩ (ci := 9) rfl rfl g.1.2.1 rfl rfl (Nat.le_of_ble_eq_true rfl) (c_refC g.1.2.1) ?_
        rintro _ q3 ⟨rfl, eq3⟩
        subst q3
        show zG l w mX9_foretell 24 [(0, .ref x), (1, .int (jI n)), (2, .int (jI k)), (3, .int (nI bb))] [.int (-1)] (zSi h 290 x (nI 1)) _
        refine g_ireturn dX9_foretell_24 rfl ?_
        have e : qAfter N bb n k = (1, -1) := by unfold qAfter; rw [if_neg (by omega)]
        exact PPc.ref g (by rw [e]; rfl) (by rw [e]; rfl)
      · refine g_iload_n 2 dX9_foretell_14 rfl rfl ?_
        refine g_iconst (v := nI 4) dX9_foretell_15 (by decide) ?_
        refine g_zcmp_le (a := k) (b := 4) (tgt := 25) rfl (by decide) dX9_foretell_16 (by decide) (by omega) (by omega) (fun d4 => ?_) (fun d4 => ?_)
        · have c4 : (0 ≤ n ∧ n ≤ 120) ∧ 0 ≤ k ∧ k ≤ 4 := by omega
          obtain ⟨i, ei⟩ : ∃ i : Nat, n = (i : Int) := ⟨_, (Int.toNat_of_nonneg (by omega)).symm⟩
          subst ei
          obtain ⟨j, ej⟩ : ∃ j : Nat, k = (j : Int) := ⟨_, (Int.toNat_of_nonneg (by omega)).symm⟩
          subst ej
          simp only [jI_nat]
          have e : qAfter N bb (i : Int) (j : Int) = (0, aft (ticksN (uA N 7 (bb : Int)) i) N j) := by unfold qAfter; rw [if_pos c4, Int.toNat_natCast, Int.toNat_natCast]
          rw [e]
          clear e
          show zG l w mX9_foretell 25 [(0, .ref x), (1, .int (nI i)), (2, .int (nI j)), (3, .int (nI bb))] [] h _
          refine g_aload_n 0 dX9_foretell_25 rfl rfl ?_
          refine g_getr (f := 294) (b := B 1) dX9_foretell_26 fl_X9_27 g.1.2.1 rfl g.1.2.2.2.1 ?_
          refine g_aload_n 0 dX9_foretell_29 rfl rfl ?_
          refine g_getr (f := 293) (b := B 0) dX9_foretell_30 fl_X9_23 g.1.2.1 rfl g.1.2.2.1 ?_
          refine g_invv (M' := mX5_copyFrom) (As := [.ref (B 0)]) (rest := []) dX9_foretell_33 ml_X9_246 okX5_copyFrom imX5_copyFrom seX5_copyFrom ⟨(Nat.le_of_ble_eq_true rfl), (Nat.le_of_ble_eq_true rfl)⟩ (ci := 5) rfl rfl (g.2.2.2.2.2.1 1 (by omega)).1.1.2 rfl rfl (Nat.le_of_ble_eq_true rfl) (c_netCopy c1 c2.1 (g.2.2.2.2.2.1 1 (by omega)) g.dj) ?_
          rintro _ y0 ⟨rfl, π0, lt0, cx0, s0⟩
          show zG l w mX9_foretell 36 [(0, .ref x), (1, .int (nI i)), (2, .int (nI j)), (3, .int (nI bb))] [] y0 _
          have X0 := g.px s0
          refine g_aload_n 0 dX9_foretell_36 rfl rfl ?_
          refine g_getr (f := 294) (b := B 1) dX9_foretell_37 fl_X9_27 X0.1 rfl X0.2.1 ?_
          refine g_iload_n 3 dX9_foretell_40 rfl rfl ?_
          refine g_putz (f := 171) dX9_foretell_41 fl_X9_279 (Or.inl rfl) cx0.1.1.2 rfl (by rcases (show bb = 0 ∨ bb = 1 by omega) with q | q <;> rw [q] <;> decide) ?_
          obtain ⟨cx1, s1⟩ := cx0.set7 (z := (bb : Int))
          rw [jI_nat] at cx1 s1
          have s1 := s0.tr s1
          generalize zSi y0 171 (B 1) (nI bb) = y1 at cx1 s1 ⊢
          have X1 := g.px s1
          have h1 : iT (uA N 7 (bb : Int)) := c2.u37 (by omega)
          have e2 : nA (uA N 7 (bb : Int)) 2 = nA N 2 := nA_ne (by omega)
          refine g_aload_n 0 dX9_foretell_44 rfl rfl ?_
          refine g_getr (f := 294) (b := B 1) dX9_foretell_45 fl_X9_27 X1.1 rfl X1.2.1 ?_
          refine g_iload_n 1 dX9_foretell_48 rfl rfl ?_
          refine g_invv (M' := mX5_passTicks) (As := [.int (nI i)]) (rest := []) dX9_foretell_49 ml_X9_243 okX5_passTicks imX5_passTicks seX5_passTicks ⟨(Nat.le_of_ble_eq_true rfl), (Nat.le_of_ble_eq_true rfl)⟩ (ci := 5) rfl rfl cx1.1.1.2 rfl rfl (Nat.le_of_ble_eq_true rfl) (c_passTicks (m := i) cx1 h1 (by rw [e2]; exact c3) (by omega)) ?_
          rintro _ y2 ⟨rfl, π2, lt2, cx2, s2⟩
          show zG l w mX9_foretell 52 [(0, .ref x), (1, .int (nI i)), (2, .int (nI j)), (3, .int (nI bb))] [] y2 _
          have s2 := s1.tr s2
          have X2 := g.px s2
          obtain ⟨t1, t2, t3⟩ := ticks_in h1 i (by omega)
          obtain ⟨π5, t5, c5, -, -⟩ := (g.paper s2 cx2.2.1 (cx2.cw t1.1)).2.2.2.2.2.2.1
          generalize ticksN (uA N 7 (bb : Int)) i = T at cx2 t1 ⊢
          rcases (show j = 0 ∨ j = 1 ∨ j = 2 ∨ j = 3 ∨ j = 4 by omega) with rfl | rfl | rfl | rfl | rfl
          · refine g_iload_n 2 dX9_foretell_52 rfl rfl ?_
            refine g_tableIn (off := 31) (tgt := 84) dX9_foretell_53 (by decide) (by decide) (by decide) (by decide) ?_
            refine g_aload_n 0 dX9_foretell_84 rfl rfl ?_
            refine g_aload_n 0 dX9_foretell_85 rfl rfl ?_
            refine g_getr (f := 294) (b := B 1) dX9_foretell_86 fl_X9_27 X2.1 rfl X2.2.1 ?_
            refine g_invv (M' := mX5_evenness) (As := []) (rest := [.ref x]) dX9_foretell_89 ml_X9_112 okX5_evenness imX5_evenness seX5_evenness ⟨(Nat.le_of_ble_eq_true rfl), (Nat.le_of_ble_eq_true rfl)⟩ (ci := 5) rfl rfl cx2.1.1.2 rfl rfl (Nat.le_of_ble_eq_true rfl) (c_evenness cx2 t1.1) ?_
            rintro _ q5 ⟨rfl, eq5⟩
            subst q5
            show zG l w mX9_foretell 92 [(0, .ref x), (1, .int (nI i)), (2, .int (nI 0)), (3, .int (nI bb))] [.int (jI (evenN T)), .ref x] y2 _
            refine g_invv (M' := mX9_answer) (As := [.int (jI (evenN T))]) (rest := []) dX9_foretell_92 ml_X9_75 okX9_answer imX9_answer seX9_answer ⟨(Nat.le_of_ble_eq_true rfl), (Nat.le_of_ble_eq_true rfl)⟩ (ci := 9) rfl rfl X2.1 rfl rfl (Nat.le_of_ble_eq_true rfl) (c_ans X2.1) ?_
            rintro _ q6 ⟨rfl, eq6⟩
            subst q6
            show zG l w mX9_foretell 95 [(0, .ref x), (1, .int (nI i)), (2, .int (nI 0)), (3, .int (nI bb))] [.int (jI (evenN T))] (zSi y2 290 x (nI 0)) _
            refine g_ireturn dX9_foretell_95 rfl ?_
            exact PPc.fin g s2 cx2 t1 rfl rfl
          · refine g_iload_n 2 dX9_foretell_52 rfl rfl ?_
            refine g_tableIn (off := 43) (tgt := 96) dX9_foretell_53 (by decide) (by decide) (by decide) (by decide) ?_
            refine g_aload_n 0 dX9_foretell_96 rfl rfl ?_
            refine g_aload_n 0 dX9_foretell_97 rfl rfl ?_
            refine g_getr (f := 294) (b := B 1) dX9_foretell_98 fl_X9_27 X2.1 rfl X2.2.1 ?_
            refine g_invv (M' := mX5_windowGap) (As := []) (rest := [.ref x]) dX9_foretell_101 ml_X9_115 okX5_windowGap imX5_windowGap seX5_windowGap ⟨(Nat.le_of_ble_eq_true rfl), (Nat.le_of_ble_eq_true rfl)⟩ (ci := 5) rfl rfl cx2.1.1.2 rfl rfl (Nat.le_of_ble_eq_true rfl) (c_windowGap cx2 t1.1) ?_
            rintro _ q7 ⟨rfl, eq7⟩
            subst q7
            show zG l w mX9_foretell 104 [(0, .ref x), (1, .int (nI i)), (2, .int (nI 1)), (3, .int (nI bb))] [.int (jI (gapN T)), .ref x] y2 _
            refine g_invv (M' := mX9_answer) (As := [.int (jI (gapN T))]) (rest := []) dX9_foretell_104 ml_X9_75 okX9_answer imX9_answer seX9_answer ⟨(Nat.le_of_ble_eq_true rfl), (Nat.le_of_ble_eq_true rfl)⟩ (ci := 9) rfl rfl X2.1 rfl rfl (Nat.le_of_ble_eq_true rfl) (c_ans X2.1) ?_
            rintro _ q8 ⟨rfl, eq8⟩
            subst q8
            show zG l w mX9_foretell 107 [(0, .ref x), (1, .int (nI i)), (2, .int (nI 1)), (3, .int (nI bb))] [.int (jI (gapN T))] (zSi y2 290 x (nI 0)) _
            refine g_ireturn dX9_foretell_107 rfl ?_
            exact PPc.fin g s2 cx2 t1 rfl rfl
          · refine g_iload_n 2 dX9_foretell_52 rfl rfl ?_
            refine g_tableIn (off := 55) (tgt := 108) dX9_foretell_53 (by decide) (by decide) (by decide) (by decide) ?_
            refine g_aload_n 0 dX9_foretell_108 rfl rfl ?_
            refine g_aload_n 0 dX9_foretell_109 rfl rfl ?_
            refine g_getr (f := 294) (b := B 1) dX9_foretell_110 fl_X9_27 X2.1 rfl X2.2.1 ?_
            refine g_invv (M' := mX5_doneInAll) (As := []) (rest := [.ref x]) dX9_foretell_113 ml_X9_282 okX5_doneInAll imX5_doneInAll seX5_doneInAll ⟨(Nat.le_of_ble_eq_true rfl), (Nat.le_of_ble_eq_true rfl)⟩ (ci := 5) rfl rfl cx2.1.1.2 rfl rfl (Nat.le_of_ble_eq_true rfl) (c_doneInAll cx2 t1.1) ?_
            rintro _ q9 ⟨rfl, eq9⟩
            subst q9
            show zG l w mX9_foretell 116 [(0, .ref x), (1, .int (nI i)), (2, .int (nI 2)), (3, .int (nI bb))] [.int (jI (sumN T 9 (nF T))), .ref x] y2 _
            refine g_aload_n 0 dX9_foretell_116 rfl rfl ?_
            refine g_getr (f := 293) (b := B 0) dX9_foretell_117 fl_X9_23 X2.1 rfl X2.2.2 ?_
            refine g_invv (M' := mX5_doneInAll) (As := []) (rest := [.int (jI (sumN T 9 (nF T))), .ref x]) dX9_foretell_120 ml_X9_282 okX5_doneInAll imX5_doneInAll seX5_doneInAll ⟨(Nat.le_of_ble_eq_true rfl), (Nat.le_of_ble_eq_true rfl)⟩ (ci := 5) rfl rfl c5.1.1.2 rfl rfl (Nat.le_of_ble_eq_true rfl) (c_doneInAll c5 c2.1) ?_
            rintro _ q10 ⟨rfl, eq10⟩
            subst q10
            show zG l w mX9_foretell 123 [(0, .ref x), (1, .int (nI i)), (2, .int (nI 2)), (3, .int (nI bb))] [.int (jI (sumN N 9 (nF N))), .int (jI (sumN T 9 (nF T))), .ref x] y2 _
            refine g_isub dX9_foretell_123 ?_
            rw [jI_sub]
            refine g_invv (M' := mX9_answer) (As := [.int (jI ((sumN T 9 (nF T)) - (sumN N 9 (nF N))))]) (rest := []) dX9_foretell_124 ml_X9_75 okX9_answer imX9_answer seX9_answer ⟨(Nat.le_of_ble_eq_true rfl), (Nat.le_of_ble_eq_true rfl)⟩ (ci := 9) rfl rfl X2.1 rfl rfl (Nat.le_of_ble_eq_true rfl) (c_ans X2.1) ?_
            rintro _ q11 ⟨rfl, eq11⟩
            subst q11
            show zG l w mX9_foretell 127 [(0, .ref x), (1, .int (nI i)), (2, .int (nI 2)), (3, .int (nI bb))] [.int (jI ((sumN T 9 (nF T)) - (sumN N 9 (nF N))))] (zSi y2 290 x (nI 0)) _
            refine g_ireturn dX9_foretell_127 rfl ?_
            exact PPc.fin g s2 cx2 t1 rfl rfl
          · refine g_iload_n 2 dX9_foretell_52 rfl rfl ?_
            refine g_tableIn (off := 75) (tgt := 128) dX9_foretell_53 (by decide) (by decide) (by decide) (by decide) ?_
            refine g_aload_n 0 dX9_foretell_128 rfl rfl ?_
            refine g_aload_n 0 dX9_foretell_129 rfl rfl ?_
            refine g_getr (f := 294) (b := B 1) dX9_foretell_130 fl_X9_27 X2.1 rfl X2.2.1 ?_
            refine g_invv (M' := mX5_lostInAll) (As := []) (rest := [.ref x]) dX9_foretell_133 ml_X9_285 okX5_lostInAll imX5_lostInAll seX5_lostInAll ⟨(Nat.le_of_ble_eq_true rfl), (Nat.le_of_ble_eq_true rfl)⟩ (ci := 5) rfl rfl cx2.1.1.2 rfl rfl (Nat.le_of_ble_eq_true rfl) (c_lostInAll cx2 t1.1) ?_
            rintro _ q12 ⟨rfl, eq12⟩
            subst q12
            show zG l w mX9_foretell 136 [(0, .ref x), (1, .int (nI i)), (2, .int (nI 3)), (3, .int (nI bb))] [.int (jI (sumN T 10 (nF T))), .ref x] y2 _
            refine g_aload_n 0 dX9_foretell_136 rfl rfl ?_
            refine g_getr (f := 293) (b := B 0) dX9_foretell_137 fl_X9_23 X2.1 rfl X2.2.2 ?_
            refine g_invv (M' := mX5_lostInAll) (As := []) (rest := [.int (jI (sumN T 10 (nF T))), .ref x]) dX9_foretell_140 ml_X9_285 okX5_lostInAll imX5_lostInAll seX5_lostInAll ⟨(Nat.le_of_ble_eq_true rfl), (Nat.le_of_ble_eq_true rfl)⟩ (ci := 5) rfl rfl c5.1.1.2 rfl rfl (Nat.le_of_ble_eq_true rfl) (c_lostInAll c5 c2.1) ?_
            rintro _ q13 ⟨rfl, eq13⟩
            subst q13
            show zG l w mX9_foretell 143 [(0, .ref x), (1, .int (nI i)), (2, .int (nI 3)), (3, .int (nI bb))] [.int (jI (sumN N 10 (nF N))), .int (jI (sumN T 10 (nF T))), .ref x] y2 _
            refine g_isub dX9_foretell_143 ?_
            rw [jI_sub]
            refine g_invv (M' := mX9_answer) (As := [.int (jI ((sumN T 10 (nF T)) - (sumN N 10 (nF N))))]) (rest := []) dX9_foretell_144 ml_X9_75 okX9_answer imX9_answer seX9_answer ⟨(Nat.le_of_ble_eq_true rfl), (Nat.le_of_ble_eq_true rfl)⟩ (ci := 9) rfl rfl X2.1 rfl rfl (Nat.le_of_ble_eq_true rfl) (c_ans X2.1) ?_
            rintro _ q14 ⟨rfl, eq14⟩
            subst q14
            show zG l w mX9_foretell 147 [(0, .ref x), (1, .int (nI i)), (2, .int (nI 3)), (3, .int (nI bb))] [.int (jI ((sumN T 10 (nF T)) - (sumN N 10 (nF N))))] (zSi y2 290 x (nI 0)) _
            refine g_ireturn dX9_foretell_147 rfl ?_
            exact PPc.fin g s2 cx2 t1 rfl rfl
          · refine g_iload_n 2 dX9_foretell_52 rfl rfl ?_
            refine g_tableOut (tgt := 148) dX9_foretell_53 (by decide) (by decide) ?_
            refine g_aload_n 0 dX9_foretell_148 rfl rfl ?_
            refine g_aload_n 0 dX9_foretell_149 rfl rfl ?_
            refine g_getr (f := 294) (b := B 1) dX9_foretell_150 fl_X9_27 X2.1 rfl X2.2.1 ?_
            refine g_invv (M' := mX5_longestRow) (As := []) (rest := [.ref x]) dX9_foretell_153 ml_X9_288 okX5_longestRow imX5_longestRow seX5_longestRow ⟨(Nat.le_of_ble_eq_true rfl), (Nat.le_of_ble_eq_true rfl)⟩ (ci := 5) rfl rfl cx2.1.1.2 rfl rfl (Nat.le_of_ble_eq_true rfl) (c_longestC cx2 t1.1) ?_
            rintro _ q15 ⟨rfl, eq15⟩
            subst q15
            show zG l w mX9_foretell 156 [(0, .ref x), (1, .int (nI i)), (2, .int (nI 4)), (3, .int (nI bb))] [.int (jI (lonN T (nA T 0).toNat)), .ref x] y2 _
            refine g_invv (M' := mX9_answer) (As := [.int (jI (lonN T (nA T 0).toNat))]) (rest := []) dX9_foretell_156 ml_X9_75 okX9_answer imX9_answer seX9_answer ⟨(Nat.le_of_ble_eq_true rfl), (Nat.le_of_ble_eq_true rfl)⟩ (ci := 9) rfl rfl X2.1 rfl rfl (Nat.le_of_ble_eq_true rfl) (c_ans X2.1) ?_
            rintro _ q16 ⟨rfl, eq16⟩
            subst q16
            show zG l w mX9_foretell 159 [(0, .ref x), (1, .int (nI i)), (2, .int (nI 4)), (3, .int (nI bb))] [.int (jI (lonN T (nA T 0).toNat))] (zSi y2 290 x (nI 0)) _
            refine g_ireturn dX9_foretell_159 rfl ?_
            exact PPc.fin g s2 cx2 t1 rfl rfl
        · refine g_aload_n 0 dX9_foretell_19 rfl rfl ?_
          refine g_iconst (v := nI 1) dX9_foretell_20 (by decide) ?_
          refine g_invv (M' := mX9_refuse) (As := [.int (nI 1)]) (rest := []) dX9_foretell_21 ml_X9_58 okX9_refuse imX9_refuse seX9_refuse ⟨(Nat.le_of_ble_eq_true rfl), (Nat.le_of_ble_eq_true rfl)⟩ (ci := 9) rfl rfl g.1.2.1 rfl rfl (Nat.le_of_ble_eq_true rfl) (c_refC g.1.2.1) ?_
          rintro _ q4 ⟨rfl, eq4⟩
          subst q4
          show zG l w mX9_foretell 24 [(0, .ref x), (1, .int (jI n)), (2, .int (jI k)), (3, .int (nI bb))] [.int (-1)] (zSi h 290 x (nI 1)) _
          refine g_ireturn dX9_foretell_24 rfl ?_
          have e : qAfter N bb n k = (1, -1) := by unfold qAfter; rw [if_neg (by omega)]
          exact PPc.ref g (by rw [e]; rfl) (by rw [e]; rfl)
theorem c_afterC (g : GC h x B ls N Ms n0) (ht : nA N 2 ≤ 39000) {n k : Int} (nb : -2147483648 ≤ n ∧ n < 2147483648) (kb : -2147483648 ≤ k ∧ k < 2147483648) : zM l w mX9_after [.ref x, .int (jI n), .int (jI k)] h (PPc h x B N Ms n0 (qAfter N 0 n k)) := by
  refine zM.of (by decide) (Nat.le_of_ble_eq_true rfl) ?_
  refine g_aload_n 0 dX9_after_0 rfl rfl ?_
  refine g_iload_n 1 dX9_after_1 rfl rfl ?_
  refine g_iload_n 2 dX9_after_2 rfl rfl ?_
  refine g_iconst (v := nI 0) dX9_after_3 (by decide) ?_
  refine g_invv (M' := mX9_foretell) (As := [.int (jI n), .int (jI k), .int (nI 0)]) (rest := []) dX9_after_4 ml_X9_262 okX9_foretell imX9_foretell seX9_foretell ⟨(Nat.le_of_ble_eq_true rfl), (Nat.le_of_ble_eq_true rfl)⟩ (ci := 9) rfl rfl g.1.2.1 rfl rfl (Nat.le_of_ble_eq_true rfl) (c_foretell g ht (bb := 0) (by omega) nb kb) ?_
  rintro _ y1 ⟨rfl, s1, R1, F1⟩
  show zG l w mX9_after 7 [(0, .ref x), (1, .int (jI n)), (2, .int (jI k))] [.int (jI (qAfter N 0 n k).2)] y1 _
  refine g_ireturn dX9_after_7 rfl ?_
  exact ⟨rfl, s1, R1, F1⟩
theorem c_blindC (g : GC h x B ls N Ms n0) (ht : nA N 2 ≤ 39000) {n k : Int} (nb : -2147483648 ≤ n ∧ n < 2147483648) (kb : -2147483648 ≤ k ∧ k < 2147483648) : zM l w mX9_blind [.ref x, .int (jI n), .int (jI k)] h (PPc h x B N Ms n0 (qAfter N 1 n k)) := by
  refine zM.of (by decide) (Nat.le_of_ble_eq_true rfl) ?_
  refine g_aload_n 0 dX9_blind_0 rfl rfl ?_
  refine g_iload_n 1 dX9_blind_1 rfl rfl ?_
  refine g_iload_n 2 dX9_blind_2 rfl rfl ?_
  refine g_iconst (v := nI 1) dX9_blind_3 (by decide) ?_
  refine g_invv (M' := mX9_foretell) (As := [.int (jI n), .int (jI k), .int (nI 1)]) (rest := []) dX9_blind_4 ml_X9_262 okX9_foretell imX9_foretell seX9_foretell ⟨(Nat.le_of_ble_eq_true rfl), (Nat.le_of_ble_eq_true rfl)⟩ (ci := 9) rfl rfl g.1.2.1 rfl rfl (Nat.le_of_ble_eq_true rfl) (c_foretell g ht (bb := 1) (by omega) nb kb) ?_
  rintro _ y1 ⟨rfl, s1, R1, F1⟩
  show zG l w mX9_blind 7 [(0, .ref x), (1, .int (jI n)), (2, .int (jI k))] [.int (jI (qAfter N 1 n k).2)] y1 _
  refine g_ireturn dX9_blind_7 rfl ?_
  exact ⟨rfl, s1, R1, F1⟩
theorem c_withoutC (g : GC h x B ls N Ms n0) (ht : nA N 2 ≤ 39000) {z v n : Int} (zb : -2147483648 ≤ z ∧ z < 2147483648) (vb : -2147483648 ≤ v ∧ v < 2147483648) (nb : -2147483648 ≤ n ∧ n < 2147483648) : zM l w mX9_without [.ref x, .int (jI z), .int (jI v), .int (jI n)] h (PPc h x B N Ms n0 (qWithout N z v n)) := by
  refine zM.of (by decide) (Nat.le_of_ble_eq_true rfl) ?_
  obtain ⟨π, t, c1, c2, c3⟩ := g.2.2.2.2.2.2.1
  have H1 := c2.1.H.2.1
  refine g_iload_n 3 dX9_without_0 rfl rfl ?_
  refine g_iconst (v := nI 1) dX9_without_1 (by decide) ?_
  refine g_zcmp_lt (a := n) (b := 1) (tgt := 11) rfl (by decide) dX9_without_2 (by decide) (by omega) (by omega) (fun d1 => ?_) (fun d1 => ?_)
  · refine g_aload_n 0 dX9_without_11 rfl rfl ?_
    refine g_iconst (v := nI 1) dX9_without_12 (by decide) ?_
    refine g_invv (M' := mX9_refuse) (As := [.int (nI 1)]) (rest := []) dX9_without_13 ml_X9_58 okX9_refuse imX9_refuse seX9_refuse ⟨(Nat.le_of_ble_eq_true rfl), (Nat.le_of_ble_eq_true rfl)⟩ (ci := 9) rfl rfl g.1.2.1 rfl rfl (Nat.le_of_ble_eq_true rfl) (c_refC g.1.2.1) ?_
    rintro _ q1 ⟨rfl, eq1⟩
    subst q1
    show zG l w mX9_without 16 [(0, .ref x), (1, .int (jI z)), (2, .int (jI v)), (3, .int (jI n))] [.int (-1)] (zSi h 290 x (nI 1)) _
    refine g_ireturn dX9_without_16 rfl ?_
    have e : qWithout N z v n = (1, -1) := by unfold qWithout; rw [if_neg (by omega)]
    exact PPc.ref g (by rw [e]; rfl) (by rw [e]; rfl)
  · refine g_iload_n 3 dX9_without_5 rfl rfl ?_
    refine g_bipush (v := nI 120) dX9_without_6 (by decide) ?_
    refine g_zcmp_le (a := n) (b := 120) (tgt := 17) rfl (by decide) dX9_without_8 (by decide) (by omega) (by omega) (fun d2 => ?_) (fun d2 => ?_)
    · have c0 : 1 ≤ n ∧ n ≤ 120 := by omega
      by_cases d : 0 ≤ z ∧ z < nA N 1
      · by_cases d3 : 0 ≤ v ∧ v < nA N 1
        · obtain ⟨f, ef⟩ : ∃ f : Nat, z = (f : Int) := ⟨_, (Int.toNat_of_nonneg d.1).symm⟩
          subst ef
          obtain ⟨e, ee⟩ : ∃ e : Nat, v = (e : Int) := ⟨_, (Int.toNat_of_nonneg d3.1).symm⟩
          subst ee
          obtain ⟨i, ei⟩ : ∃ i : Nat, n = (i : Int) := ⟨_, (Int.toNat_of_nonneg (by omega)).symm⟩
          subst ei
          simp only [jI_nat]
          show zG l w mX9_without 17 [(0, .ref x), (1, .int (nI f)), (2, .int (nI e)), (3, .int (nI i))] [] h _
          have e0 : qWithout N (f : Int) (e : Int) (i : Int) = (0, nA (ticksN (wthN N f e) i) (248 + 20 * f + 9) - nA N (248 + 20 * f + 9)) := by unfold qWithout; rw [if_pos c0, if_pos ⟨d, d3⟩, Int.toNat_natCast, Int.toNat_natCast, Int.toNat_natCast]
          rw [e0]
          clear e0
          have f6 : f < 6 := by omega
          have e6 : e < 6 := by omega
          obtain ⟨W1, W2, W7, W3⟩ := c2.wth (f := f) d3.2
          refine g_aload_n 0 dX9_without_17 rfl rfl ?_
          refine g_getr (f := 293) (b := B 0) dX9_without_18 fl_X9_23 g.1.2.1 rfl g.1.2.2.1 ?_
          refine g_iload_n 1 dX9_without_21 rfl rfl ?_
          refine g_invv (M' := mX5_flowAt) (As := [.int (nI f)]) (rest := []) dX9_without_22 ml_X9_127 okX5_flowAt imX5_flowAt seX5_flowAt ⟨(Nat.le_of_ble_eq_true rfl), (Nat.le_of_ble_eq_true rfl)⟩ (ci := 5) rfl rfl (g.2.2.2.2.2.1 0 (by omega)).1.1.2 rfl rfl (Nat.le_of_ble_eq_true rfl) (c_flowIn c1 H1 d.2) ?_
          rintro _ q8 ⟨rfl, eq8⟩
          subst q8
          show zG l w mX9_without 25 [(0, .ref x), (1, .int (nI f)), (2, .int (nI e)), (3, .int (nI i))] [.ref (B 0 + 53 + 2 * f)] h _
          refine g_ifnull dX9_without_25 ?_
          refine g_aload_n 0 dX9_without_28 rfl rfl ?_
          refine g_getr (f := 293) (b := B 0) dX9_without_29 fl_X9_23 g.1.2.1 rfl g.1.2.2.1 ?_
          refine g_iload_n 2 dX9_without_32 rfl rfl ?_
          refine g_invv (M' := mX5_flowAt) (As := [.int (nI e)]) (rest := []) dX9_without_33 ml_X9_127 okX5_flowAt imX5_flowAt seX5_flowAt ⟨(Nat.le_of_ble_eq_true rfl), (Nat.le_of_ble_eq_true rfl)⟩ (ci := 5) rfl rfl (g.2.2.2.2.2.1 0 (by omega)).1.1.2 rfl rfl (Nat.le_of_ble_eq_true rfl) (c_flowIn c1 H1 d3.2) ?_
          rintro _ q9 ⟨rfl, eq9⟩
          subst q9
          show zG l w mX9_without 36 [(0, .ref x), (1, .int (nI f)), (2, .int (nI e)), (3, .int (nI i))] [.ref (B 0 + 53 + 2 * e)] h _
          refine g_ifnonnull (tgt := 45) dX9_without_36 (by decide) ?_
          refine g_aload_n 0 dX9_without_45 rfl rfl ?_
          refine g_getr (f := 294) (b := B 1) dX9_without_46 fl_X9_27 g.1.2.1 rfl g.1.2.2.2.1 ?_
          refine g_aload_n 0 dX9_without_49 rfl rfl ?_
          refine g_getr (f := 293) (b := B 0) dX9_without_50 fl_X9_23 g.1.2.1 rfl g.1.2.2.1 ?_
          refine g_invv (M' := mX5_copyFrom) (As := [.ref (B 0)]) (rest := []) dX9_without_53 ml_X9_246 okX5_copyFrom imX5_copyFrom seX5_copyFrom ⟨(Nat.le_of_ble_eq_true rfl), (Nat.le_of_ble_eq_true rfl)⟩ (ci := 5) rfl rfl (g.2.2.2.2.2.1 1 (by omega)).1.1.2 rfl rfl (Nat.le_of_ble_eq_true rfl) (c_netCopy c1 c2.1 (g.2.2.2.2.2.1 1 (by omega)) g.dj) ?_
          rintro _ y0 ⟨rfl, π0, lt0, cx0, s0⟩
          show zG l w mX9_without 56 [(0, .ref x), (1, .int (nI f)), (2, .int (nI e)), (3, .int (nI i))] [] y0 _
          have X0 := g.px s0
          refine g_aload_n 0 dX9_without_56 rfl rfl ?_
          refine g_getr (f := 294) (b := B 1) dX9_without_57 fl_X9_27 X0.1 rfl X0.2.1 ?_
          refine g_iload_n 1 dX9_without_60 rfl rfl ?_
          refine g_invv (M' := mX5_flowAt) (As := [.int (nI f)]) (rest := []) dX9_without_61 ml_X9_127 okX5_flowAt imX5_flowAt seX5_flowAt ⟨(Nat.le_of_ble_eq_true rfl), (Nat.le_of_ble_eq_true rfl)⟩ (ci := 5) rfl rfl cx0.1.1.2 rfl rfl (Nat.le_of_ble_eq_true rfl) (c_flowIn cx0 H1 d.2) ?_
          rintro _ q10 ⟨rfl, eq10⟩
          subst q10
          show zG l w mX9_without 64 [(0, .ref x), (1, .int (nI f)), (2, .int (nI e)), (3, .int (nI i))] [.ref (B 1 + 53 + 2 * f)] y0 _
          refine g_astore (lv2 := [(4, .ref (B 1 + 53 + 2 * f)), (0, .ref x), (1, .int (nI f)), (2, .int (nI e)), (3, .int (nI i))]) dX9_without_64 (by decide) rfl ?_
          refine g_aload_n 1 dX9_without_66 rfl rfl ?_
          refine g_getr (f := 294) (b := B 1) dX9_without_67 fl_X9_27 X0.1 rfl X0.2.1 ?_
          refine g_iload_n 3 dX9_without_70 rfl rfl ?_
          refine g_invv (M' := mX5_flowAt) (As := [.int (nI e)]) (rest := []) dX9_without_71 ml_X9_127 okX5_flowAt imX5_flowAt seX5_flowAt ⟨(Nat.le_of_ble_eq_true rfl), (Nat.le_of_ble_eq_true rfl)⟩ (ci := 5) rfl rfl cx0.1.1.2 rfl rfl (Nat.le_of_ble_eq_true rfl) (c_flowIn cx0 H1 d3.2) ?_
          rintro _ q11 ⟨rfl, eq11⟩
          subst q11
          show zG l w mX9_without 74 [(4, .ref (B 1 + 53 + 2 * f)), (0, .ref x), (1, .int (nI f)), (2, .int (nI e)), (3, .int (nI i))] [.ref (B 1 + 53 + 2 * e)] y0 _
          refine g_astore (lv2 := [(5, .ref (B 1 + 53 + 2 * e)), (4, .ref (B 1 + 53 + 2 * f)), (0, .ref x), (1, .int (nI f)), (2, .int (nI e)), (3, .int (nI i))]) dX9_without_74 (by decide) rfl ?_
          refine g_aload 1 dX9_without_76 rfl ?_
          refine g_ifnull dX9_without_78 ?_
          refine g_aload 0 dX9_without_81 rfl ?_
          refine g_ifnonnull (tgt := 92) dX9_without_83 (by decide) ?_
          refine g_iload_n 3 dX9_without_92 rfl rfl ?_
          refine g_iload_n 4 dX9_without_93 rfl rfl ?_
          refine g_ncmp_eq (tgt := 103) dX9_without_94 (by decide) (by omega) (by omega) (fun g0 => ?_) (fun g0 => ?_)
          · have cw : CX y0 (B 1) π0 lt0 (wthN N f e) [] t := by unfold wthN; rw [if_pos (by omega)]; exact cx0
            have w9 : nA (wthN N f e) (248 + 20 * f + 9) = nA N (248 + 20 * f + 9) := by unfold wthN; by_cases q : f = e; (rw [if_pos q]); (rw [if_neg q]; exact nA_ne (by omega))
            refine g_aload 1 dX9_without_103 rfl ?_
            refine g_geti (f := 74) dX9_without_105 fl_X9_266 (cw.1.2.2.2.2.2.2.2.2.2 f f6).2.1 (by decide) rfl ?_
            rw [show zi y0 74 (B 1 + 53 + 2 * f) = jI (nA N (248 + 20 * f + 9)) from ((cw.2.2.2.2.1 f (by rw [W3]; exact d.2) f6).1 9 (by omega) (by omega)).trans (congrArg jI w9)]
            refine g_istore (lv2 := [(6, .int (jI (nA N (248 + 20 * f + 9)))), (5, .ref (B 1 + 53 + 2 * e)), (4, .ref (B 1 + 53 + 2 * f)), (0, .ref x), (1, .int (nI f)), (2, .int (nI e)), (3, .int (nI i))]) dX9_without_108 (by decide) rfl ?_
            refine g_aload_n 3 dX9_without_110 rfl rfl ?_
            refine g_getr (f := 294) (b := B 1) dX9_without_111 fl_X9_27 X0.1 rfl X0.2.1 ?_
            refine g_iload_n 6 dX9_without_114 rfl rfl ?_
            refine g_invv (M' := mX5_passTicks) (As := [.int (nI i)]) (rest := []) dX9_without_115 ml_X9_243 okX5_passTicks imX5_passTicks seX5_passTicks ⟨(Nat.le_of_ble_eq_true rfl), (Nat.le_of_ble_eq_true rfl)⟩ (ci := 5) rfl rfl cw.1.1.2 rfl rfl (Nat.le_of_ble_eq_true rfl) (c_passTicks (m := i) cw W1 (by rw [W2]; exact c3) (by omega)) ?_
            rintro _ y2 ⟨rfl, π2, lt2, cx2, s2⟩
            show zG l w mX9_without 118 [(6, .int (jI (nA N (248 + 20 * f + 9)))), (5, .ref (B 1 + 53 + 2 * e)), (4, .ref (B 1 + 53 + 2 * f)), (0, .ref x), (1, .int (nI f)), (2, .int (nI e)), (3, .int (nI i))] [] y2 _
            have s2 := s0.tr s2
            have X2 := g.px s2
            obtain ⟨t1, t2, t3⟩ := ticks_in W1 i (by omega)
            have t31 := (t3 1 (by unfold stK; omega)).trans W3
            generalize ticksN (wthN N f e) i = T at cx2 t1 t31 ⊢
            refine g_aload_n 3 dX9_without_118 rfl rfl ?_
            refine g_aload 2 dX9_without_119 rfl ?_
            refine g_geti (f := 74) dX9_without_121 fl_X9_266 (cx2.1.2.2.2.2.2.2.2.2.2 f f6).2.1 (by decide) rfl ?_
            rw [show zi y2 74 (B 1 + 53 + 2 * f) = jI (nA T (248 + 20 * f + 9)) from (cx2.2.2.2.2.1 f (by rw [t31]; exact d.2) f6).1 9 (by omega) (by omega)]
            refine g_iload 0 dX9_without_124 rfl ?_
            refine g_isub dX9_without_126 ?_
            rw [jI_sub]
            refine g_invv (M' := mX9_answer) (As := [.int (jI ((nA T (248 + 20 * f + 9)) - (nA N (248 + 20 * f + 9))))]) (rest := []) dX9_without_127 ml_X9_75 okX9_answer imX9_answer seX9_answer ⟨(Nat.le_of_ble_eq_true rfl), (Nat.le_of_ble_eq_true rfl)⟩ (ci := 9) rfl rfl X2.1 rfl rfl (Nat.le_of_ble_eq_true rfl) (c_ans X2.1) ?_
            rintro _ q12 ⟨rfl, eq12⟩
            subst q12
            show zG l w mX9_without 130 [(6, .int (jI (nA N (248 + 20 * f + 9)))), (5, .ref (B 1 + 53 + 2 * e)), (4, .ref (B 1 + 53 + 2 * f)), (0, .ref x), (1, .int (nI f)), (2, .int (nI e)), (3, .int (nI i))] [.int (jI ((nA T (248 + 20 * f + 9)) - (nA N (248 + 20 * f + 9))))] (zSi y2 290 x (nI 0)) _
            refine g_ireturn dX9_without_130 rfl ?_
            exact PPc.fin g s2 cx2 t1 rfl rfl
          · refine g_aload 0 dX9_without_97 rfl ?_
            refine g_iconst (v := nI 0) dX9_without_99 (by decide) ?_
            refine g_putz (f := 68) dX9_without_100 fl_X9_222 (Or.inl rfl) (cx0.1.2.2.2.2.2.2.2.2.2 e e6).2.1 rfl (by first | exact Or.inl rfl | exact Or.inr rfl | assumption) ?_
            obtain ⟨cx1, s1⟩ := cx0.setF (f := e) (j := 3) (z := 0) e6 (by omega) (by omega) (by omega)
            have s1 := s0.tr s1
            have cw : CX (zSi y0 68 (B 1 + 53 + 2 * e) (nI 0)) (B 1) π0 lt0 (wthN N f e) [] t := by unfold wthN; rw [if_neg (by omega)]; exact cx1
            have s1 : CSt (B 1) ls h lt0 (zSi y0 68 (B 1 + 53 + 2 * e) (nI 0)) := s1
            generalize zSi y0 68 (B 1 + 53 + 2 * e) (nI 0) = y1 at cw s1 ⊢
            have X1 := g.px s1
            have w9 : nA (wthN N f e) (248 + 20 * f + 9) = nA N (248 + 20 * f + 9) := by unfold wthN; by_cases q : f = e; (rw [if_pos q]); (rw [if_neg q]; exact nA_ne (by omega))
            refine g_aload 1 dX9_without_103 rfl ?_
            refine g_geti (f := 74) dX9_without_105 fl_X9_266 (cw.1.2.2.2.2.2.2.2.2.2 f f6).2.1 (by decide) rfl ?_
            rw [show zi y1 74 (B 1 + 53 + 2 * f) = jI (nA N (248 + 20 * f + 9)) from ((cw.2.2.2.2.1 f (by rw [W3]; exact d.2) f6).1 9 (by omega) (by omega)).trans (congrArg jI w9)]
            refine g_istore (lv2 := [(6, .int (jI (nA N (248 + 20 * f + 9)))), (5, .ref (B 1 + 53 + 2 * e)), (4, .ref (B 1 + 53 + 2 * f)), (0, .ref x), (1, .int (nI f)), (2, .int (nI e)), (3, .int (nI i))]) dX9_without_108 (by decide) rfl ?_
            refine g_aload_n 3 dX9_without_110 rfl rfl ?_
            refine g_getr (f := 294) (b := B 1) dX9_without_111 fl_X9_27 X1.1 rfl X1.2.1 ?_
            refine g_iload_n 6 dX9_without_114 rfl rfl ?_
            refine g_invv (M' := mX5_passTicks) (As := [.int (nI i)]) (rest := []) dX9_without_115 ml_X9_243 okX5_passTicks imX5_passTicks seX5_passTicks ⟨(Nat.le_of_ble_eq_true rfl), (Nat.le_of_ble_eq_true rfl)⟩ (ci := 5) rfl rfl cw.1.1.2 rfl rfl (Nat.le_of_ble_eq_true rfl) (c_passTicks (m := i) cw W1 (by rw [W2]; exact c3) (by omega)) ?_
            rintro _ y2 ⟨rfl, π2, lt2, cx2, s2⟩
            show zG l w mX9_without 118 [(6, .int (jI (nA N (248 + 20 * f + 9)))), (5, .ref (B 1 + 53 + 2 * e)), (4, .ref (B 1 + 53 + 2 * f)), (0, .ref x), (1, .int (nI f)), (2, .int (nI e)), (3, .int (nI i))] [] y2 _
            have s2 := s1.tr s2
            have X2 := g.px s2
            obtain ⟨t1, t2, t3⟩ := ticks_in W1 i (by omega)
            have t31 := (t3 1 (by unfold stK; omega)).trans W3
            generalize ticksN (wthN N f e) i = T at cx2 t1 t31 ⊢
            refine g_aload_n 3 dX9_without_118 rfl rfl ?_
            refine g_aload 2 dX9_without_119 rfl ?_
            refine g_geti (f := 74) dX9_without_121 fl_X9_266 (cx2.1.2.2.2.2.2.2.2.2.2 f f6).2.1 (by decide) rfl ?_
            rw [show zi y2 74 (B 1 + 53 + 2 * f) = jI (nA T (248 + 20 * f + 9)) from (cx2.2.2.2.2.1 f (by rw [t31]; exact d.2) f6).1 9 (by omega) (by omega)]
            refine g_iload 0 dX9_without_124 rfl ?_
            refine g_isub dX9_without_126 ?_
            rw [jI_sub]
            refine g_invv (M' := mX9_answer) (As := [.int (jI ((nA T (248 + 20 * f + 9)) - (nA N (248 + 20 * f + 9))))]) (rest := []) dX9_without_127 ml_X9_75 okX9_answer imX9_answer seX9_answer ⟨(Nat.le_of_ble_eq_true rfl), (Nat.le_of_ble_eq_true rfl)⟩ (ci := 9) rfl rfl X2.1 rfl rfl (Nat.le_of_ble_eq_true rfl) (c_ans X2.1) ?_
            rintro _ q13 ⟨rfl, eq13⟩
            subst q13
            show zG l w mX9_without 130 [(6, .int (jI (nA N (248 + 20 * f + 9)))), (5, .ref (B 1 + 53 + 2 * e)), (4, .ref (B 1 + 53 + 2 * f)), (0, .ref x), (1, .int (nI f)), (2, .int (nI e)), (3, .int (nI i))] [.int (jI ((nA T (248 + 20 * f + 9)) - (nA N (248 + 20 * f + 9))))] (zSi y2 290 x (nI 0)) _
            refine g_ireturn dX9_without_130 rfl ?_
            exact PPc.fin g s2 cx2 t1 rfl rfl
        · obtain ⟨f, ef⟩ : ∃ f : Nat, z = (f : Int) := ⟨_, (Int.toNat_of_nonneg d.1).symm⟩
          subst ef
          simp only [jI_nat]
          show zG l w mX9_without 17 [(0, .ref x), (1, .int (nI f)), (2, .int (jI v)), (3, .int (jI n))] [] h _
          refine g_aload_n 0 dX9_without_17 rfl rfl ?_
          refine g_getr (f := 293) (b := B 0) dX9_without_18 fl_X9_23 g.1.2.1 rfl g.1.2.2.1 ?_
          refine g_iload_n 1 dX9_without_21 rfl rfl ?_
          refine g_invv (M' := mX5_flowAt) (As := [.int (nI f)]) (rest := []) dX9_without_22 ml_X9_127 okX5_flowAt imX5_flowAt seX5_flowAt ⟨(Nat.le_of_ble_eq_true rfl), (Nat.le_of_ble_eq_true rfl)⟩ (ci := 5) rfl rfl (g.2.2.2.2.2.1 0 (by omega)).1.1.2 rfl rfl (Nat.le_of_ble_eq_true rfl) (c_flowIn c1 H1 d.2) ?_
          rintro _ q5 ⟨rfl, eq5⟩
          subst q5
          show zG l w mX9_without 25 [(0, .ref x), (1, .int (nI f)), (2, .int (jI v)), (3, .int (jI n))] [.ref (B 0 + 53 + 2 * f)] h _
          refine g_ifnull dX9_without_25 ?_
          refine g_aload_n 0 dX9_without_28 rfl rfl ?_
          refine g_getr (f := 293) (b := B 0) dX9_without_29 fl_X9_23 g.1.2.1 rfl g.1.2.2.1 ?_
          refine g_iload_n 2 dX9_without_32 rfl rfl ?_
          refine g_invv (M' := mX5_flowAt) (As := [.int (jI v)]) (rest := []) dX9_without_33 ml_X9_127 okX5_flowAt imX5_flowAt seX5_flowAt ⟨(Nat.le_of_ble_eq_true rfl), (Nat.le_of_ble_eq_true rfl)⟩ (ci := 5) rfl rfl (g.2.2.2.2.2.1 0 (by omega)).1.1.2 rfl rfl (Nat.le_of_ble_eq_true rfl) (c_flowOut c1 H1 vb d3) ?_
          rintro _ q6 ⟨rfl, eq6⟩
          subst q6
          show zG l w mX9_without 36 [(0, .ref x), (1, .int (nI f)), (2, .int (jI v)), (3, .int (jI n))] [.null] h _
          refine g_ifnonnullN dX9_without_36 ?_
          refine g_aload_n 0 dX9_without_39 rfl rfl ?_
          refine g_iconst (v := nI 2) dX9_without_40 (by decide) ?_
          refine g_invv (M' := mX9_refuse) (As := [.int (nI 2)]) (rest := []) dX9_without_41 ml_X9_58 okX9_refuse imX9_refuse seX9_refuse ⟨(Nat.le_of_ble_eq_true rfl), (Nat.le_of_ble_eq_true rfl)⟩ (ci := 9) rfl rfl g.1.2.1 rfl rfl (Nat.le_of_ble_eq_true rfl) (c_refC g.1.2.1) ?_
          rintro _ q7 ⟨rfl, eq7⟩
          subst q7
          show zG l w mX9_without 44 [(0, .ref x), (1, .int (nI f)), (2, .int (jI v)), (3, .int (jI n))] [.int (-1)] (zSi h 290 x (nI 2)) _
          refine g_ireturn dX9_without_44 rfl ?_
          have e : qWithout N (f : Int) v n = (2, -1) := by unfold qWithout; rw [if_pos c0, if_neg (fun q => d3 q.2)]
          exact PPc.ref g (by rw [e]; rfl) (by rw [e]; rfl)
      · refine g_aload_n 0 dX9_without_17 rfl rfl ?_
        refine g_getr (f := 293) (b := B 0) dX9_without_18 fl_X9_23 g.1.2.1 rfl g.1.2.2.1 ?_
        refine g_iload_n 1 dX9_without_21 rfl rfl ?_
        refine g_invv (M' := mX5_flowAt) (As := [.int (jI z)]) (rest := []) dX9_without_22 ml_X9_127 okX5_flowAt imX5_flowAt seX5_flowAt ⟨(Nat.le_of_ble_eq_true rfl), (Nat.le_of_ble_eq_true rfl)⟩ (ci := 5) rfl rfl (g.2.2.2.2.2.1 0 (by omega)).1.1.2 rfl rfl (Nat.le_of_ble_eq_true rfl) (c_flowOut c1 H1 zb d) ?_
        rintro _ q3 ⟨rfl, eq3⟩
        subst q3
        show zG l w mX9_without 25 [(0, .ref x), (1, .int (jI z)), (2, .int (jI v)), (3, .int (jI n))] [.null] h _
        refine g_ifnullN (tgt := 39) dX9_without_25 (by decide) ?_
        refine g_aload_n 0 dX9_without_39 rfl rfl ?_
        refine g_iconst (v := nI 2) dX9_without_40 (by decide) ?_
        refine g_invv (M' := mX9_refuse) (As := [.int (nI 2)]) (rest := []) dX9_without_41 ml_X9_58 okX9_refuse imX9_refuse seX9_refuse ⟨(Nat.le_of_ble_eq_true rfl), (Nat.le_of_ble_eq_true rfl)⟩ (ci := 9) rfl rfl g.1.2.1 rfl rfl (Nat.le_of_ble_eq_true rfl) (c_refC g.1.2.1) ?_
        rintro _ q4 ⟨rfl, eq4⟩
        subst q4
        show zG l w mX9_without 44 [(0, .ref x), (1, .int (jI z)), (2, .int (jI v)), (3, .int (jI n))] [.int (-1)] (zSi h 290 x (nI 2)) _
        refine g_ireturn dX9_without_44 rfl ?_
        have e : qWithout N z v n = (2, -1) := by unfold qWithout; rw [if_pos c0, if_neg (fun q => d q.1)]
        exact PPc.ref g (by rw [e]; rfl) (by rw [e]; rfl)
    · refine g_aload_n 0 dX9_without_11 rfl rfl ?_
      refine g_iconst (v := nI 1) dX9_without_12 (by decide) ?_
      refine g_invv (M' := mX9_refuse) (As := [.int (nI 1)]) (rest := []) dX9_without_13 ml_X9_58 okX9_refuse imX9_refuse seX9_refuse ⟨(Nat.le_of_ble_eq_true rfl), (Nat.le_of_ble_eq_true rfl)⟩ (ci := 9) rfl rfl g.1.2.1 rfl rfl (Nat.le_of_ble_eq_true rfl) (c_refC g.1.2.1) ?_
      rintro _ q2 ⟨rfl, eq2⟩
      subst q2
      show zG l w mX9_without 16 [(0, .ref x), (1, .int (jI z)), (2, .int (jI v)), (3, .int (jI n))] [.int (-1)] (zSi h 290 x (nI 1)) _
      refine g_ireturn dX9_without_16 rfl ?_
      have e : qWithout N z v n = (1, -1) := by unfold qWithout; rw [if_neg (by omega)]
      exact PPc.ref g (by rw [e]; rfl) (by rw [e]; rfl)
theorem c_losesNone (g : GC h x B ls N Ms n0) (ht : nA N 2 ≤ 39000) {a k mu i : Nat} (ha : (a : Int) < nA N 0) (hk : k ≤ 1) (hm : (k = 0 ∧ 1 ≤ mu ∧ mu ≤ 9) ∨ (¬ k = 0 ∧ 1 ≤ mu ∧ mu ≤ 60)) (hi : i ≤ 10) : zM l w mX9_losesNone [.ref x, .int (nI a), .int (nI k), .int (nI mu), .int (nI i)] h (fun u h1 => u = some (.int (bI (decide (jI (nA (ticksN (lsM N a k mu) i) 6 - nA N 6) = 0)))) ∧ ∃ lt, GC h1 x B lt N Ms n0 ∧ OtX x (fun _ => False) h h1) := by
  refine zM.of (by decide) (Nat.le_of_ble_eq_true rfl) ?_
  obtain ⟨π, t, c1, c2, c3⟩ := g.2.2.2.2.2.2.1
  have H0 := c2.1.H.1
  have a6 : a < 6 := by omega
  obtain ⟨i1, i2, i7, i3⟩ := c2.ls (k := k) (mu := mu) ha hm
  refine g_aload_n 0 dX9_losesNone_0 rfl rfl ?_
  refine g_getr (f := 294) (b := B 1) dX9_losesNone_1 fl_X9_27 g.1.2.1 rfl g.1.2.2.2.1 ?_
  refine g_aload_n 0 dX9_losesNone_4 rfl rfl ?_
  refine g_getr (f := 293) (b := B 0) dX9_losesNone_5 fl_X9_23 g.1.2.1 rfl g.1.2.2.1 ?_
  refine g_invv (M' := mX5_copyFrom) (As := [.ref (B 0)]) (rest := []) dX9_losesNone_8 ml_X9_246 okX5_copyFrom imX5_copyFrom seX5_copyFrom ⟨(Nat.le_of_ble_eq_true rfl), (Nat.le_of_ble_eq_true rfl)⟩ (ci := 5) rfl rfl (g.2.2.2.2.2.1 1 (by omega)).1.1.2 rfl rfl (Nat.le_of_ble_eq_true rfl) (c_netCopy c1 c2.1 (g.2.2.2.2.2.1 1 (by omega)) g.dj) ?_
  rintro _ y0 ⟨rfl, π0, lt0, cx0, s0⟩
  show zG l w mX9_losesNone 11 [(0, .ref x), (1, .int (nI a)), (2, .int (nI k)), (3, .int (nI mu)), (4, .int (nI i))] [] y0 _
  have X0 := g.px s0
  refine g_aload_n 0 dX9_losesNone_11 rfl rfl ?_
  refine g_getr (f := 294) (b := B 1) dX9_losesNone_12 fl_X9_27 X0.1 rfl X0.2.1 ?_
  refine g_iload_n 1 dX9_losesNone_15 rfl rfl ?_
  refine g_invv (M' := mX5_linkAt) (As := [.int (nI a)]) (rest := []) dX9_losesNone_16 ml_X9_118 okX5_linkAt imX5_linkAt seX5_linkAt ⟨(Nat.le_of_ble_eq_true rfl), (Nat.le_of_ble_eq_true rfl)⟩ (ci := 5) rfl rfl cx0.1.1.2 rfl rfl (Nat.le_of_ble_eq_true rfl) (c_linkIn cx0 H0 ha) ?_
  rintro _ q1 ⟨rfl, eq1⟩
  subst q1
  show zG l w mX9_losesNone 19 [(0, .ref x), (1, .int (nI a)), (2, .int (nI k)), (3, .int (nI mu)), (4, .int (nI i))] [.ref (B 1 + 11 + 7 * a)] y0 _
  refine g_astore (lv2 := [(5, .ref (B 1 + 11 + 7 * a)), (0, .ref x), (1, .int (nI a)), (2, .int (nI k)), (3, .int (nI mu)), (4, .int (nI i))]) dX9_losesNone_19 (by decide) rfl ?_
  refine g_aload 0 dX9_losesNone_21 rfl ?_
  refine g_ifnonnull (tgt := 28) dX9_losesNone_23 (by decide) ?_
  refine g_aload 0 dX9_losesNone_28 rfl ?_
  refine g_iload_n 3 dX9_losesNone_30 rfl rfl ?_
  refine g_iload_n 4 dX9_losesNone_31 rfl rfl ?_
  have CH := c_change (l := l) (w := w) cx0 ha a6 (k := (k : Int)) (v := (mu : Int)) (by omega)
  rw [jI_nat, jI_nat] at CH
  refine g_invv (M' := mX4_change) (As := [.int (nI k), .int (nI mu)]) (rest := []) dX9_losesNone_32 ml_X9_218 okX4_change imX4_change seX4_change ⟨(Nat.le_of_ble_eq_true rfl), (Nat.le_of_ble_eq_true rfl)⟩ (ci := 4) rfl rfl (cx0.1.2.2.2.2.2.2.2.2.1 a a6).2.1 rfl rfl (Nat.le_of_ble_eq_true rfl) CH ?_
  rintro _ y1 ⟨rfl, cx1, s1⟩
  show zG l w mX9_losesNone 35 [(5, .ref (B 1 + 11 + 7 * a)), (0, .ref x), (1, .int (nI a)), (2, .int (nI k)), (3, .int (nI mu)), (4, .int (nI i))] [] y1 _
  have s1 := s0.tr s1
  have X1 := g.px s1
  have cw : CX y1 (B 1) π0 lt0 (lsM N a k mu) [] t := by
    have q := cx1.u3 (z := -(nA N 6))
    have e : setK (k : Int) = (if k = 0 then 0 else 2) := by rcases (show k = 0 ∨ k = 1 by omega) with rfl | rfl <;> rfl
    rw [e] at q
    exact q
  refine g_aload_n 1 dX9_losesNone_35 rfl rfl ?_
  refine g_getr (f := 294) (b := B 1) dX9_losesNone_36 fl_X9_27 X1.1 rfl X1.2.1 ?_
  refine g_iload 5 dX9_losesNone_39 rfl ?_
  refine g_invv (M' := mX5_passTicks) (As := [.int (nI i)]) (rest := []) dX9_losesNone_41 ml_X9_243 okX5_passTicks imX5_passTicks seX5_passTicks ⟨(Nat.le_of_ble_eq_true rfl), (Nat.le_of_ble_eq_true rfl)⟩ (ci := 5) rfl rfl cw.1.1.2 rfl rfl (Nat.le_of_ble_eq_true rfl) (c_passTicks (m := i) cw i1 (by rw [i2]; exact c3) (by omega)) ?_
  rintro _ y2 ⟨rfl, π2, lt2, cx2, s2⟩
  show zG l w mX9_losesNone 44 [(5, .ref (B 1 + 11 + 7 * a)), (0, .ref x), (1, .int (nI a)), (2, .int (nI k)), (3, .int (nI mu)), (4, .int (nI i))] [] y2 _
  have s2 := s1.tr s2
  have X2 := g.px s2
  obtain ⟨t1, t2, t3⟩ := ticks_in i1 i (by omega)
  have G2 := g.paper s2 cx2.2.1 (cx2.cw t1.1)
  obtain ⟨π5, t5, c5, -, -⟩ := G2.2.2.2.2.2.2.1
  generalize ticksN (lsM N a k mu) i = T at cx2 t1 ⊢
  refine g_aload_n 1 dX9_losesNone_44 rfl rfl ?_
  refine g_getr (f := 294) (b := B 1) dX9_losesNone_45 fl_X9_27 X2.1 rfl X2.2.1 ?_
  refine g_geti (f := 170) dX9_losesNone_48 fl_X9_291 cx2.1.1.2 (by decide) rfl ?_
  rw [show zi y2 170 (B 1) = jI (nA T 6) from cx2.2.2.1.2.2.2.1]
  refine g_aload_n 1 dX9_losesNone_51 rfl rfl ?_
  refine g_getr (f := 293) (b := B 0) dX9_losesNone_52 fl_X9_23 X2.1 rfl X2.2.2 ?_
  refine g_geti (f := 170) dX9_losesNone_55 fl_X9_291 c5.1.1.2 (by decide) rfl ?_
  rw [show zi y2 170 (B 0) = jI (nA N 6) from c5.2.2.1.2.2.2.1]
  refine g_icmp_ne (tgt := 65) dX9_losesNone_58 (by decide) (fun g2 => ?_) (fun g2 => ?_)
  · refine g_iconst (v := nI 0) dX9_losesNone_65 (by decide) ?_
    refine g_zreturn dX9_losesNone_66 rfl (by first | rfl | assumption) ?_
    exact ⟨by rw [decide_eq_false (fun q => g2 (jI_0.mp q))]; rfl, lt2, G2, OtX.cst g (by omega) s2⟩
  · refine g_iconst (v := nI 1) dX9_losesNone_61 (by decide) ?_
    refine g_goto (tgt := 66) dX9_losesNone_62 (by decide) ?_
    refine g_zreturn dX9_losesNone_66 rfl (by first | rfl | assumption) ?_
    exact ⟨by rw [decide_eq_true (jI_0.mpr g2)]; rfl, lt2, G2, OtX.cst g (by omega) s2⟩
theorem c_leastC (g : GC h x B ls N Ms n0) (ht : nA N 2 ≤ 39000) {z k n : Int} (zb : -2147483648 ≤ z ∧ z < 2147483648) (kb : -2147483648 ≤ k ∧ k < 2147483648) (nb : -2147483648 ≤ n ∧ n < 2147483648) : zM l w mX9_least [.ref x, .int (jI z), .int (jI k), .int (jI n)] h (PPc h x B N Ms n0 (qLeast N z k n)) := by
  refine zM.of (by decide) (Nat.le_of_ble_eq_true rfl) ?_
  obtain ⟨π, t, c1, c2, c3⟩ := g.2.2.2.2.2.2.1
  have H0 := c2.1.H.1
  refine g_iload_n 2 dX9_least_0 rfl rfl ?_
  refine g_zif_lt (a := k) (tgt := 20) rfl dX9_least_1 (by decide) (by omega) (fun d1 => ?_) (fun d1 => ?_)
  · refine g_aload_n 0 dX9_least_20 rfl rfl ?_
    refine g_iconst (v := nI 1) dX9_least_21 (by decide) ?_
    refine g_invv (M' := mX9_refuse) (As := [.int (nI 1)]) (rest := []) dX9_least_22 ml_X9_58 okX9_refuse imX9_refuse seX9_refuse ⟨(Nat.le_of_ble_eq_true rfl), (Nat.le_of_ble_eq_true rfl)⟩ (ci := 9) rfl rfl g.1.2.1 rfl rfl (Nat.le_of_ble_eq_true rfl) (c_refC g.1.2.1) ?_
    rintro _ q1 ⟨rfl, eq1⟩
    subst q1
    show zG l w mX9_least 25 [(0, .ref x), (1, .int (jI z)), (2, .int (jI k)), (3, .int (jI n))] [.int (-1)] (zSi h 290 x (nI 1)) _
    refine g_ireturn dX9_least_25 rfl ?_
    have e : qLeast N z k n = (1, -1) := by unfold qLeast; rw [if_neg (by omega)]
    exact PPc.ref g (by rw [e]; rfl) (by rw [e]; rfl)
  · refine g_iload_n 2 dX9_least_4 rfl rfl ?_
    refine g_iconst (v := nI 1) dX9_least_5 (by decide) ?_
    refine g_zcmp_gt (a := k) (b := 1) (tgt := 20) rfl (by decide) dX9_least_6 (by decide) (by omega) (by omega) (fun d2 => ?_) (fun d2 => ?_)
    · refine g_aload_n 0 dX9_least_20 rfl rfl ?_
      refine g_iconst (v := nI 1) dX9_least_21 (by decide) ?_
      refine g_invv (M' := mX9_refuse) (As := [.int (nI 1)]) (rest := []) dX9_least_22 ml_X9_58 okX9_refuse imX9_refuse seX9_refuse ⟨(Nat.le_of_ble_eq_true rfl), (Nat.le_of_ble_eq_true rfl)⟩ (ci := 9) rfl rfl g.1.2.1 rfl rfl (Nat.le_of_ble_eq_true rfl) (c_refC g.1.2.1) ?_
      rintro _ q2 ⟨rfl, eq2⟩
      subst q2
      show zG l w mX9_least 25 [(0, .ref x), (1, .int (jI z)), (2, .int (jI k)), (3, .int (jI n))] [.int (-1)] (zSi h 290 x (nI 1)) _
      refine g_ireturn dX9_least_25 rfl ?_
      have e : qLeast N z k n = (1, -1) := by unfold qLeast; rw [if_neg (by omega)]
      exact PPc.ref g (by rw [e]; rfl) (by rw [e]; rfl)
    · refine g_iload_n 3 dX9_least_9 rfl rfl ?_
      refine g_iconst (v := nI 1) dX9_least_10 (by decide) ?_
      refine g_zcmp_lt (a := n) (b := 1) (tgt := 20) rfl (by decide) dX9_least_11 (by decide) (by omega) (by omega) (fun d3 => ?_) (fun d3 => ?_)
      · refine g_aload_n 0 dX9_least_20 rfl rfl ?_
        refine g_iconst (v := nI 1) dX9_least_21 (by decide) ?_
        refine g_invv (M' := mX9_refuse) (As := [.int (nI 1)]) (rest := []) dX9_least_22 ml_X9_58 okX9_refuse imX9_refuse seX9_refuse ⟨(Nat.le_of_ble_eq_true rfl), (Nat.le_of_ble_eq_true rfl)⟩ (ci := 9) rfl rfl g.1.2.1 rfl rfl (Nat.le_of_ble_eq_true rfl) (c_refC g.1.2.1) ?_
        rintro _ q3 ⟨rfl, eq3⟩
        subst q3
        show zG l w mX9_least 25 [(0, .ref x), (1, .int (jI z)), (2, .int (jI k)), (3, .int (jI n))] [.int (-1)] (zSi h 290 x (nI 1)) _
        refine g_ireturn dX9_least_25 rfl ?_
        have e : qLeast N z k n = (1, -1) := by unfold qLeast; rw [if_neg (by omega)]
        exact PPc.ref g (by rw [e]; rfl) (by rw [e]; rfl)
      · refine g_iload_n 3 dX9_least_14 rfl rfl ?_
        refine g_bipush (v := nI 10) dX9_least_15 (by decide) ?_
        refine g_zcmp_le (a := n) (b := 10) (tgt := 26) rfl (by decide) dX9_least_17 (by decide) (by omega) (by omega) (fun d4 => ?_) (fun d4 => ?_)
        · have c4 : (0 ≤ k ∧ k ≤ 1) ∧ 1 ≤ n ∧ n ≤ 10 := by omega
          by_cases d : 0 ≤ z ∧ z < nA N 0
          · obtain ⟨a, ea⟩ : ∃ a : Nat, z = (a : Int) := ⟨_, (Int.toNat_of_nonneg d.1).symm⟩
            subst ea
            obtain ⟨i, ei⟩ : ∃ i : Nat, n = (i : Int) := ⟨_, (Int.toNat_of_nonneg (by omega)).symm⟩
            subst ei
            simp only [jI_nat]
            show zG l w mX9_least 26 [(0, .ref x), (1, .int (nI a)), (2, .int (jI k)), (3, .int (nI i))] [] h _
            refine g_aload_n 0 dX9_least_26 rfl rfl ?_
            refine g_getr (f := 293) (b := B 0) dX9_least_27 fl_X9_23 g.1.2.1 rfl g.1.2.2.1 ?_
            refine g_iload_n 1 dX9_least_30 rfl rfl ?_
            refine g_invv (M' := mX5_linkAt) (As := [.int (nI a)]) (rest := []) dX9_least_31 ml_X9_118 okX5_linkAt imX5_linkAt seX5_linkAt ⟨(Nat.le_of_ble_eq_true rfl), (Nat.le_of_ble_eq_true rfl)⟩ (ci := 5) rfl rfl (g.2.2.2.2.2.1 0 (by omega)).1.1.2 rfl rfl (Nat.le_of_ble_eq_true rfl) (c_linkIn c1 H0 d.2) ?_
            rintro _ q7 ⟨rfl, eq7⟩
            subst q7
            show zG l w mX9_least 34 [(0, .ref x), (1, .int (nI a)), (2, .int (jI k)), (3, .int (nI i))] [.ref (B 0 + 11 + 7 * a)] h _
            refine g_ifnonnull (tgt := 43) dX9_least_34 (by decide) ?_
            refine g_iload_n 2 dX9_least_43 rfl rfl ?_
            rcases (show k = 0 ∨ k = 1 by omega) with rfl | rfl
            · have e0 : qLeast N (a : Int) 0 (i : Int) = lstN N a 0 i 1 9 1 := by unfold qLeast; rw [if_pos c4, if_pos d, if_pos rfl, Int.toNat_natCast, Int.toNat_natCast]
              rw [e0]
              clear e0
              rw [show jI 0 = nI 0 from rfl]
              show zG l w mX9_least 44 [(0, .ref x), (1, .int (nI a)), (2, .int (nI 0)), (3, .int (nI i))] [.int (nI 0)] h _
              have loop : ∀ s mu : Nat, mu + 1 * s = 10 → 1 ≤ mu → ∀ (y : zH) (lt : Nat → List Nat), GC y x B lt N Ms n0 → OtX x (fun _ => False) h y → zG l w mX9_least 72 [(6, .int (nI mu)), (5, .int (nI 9)), (4, .int (nI 1)), (0, .ref x), (1, .int (nI a)), (2, .int (nI 0)), (3, .int (nI i))] [] y (PPc h x B N Ms n0 (lstN N a 0 i 1 s mu)) := by
                intro s
                induction s with
                | zero =>
                  intro mu hmu h1 y lt gy oy
                  refine g_iload 0 dX9_least_72 rfl ?_
                  refine g_iload 1 dX9_least_74 rfl ?_
                  refine g_ncmp_gt (tgt := 108) dX9_least_76 (by decide) (by omega) (by omega) (fun g9 => ?_) (fun g9 => ?_)
                  · refine g_aload_n 3 dX9_least_108 rfl rfl ?_
                    refine g_bipush (v := nI 6) dX9_least_109 (by decide) ?_
                    refine g_invv (M' := mX9_refuse) (As := [.int (nI 6)]) (rest := []) dX9_least_111 ml_X9_58 okX9_refuse imX9_refuse seX9_refuse ⟨(Nat.le_of_ble_eq_true rfl), (Nat.le_of_ble_eq_true rfl)⟩ (ci := 9) rfl rfl gy.1.2.1 rfl rfl (Nat.le_of_ble_eq_true rfl) (c_refC gy.1.2.1) ?_
                    rintro _ q1 ⟨rfl, eq1⟩
                    subst q1
                    show zG l w mX9_least 114 [(6, .int (nI mu)), (5, .int (nI 9)), (4, .int (nI 1)), (0, .ref x), (1, .int (nI a)), (2, .int (nI 0)), (3, .int (nI i))] [.int (-1)] (zSi y 290 x (nI 6)) _
                    refine g_ireturn dX9_least_114 rfl ?_
                    exact ⟨rfl, by rw [zi_same]; rfl, ⟨lt, gy.stat⟩, oy.tr (OtX.si (by omega))⟩
                  · exact absurd g9 (by omega)
                | succ s ih =>
                  intro mu hmu h1 y lt gy oy
                  refine g_iload 0 dX9_least_72 rfl ?_
                  refine g_iload 1 dX9_least_74 rfl ?_
                  refine g_ncmp_gt (tgt := 108) dX9_least_76 (by decide) (by omega) (by omega) (fun g9 => ?_) (fun g9 => ?_)
                  · exact absurd g9 (by omega)
                  · refine g_aload_n 3 dX9_least_79 rfl rfl ?_
                    refine g_iload_n 4 dX9_least_80 rfl rfl ?_
                    refine g_iload_n 5 dX9_least_81 rfl rfl ?_
                    refine g_iload 0 dX9_least_82 rfl ?_
                    refine g_iload_n 6 dX9_least_84 rfl rfl ?_
                    refine g_invv (M' := mX9_losesNone) (As := [.int (nI a), .int (nI 0), .int (nI mu), .int (nI i)]) (rest := []) dX9_least_85 ml_X9_269 okX9_losesNone imX9_losesNone seX9_losesNone ⟨(Nat.le_of_ble_eq_true rfl), (Nat.le_of_ble_eq_true rfl)⟩ (ci := 9) rfl rfl gy.1.2.1 rfl rfl (Nat.le_of_ble_eq_true rfl) (c_losesNone gy ht (a := a) (k := 0) (mu := mu) (i := i) d.2 (by omega) (by omega) (by omega)) ?_
                    rintro _ y5 ⟨rfl, lt5, g5, o5⟩
                    show zG l w mX9_least 88 [(6, .int (nI mu)), (5, .int (nI 9)), (4, .int (nI 1)), (0, .ref x), (1, .int (nI a)), (2, .int (nI 0)), (3, .int (nI i))] [.int (bI (decide (jI (nA (ticksN (lsM N a 0 mu) i) 6 - nA N 6) = 0)))] y5 _
                    have eL : lstN N a 0 i 1 (s + 1) mu = if jI (nA (ticksN (lsM N a 0 mu) i) 6 - nA N 6) = 0 then (0, (mu : Int)) else lstN N a 0 i 1 s (mu + 1) := rfl
                    rw [eL]
                    clear eL
                    refine g_bif_eq (tgt := 98) dX9_least_88 (by decide) (fun g2 => ?_) (fun g2 => ?_)
                    · have g2 := of_decide_eq_false g2
                      rw [if_neg g2]
                      refine g_iload 0 dX9_least_98 rfl ?_
                      refine g_iload 2 dX9_least_100 rfl ?_
                      refine g_iadd dX9_least_102 ?_
                      rw [nI_add mu 1]
                      refine g_istore (lv2 := [(6, .int (nI (mu + 1))), (5, .int (nI 9)), (4, .int (nI 1)), (0, .ref x), (1, .int (nI a)), (2, .int (nI 0)), (3, .int (nI i))]) dX9_least_103 (by decide) rfl ?_
                      refine g_goto (tgt := 72) dX9_least_105 (by decide) ?_
                      exact zG.sub [0, 1, 2, 3, 4, 5, 6] rfl (ih (mu + 1) (by omega) (by omega) y5 lt5 g5 (oy.tr o5))
                    · have g2 := of_decide_eq_true g2
                      rw [if_pos g2]
                      refine g_aload_n 3 dX9_least_91 rfl rfl ?_
                      refine g_iload 0 dX9_least_92 rfl ?_
                      refine g_invv (M' := mX9_answer) (As := [.int (nI mu)]) (rest := []) dX9_least_94 ml_X9_75 okX9_answer imX9_answer seX9_answer ⟨(Nat.le_of_ble_eq_true rfl), (Nat.le_of_ble_eq_true rfl)⟩ (ci := 9) rfl rfl g5.1.2.1 rfl rfl (Nat.le_of_ble_eq_true rfl) (c_ans g5.1.2.1) ?_
                      rintro _ q2 ⟨rfl, eq2⟩
                      subst q2
                      show zG l w mX9_least 97 [(6, .int (nI mu)), (5, .int (nI 9)), (4, .int (nI 1)), (0, .ref x), (1, .int (nI a)), (2, .int (nI 0)), (3, .int (nI i))] [.int (nI mu)] (zSi y5 290 x (nI 0)) _
                      refine g_ireturn dX9_least_97 rfl ?_
                      exact ⟨by rw [← jI_nat], by rw [zi_same]; rfl, ⟨lt5, g5.stat⟩, (oy.tr o5).tr (OtX.si (by omega))⟩
              refine g_zif_ne (a := 0) (tgt := 51) (by decide) dX9_least_44 (by decide) (by omega) (fun sq => ?_) (fun sq => ?_)
              · exact absurd sq (by omega)
              · refine g_iconst (v := nI 1) dX9_least_47 (by decide) ?_
                refine g_goto (tgt := 53) dX9_least_48 (by decide) ?_
                refine g_istore (lv2 := [(4, .int (nI 1)), (0, .ref x), (1, .int (nI a)), (2, .int (nI 0)), (3, .int (nI i))]) dX9_least_53 (by decide) rfl ?_
                refine g_iload_n 3 dX9_least_55 rfl rfl ?_
                refine g_zif_ne (a := 0) (tgt := 64) (by decide) dX9_least_56 (by decide) (by omega) (fun sq => ?_) (fun sq => ?_)
                · exact absurd sq (by omega)
                · refine g_bipush (v := nI 9) dX9_least_59 (by decide) ?_
                  refine g_goto (tgt := 66) dX9_least_61 (by decide) ?_
                  refine g_istore (lv2 := [(5, .int (nI 9)), (4, .int (nI 1)), (0, .ref x), (1, .int (nI a)), (2, .int (nI 0)), (3, .int (nI i))]) dX9_least_66 (by decide) rfl ?_
                  refine g_iload 1 dX9_least_68 rfl ?_
                  refine g_istore (lv2 := [(6, .int (nI 1)), (5, .int (nI 9)), (4, .int (nI 1)), (0, .ref x), (1, .int (nI a)), (2, .int (nI 0)), (3, .int (nI i))]) dX9_least_70 (by decide) rfl ?_
                  exact zG.sub [0, 1, 2, 3, 4, 5, 6] rfl (loop 9 1 rfl (by omega) h ls g OtX.rf)
            · have e0 : qLeast N (a : Int) 1 (i : Int) = lstN N a 1 i 10 6 10 := by unfold qLeast; rw [if_pos c4, if_pos d, if_neg (by decide), Int.toNat_natCast, Int.toNat_natCast]
              rw [e0]
              clear e0
              rw [show jI 1 = nI 1 from rfl]
              show zG l w mX9_least 44 [(0, .ref x), (1, .int (nI a)), (2, .int (nI 1)), (3, .int (nI i))] [.int (nI 1)] h _
              have loop : ∀ s mu : Nat, mu + 10 * s = 70 → 10 ≤ mu → ∀ (y : zH) (lt : Nat → List Nat), GC y x B lt N Ms n0 → OtX x (fun _ => False) h y → zG l w mX9_least 72 [(6, .int (nI mu)), (5, .int (nI 60)), (4, .int (nI 10)), (0, .ref x), (1, .int (nI a)), (2, .int (nI 1)), (3, .int (nI i))] [] y (PPc h x B N Ms n0 (lstN N a 1 i 10 s mu)) := by
                intro s
                induction s with
                | zero =>
                  intro mu hmu h1 y lt gy oy
                  refine g_iload 0 dX9_least_72 rfl ?_
                  refine g_iload 1 dX9_least_74 rfl ?_
                  refine g_ncmp_gt (tgt := 108) dX9_least_76 (by decide) (by omega) (by omega) (fun g9 => ?_) (fun g9 => ?_)
                  · refine g_aload_n 3 dX9_least_108 rfl rfl ?_
                    refine g_bipush (v := nI 6) dX9_least_109 (by decide) ?_
                    refine g_invv (M' := mX9_refuse) (As := [.int (nI 6)]) (rest := []) dX9_least_111 ml_X9_58 okX9_refuse imX9_refuse seX9_refuse ⟨(Nat.le_of_ble_eq_true rfl), (Nat.le_of_ble_eq_true rfl)⟩ (ci := 9) rfl rfl gy.1.2.1 rfl rfl (Nat.le_of_ble_eq_true rfl) (c_refC gy.1.2.1) ?_
                    rintro _ q1 ⟨rfl, eq1⟩
                    subst q1
                    show zG l w mX9_least 114 [(6, .int (nI mu)), (5, .int (nI 60)), (4, .int (nI 10)), (0, .ref x), (1, .int (nI a)), (2, .int (nI 1)), (3, .int (nI i))] [.int (-1)] (zSi y 290 x (nI 6)) _
                    refine g_ireturn dX9_least_114 rfl ?_
                    exact ⟨rfl, by rw [zi_same]; rfl, ⟨lt, gy.stat⟩, oy.tr (OtX.si (by omega))⟩
                  · exact absurd g9 (by omega)
                | succ s ih =>
                  intro mu hmu h1 y lt gy oy
                  refine g_iload 0 dX9_least_72 rfl ?_
                  refine g_iload 1 dX9_least_74 rfl ?_
                  refine g_ncmp_gt (tgt := 108) dX9_least_76 (by decide) (by omega) (by omega) (fun g9 => ?_) (fun g9 => ?_)
                  · exact absurd g9 (by omega)
                  · refine g_aload_n 3 dX9_least_79 rfl rfl ?_
                    refine g_iload_n 4 dX9_least_80 rfl rfl ?_
                    refine g_iload_n 5 dX9_least_81 rfl rfl ?_
                    refine g_iload 0 dX9_least_82 rfl ?_
                    refine g_iload_n 6 dX9_least_84 rfl rfl ?_
                    refine g_invv (M' := mX9_losesNone) (As := [.int (nI a), .int (nI 1), .int (nI mu), .int (nI i)]) (rest := []) dX9_least_85 ml_X9_269 okX9_losesNone imX9_losesNone seX9_losesNone ⟨(Nat.le_of_ble_eq_true rfl), (Nat.le_of_ble_eq_true rfl)⟩ (ci := 9) rfl rfl gy.1.2.1 rfl rfl (Nat.le_of_ble_eq_true rfl) (c_losesNone gy ht (a := a) (k := 1) (mu := mu) (i := i) d.2 (by omega) (by omega) (by omega)) ?_
                    rintro _ y5 ⟨rfl, lt5, g5, o5⟩
                    show zG l w mX9_least 88 [(6, .int (nI mu)), (5, .int (nI 60)), (4, .int (nI 10)), (0, .ref x), (1, .int (nI a)), (2, .int (nI 1)), (3, .int (nI i))] [.int (bI (decide (jI (nA (ticksN (lsM N a 1 mu) i) 6 - nA N 6) = 0)))] y5 _
                    have eL : lstN N a 1 i 10 (s + 1) mu = if jI (nA (ticksN (lsM N a 1 mu) i) 6 - nA N 6) = 0 then (0, (mu : Int)) else lstN N a 1 i 10 s (mu + 10) := rfl
                    rw [eL]
                    clear eL
                    refine g_bif_eq (tgt := 98) dX9_least_88 (by decide) (fun g2 => ?_) (fun g2 => ?_)
                    · have g2 := of_decide_eq_false g2
                      rw [if_neg g2]
                      refine g_iload 0 dX9_least_98 rfl ?_
                      refine g_iload 2 dX9_least_100 rfl ?_
                      refine g_iadd dX9_least_102 ?_
                      rw [nI_add mu 10]
                      refine g_istore (lv2 := [(6, .int (nI (mu + 10))), (5, .int (nI 60)), (4, .int (nI 10)), (0, .ref x), (1, .int (nI a)), (2, .int (nI 1)), (3, .int (nI i))]) dX9_least_103 (by decide) rfl ?_
                      refine g_goto (tgt := 72) dX9_least_105 (by decide) ?_
                      exact zG.sub [0, 1, 2, 3, 4, 5, 6] rfl (ih (mu + 10) (by omega) (by omega) y5 lt5 g5 (oy.tr o5))
                    · have g2 := of_decide_eq_true g2
                      rw [if_pos g2]
                      refine g_aload_n 3 dX9_least_91 rfl rfl ?_
                      refine g_iload 0 dX9_least_92 rfl ?_
                      refine g_invv (M' := mX9_answer) (As := [.int (nI mu)]) (rest := []) dX9_least_94 ml_X9_75 okX9_answer imX9_answer seX9_answer ⟨(Nat.le_of_ble_eq_true rfl), (Nat.le_of_ble_eq_true rfl)⟩ (ci := 9) rfl rfl g5.1.2.1 rfl rfl (Nat.le_of_ble_eq_true rfl) (c_ans g5.1.2.1) ?_
                      rintro _ q2 ⟨rfl, eq2⟩
                      subst q2
                      show zG l w mX9_least 97 [(6, .int (nI mu)), (5, .int (nI 60)), (4, .int (nI 10)), (0, .ref x), (1, .int (nI a)), (2, .int (nI 1)), (3, .int (nI i))] [.int (nI mu)] (zSi y5 290 x (nI 0)) _
                      refine g_ireturn dX9_least_97 rfl ?_
                      exact ⟨by rw [← jI_nat], by rw [zi_same]; rfl, ⟨lt5, g5.stat⟩, (oy.tr o5).tr (OtX.si (by omega))⟩
              refine g_zif_ne (a := 1) (tgt := 51) (by decide) dX9_least_44 (by decide) (by omega) (fun sq => ?_) (fun sq => ?_)
              · refine g_bipush (v := nI 10) dX9_least_51 (by decide) ?_
                refine g_istore (lv2 := [(4, .int (nI 10)), (0, .ref x), (1, .int (nI a)), (2, .int (nI 1)), (3, .int (nI i))]) dX9_least_53 (by decide) rfl ?_
                refine g_iload_n 3 dX9_least_55 rfl rfl ?_
                refine g_zif_ne (a := 1) (tgt := 64) (by decide) dX9_least_56 (by decide) (by omega) (fun sq => ?_) (fun sq => ?_)
                · refine g_bipush (v := nI 60) dX9_least_64 (by decide) ?_
                  refine g_istore (lv2 := [(5, .int (nI 60)), (4, .int (nI 10)), (0, .ref x), (1, .int (nI a)), (2, .int (nI 1)), (3, .int (nI i))]) dX9_least_66 (by decide) rfl ?_
                  refine g_iload 1 dX9_least_68 rfl ?_
                  refine g_istore (lv2 := [(6, .int (nI 10)), (5, .int (nI 60)), (4, .int (nI 10)), (0, .ref x), (1, .int (nI a)), (2, .int (nI 1)), (3, .int (nI i))]) dX9_least_70 (by decide) rfl ?_
                  exact zG.sub [0, 1, 2, 3, 4, 5, 6] rfl (loop 6 10 rfl (by omega) h ls g OtX.rf)
                · exact absurd sq (by omega)
              · exact absurd sq (by omega)
          · refine g_aload_n 0 dX9_least_26 rfl rfl ?_
            refine g_getr (f := 293) (b := B 0) dX9_least_27 fl_X9_23 g.1.2.1 rfl g.1.2.2.1 ?_
            refine g_iload_n 1 dX9_least_30 rfl rfl ?_
            refine g_invv (M' := mX5_linkAt) (As := [.int (jI z)]) (rest := []) dX9_least_31 ml_X9_118 okX5_linkAt imX5_linkAt seX5_linkAt ⟨(Nat.le_of_ble_eq_true rfl), (Nat.le_of_ble_eq_true rfl)⟩ (ci := 5) rfl rfl (g.2.2.2.2.2.1 0 (by omega)).1.1.2 rfl rfl (Nat.le_of_ble_eq_true rfl) (c_linkOut c1 H0 zb d) ?_
            rintro _ q5 ⟨rfl, eq5⟩
            subst q5
            show zG l w mX9_least 34 [(0, .ref x), (1, .int (jI z)), (2, .int (jI k)), (3, .int (jI n))] [.null] h _
            refine g_ifnonnullN dX9_least_34 ?_
            refine g_aload_n 0 dX9_least_37 rfl rfl ?_
            refine g_iconst (v := nI 2) dX9_least_38 (by decide) ?_
            refine g_invv (M' := mX9_refuse) (As := [.int (nI 2)]) (rest := []) dX9_least_39 ml_X9_58 okX9_refuse imX9_refuse seX9_refuse ⟨(Nat.le_of_ble_eq_true rfl), (Nat.le_of_ble_eq_true rfl)⟩ (ci := 9) rfl rfl g.1.2.1 rfl rfl (Nat.le_of_ble_eq_true rfl) (c_refC g.1.2.1) ?_
            rintro _ q6 ⟨rfl, eq6⟩
            subst q6
            show zG l w mX9_least 42 [(0, .ref x), (1, .int (jI z)), (2, .int (jI k)), (3, .int (jI n))] [.int (-1)] (zSi h 290 x (nI 2)) _
            refine g_ireturn dX9_least_42 rfl ?_
            have e : qLeast N z k n = (2, -1) := by unfold qLeast; rw [if_pos c4, if_neg d]
            exact PPc.ref g (by rw [e]; rfl) (by rw [e]; rfl)
        · refine g_aload_n 0 dX9_least_20 rfl rfl ?_
          refine g_iconst (v := nI 1) dX9_least_21 (by decide) ?_
          refine g_invv (M' := mX9_refuse) (As := [.int (nI 1)]) (rest := []) dX9_least_22 ml_X9_58 okX9_refuse imX9_refuse seX9_refuse ⟨(Nat.le_of_ble_eq_true rfl), (Nat.le_of_ble_eq_true rfl)⟩ (ci := 9) rfl rfl g.1.2.1 rfl rfl (Nat.le_of_ble_eq_true rfl) (c_refC g.1.2.1) ?_
          rintro _ q4 ⟨rfl, eq4⟩
          subst q4
          show zG l w mX9_least 25 [(0, .ref x), (1, .int (jI z)), (2, .int (jI k)), (3, .int (jI n))] [.int (-1)] (zSi h 290 x (nI 1)) _
          refine g_ireturn dX9_least_25 rfl ?_
          have e : qLeast N z k n = (1, -1) := by unfold qLeast; rw [if_neg (by omega)]
          exact PPc.ref g (by rw [e]; rfl) (by rw [e]; rfl)
end PE5
