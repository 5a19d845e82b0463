section QC1
variable {l : Launch} {w : zW} {h : zH} {m x b : Nat} {π : Nat → Nat} {ls : Nat → List Nat} {N : nT} {X : List Nat} {t : Nat}
theorem c_pathM (r : MoN h m N) (hI : iN [] N) {z k : Int} (zb : -2147483648 ≤ z ∧ z < 2147483648) (kb : -2147483648 ≤ k ∧ k < 2147483648) : zM l w mX10_path [.ref m, .int (jI z), .int (jI k)] h (fun u h1 => u = some (.int (jI (qPath N z k).2)) ∧ h1 = zSi h 321 m (jI (qPath N z k).1)) := by
  refine zM.of (by decide) (Nat.le_of_ble_eq_true rfl) ?_
  have H0 := hI.H.1
  have H1 := hI.H.2.1
  refine g_iload_n 2 dX10_path_0 rfl rfl ?_
  refine g_zif_ge (a := k) (tgt := 10) rfl dX10_path_1 (by decide) (by omega) (fun c => ?_) (fun c => ?_)
  · refine g_aload_n 0 dX10_path_10 rfl rfl ?_
    refine g_iload_n 1 dX10_path_11 rfl rfl ?_
    refine g_invv (M' := mX10_isFlow) (As := [.int (jI z)]) (rest := []) dX10_path_12 ml_X10_321 okX10_isFlow imX10_isFlow seX10_isFlow ⟨(Nat.le_of_ble_eq_true rfl), (Nat.le_of_ble_eq_true rfl)⟩ (ci := 10) rfl rfl r.1.1 rfl rfl (Nat.le_of_ble_eq_true rfl) (c_isFlow r H1 (by omega)) ?_
    rintro _ q2 ⟨rfl, eq2⟩
    subst q2
    show zG l w mX10_path 15 [(0, .ref m), (1, .int (jI z)), (2, .int (jI k))] [.int (bI (decide (0 ≤ z ∧ z < nA N 1)))] h _
    refine g_bif_ne (tgt := 24) dX10_path_15 (by decide) (fun d => ?_) (fun d => ?_)
    · have d := of_decide_eq_true d
      have eq0 : qPath N z k = if k < nA N (248 + 20 * z.toNat + 0) then (0, (hopN N z.toNat k.toNat : Int)) else (5, -1) := by unfold qPath; rw [if_neg (by omega), if_pos d]
      rw [eq0]
      clear eq0
      obtain ⟨f, ef⟩ : ∃ f : Nat, z = (f : Int) := ⟨_, (Int.toNat_of_nonneg d.1).symm⟩
      subst ef
      obtain ⟨j, ej⟩ : ∃ j : Nat, k = (j : Int) := ⟨_, (Int.toNat_of_nonneg (by omega)).symm⟩
      subst ej
      simp only [jI_nat]
      have F := hI.F f d.2
      have F1 := F.1
      refine g_iload_n 2 dX10_path_24 rfl rfl ?_
      refine g_i2l dX10_path_25 ?_
      rw [nI_l (by omega), ← jL_nat]
      refine g_aload_n 0 dX10_path_26 rfl rfl ?_
      refine g_iload_n 1 dX10_path_27 rfl rfl ?_
      refine g_iconst (v := nI 0) dX10_path_28 (by decide) ?_
      refine g_invv (M' := mX10_ofFlow) (As := [.int (nI f), .int (nI 0)]) (rest := [.long (jL ((j : Nat) : Int))]) dX10_path_29 ml_X10_62 okX10_ofFlow imX10_ofFlow seX10_ofFlow ⟨(Nat.le_of_ble_eq_true rfl), (Nat.le_of_ble_eq_true rfl)⟩ (ci := 10) rfl rfl r.1.1 rfl rfl (Nat.le_of_ble_eq_true rfl) (c_ofFlowN r (by omega)) ?_
      rintro _ q4 ⟨rfl, eq4⟩
      subst q4
      show zG l w mX10_path 32 [(0, .ref m), (1, .int (nI f)), (2, .int (nI j))] [.long (jL (nA N (248 + 20 * f + 0))), .long (jL ((j : Nat) : Int))] h _
      refine g_lif_ge (a := ((j : Nat) : Int)) (b := (nA N (248 + 20 * f + 0))) (tgt := 50) dX10_path_32 rfl dX10_path_33 (by decide) (by omega) (by omega) (fun e => ?_) (fun e => ?_)
      · refine g_aload_n 0 dX10_path_50 rfl rfl ?_
        refine g_iconst (v := nI 5) dX10_path_51 (by decide) ?_
        refine g_invv (M' := mX10_refuse) (As := [.int (nI 5)]) (rest := []) dX10_path_52 ml_X10_289 okX10_refuse imX10_refuse seX10_refuse ⟨(Nat.le_of_ble_eq_true rfl), (Nat.le_of_ble_eq_true rfl)⟩ (ci := 10) rfl rfl r.1.1 rfl rfl (Nat.le_of_ble_eq_true rfl) (c_refuse r.1.1) ?_
        rintro _ q5 ⟨rfl, eq5⟩
        subst q5
        show zG l w mX10_path 55 [(0, .ref m), (1, .int (nI f)), (2, .int (nI j))] [.int (-1)] (zSi h 321 m (nI 5)) _
        refine g_ireturn dX10_path_55 rfl ?_
        rw [if_neg (by show ¬ (j : Int) < nA N (248 + 20 * f + 0); omega)]
        exact ⟨rfl, rfl⟩
      · have F2 := F.2.1 j (by omega)
        refine g_aload_n 0 dX10_path_36 rfl rfl ?_
        refine g_aload_n 0 dX10_path_37 rfl rfl ?_
        refine g_iload_n 1 dX10_path_38 rfl rfl ?_
        refine g_iload_n 2 dX10_path_39 rfl rfl ?_
        refine g_invv (M' := mX10_hop) (As := [.int (nI f), .int (nI j)]) (rest := [.ref m]) dX10_path_40 ml_X10_66 okX10_hop imX10_hop seX10_hop ⟨(Nat.le_of_ble_eq_true rfl), (Nat.le_of_ble_eq_true rfl)⟩ (ci := 10) rfl rfl r.1.1 rfl rfl (Nat.le_of_ble_eq_true rfl) (c_hop r (by omega) (by omega) F2.1) ?_
        rintro _ q6 ⟨rfl, eq6⟩
        subst q6
        show zG l w mX10_path 43 [(0, .ref m), (1, .int (nI f)), (2, .int (nI j))] [.int (nI (hopN N f j)), .ref m] h _
        have h6 : hopN N f j < 6 := by unfold hopN; omega
        refine g_i2l dX10_path_43 ?_
        rw [nI_l (by omega), ← jL_nat]
        refine g_invv (M' := mX10_gives) (As := [.long (jL ((hopN N f j : Nat) : Int))]) (rest := []) dX10_path_44 ml_X10_298 okX10_gives imX10_gives seX10_gives ⟨(Nat.le_of_ble_eq_true rfl), (Nat.le_of_ble_eq_true rfl)⟩ (ci := 10) rfl rfl r.1.1 rfl rfl (Nat.le_of_ble_eq_true rfl) (c_gives r.1.1) ?_
        rintro _ q7 ⟨rfl, eq7⟩
        subst q7
        show zG l w mX10_path 47 [(0, .ref m), (1, .int (nI f)), (2, .int (nI j))] [.int (jI ((hopN N f j : Nat) : Int))] (zSi h 321 m (nI 0)) _
        refine g_goto (tgt := 55) dX10_path_47 (by decide) ?_
        refine g_ireturn dX10_path_55 rfl ?_
        rw [if_pos (by show (j : Int) < nA N (248 + 20 * f + 0); omega)]
        exact ⟨rfl, rfl⟩
    · have d := of_decide_eq_false d
      refine g_aload_n 0 dX10_path_18 rfl rfl ?_
      refine g_iconst (v := nI 2) dX10_path_19 (by decide) ?_
      refine g_invv (M' := mX10_refuse) (As := [.int (nI 2)]) (rest := []) dX10_path_20 ml_X10_289 okX10_refuse imX10_refuse seX10_refuse ⟨(Nat.le_of_ble_eq_true rfl), (Nat.le_of_ble_eq_true rfl)⟩ (ci := 10) rfl rfl r.1.1 rfl rfl (Nat.le_of_ble_eq_true rfl) (c_refuse r.1.1) ?_
      rintro _ q3 ⟨rfl, eq3⟩
      subst q3
      show zG l w mX10_path 23 [(0, .ref m), (1, .int (jI z)), (2, .int (jI k))] [.int (-1)] (zSi h 321 m (nI 2)) _
      refine g_ireturn dX10_path_23 rfl ?_
      rw [show qPath N z k = (2, -1) by unfold qPath; rw [if_neg (by omega), if_neg d]]
      exact ⟨rfl, rfl⟩
  · refine g_aload_n 0 dX10_path_4 rfl rfl ?_
    refine g_iconst (v := nI 1) dX10_path_5 (by decide) ?_
    refine g_invv (M' := mX10_refuse) (As := [.int (nI 1)]) (rest := []) dX10_path_6 ml_X10_289 okX10_refuse imX10_refuse seX10_refuse ⟨(Nat.le_of_ble_eq_true rfl), (Nat.le_of_ble_eq_true rfl)⟩ (ci := 10) rfl rfl r.1.1 rfl rfl (Nat.le_of_ble_eq_true rfl) (c_refuse r.1.1) ?_
    rintro _ q1 ⟨rfl, eq1⟩
    subst q1
    show zG l w mX10_path 9 [(0, .ref m), (1, .int (jI z)), (2, .int (jI k))] [.int (-1)] (zSi h 321 m (nI 1)) _
    refine g_ireturn dX10_path_9 rfl ?_
    rw [show qPath N z k = (1, -1) by unfold qPath; rw [if_pos (by omega)]]
    exact ⟨rfl, rfl⟩
theorem c_pathC (c : CX h b π ls N [] t) (xo : XO h x b) (hI : iN [] N) {z k : Int} (zb : -2147483648 ≤ z ∧ z < 2147483648) (kb : -2147483648 ≤ k ∧ k < 2147483648) : zM l w mX9_path [.ref x, .int (jI z), .int (jI k)] h (fun u h1 => u = some (.int (jI (qPath N z k).2)) ∧ h1 = zSi h 290 x (jI (qPath N z k).1)) := by
  refine zM.of (by decide) (Nat.le_of_ble_eq_true rfl) ?_
  have H0 := hI.H.1
  have H1 := hI.H.2.1
  refine g_iload_n 2 dX9_path_0 rfl rfl ?_
  refine g_zif_ge (a := k) (tgt := 10) rfl dX9_path_1 (by decide) (by omega) (fun g => ?_) (fun g => ?_)
  · refine g_aload_n 0 dX9_path_10 rfl rfl ?_
    refine g_getr (f := 293) (b := b) dX9_path_11 fl_X9_23 xo.1 rfl xo.2 ?_
    refine g_iload_n 1 dX9_path_14 rfl rfl ?_
    by_cases d : 0 ≤ z ∧ z < nA N 1
    · have eq0 : qPath N z k = if k < nA N (248 + 20 * z.toNat + 0) then (0, (hopN N z.toNat k.toNat : Int)) else (5, -1) := by unfold qPath; rw [if_neg (by omega), if_pos d]
      rw [eq0]
      clear eq0
      obtain ⟨f, ef⟩ : ∃ f : Nat, z = (f : Int) := ⟨_, (Int.toNat_of_nonneg d.1).symm⟩
      subst ef
      obtain ⟨j, ej⟩ : ∃ j : Nat, k = (j : Int) := ⟨_, (Int.toNat_of_nonneg (by omega)).symm⟩
      subst ej
      simp only [jI_nat]
      have f6 : f < 6 := by omega
      have F := hI.F f d.2
      have F1 := F.1
      refine g_invv (M' := mX5_flowAt) (As := [.int (nI f)]) (rest := []) dX9_path_15 ml_X9_127 okX5_flowAt imX5_flowAt seX5_flowAt ⟨(Nat.le_of_ble_eq_true rfl), (Nat.le_of_ble_eq_true rfl)⟩ (ci := 5) rfl rfl c.1.1.2 rfl rfl (Nat.le_of_ble_eq_true rfl) (c_flowIn c H1 d.2) ?_
      rintro _ q2 ⟨rfl, eq2⟩
      subst q2
      show zG l w mX9_path 18 [(0, .ref x), (1, .int (nI f)), (2, .int (nI j))] [.ref (b + 53 + 2 * f)] h _
      refine g_astore_n (lv2 := [(3, .ref (b + 53 + 2 * f)), (0, .ref x), (1, .int (nI f)), (2, .int (nI j))]) dX9_path_18 rfl (by decide) rfl ?_
      refine g_aload_n 0 dX9_path_19 rfl rfl ?_
      refine g_ifnonnull (tgt := 29) dX9_path_20 (by decide) ?_
      refine g_iload_n 3 dX9_path_29 rfl rfl ?_
      refine g_aload_n 0 dX9_path_30 rfl rfl ?_
      refine g_geti (f := 65) dX9_path_31 fl_X9_137 (c.1.2.2.2.2.2.2.2.2.2 f f6).2.1 (by decide) rfl ?_
      rw [show zi h 65 (b + 53 + 2 * f) = jI (nA N (248 + 20 * f + 0)) from (c.2.2.2.2.1 f d.2 f6).1 0 (by omega) (by omega)]
      refine g_zcmp_lt (a := ((j : Nat) : Int)) (b := (nA N (248 + 20 * f + 0))) (tgt := 43) (jI_nat j).symm rfl dX9_path_34 (by decide) (by omega) (by omega) (fun e => ?_) (fun e => ?_)
      · have F2 := F.2.1 j (by omega)
        refine g_aload_n 1 dX9_path_43 rfl rfl ?_
        refine g_aload_n 0 dX9_path_44 rfl rfl ?_
        refine g_iload_n 3 dX9_path_45 rfl rfl ?_
        refine g_invv (M' := mX2_pathAt) (As := [.int (nI j)]) (rest := [.ref x]) dX9_path_46 ml_X9_140 okX2_pathAt imX2_pathAt seX2_pathAt ⟨(Nat.le_of_ble_eq_true rfl), (Nat.le_of_ble_eq_true rfl)⟩ (ci := 2) rfl rfl (c.1.2.2.2.2.2.2.2.2.2 f f6).2.1 rfl rfl (Nat.le_of_ble_eq_true rfl) (c_pathIn c d.2 f6 (by omega) F2.1) ?_
        rintro _ q4 ⟨rfl, eq4⟩
        subst q4
        show zG l w mX9_path 49 [(3, .ref (b + 53 + 2 * f)), (0, .ref x), (1, .int (nI f)), (2, .int (nI j))] [.int (nI (hopN N f j)), .ref x] h _
        refine g_invv (M' := mX9_answer) (As := [.int (nI (hopN N f j))]) (rest := []) dX9_path_49 ml_X9_75 okX9_answer imX9_answer seX9_answer ⟨(Nat.le_of_ble_eq_true rfl), (Nat.le_of_ble_eq_true rfl)⟩ (ci := 9) rfl rfl xo.1 rfl rfl (Nat.le_of_ble_eq_true rfl) (c_ans xo.1) ?_
        rintro _ q5 ⟨rfl, eq5⟩
        subst q5
        show zG l w mX9_path 52 [(3, .ref (b + 53 + 2 * f)), (0, .ref x), (1, .int (nI f)), (2, .int (nI j))] [.int (nI (hopN N f j))] (zSi h 290 x (nI 0)) _
        refine g_ireturn dX9_path_52 rfl ?_
        rw [if_pos (by show (j : Int) < nA N (248 + 20 * f + 0); omega)]
        exact ⟨by rw [jI_nat]; rfl, rfl⟩
      · refine g_aload_n 1 dX9_path_37 rfl rfl ?_
        refine g_iconst (v := nI 5) dX9_path_38 (by decide) ?_
        refine g_invv (M' := mX9_refuse) (As := [.int (nI 5)]) (rest := []) dX9_path_39 ml_X9_58 okX9_refuse imX9_refuse seX9_refuse ⟨(Nat.le_of_ble_eq_true rfl), (Nat.le_of_ble_eq_true rfl)⟩ (ci := 9) rfl rfl xo.1 rfl rfl (Nat.le_of_ble_eq_true rfl) (c_refC xo.1) ?_
        rintro _ q3 ⟨rfl, eq3⟩
        subst q3
        show zG l w mX9_path 42 [(3, .ref (b + 53 + 2 * f)), (0, .ref x), (1, .int (nI f)), (2, .int (nI j))] [.int (-1)] (zSi h 290 x (nI 5)) _
        refine g_ireturn dX9_path_42 rfl ?_
        rw [if_neg (by show ¬ (j : Int) < nA N (248 + 20 * f + 0); omega)]
        exact ⟨rfl, rfl⟩
    · refine g_invv (M' := mX5_flowAt) (As := [.int (jI z)]) (rest := []) dX9_path_15 ml_X9_127 okX5_flowAt imX5_flowAt seX5_flowAt ⟨(Nat.le_of_ble_eq_true rfl), (Nat.le_of_ble_eq_true rfl)⟩ (ci := 5) rfl rfl c.1.1.2 rfl rfl (Nat.le_of_ble_eq_true rfl) (c_flowOut c H1 zb d) ?_
      rintro _ q6 ⟨rfl, eq6⟩
      subst q6
      show zG l w mX9_path 18 [(0, .ref x), (1, .int (jI z)), (2, .int (jI k))] [.null] h _
      refine g_astore_nN (lv2 := [(3, .null), (0, .ref x), (1, .int (jI z)), (2, .int (jI k))]) dX9_path_18 rfl (by decide) rfl ?_
      refine g_aload_nN 0 dX9_path_19 rfl rfl ?_
      refine g_ifnonnullN dX9_path_20 ?_
      refine g_aload_n 1 dX9_path_23 rfl rfl ?_
      refine g_iconst (v := nI 2) dX9_path_24 (by decide) ?_
      refine g_invv (M' := mX9_refuse) (As := [.int (nI 2)]) (rest := []) dX9_path_25 ml_X9_58 okX9_refuse imX9_refuse seX9_refuse ⟨(Nat.le_of_ble_eq_true rfl), (Nat.le_of_ble_eq_true rfl)⟩ (ci := 9) rfl rfl xo.1 rfl rfl (Nat.le_of_ble_eq_true rfl) (c_refC xo.1) ?_
      rintro _ q7 ⟨rfl, eq7⟩
      subst q7
      show zG l w mX9_path 28 [(3, .null), (0, .ref x), (1, .int (jI z)), (2, .int (jI k))] [.int (-1)] (zSi h 290 x (nI 2)) _
      refine g_ireturn dX9_path_28 rfl ?_
      rw [show qPath N z k = (2, -1) by unfold qPath; rw [if_neg (by omega), if_neg d]]
      exact ⟨rfl, rfl⟩
  · refine g_aload_n 0 dX9_path_4 rfl rfl ?_
    refine g_iconst (v := nI 1) dX9_path_5 (by decide) ?_
    refine g_invv (M' := mX9_refuse) (As := [.int (nI 1)]) (rest := []) dX9_path_6 ml_X9_58 okX9_refuse imX9_refuse seX9_refuse ⟨(Nat.le_of_ble_eq_true rfl), (Nat.le_of_ble_eq_true rfl)⟩ (ci := 9) rfl rfl xo.1 rfl rfl (Nat.le_of_ble_eq_true rfl) (c_refC xo.1) ?_
    rintro _ q1 ⟨rfl, eq1⟩
    subst q1
    show zG l w mX9_path 9 [(0, .ref x), (1, .int (jI z)), (2, .int (jI k))] [.int (-1)] (zSi h 290 x (nI 1)) _
    refine g_ireturn dX9_path_9 rfl ?_
    rw [show qPath N z k = (1, -1) by unfold qPath; rw [if_pos (by omega)]]
    exact ⟨rfl, rfl⟩
theorem c_givenM (r : MoN h m N) (hI : iN [] N) {z k : Int} (zb : -2147483648 ≤ z ∧ z < 2147483648) (kb : -2147483648 ≤ k ∧ k < 2147483648) : zM l w mX10_given [.ref m, .int (jI z), .int (jI k)] h (fun u h1 => u = some (.int (jI (qGiven N z k).2)) ∧ h1 = zSi h 321 m (jI (qGiven N z k).1)) := by
  refine zM.of (by decide) (Nat.le_of_ble_eq_true rfl) ?_
  have H0 := hI.H.1
  have hB := hI.B
  refine g_iload_n 2 dX10_given_0 rfl rfl ?_
  refine g_i2l dX10_given_1 ?_
  rw [jI_l (by omega) (by omega)]
  refine g_lconst (v := jL 0) dX10_given_2 (by decide) ?_
  refine g_lconst (v := jL 1) dX10_given_3 (by decide) ?_
  refine g_invs (M' := mX10_isFrom) (As := [.long (jL k), .long (jL 0), .long (jL 1)]) (rest := []) dX10_given_4 ml_X10_252 okX10_isFrom stX10_isFrom ⟨(Nat.le_of_ble_eq_true rfl), (Nat.le_of_ble_eq_true rfl)⟩ rfl rfl (Nat.le_of_ble_eq_true rfl) (c_isFrom (by omega) (by omega) (by omega)) ?_
  rintro _ q1 ⟨rfl, eq1⟩
  subst q1
  show zG l w mX10_given 7 [(0, .ref m), (1, .int (jI z)), (2, .int (jI k))] [.int (bI (decide (0 ≤ k ∧ k ≤ 1)))] h _
  refine g_bif_ne (tgt := 16) dX10_given_7 (by decide) (fun c => ?_) (fun c => ?_)
  · have c := of_decide_eq_true c
    refine g_aload_n 0 dX10_given_16 rfl rfl ?_
    refine g_iload_n 1 dX10_given_17 rfl rfl ?_
    refine g_invv (M' := mX10_isLink) (As := [.int (jI z)]) (rest := []) dX10_given_18 ml_X10_316 okX10_isLink imX10_isLink seX10_isLink ⟨(Nat.le_of_ble_eq_true rfl), (Nat.le_of_ble_eq_true rfl)⟩ (ci := 10) rfl rfl r.1.1 rfl rfl (Nat.le_of_ble_eq_true rfl) (c_isLink r H0 (by omega)) ?_
    rintro _ q3 ⟨rfl, eq3⟩
    subst q3
    show zG l w mX10_given 21 [(0, .ref m), (1, .int (jI z)), (2, .int (jI k))] [.int (bI (decide (0 ≤ z ∧ z < nA N 0)))] h _
    refine g_bif_ne (tgt := 30) dX10_given_21 (by decide) (fun d => ?_) (fun d => ?_)
    · have d := of_decide_eq_true d
      rw [show qGiven N z k = (0, (if k = 0 then plusN N z.toNat (nA N (8 + 40 * z.toNat + 12)) else minusN N z.toNat (nA N (8 + 40 * z.toNat + 13)))) by unfold qGiven; rw [if_pos c, if_pos d]]
      obtain ⟨a, ea⟩ : ∃ a : Nat, z = (a : Int) := ⟨_, (Int.toNat_of_nonneg d.1).symm⟩
      subst ea
      obtain ⟨j, ej⟩ : ∃ j : Nat, k = (j : Int) := ⟨_, (Int.toNat_of_nonneg c.1).symm⟩
      subst ej
      simp only [jI_nat]
      have Lq := (hI.L a d.2).q
      refine g_aload_n 0 dX10_given_30 rfl rfl ?_
      refine g_iload_n 2 dX10_given_31 rfl rfl ?_
      refine g_zif_ne (a := ((j : Nat) : Int)) (tgt := 50) (jI_nat j).symm dX10_given_32 (by decide) (by omega) (fun e => ?_) (fun e => ?_)
      · refine g_aload_n 0 dX10_given_50 rfl rfl ?_
        refine g_iload_n 1 dX10_given_51 rfl rfl ?_
        refine g_aload_n 0 dX10_given_52 rfl rfl ?_
        refine g_iload_n 1 dX10_given_53 rfl rfl ?_
        refine g_bipush (v := nI 13) dX10_given_54 (by decide) ?_
        refine g_invv (M' := mX10_ofLink) (As := [.int (nI a), .int (nI 13)]) (rest := [.int (nI a), .ref m, .ref m]) dX10_given_56 ml_X10_69 okX10_ofLink imX10_ofLink seX10_ofLink ⟨(Nat.le_of_ble_eq_true rfl), (Nat.le_of_ble_eq_true rfl)⟩ (ci := 10) rfl rfl r.1.1 rfl rfl (Nat.le_of_ble_eq_true rfl) (c_ofLinkN r (by omega) (by unfold nSp; omega)) ?_
        rintro _ q8 ⟨rfl, eq8⟩
        subst q8
        show zG l w mX10_given 59 [(0, .ref m), (1, .int (nI a)), (2, .int (nI j))] [.long (jL (nA N (8 + 40 * a + 13))), .int (nI a), .ref m, .ref m] h _
        refine g_invv (M' := mX10_minusBy) (As := [.int (nI a), .long (jL (nA N (8 + 40 * a + 13)))]) (rest := [.ref m]) dX10_given_59 ml_X10_156 okX10_minusBy imX10_minusBy seX10_minusBy ⟨(Nat.le_of_ble_eq_true rfl), (Nat.le_of_ble_eq_true rfl)⟩ (ci := 10) rfl rfl r.1.1 rfl rfl (Nat.le_of_ble_eq_true rfl) (c_minusBy r hB (by omega) Lq Lq.2.2.2.1) ?_
        rintro _ q9 ⟨rfl, eq9⟩
        subst q9
        show zG l w mX10_given 62 [(0, .ref m), (1, .int (nI a)), (2, .int (nI j))] [.long (jL (minusN N a (nA N (8 + 40 * a + 13)))), .ref m] h _
        refine g_invv (M' := mX10_gives) (As := [.long (jL (minusN N a (nA N (8 + 40 * a + 13))))]) (rest := []) dX10_given_62 ml_X10_298 okX10_gives imX10_gives seX10_gives ⟨(Nat.le_of_ble_eq_true rfl), (Nat.le_of_ble_eq_true rfl)⟩ (ci := 10) rfl rfl r.1.1 rfl rfl (Nat.le_of_ble_eq_true rfl) (c_gives r.1.1) ?_
        rintro _ q10 ⟨rfl, eq10⟩
        subst q10
        show zG l w mX10_given 65 [(0, .ref m), (1, .int (nI a)), (2, .int (nI j))] [.int (jI (minusN N a (nA N (8 + 40 * a + 13))))] (zSi h 321 m (nI 0)) _
        refine g_ireturn dX10_given_65 rfl ?_
        exact ⟨by rw [if_neg e]; rfl, rfl⟩
      · refine g_aload_n 0 dX10_given_35 rfl rfl ?_
        refine g_iload_n 1 dX10_given_36 rfl rfl ?_
        refine g_aload_n 0 dX10_given_37 rfl rfl ?_
        refine g_iload_n 1 dX10_given_38 rfl rfl ?_
        refine g_bipush (v := nI 12) dX10_given_39 (by decide) ?_
        refine g_invv (M' := mX10_ofLink) (As := [.int (nI a), .int (nI 12)]) (rest := [.int (nI a), .ref m, .ref m]) dX10_given_41 ml_X10_69 okX10_ofLink imX10_ofLink seX10_ofLink ⟨(Nat.le_of_ble_eq_true rfl), (Nat.le_of_ble_eq_true rfl)⟩ (ci := 10) rfl rfl r.1.1 rfl rfl (Nat.le_of_ble_eq_true rfl) (c_ofLinkN r (by omega) (by unfold nSp; omega)) ?_
        rintro _ q5 ⟨rfl, eq5⟩
        subst q5
        show zG l w mX10_given 44 [(0, .ref m), (1, .int (nI a)), (2, .int (nI j))] [.long (jL (nA N (8 + 40 * a + 12))), .int (nI a), .ref m, .ref m] h _
        refine g_invv (M' := mX10_plusBy) (As := [.int (nI a), .long (jL (nA N (8 + 40 * a + 12)))]) (rest := [.ref m]) dX10_given_44 ml_X10_149 okX10_plusBy imX10_plusBy seX10_plusBy ⟨(Nat.le_of_ble_eq_true rfl), (Nat.le_of_ble_eq_true rfl)⟩ (ci := 10) rfl rfl r.1.1 rfl rfl (Nat.le_of_ble_eq_true rfl) (c_plusBy r hB (by omega) Lq Lq.2.2.1) ?_
        rintro _ q6 ⟨rfl, eq6⟩
        subst q6
        show zG l w mX10_given 47 [(0, .ref m), (1, .int (nI a)), (2, .int (nI j))] [.long (jL (plusN N a (nA N (8 + 40 * a + 12)))), .ref m] h _
        refine g_goto (tgt := 62) dX10_given_47 (by decide) ?_
        refine g_invv (M' := mX10_gives) (As := [.long (jL (plusN N a (nA N (8 + 40 * a + 12))))]) (rest := []) dX10_given_62 ml_X10_298 okX10_gives imX10_gives seX10_gives ⟨(Nat.le_of_ble_eq_true rfl), (Nat.le_of_ble_eq_true rfl)⟩ (ci := 10) rfl rfl r.1.1 rfl rfl (Nat.le_of_ble_eq_true rfl) (c_gives r.1.1) ?_
        rintro _ q7 ⟨rfl, eq7⟩
        subst q7
        show zG l w mX10_given 65 [(0, .ref m), (1, .int (nI a)), (2, .int (nI j))] [.int (jI (plusN N a (nA N (8 + 40 * a + 12))))] (zSi h 321 m (nI 0)) _
        refine g_ireturn dX10_given_65 rfl ?_
        exact ⟨by rw [if_pos e]; rfl, rfl⟩
    · have d := of_decide_eq_false d
      refine g_aload_n 0 dX10_given_24 rfl rfl ?_
      refine g_iconst (v := nI 2) dX10_given_25 (by decide) ?_
      refine g_invv (M' := mX10_refuse) (As := [.int (nI 2)]) (rest := []) dX10_given_26 ml_X10_289 okX10_refuse imX10_refuse seX10_refuse ⟨(Nat.le_of_ble_eq_true rfl), (Nat.le_of_ble_eq_true rfl)⟩ (ci := 10) rfl rfl r.1.1 rfl rfl (Nat.le_of_ble_eq_true rfl) (c_refuse r.1.1) ?_
      rintro _ q4 ⟨rfl, eq4⟩
      subst q4
      show zG l w mX10_given 29 [(0, .ref m), (1, .int (jI z)), (2, .int (jI k))] [.int (-1)] (zSi h 321 m (nI 2)) _
      refine g_ireturn dX10_given_29 rfl ?_
      rw [show qGiven N z k = (2, -1) by unfold qGiven; rw [if_pos c, if_neg d]]
      exact ⟨rfl, rfl⟩
  · have c := of_decide_eq_false c
    refine g_aload_n 0 dX10_given_10 rfl rfl ?_
    refine g_iconst (v := nI 1) dX10_given_11 (by decide) ?_
    refine g_invv (M' := mX10_refuse) (As := [.int (nI 1)]) (rest := []) dX10_given_12 ml_X10_289 okX10_refuse imX10_refuse seX10_refuse ⟨(Nat.le_of_ble_eq_true rfl), (Nat.le_of_ble_eq_true rfl)⟩ (ci := 10) rfl rfl r.1.1 rfl rfl (Nat.le_of_ble_eq_true rfl) (c_refuse r.1.1) ?_
    rintro _ q2 ⟨rfl, eq2⟩
    subst q2
    show zG l w mX10_given 15 [(0, .ref m), (1, .int (jI z)), (2, .int (jI k))] [.int (-1)] (zSi h 321 m (nI 1)) _
    refine g_ireturn dX10_given_15 rfl ?_
    rw [show qGiven N z k = (1, -1) by unfold qGiven; rw [if_neg c]]
    exact ⟨rfl, rfl⟩
theorem c_givenC (c : CX h b π ls N [] t) (xo : XO h x b) (hI : iN [] N) {z k : Int} (zb : -2147483648 ≤ z ∧ z < 2147483648) (kb : -2147483648 ≤ k ∧ k < 2147483648) : zM l w mX9_given [.ref x, .int (jI z), .int (jI k)] h (fun u h1 => u = some (.int (jI (qGiven N z k).2)) ∧ h1 = zSi h 290 x (jI (qGiven N z k).1)) := by
  refine zM.of (by decide) (Nat.le_of_ble_eq_true rfl) ?_
  have H0 := hI.H.1
  have hB := hI.B
  refine g_iload_n 2 dX9_given_0 rfl rfl ?_
  refine g_zif_lt (a := k) (tgt := 9) rfl dX9_given_1 (by decide) (by omega) (fun g => ?_) (fun g => ?_)
  · refine g_aload_n 0 dX9_given_9 rfl rfl ?_
    refine g_iconst (v := nI 1) dX9_given_10 (by decide) ?_
    refine g_invv (M' := mX9_refuse) (As := [.int (nI 1)]) (rest := []) dX9_given_11 ml_X9_58 okX9_refuse imX9_refuse seX9_refuse ⟨(Nat.le_of_ble_eq_true rfl), (Nat.le_of_ble_eq_true rfl)⟩ (ci := 9) rfl rfl xo.1 rfl rfl (Nat.le_of_ble_eq_true rfl) (c_refC xo.1) ?_
    rintro _ q1 ⟨rfl, eq1⟩
    subst q1
    show zG l w mX9_given 14 [(0, .ref x), (1, .int (jI z)), (2, .int (jI k))] [.int (-1)] (zSi h 290 x (nI 1)) _
    refine g_ireturn dX9_given_14 rfl ?_
    rw [show qGiven N z k = (1, -1) by unfold qGiven; rw [if_neg (by omega)]]
    exact ⟨rfl, rfl⟩
  · refine g_iload_n 2 dX9_given_4 rfl rfl ?_
    refine g_iconst (v := nI 1) dX9_given_5 (by decide) ?_
    refine g_zcmp_le (a := k) (b := 1) (tgt := 15) rfl (by decide) dX9_given_6 (by decide) (by omega) (by omega) (fun g2 => ?_) (fun g2 => ?_)
    · refine g_aload_n 0 dX9_given_15 rfl rfl ?_
      refine g_getr (f := 293) (b := b) dX9_given_16 fl_X9_23 xo.1 rfl xo.2 ?_
      refine g_iload_n 1 dX9_given_19 rfl rfl ?_
      by_cases d : 0 ≤ z ∧ z < nA N 0
      · rw [show qGiven N z k = (0, (if k = 0 then plusN N z.toNat (nA N (8 + 40 * z.toNat + 12)) else minusN N z.toNat (nA N (8 + 40 * z.toNat + 13)))) by unfold qGiven; rw [if_pos (by omega), if_pos d]]
        obtain ⟨a, ea⟩ : ∃ a : Nat, z = (a : Int) := ⟨_, (Int.toNat_of_nonneg d.1).symm⟩
        subst ea
        obtain ⟨j, ej⟩ : ∃ j : Nat, k = (j : Int) := ⟨_, (Int.toNat_of_nonneg (by omega)).symm⟩
        subst ej
        simp only [jI_nat]
        have a6 : a < 6 := by omega
        have Lq := (hI.L a d.2).q
        refine g_invv (M' := mX5_linkAt) (As := [.int (nI a)]) (rest := []) dX9_given_20 ml_X9_118 okX5_linkAt imX5_linkAt seX5_linkAt ⟨(Nat.le_of_ble_eq_true rfl), (Nat.le_of_ble_eq_true rfl)⟩ (ci := 5) rfl rfl c.1.1.2 rfl rfl (Nat.le_of_ble_eq_true rfl) (c_linkIn c H0 d.2) ?_
        rintro _ q3 ⟨rfl, eq3⟩
        subst q3
        show zG l w mX9_given 23 [(0, .ref x), (1, .int (nI a)), (2, .int (nI j))] [.ref (b + 11 + 7 * a)] h _
        refine g_astore_n (lv2 := [(3, .ref (b + 11 + 7 * a)), (0, .ref x), (1, .int (nI a)), (2, .int (nI j))]) dX9_given_23 rfl (by decide) rfl ?_
        refine g_aload_n 0 dX9_given_24 rfl rfl ?_
        refine g_ifnonnull (tgt := 34) dX9_given_25 (by decide) ?_
        refine g_aload_n 0 dX9_given_34 rfl rfl ?_
        refine g_getr (f := 140) (b := b + 11 + 7 * a + 6) dX9_given_35 fl_X9_150 (c.1.2.2.2.2.2.2.2.2.1 a a6).2.1 rfl (c.1.2.2.2.2.2.2.2.2.1 a a6).2.2.2.2.2.1 ?_
        refine g_astore (lv2 := [(4, .ref (b + 11 + 7 * a + 6)), (3, .ref (b + 11 + 7 * a)), (0, .ref x), (1, .int (nI a)), (2, .int (nI j))]) dX9_given_38 (by decide) rfl ?_
        refine g_aload_n 2 dX9_given_40 rfl rfl ?_
        refine g_iload_n 4 dX9_given_41 rfl rfl ?_
        refine g_zif_ne (a := ((j : Nat) : Int)) (tgt := 58) (jI_nat j).symm dX9_given_42 (by decide) (by omega) (fun e => ?_) (fun e => ?_)
        · refine g_aload 0 dX9_given_58 rfl ?_
          refine g_aload 0 dX9_given_60 rfl ?_
          refine g_getl (f := 229) dX9_given_62 fl_X9_177 (c.1.2.2.2.2.2.2.2.2.1 a a6).2.2.2.2.2.2 rfl ?_
          rw [show zl h 229 (b + 11 + 7 * a + 6) = jL (nA N (8 + 40 * a + 13)) from (c.2.2.2.1 a d.2 a6).2.2.1 13 (by omega) (by omega)]
          refine g_invv (M' := mX7_minusFor) (As := [.long (jL (nA N (8 + 40 * a + 13)))]) (rest := [.ref x]) dX9_given_65 ml_X9_180 okX7_minusFor imX7_minusFor seX7_minusFor ⟨(Nat.le_of_ble_eq_true rfl), (Nat.le_of_ble_eq_true rfl)⟩ (ci := 7) rfl rfl (c.1.2.2.2.2.2.2.2.2.1 a a6).2.2.2.2.2.2 rfl rfl (Nat.le_of_ble_eq_true rfl) (c_minusFor c d.2 a6 hB Lq Lq.2.2.2.1) ?_
          rintro _ q6 ⟨rfl, eq6⟩
          subst q6
          show zG l w mX9_given 68 [(4, .ref (b + 11 + 7 * a + 6)), (3, .ref (b + 11 + 7 * a)), (0, .ref x), (1, .int (nI a)), (2, .int (nI j))] [.long (jL (minusN N a (nA N (8 + 40 * a + 13)))), .ref x] h _
          refine g_l2i dX9_given_68 ?_
          rw [jL_i]
          refine g_invv (M' := mX9_answer) (As := [.int (jI (minusN N a (nA N (8 + 40 * a + 13))))]) (rest := []) dX9_given_69 ml_X9_75 okX9_answer imX9_answer seX9_answer ⟨(Nat.le_of_ble_eq_true rfl), (Nat.le_of_ble_eq_true rfl)⟩ (ci := 9) rfl rfl xo.1 rfl rfl (Nat.le_of_ble_eq_true rfl) (c_ans xo.1) ?_
          rintro _ q7 ⟨rfl, eq7⟩
          subst q7
          show zG l w mX9_given 72 [(4, .ref (b + 11 + 7 * a + 6)), (3, .ref (b + 11 + 7 * a)), (0, .ref x), (1, .int (nI a)), (2, .int (nI j))] [.int (jI (minusN N a (nA N (8 + 40 * a + 13))))] (zSi h 290 x (nI 0)) _
          refine g_ireturn dX9_given_72 rfl ?_
          exact ⟨by rw [if_neg e]; rfl, rfl⟩
        · refine g_aload 0 dX9_given_45 rfl ?_
          refine g_aload 0 dX9_given_47 rfl ?_
          refine g_getl (f := 228) dX9_given_49 fl_X9_170 (c.1.2.2.2.2.2.2.2.2.1 a a6).2.2.2.2.2.2 rfl ?_
          rw [show zl h 228 (b + 11 + 7 * a + 6) = jL (nA N (8 + 40 * a + 12)) from (c.2.2.2.1 a d.2 a6).2.2.1 12 (by omega) (by omega)]
          refine g_invv (M' := mX7_plusFor) (As := [.long (jL (nA N (8 + 40 * a + 12)))]) (rest := [.ref x]) dX9_given_52 ml_X9_173 okX7_plusFor imX7_plusFor seX7_plusFor ⟨(Nat.le_of_ble_eq_true rfl), (Nat.le_of_ble_eq_true rfl)⟩ (ci := 7) rfl rfl (c.1.2.2.2.2.2.2.2.2.1 a a6).2.2.2.2.2.2 rfl rfl (Nat.le_of_ble_eq_true rfl) (c_plusFor c d.2 a6 hB Lq Lq.2.2.1) ?_
          rintro _ q4 ⟨rfl, eq4⟩
          subst q4
          show zG l w mX9_given 55 [(4, .ref (b + 11 + 7 * a + 6)), (3, .ref (b + 11 + 7 * a)), (0, .ref x), (1, .int (nI a)), (2, .int (nI j))] [.long (jL (plusN N a (nA N (8 + 40 * a + 12)))), .ref x] h _
          refine g_goto (tgt := 68) dX9_given_55 (by decide) ?_
          refine g_l2i dX9_given_68 ?_
          rw [jL_i]
          refine g_invv (M' := mX9_answer) (As := [.int (jI (plusN N a (nA N (8 + 40 * a + 12))))]) (rest := []) dX9_given_69 ml_X9_75 okX9_answer imX9_answer seX9_answer ⟨(Nat.le_of_ble_eq_true rfl), (Nat.le_of_ble_eq_true rfl)⟩ (ci := 9) rfl rfl xo.1 rfl rfl (Nat.le_of_ble_eq_true rfl) (c_ans xo.1) ?_
          rintro _ q5 ⟨rfl, eq5⟩
          subst q5
          show zG l w mX9_given 72 [(4, .ref (b + 11 + 7 * a + 6)), (3, .ref (b + 11 + 7 * a)), (0, .ref x), (1, .int (nI a)), (2, .int (nI j))] [.int (jI (plusN N a (nA N (8 + 40 * a + 12))))] (zSi h 290 x (nI 0)) _
          refine g_ireturn dX9_given_72 rfl ?_
          exact ⟨by rw [if_pos e]; rfl, rfl⟩
      · refine g_invv (M' := mX5_linkAt) (As := [.int (jI z)]) (rest := []) dX9_given_20 ml_X9_118 okX5_linkAt imX5_linkAt seX5_linkAt ⟨(Nat.le_of_ble_eq_true rfl), (Nat.le_of_ble_eq_true rfl)⟩ (ci := 5) rfl rfl c.1.1.2 rfl rfl (Nat.le_of_ble_eq_true rfl) (c_linkOut c H0 zb d) ?_
        rintro _ q8 ⟨rfl, eq8⟩
        subst q8
        show zG l w mX9_given 23 [(0, .ref x), (1, .int (jI z)), (2, .int (jI k))] [.null] h _
        refine g_astore_nN (lv2 := [(3, .null), (0, .ref x), (1, .int (jI z)), (2, .int (jI k))]) dX9_given_23 rfl (by decide) rfl ?_
        refine g_aload_nN 0 dX9_given_24 rfl rfl ?_
        refine g_ifnonnullN dX9_given_25 ?_
        refine g_aload_n 1 dX9_given_28 rfl rfl ?_
        refine g_iconst (v := nI 2) dX9_given_29 (by decide) ?_
        refine g_invv (M' := mX9_refuse) (As := [.int (nI 2)]) (rest := []) dX9_given_30 ml_X9_58 okX9_refuse imX9_refuse seX9_refuse ⟨(Nat.le_of_ble_eq_true rfl), (Nat.le_of_ble_eq_true rfl)⟩ (ci := 9) rfl rfl xo.1 rfl rfl (Nat.le_of_ble_eq_true rfl) (c_refC xo.1) ?_
        rintro _ q9 ⟨rfl, eq9⟩
        subst q9
        show zG l w mX9_given 33 [(3, .null), (0, .ref x), (1, .int (jI z)), (2, .int (jI k))] [.int (-1)] (zSi h 290 x (nI 2)) _
        refine g_ireturn dX9_given_33 rfl ?_
        rw [show qGiven N z k = (2, -1) by unfold qGiven; rw [if_pos (by omega), if_neg d]]
        exact ⟨rfl, rfl⟩
    · refine g_aload_n 0 dX9_given_9 rfl rfl ?_
      refine g_iconst (v := nI 1) dX9_given_10 (by decide) ?_
      refine g_invv (M' := mX9_refuse) (As := [.int (nI 1)]) (rest := []) dX9_given_11 ml_X9_58 okX9_refuse imX9_refuse seX9_refuse ⟨(Nat.le_of_ble_eq_true rfl), (Nat.le_of_ble_eq_true rfl)⟩ (ci := 9) rfl rfl xo.1 rfl rfl (Nat.le_of_ble_eq_true rfl) (c_refC xo.1) ?_
      rintro _ q2 ⟨rfl, eq2⟩
      subst q2
      show zG l w mX9_given 14 [(0, .ref x), (1, .int (jI z)), (2, .int (jI k))] [.int (-1)] (zSi h 290 x (nI 1)) _
      refine g_ireturn dX9_given_14 rfl ?_
      rw [show qGiven N z k = (1, -1) by unfold qGiven; rw [if_neg (by omega)]]
      exact ⟨rfl, rfl⟩
end QC1
