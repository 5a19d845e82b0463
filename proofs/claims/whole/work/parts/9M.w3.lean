section QM3
variable {l : Launch} {w : zW} {h : zH} {m x b : Nat} {π : Nat → Nat} {ls : Nat → List Nat} {N : nT} {X : List Nat} {t : Nat}
theorem setOk_iff {k v : Int} : setOk k v = true ↔ (k = 0 ∧ 1 ≤ v ∧ v ≤ 9) ∨ (k = 1 ∧ 1 ≤ v ∧ v ≤ 60) ∨ (k = 2 ∧ 2 ≤ v ∧ v ≤ 30) := by
  unfold setOk
  simp only [Bool.or_eq_true, Bool.and_eq_true, decide_eq_true_eq]
  omega
theorem uSet_bad {z k v : Int} (e : ¬ ((k = 0 ∧ 1 ≤ v ∧ v ≤ 9) ∨ (k = 1 ∧ 1 ≤ v ∧ v ≤ 60) ∨ (k = 2 ∧ 2 ≤ v ∧ v ≤ 30))) : uSet N z k v = (N, 1, -1) := by unfold uSet; rw [if_neg (fun q => e (setOk_iff.mp q))]
theorem uSet_out {z k v : Int} (e : (k = 0 ∧ 1 ≤ v ∧ v ≤ 9) ∨ (k = 1 ∧ 1 ≤ v ∧ v ≤ 60) ∨ (k = 2 ∧ 2 ≤ v ∧ v ≤ 30)) (d : ¬ (0 ≤ z ∧ z < nA N 0)) : uSet N z k v = (N, 2, -1) := by unfold uSet; rw [if_pos (setOk_iff.mpr e), if_neg d]
theorem uSet_in {z k v : Int} (e : (k = 0 ∧ 1 ≤ v ∧ v ≤ 9) ∨ (k = 1 ∧ 1 ≤ v ∧ v ≤ 60) ∨ (k = 2 ∧ 2 ≤ v ∧ v ≤ 30)) (d : 0 ≤ z ∧ z < nA N 0) : uSet N z k v = toN N (8 + 40 * z.toNat + setK k) v := by unfold uSet; rw [if_pos (setOk_iff.mpr e), if_pos d]
theorem setK_0 {k : Int} (e : k = 0) : setK k = 0 := by rw [e]; rfl
theorem setK_1 {k : Int} (e : k = 1) : setK k = 2 := by rw [e]; rfl
theorem setK_2 {k : Int} (e : k = 2) : setK k = 3 := by rw [e]; rfl
theorem c_setM (r : MoN h m N) (hI : iN [] N) {z k v : Int} (zb : -2147483648 ≤ z ∧ z < 2147483648) (kb : -2147483648 ≤ k ∧ k < 2147483648) (vb : -2147483648 ≤ v ∧ v < 2147483648) : zM l w mX10_set [.ref m, .int (jI z), .int (jI k), .int (jI v)] h (PM h m (uSet N z k v)) := by
  refine zM.of (by decide) (Nat.le_of_ble_eq_true rfl) ?_
  have H0 := hI.H.1
  refine g_iload_n 2 dX10_set_0 rfl rfl ?_
  refine g_zif_ne (a := k) (tgt := 16) rfl dX10_set_1 (by decide) (by omega) (fun g => ?_) (fun g => ?_)
  · refine g_iload_n 2 dX10_set_16 rfl rfl ?_
    refine g_iconst (v := nI 1) dX10_set_17 (by decide) ?_
    refine g_zcmp_ne (a := k) (b := 1) (tgt := 33) rfl (by decide) dX10_set_18 (by decide) (by omega) (by omega) (fun g9 => ?_) (fun g9 => ?_)
    · refine g_iload_n 2 dX10_set_33 rfl rfl ?_
      refine g_iconst (v := nI 2) dX10_set_34 (by decide) ?_
      refine g_zcmp_ne (a := k) (b := 2) (tgt := 56) rfl (by decide) dX10_set_35 (by decide) (by omega) (by omega) (fun g8 => ?_) (fun g8 => ?_)
      · refine g_iconst (v := nI 0) dX10_set_56 (by decide) ?_
        refine g_istore (lv2 := [(4, .int (nI 0)), (0, .ref m), (1, .int (jI z)), (2, .int (jI k)), (3, .int (jI v))]) dX10_set_57 (by decide) rfl ?_
        refine g_iload 0 dX10_set_59 rfl ?_
        refine g_if_ne (tgt := 70) dX10_set_61 (by decide) (fun c => absurd (by decide : nI 0 = 0) c) (fun _ => ?_)
        refine g_aload_n 1 dX10_set_64 rfl rfl ?_
        refine g_iconst (v := nI 1) dX10_set_65 (by decide) ?_
        refine g_invv (M' := mX10_refuse) (As := [.int (nI 1)]) (rest := []) dX10_set_66 ml_X10_289 okX10_refuse imX10_refuse seX10_refuse ⟨(Nat.le_of_ble_eq_true rfl), (Nat.le_of_ble_eq_true rfl)⟩ (ci := 10) rfl rfl r.1.1 rfl rfl (Nat.le_of_ble_eq_true rfl) (c_refuse r.1.1) ?_
        rintro _ q11 ⟨rfl, eq11⟩
        subst q11
        show zG l w mX10_set 69 [(4, .int (nI 0)), (0, .ref m), (1, .int (jI z)), (2, .int (jI k)), (3, .int (jI v))] [.int (-1)] (zSi h 321 m (nI 1)) _
        refine g_ireturn dX10_set_69 rfl ?_
        rw [show uSet N z k v = (N, 1, -1) from uSet_bad (by omega)]
        exact ⟨rfl, h, r, FrM.rf, rfl⟩
      · refine g_iload_n 3 dX10_set_38 rfl rfl ?_
        refine g_i2l dX10_set_39 ?_
        rw [jI_l (by omega) (by omega)]
        refine g_ldc2J (z := 2) dX10_set_40 kl_X10_116 (by decide) ?_
        refine g_ldc2J (z := 30) dX10_set_43 kl_X10_341 (by decide) ?_
        refine g_invs (M' := mX10_isFrom) (As := [.long (jL v), .long (jL 2), .long (jL 30)]) (rest := []) dX10_set_46 ml_X10_252 okX10_isFrom stX10_isFrom ⟨(Nat.le_of_ble_eq_true rfl), (Nat.le_of_ble_eq_true rfl)⟩ rfl rfl (Nat.le_of_ble_eq_true rfl) (c_isFrom (by omega) (by omega) (by omega)) ?_
        rintro _ q12 ⟨rfl, eq12⟩
        subst q12
        show zG l w mX10_set 49 [(0, .ref m), (1, .int (jI z)), (2, .int (jI k)), (3, .int (jI v))] [.int (bI (decide (2 ≤ v ∧ v ≤ 30)))] h _
        refine g_bif_eq (tgt := 56) dX10_set_49 (by decide) (fun c => ?_) (fun c => ?_)
        · have c := of_decide_eq_false c
          refine g_iconst (v := nI 0) dX10_set_56 (by decide) ?_
          refine g_istore (lv2 := [(4, .int (nI 0)), (0, .ref m), (1, .int (jI z)), (2, .int (jI k)), (3, .int (jI v))]) dX10_set_57 (by decide) rfl ?_
          refine g_iload 0 dX10_set_59 rfl ?_
          refine g_if_ne (tgt := 70) dX10_set_61 (by decide) (fun c => absurd (by decide : nI 0 = 0) c) (fun _ => ?_)
          refine g_aload_n 1 dX10_set_64 rfl rfl ?_
          refine g_iconst (v := nI 1) dX10_set_65 (by decide) ?_
          refine g_invv (M' := mX10_refuse) (As := [.int (nI 1)]) (rest := []) dX10_set_66 ml_X10_289 okX10_refuse imX10_refuse seX10_refuse ⟨(Nat.le_of_ble_eq_true rfl), (Nat.le_of_ble_eq_true rfl)⟩ (ci := 10) rfl rfl r.1.1 rfl rfl (Nat.le_of_ble_eq_true rfl) (c_refuse r.1.1) ?_
          rintro _ q13 ⟨rfl, eq13⟩
          subst q13
          show zG l w mX10_set 69 [(4, .int (nI 0)), (0, .ref m), (1, .int (jI z)), (2, .int (jI k)), (3, .int (jI v))] [.int (-1)] (zSi h 321 m (nI 1)) _
          refine g_ireturn dX10_set_69 rfl ?_
          rw [show uSet N z k v = (N, 1, -1) from uSet_bad (by omega)]
          exact ⟨rfl, h, r, FrM.rf, rfl⟩
        · have c := of_decide_eq_true c
          refine g_iconst (v := nI 1) dX10_set_52 (by decide) ?_
          refine g_goto (tgt := 57) dX10_set_53 (by decide) ?_
          refine g_istore (lv2 := [(4, .int (nI 1)), (0, .ref m), (1, .int (jI z)), (2, .int (jI k)), (3, .int (jI v))]) dX10_set_57 (by decide) rfl ?_
          refine g_iload 0 dX10_set_59 rfl ?_
          refine g_if_ne (tgt := 70) dX10_set_61 (by decide) (fun _ => ?_) (fun c => absurd c (by decide : ¬ nI 1 = 0))
          refine g_aload_n 1 dX10_set_70 rfl rfl ?_
          refine g_iload_n 2 dX10_set_71 rfl rfl ?_
          refine g_invv (M' := mX10_isLink) (As := [.int (jI z)]) (rest := []) dX10_set_72 ml_X10_316 okX10_isLink imX10_isLink seX10_isLink ⟨(Nat.le_of_ble_eq_true rfl), (Nat.le_of_ble_eq_true rfl)⟩ (ci := 10) rfl rfl r.1.1 rfl rfl (Nat.le_of_ble_eq_true rfl) (c_isLink r H0 (by omega)) ?_
          rintro _ q14 ⟨rfl, eq14⟩
          subst q14
          show zG l w mX10_set 75 [(4, .int (nI 1)), (0, .ref m), (1, .int (jI z)), (2, .int (jI k)), (3, .int (jI v))] [.int (bI (decide (0 ≤ z ∧ z < nA N 0)))] h _
          refine g_bif_ne (tgt := 84) dX10_set_75 (by decide) (fun d => ?_) (fun d => ?_)
          · have d := of_decide_eq_true d
            rw [uSet_in (by omega) d, setK_2 g8]
            obtain ⟨a, ea⟩ : ∃ a : Nat, z = (a : Int) := ⟨_, (Int.toNat_of_nonneg d.1).symm⟩
            subst ea
            simp only [jI_nat]
            rw [show (a : Int).toNat = a from rfl]
            have a6 : a < 6 := by omega
            refine g_aload_n 1 dX10_set_84 rfl rfl ?_
            refine g_iload_n 2 dX10_set_85 rfl rfl ?_
            refine g_iload_n 3 dX10_set_86 rfl rfl ?_
            refine g_zif_ne (a := k) (tgt := 94) rfl dX10_set_87 (by decide) (by omega) (fun g1 => ?_) (fun g1 => ?_)
            · refine g_iload_n 3 dX10_set_94 rfl rfl ?_
              refine g_iconst (v := nI 1) dX10_set_95 (by decide) ?_
              refine g_zcmp_ne (a := k) (b := 1) (tgt := 103) rfl (by decide) dX10_set_96 (by decide) (by omega) (by omega) (fun g2 => ?_) (fun g2 => ?_)
              · refine g_iconst (v := nI 3) dX10_set_103 (by decide) ?_
                refine g_invs (M' := mX10_link0) (As := [.int (nI a), .int (nI 3)]) (rest := [.ref m]) dX10_set_104 ml_X10_44 okX10_link0 stX10_link0 ⟨(Nat.le_of_ble_eq_true rfl), (Nat.le_of_ble_eq_true rfl)⟩ rfl rfl (Nat.le_of_ble_eq_true rfl) c_link0 ?_
                rintro _ q16 ⟨rfl, eq16⟩
                subst q16
                show zG l w mX10_set 107 [(4, .int (nI 1)), (0, .ref m), (1, .int (nI a)), (2, .int (jI k)), (3, .int (jI v))] [.int (nI (8 + 40 * a + 3)), .ref m] h _
                refine g_iload_n 4 dX10_set_107 rfl rfl ?_
                have T := c_turned (l := l) (w := w) r (q := 8 + 40 * a + 3) (by omega) (by unfold nSp; omega) (hI.B _ (by omega)) (v := v) vb
                refine g_invv (M' := mX10_turned) (As := [.int (nI (8 + 40 * a + 3)), .int (jI v)]) (rest := []) dX10_set_108 ml_X10_343 okX10_turned imX10_turned seX10_turned ⟨(Nat.le_of_ble_eq_true rfl), (Nat.le_of_ble_eq_true rfl)⟩ (ci := 10) rfl rfl r.1.1 rfl rfl (Nat.le_of_ble_eq_true rfl) T ?_
                rintro _ h9 ⟨rfl, t2⟩
                show zG l w mX10_set 111 [(4, .int (nI 1)), (0, .ref m), (1, .int (nI a)), (2, .int (jI k)), (3, .int (jI v))] [.int (jI (toN N (8 + 40 * a + 3) v).2.2)] h9 _
                refine g_ireturn dX10_set_111 rfl ?_
                exact ⟨rfl, t2⟩
              · exact absurd g2 (by omega)
            · exact absurd g1 (by omega)
          · have d := of_decide_eq_false d
            refine g_aload_n 1 dX10_set_78 rfl rfl ?_
            refine g_iconst (v := nI 2) dX10_set_79 (by decide) ?_
            refine g_invv (M' := mX10_refuse) (As := [.int (nI 2)]) (rest := []) dX10_set_80 ml_X10_289 okX10_refuse imX10_refuse seX10_refuse ⟨(Nat.le_of_ble_eq_true rfl), (Nat.le_of_ble_eq_true rfl)⟩ (ci := 10) rfl rfl r.1.1 rfl rfl (Nat.le_of_ble_eq_true rfl) (c_refuse r.1.1) ?_
            rintro _ q15 ⟨rfl, eq15⟩
            subst q15
            show zG l w mX10_set 83 [(4, .int (nI 1)), (0, .ref m), (1, .int (jI z)), (2, .int (jI k)), (3, .int (jI v))] [.int (-1)] (zSi h 321 m (nI 2)) _
            refine g_ireturn dX10_set_83 rfl ?_
            rw [show uSet N z k v = (N, 2, -1) from uSet_out (by omega) d]
            exact ⟨rfl, h, r, FrM.rf, rfl⟩
    · refine g_iload_n 3 dX10_set_21 rfl rfl ?_
      refine g_i2l dX10_set_22 ?_
      rw [jI_l (by omega) (by omega)]
      refine g_lconst (v := jL 1) dX10_set_23 (by decide) ?_
      refine g_ldc2J (z := 60) dX10_set_24 kl_X10_339 (by decide) ?_
      refine g_invs (M' := mX10_isFrom) (As := [.long (jL v), .long (jL 1), .long (jL 60)]) (rest := []) dX10_set_27 ml_X10_252 okX10_isFrom stX10_isFrom ⟨(Nat.le_of_ble_eq_true rfl), (Nat.le_of_ble_eq_true rfl)⟩ rfl rfl (Nat.le_of_ble_eq_true rfl) (c_isFrom (by omega) (by omega) (by omega)) ?_
      rintro _ q6 ⟨rfl, eq6⟩
      subst q6
      show zG l w mX10_set 30 [(0, .ref m), (1, .int (jI z)), (2, .int (jI k)), (3, .int (jI v))] [.int (bI (decide (1 ≤ v ∧ v ≤ 60)))] h _
      refine g_goto (tgt := 57) dX10_set_30 (by decide) ?_
      refine g_istore (lv2 := [(4, .int (bI (decide (1 ≤ v ∧ v ≤ 60)))), (0, .ref m), (1, .int (jI z)), (2, .int (jI k)), (3, .int (jI v))]) dX10_set_57 (by decide) rfl ?_
      refine g_iload 0 dX10_set_59 rfl ?_
      refine g_bif_ne (tgt := 70) dX10_set_61 (by decide) (fun c => ?_) (fun c => ?_)
      · have c := of_decide_eq_true c
        refine g_aload_n 1 dX10_set_70 rfl rfl ?_
        refine g_iload_n 2 dX10_set_71 rfl rfl ?_
        refine g_invv (M' := mX10_isLink) (As := [.int (jI z)]) (rest := []) dX10_set_72 ml_X10_316 okX10_isLink imX10_isLink seX10_isLink ⟨(Nat.le_of_ble_eq_true rfl), (Nat.le_of_ble_eq_true rfl)⟩ (ci := 10) rfl rfl r.1.1 rfl rfl (Nat.le_of_ble_eq_true rfl) (c_isLink r H0 (by omega)) ?_
        rintro _ q8 ⟨rfl, eq8⟩
        subst q8
        show zG l w mX10_set 75 [(4, .int (bI (decide (1 ≤ v ∧ v ≤ 60)))), (0, .ref m), (1, .int (jI z)), (2, .int (jI k)), (3, .int (jI v))] [.int (bI (decide (0 ≤ z ∧ z < nA N 0)))] h _
        refine g_bif_ne (tgt := 84) dX10_set_75 (by decide) (fun d => ?_) (fun d => ?_)
        · have d := of_decide_eq_true d
          rw [uSet_in (by omega) d, setK_1 g9]
          obtain ⟨a, ea⟩ : ∃ a : Nat, z = (a : Int) := ⟨_, (Int.toNat_of_nonneg d.1).symm⟩
          subst ea
          simp only [jI_nat]
          rw [show (a : Int).toNat = a from rfl]
          have a6 : a < 6 := by omega
          refine g_aload_n 1 dX10_set_84 rfl rfl ?_
          refine g_iload_n 2 dX10_set_85 rfl rfl ?_
          refine g_iload_n 3 dX10_set_86 rfl rfl ?_
          refine g_zif_ne (a := k) (tgt := 94) rfl dX10_set_87 (by decide) (by omega) (fun g1 => ?_) (fun g1 => ?_)
          · refine g_iload_n 3 dX10_set_94 rfl rfl ?_
            refine g_iconst (v := nI 1) dX10_set_95 (by decide) ?_
            refine g_zcmp_ne (a := k) (b := 1) (tgt := 103) rfl (by decide) dX10_set_96 (by decide) (by omega) (by omega) (fun g2 => ?_) (fun g2 => ?_)
            · exact absurd g9 g2
            · refine g_iconst (v := nI 2) dX10_set_99 (by decide) ?_
              refine g_goto (tgt := 104) dX10_set_100 (by decide) ?_
              refine g_invs (M' := mX10_link0) (As := [.int (nI a), .int (nI 2)]) (rest := [.ref m]) dX10_set_104 ml_X10_44 okX10_link0 stX10_link0 ⟨(Nat.le_of_ble_eq_true rfl), (Nat.le_of_ble_eq_true rfl)⟩ rfl rfl (Nat.le_of_ble_eq_true rfl) c_link0 ?_
              rintro _ q10 ⟨rfl, eq10⟩
              subst q10
              show zG l w mX10_set 107 [(4, .int (bI (decide (1 ≤ v ∧ v ≤ 60)))), (0, .ref m), (1, .int (nI a)), (2, .int (jI k)), (3, .int (jI v))] [.int (nI (8 + 40 * a + 2)), .ref m] h _
              refine g_iload_n 4 dX10_set_107 rfl rfl ?_
              have T := c_turned (l := l) (w := w) r (q := 8 + 40 * a + 2) (by omega) (by unfold nSp; omega) (hI.B _ (by omega)) (v := v) vb
              refine g_invv (M' := mX10_turned) (As := [.int (nI (8 + 40 * a + 2)), .int (jI v)]) (rest := []) dX10_set_108 ml_X10_343 okX10_turned imX10_turned seX10_turned ⟨(Nat.le_of_ble_eq_true rfl), (Nat.le_of_ble_eq_true rfl)⟩ (ci := 10) rfl rfl r.1.1 rfl rfl (Nat.le_of_ble_eq_true rfl) T ?_
              rintro _ h9 ⟨rfl, t2⟩
              show zG l w mX10_set 111 [(4, .int (bI (decide (1 ≤ v ∧ v ≤ 60)))), (0, .ref m), (1, .int (nI a)), (2, .int (jI k)), (3, .int (jI v))] [.int (jI (toN N (8 + 40 * a + 2) v).2.2)] h9 _
              refine g_ireturn dX10_set_111 rfl ?_
              exact ⟨rfl, t2⟩
          · exact absurd g1 (by omega)
        · have d := of_decide_eq_false d
          refine g_aload_n 1 dX10_set_78 rfl rfl ?_
          refine g_iconst (v := nI 2) dX10_set_79 (by decide) ?_
          refine g_invv (M' := mX10_refuse) (As := [.int (nI 2)]) (rest := []) dX10_set_80 ml_X10_289 okX10_refuse imX10_refuse seX10_refuse ⟨(Nat.le_of_ble_eq_true rfl), (Nat.le_of_ble_eq_true rfl)⟩ (ci := 10) rfl rfl r.1.1 rfl rfl (Nat.le_of_ble_eq_true rfl) (c_refuse r.1.1) ?_
          rintro _ q9 ⟨rfl, eq9⟩
          subst q9
          show zG l w mX10_set 83 [(4, .int (bI (decide (1 ≤ v ∧ v ≤ 60)))), (0, .ref m), (1, .int (jI z)), (2, .int (jI k)), (3, .int (jI v))] [.int (-1)] (zSi h 321 m (nI 2)) _
          refine g_ireturn dX10_set_83 rfl ?_
          rw [show uSet N z k v = (N, 2, -1) from uSet_out (by omega) d]
          exact ⟨rfl, h, r, FrM.rf, rfl⟩
      · have c := of_decide_eq_false c
        refine g_aload_n 1 dX10_set_64 rfl rfl ?_
        refine g_iconst (v := nI 1) dX10_set_65 (by decide) ?_
        refine g_invv (M' := mX10_refuse) (As := [.int (nI 1)]) (rest := []) dX10_set_66 ml_X10_289 okX10_refuse imX10_refuse seX10_refuse ⟨(Nat.le_of_ble_eq_true rfl), (Nat.le_of_ble_eq_true rfl)⟩ (ci := 10) rfl rfl r.1.1 rfl rfl (Nat.le_of_ble_eq_true rfl) (c_refuse r.1.1) ?_
        rintro _ q7 ⟨rfl, eq7⟩
        subst q7
        show zG l w mX10_set 69 [(4, .int (bI (decide (1 ≤ v ∧ v ≤ 60)))), (0, .ref m), (1, .int (jI z)), (2, .int (jI k)), (3, .int (jI v))] [.int (-1)] (zSi h 321 m (nI 1)) _
        refine g_ireturn dX10_set_69 rfl ?_
        rw [show uSet N z k v = (N, 1, -1) from uSet_bad (by omega)]
        exact ⟨rfl, h, r, FrM.rf, rfl⟩
  · refine g_iload_n 3 dX10_set_4 rfl rfl ?_
    refine g_i2l dX10_set_5 ?_
    rw [jI_l (by omega) (by omega)]
    refine g_lconst (v := jL 1) dX10_set_6 (by decide) ?_
    refine g_ldc2J (z := 9) dX10_set_7 kl_X10_337 (by decide) ?_
    refine g_invs (M' := mX10_isFrom) (As := [.long (jL v), .long (jL 1), .long (jL 9)]) (rest := []) dX10_set_10 ml_X10_252 okX10_isFrom stX10_isFrom ⟨(Nat.le_of_ble_eq_true rfl), (Nat.le_of_ble_eq_true rfl)⟩ rfl rfl (Nat.le_of_ble_eq_true rfl) (c_isFrom (by omega) (by omega) (by omega)) ?_
    rintro _ q1 ⟨rfl, eq1⟩
    subst q1
    show zG l w mX10_set 13 [(0, .ref m), (1, .int (jI z)), (2, .int (jI k)), (3, .int (jI v))] [.int (bI (decide (1 ≤ v ∧ v ≤ 9)))] h _
    refine g_goto (tgt := 57) dX10_set_13 (by decide) ?_
    refine g_istore (lv2 := [(4, .int (bI (decide (1 ≤ v ∧ v ≤ 9)))), (0, .ref m), (1, .int (jI z)), (2, .int (jI k)), (3, .int (jI v))]) dX10_set_57 (by decide) rfl ?_
    refine g_iload 0 dX10_set_59 rfl ?_
    refine g_bif_ne (tgt := 70) dX10_set_61 (by decide) (fun c => ?_) (fun c => ?_)
    · have c := of_decide_eq_true c
      refine g_aload_n 1 dX10_set_70 rfl rfl ?_
      refine g_iload_n 2 dX10_set_71 rfl rfl ?_
      refine g_invv (M' := mX10_isLink) (As := [.int (jI z)]) (rest := []) dX10_set_72 ml_X10_316 okX10_isLink imX10_isLink seX10_isLink ⟨(Nat.le_of_ble_eq_true rfl), (Nat.le_of_ble_eq_true rfl)⟩ (ci := 10) rfl rfl r.1.1 rfl rfl (Nat.le_of_ble_eq_true rfl) (c_isLink r H0 (by omega)) ?_
      rintro _ q3 ⟨rfl, eq3⟩
      subst q3
      show zG l w mX10_set 75 [(4, .int (bI (decide (1 ≤ v ∧ v ≤ 9)))), (0, .ref m), (1, .int (jI z)), (2, .int (jI k)), (3, .int (jI v))] [.int (bI (decide (0 ≤ z ∧ z < nA N 0)))] h _
      refine g_bif_ne (tgt := 84) dX10_set_75 (by decide) (fun d => ?_) (fun d => ?_)
      · have d := of_decide_eq_true d
        rw [uSet_in (by omega) d, setK_0 g]
        obtain ⟨a, ea⟩ : ∃ a : Nat, z = (a : Int) := ⟨_, (Int.toNat_of_nonneg d.1).symm⟩
        subst ea
        simp only [jI_nat]
        rw [show (a : Int).toNat = a from rfl]
        have a6 : a < 6 := by omega
        refine g_aload_n 1 dX10_set_84 rfl rfl ?_
        refine g_iload_n 2 dX10_set_85 rfl rfl ?_
        refine g_iload_n 3 dX10_set_86 rfl rfl ?_
        refine g_zif_ne (a := k) (tgt := 94) rfl dX10_set_87 (by decide) (by omega) (fun g1 => ?_) (fun g1 => ?_)
        · exact absurd g g1
        · refine g_iconst (v := nI 0) dX10_set_90 (by decide) ?_
          refine g_goto (tgt := 104) dX10_set_91 (by decide) ?_
          refine g_invs (M' := mX10_link0) (As := [.int (nI a), .int (nI 0)]) (rest := [.ref m]) dX10_set_104 ml_X10_44 okX10_link0 stX10_link0 ⟨(Nat.le_of_ble_eq_true rfl), (Nat.le_of_ble_eq_true rfl)⟩ rfl rfl (Nat.le_of_ble_eq_true rfl) c_link0 ?_
          rintro _ q5 ⟨rfl, eq5⟩
          subst q5
          show zG l w mX10_set 107 [(4, .int (bI (decide (1 ≤ v ∧ v ≤ 9)))), (0, .ref m), (1, .int (nI a)), (2, .int (jI k)), (3, .int (jI v))] [.int (nI (8 + 40 * a + 0)), .ref m] h _
          refine g_iload_n 4 dX10_set_107 rfl rfl ?_
          have T := c_turned (l := l) (w := w) r (q := 8 + 40 * a + 0) (by omega) (by unfold nSp; omega) (hI.B _ (by omega)) (v := v) vb
          refine g_invv (M' := mX10_turned) (As := [.int (nI (8 + 40 * a + 0)), .int (jI v)]) (rest := []) dX10_set_108 ml_X10_343 okX10_turned imX10_turned seX10_turned ⟨(Nat.le_of_ble_eq_true rfl), (Nat.le_of_ble_eq_true rfl)⟩ (ci := 10) rfl rfl r.1.1 rfl rfl (Nat.le_of_ble_eq_true rfl) T ?_
          rintro _ h9 ⟨rfl, t2⟩
          show zG l w mX10_set 111 [(4, .int (bI (decide (1 ≤ v ∧ v ≤ 9)))), (0, .ref m), (1, .int (nI a)), (2, .int (jI k)), (3, .int (jI v))] [.int (jI (toN N (8 + 40 * a + 0) v).2.2)] h9 _
          refine g_ireturn dX10_set_111 rfl ?_
          exact ⟨rfl, t2⟩
      · have d := of_decide_eq_false d
        refine g_aload_n 1 dX10_set_78 rfl rfl ?_
        refine g_iconst (v := nI 2) dX10_set_79 (by decide) ?_
        refine g_invv (M' := mX10_refuse) (As := [.int (nI 2)]) (rest := []) dX10_set_80 ml_X10_289 okX10_refuse imX10_refuse seX10_refuse ⟨(Nat.le_of_ble_eq_true rfl), (Nat.le_of_ble_eq_true rfl)⟩ (ci := 10) rfl rfl r.1.1 rfl rfl (Nat.le_of_ble_eq_true rfl) (c_refuse r.1.1) ?_
        rintro _ q4 ⟨rfl, eq4⟩
        subst q4
        show zG l w mX10_set 83 [(4, .int (bI (decide (1 ≤ v ∧ v ≤ 9)))), (0, .ref m), (1, .int (jI z)), (2, .int (jI k)), (3, .int (jI v))] [.int (-1)] (zSi h 321 m (nI 2)) _
        refine g_ireturn dX10_set_83 rfl ?_
        rw [show uSet N z k v = (N, 2, -1) from uSet_out (by omega) d]
        exact ⟨rfl, h, r, FrM.rf, rfl⟩
    · have c := of_decide_eq_false c
      refine g_aload_n 1 dX10_set_64 rfl rfl ?_
      refine g_iconst (v := nI 1) dX10_set_65 (by decide) ?_
      refine g_invv (M' := mX10_refuse) (As := [.int (nI 1)]) (rest := []) dX10_set_66 ml_X10_289 okX10_refuse imX10_refuse seX10_refuse ⟨(Nat.le_of_ble_eq_true rfl), (Nat.le_of_ble_eq_true rfl)⟩ (ci := 10) rfl rfl r.1.1 rfl rfl (Nat.le_of_ble_eq_true rfl) (c_refuse r.1.1) ?_
      rintro _ q2 ⟨rfl, eq2⟩
      subst q2
      show zG l w mX10_set 69 [(4, .int (bI (decide (1 ≤ v ∧ v ≤ 9)))), (0, .ref m), (1, .int (jI z)), (2, .int (jI k)), (3, .int (jI v))] [.int (-1)] (zSi h 321 m (nI 1)) _
      refine g_ireturn dX10_set_69 rfl ?_
      rw [show uSet N z k v = (N, 1, -1) from uSet_bad (by omega)]
      exact ⟨rfl, h, r, FrM.rf, rfl⟩
end QM3
