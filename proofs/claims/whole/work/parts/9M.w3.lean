section QM3
variable {l : Launch} {w : zW} {h : zH} {m x b : Nat} {π : Nat → Nat} {ls : Nat → List Nat} {N : nT} {X : List Nat} {t : Nat}
theorem setOk_iff {k v : Int} : setOk k v = true ↔ (k = 0 ∧ 1 ≤ v ∧ v ≤ 9) ∨ (k = 1 ∧ 1 ≤ v ∧ v ≤ 60) ∨ (k = 2 ∧ 2 ≤ v ∧ v ≤ 30) := by
  unfold setOk
  simp only [Bool.or_eq_true, Bool.and_eq_true, decide_eq_true_eq]
  omega
theorem uSet_bad {z k v : Int} (e : ¬ ((k = 0 ∧ 1 ≤ v ∧ v ≤ 9) ∨ (k = 1 ∧ 1 ≤ v ∧ v ≤ 60) ∨ (k = 2 ∧ 2 ≤ v ∧ v ≤ 30))) : uSet N z k v = (N, 1, -1) := by unfold uSet; rw [if_neg (fun q => e (setOk_iff.mp q))]
theorem uSet_out {z k v : Int} (e : (k = 0 ∧ 1 ≤ v ∧ v ≤ 9) ∨ (k = 1 ∧ 1 ≤ v ∧ v ≤ 60) ∨ (k = 2 ∧ 2 ≤ v ∧ v ≤ 30)) (d : ¬ (0 ≤ z ∧ z < nA N 0)) : uSet N z k v = (N, 2, -1) := by unfold uSet; rw [if_pos (setOk_iff.mpr e), if_neg d]
theorem uSet_in {z k v : Int} (e : (k = 0 ∧ 1 ≤ v ∧ v ≤ 9) ∨ (k = 1 ∧ 1 ≤ v ∧ v ≤ 60) ∨ (k = 2 ∧ 2 ≤ v ∧ v ≤ 30)) (d : 0 ≤ z ∧ z < nA N 0) : uSet N z k v = toN N (8 + 40 * z.toNat + setK k) v := by unfold uSet; rw [if_pos (setOk_iff.mpr e), if_pos d]
theorem setK_0 {k : Int} (e : k = 0) : setK k = 0 := by rw [e]; rfl
theorem setK_1 {k : Int} (e : k = 1) : setK k = 2 := by rw [e]; rfl
theorem setK_2 {k : Int} (e : k = 2) : setK k = 3 := by rw [e]; rfl
theorem c_setM (r : MoN h m N) (hI : iN [] N) {z k v : Int} (zb : -2147483648 ≤ z ∧ z < 2147483648) (kb : -2147483648 ≤ k ∧ k < 2147483648) (vb : -2147483648 ≤ v ∧ v < 2147483648) : zM l w mX10_set [.ref m, .int (jI z), .int (jI k), .int (jI v)] h (PM h m (uSet N z k v)) := by
  refine zM.of (by decide) (Nat.le_of_ble_eq_true rfl) ?_
  have H0 := hI.H.1
  refine g_iload_n 2 dX10_set_0 rfl rfl ?_
  refine g_zif_ne (a := k) (tgt := 16) rfl dX10_set_1 (by decide) (by omega) (fun g => ?_) (fun g => ?_)
  · refine g_iload_n 2 dX10_set_16 rfl rfl ?_
    refine g_iconst (v := nI 1) dX10_set_17 (by decide) ?_
    refine g_zcmp_ne (a := k) (b := 1) (tgt := 33) rfl (by decide) dX10_set_18 (by decide) (by omega) (by omega) (fun g9 => ?_) (fun g9 => ?_)
    · refine g_iload_n 2 dX10_set_33 rfl rfl ?_
      refine g_iconst (v := nI 2) dX10_set_34 (by decide) ?_
      refine g_zcmp_ne (a := k) (b := 2) (tgt := 56) rfl (by decide) dX10_set_35 (by decide) (by omega) (by omega) (fun g8 => ?_) (fun g8 => ?_)
      · refine g_iconst (v := nI 0) dX10_set_56 (by decide) ?_
        refine g_istore (lv2 := [(4, .int (nI 0)), (0, .ref m), (1, .int (jI z)), (2, .int (jI k)), (3, .int (jI v))]) dX10_set_57 (by decide) rfl ?_
        refine g_iload 0 dX10_set_59 rfl ?_
        refine g_if_ne (tgt := 70) dX10_set_61 (by decide) (fun c => absurd (by decide : nI 0 = 0) c) (fun _ => ?_)
        refine g_aload_n 1 dX10_set_64 rfl rfl ?_
        refine g_iconst (v := nI 1) dX10_set_65 (by decide) ?_
        refine g_invv (M' := mX10_refuse) (As := [.int (nI 1)]) (rest := []) dX10_set_66 ml_X10_289 okX10_refuse imX10_refuse seX10_refuse ⟨(Nat.le_of_ble_eq_true rfl), (Nat.le_of_ble_eq_true rfl)⟩ (ci := 10) rfl rfl r.1.1 rfl rfl (Nat.le_of_ble_eq_true rfl) (c_refuse r.1.1) ?_
        rintro _ q11 ⟨rfl, eq11⟩
        subst q11
        show zG l w mX10_set 69 [(4, .int (nI 0)), (0, .ref m), (1, .int (jI z)), (2, .int (jI k)), (3, .int (jI v))] [.int (-1)] (zSi h 321 m (nI 1)) _
        refine g_ireturn dX10_set_69 rfl ?_
        rw [show uSet N z k v = (N, 1, -1) from uSet_bad (by omega)]
        exact ⟨rfl, h, r, FrM.rf, rfl⟩
      · refine g_iload_n 3 dX10_set_38 rfl rfl ?_
        refine g_i2l dX10_set_39 ?_
        rw [jI_l (by omega) (by omega)]
        refine g_ldc2J (z := 2) dX10_set_40 kl_X10_116 (by decide) ?_
        refine g_ldc2J (z := 30) dX10_set_43 kl_X10_341 (by decide) ?_
        refine g_invs (M' := mX10_isFrom) (As := [.long (jL v), .long (jL 2), .long (jL 30)]) (rest := []) dX10_set_46 ml_X10_252 okX10_isFrom stX10_isFrom ⟨(Nat.le_of_ble_eq_true rfl), (Nat.le_of_ble_eq_true rfl)⟩ rfl rfl (Nat.le_of_ble_eq_true rfl) (c_isFrom (by omega) (by omega) (by omega)) ?_
        rintro _ q12 ⟨rfl, eq12⟩
        subst q12
        show zG l w mX10_set 49 [(0, .ref m), (1, .int (jI z)), (2, .int (jI k)), (3, .int (jI v))] [.int (bI (decide (2 ≤ v ∧ v ≤ 30)))] h _
        refine g_bif_eq (tgt := 56) dX10_set_49 (by decide) (fun c => ?_) (fun c => ?_)
        · have c := of_decide_eq_false c
          refine g_iconst (v := nI 0) dX10_set_56 (by decide) ?_
          refine g_istore (lv2 := [(4, .int (nI 0)), (0, .ref m), (1, .int (jI z)), (2, .int (jI k)), (3, .int (jI v))]) dX10_set_57 (by decide) rfl ?_
          refine g_iload 0 dX10_set_59 rfl ?_
          refine g_if_ne (tgt := 70) dX10_set_61 (by decide) (fun c => absurd (by decide : nI 0 = 0) c) (fun _ => ?_)
          refine g_aload_n 1 dX10_set_64 rfl rfl ?_
          refine g_iconst (v := nI 1) dX10_set_65 (by decide) ?_
          refine g_invv (M' := mX10_refuse) (As := [.int (nI 1)]) (rest := []) dX10_set_66 ml_X10_289 okX10_refuse imX10_refuse seX10_refuse ⟨(Nat.le_of_ble_eq_true rfl), (Nat.le_of_ble_eq_true rfl)⟩ (ci := 10) rfl rfl r.1.1 rfl rfl (Nat.le_of_ble_eq_true rfl) (c_refuse r.1.1) ?_
          rintro _ q13 ⟨rfl, eq13⟩
          subst q13
          show zG l w mX10_set 69 [(4, .int (nI 0)), (0, .ref m), (1, .int (jI z)), (2, .int (jI k)), (3, .int (jI v))] [.int (-1)] (zSi h 321 m (nI 1)) _
          refine g_ireturn dX10_set_69 rfl ?_
          rw [show uSet N z k v = (N, 1, -1) from uSet_bad (by omega)]
          exact ⟨rfl, h, r, FrM.rf, rfl⟩
        · have c := of_decide_eq_true c
          refine g_iconst (v := nI 1) dX10_set_52 (by decide) ?_
          refine g_goto (tgt := 57) dX10_set_53 (by decide) ?_
          refine g_istore (lv2 := [(4, .int (nI 1)), (0, .ref m), (1, .int (jI z)), (2, .int (jI k)), (3, .int (jI v))]) dX10_set_57 (by decide) rfl ?_
          refine g_iload 0 dX10_set_59 rfl ?_
          refine g_if_ne (tgt := 70) dX10_set_61 (by decide) (fun _ => ?_) (fun c => absurd c (by decide : ¬ nI 1 = 0))
          refine g_aload_n 1 dX10_set_70 rfl rfl ?_
          refine g_iload_n 2 dX10_set_71 rfl rfl ?_
          refine g_invv (M' := mX10_isLink) (As := [.int (jI z)]) (rest := []) dX10_set_72 ml_X10_316 okX10_isLink imX10_isLink seX10_isLink ⟨(Nat.le_of_ble_eq_true rfl), (Nat.le_of_ble_eq_true rfl)⟩ (ci := 10) rfl rfl r.1.1 rfl rfl (Nat.le_of_ble_eq_true rfl) (c_isLink r H0 (by omega)) ?_
          rintro _ q14 ⟨rfl, eq14⟩
          subst q14
          show zG l w mX10_set 75 [(4, .int (nI 1)), (0, .ref m), (1, .int (jI z)), (2, .int (jI k)), (3, .int (jI v))] [.int (bI (decide (0 ≤ z ∧ z < nA N 0)))] h _
          refine g_bif_ne (tgt := 84) dX10_set_75 (by decide) (fun d => ?_) (fun d => ?_)
          · have d := of_decide_eq_true d
            rw [uSet_in (by omega) d, setK_2 g8]
            obtain ⟨a, ea⟩ : ∃ a : Nat, z = (a : Int) := ⟨_, (Int.toNat_of_nonneg d.1).symm⟩
            subst ea
            simp only [jI_nat]
            rw [show (a : Int).toNat = a from rfl]
            have a6 : a < 6 := by omega
            refine g_aload_n 1 dX10_set_84 rfl rfl ?_
            refine g_iload_n 2 dX10_set_85 rfl rfl ?_
            refine g_iload_n 3 dX10_set_86 rfl rfl ?_
            refine g_zif_ne (a := k) (tgt := 94) rfl dX10_set_87 (by decide) (by omega) (fun g1 => ?_) (fun g1 => ?_)
            · refine g_iload_n 3 dX10_set_94 rfl rfl ?_
              refine g_iconst (v := nI 1) dX10_set_95 (by decide) ?_
              refine g_zcmp_ne (a := k) (b := 1) (tgt := 103) rfl (by decide) dX10_set_96 (by decide) (by omega) (by omega) (fun g2 => ?_) (fun g2 => ?_)
              · refine g_iconst (v := nI 3) dX10_set_103 (by decide) ?_
                refine g_invs (M' := mX10_link0) (As := [.int (nI a), .int (nI 3)]) (rest := [.ref m]) dX10_set_104 ml_X10_44 okX10_link0 stX10_link0 ⟨(Nat.le_of_ble_eq_true rfl), (Nat.le_of_ble_eq_true rfl)⟩ rfl rfl (Nat.le_of_ble_eq_true rfl) c_link0 ?_
                rintro _ q16 ⟨rfl, eq16⟩
                subst q16
                show zG l w mX10_set 107 [(4, .int (nI 1)), (0, .ref m), (1, .int (nI a)), (2, .int (jI k)), (3, .int (jI v))] [.int (nI (8 + 40 * a + 3)), .ref m] h _
                refine g_iload_n 4 dX10_set_107 rfl rfl ?_
                have T := c_turned (l := l) (w := w) r (q := 8 + 40 * a + 3) (by omega) (by unfold nSp; omega) (hI.B _ (by omega)) (v := v) vb
                refine g_invv (M' := mX10_turned) (As := [.int (nI (8 + 40 * a + 3)), .int (jI v)]) (rest := []) dX10_set_108 ml_X10_343 okX10_turned imX10_turned seX10_turned ⟨(Nat.le_of_ble_eq_true rfl), (Nat.le_of_ble_eq_true rfl)⟩ (ci := 10) rfl rfl r.1.1 rfl rfl (Nat.le_of_ble_eq_true rfl) T ?_
                rintro _ h9 ⟨rfl, t2⟩
                show zG l w mX10_set 111 [(4, .int (nI 1)), (0, .ref m), (1, .int (nI a)), (2, .int (jI k)), (3, .int (jI v))] [.int (jI (toN N (8 + 40 * a + 3) v).2.2)] h9 _
                refine g_ireturn dX10_set_111 rfl ?_
                exact ⟨rfl, t2⟩
              · exact absurd g2 (by omega)
            · exact absurd g1 (by omega)
          · have d := of_decide_eq_false d
            refine g_aload_n 1 dX10_set_78 rfl rfl ?_
            refine g_iconst (v := nI 2) dX10_set_79 (by decide) ?_
            refine g_invv (M' := mX10_refuse) (As := [.int (nI 2)]) (rest := []) dX10_set_80 ml_X10_289 okX10_refuse imX10_refuse seX10_refuse ⟨(Nat.le_of_ble_eq_true rfl), (Nat.le_of_ble_eq_true rfl)⟩ (ci := 10) rfl rfl r.1.1 rfl rfl (Nat.le_of_ble_eq_true rfl) (c_refuse r.1.1) ?_
            rintro _ q15 ⟨rfl, eq15⟩
            subst q15
            show zG l w mX10_set 83 [(4, .int (nI 1)), (0, .ref m), (1, .int (jI z)), (2, .int (jI k)), (3, .int (jI v))] [.int (-1)] (zSi h 321 m (nI 2)) _
            refine g_ireturn dX10_set_83 rfl ?_
            rw [show uSet N z k v = (N, 2, -1) from uSet_out (by omega) d]
            exact ⟨rfl, h, r, FrM.rf, rfl⟩
    · refine g_iload_n 3 dX10_set_21 rfl rfl ?_
      refine g_i2l dX10_set_22 ?_
      rw [jI_l (by omega) (by omega)]
      refine g_lconst (v := jL 1) dX10_set_23 (by decide) ?_
      refine g_ldc2J (z := 60) dX10_set_24 kl_X10_339 (by decide) ?_
      refine g_invs (M' := mX10_isFrom) (As := [.long (jL v), .long (jL 1), .long (jL 60)]) (rest := []) dX10_set_27 ml_X10_252 okX10_isFrom stX10_isFrom ⟨(Nat.le_of_ble_eq_true rfl), (Nat.le_of_ble_eq_true rfl)⟩ rfl rfl (Nat.le_of_ble_eq_true rfl) (c_isFrom (by omega) (by omega) (by omega)) ?_
      rintro _ q6 ⟨rfl, eq6⟩
      subst q6
      show zG l w mX10_set 30 [(0, .ref m), (1, .int (jI z)), (2, .int (jI k)), (3, .int (jI v))] [.int (bI (decide (1 ≤ v ∧ v ≤ 60)))] h _
      refine g_goto (tgt := 57) dX10_set_30 (by decide) ?_
      refine g_istore (lv2 := [(4, .int (bI (decide (1 ≤ v ∧ v ≤ 60)))), (0, .ref m), (1, .int (jI z)), (2, .int (jI k)), (3, .int (jI v))]) dX10_set_57 (by decide) rfl ?_
      refine g_iload 0 dX10_set_59 rfl ?_
      refine g_bif_ne (tgt := 70) dX10_set_61 (by decide) (fun c => ?_) (fun c => ?_)
      · have c := of_decide_eq_true c
        refine g_aload_n 1 dX10_set_70 rfl rfl ?_
        refine g_iload_n 2 dX10_set_71 rfl rfl ?_
        refine g_invv (M' := mX10_isLink) (As := [.int (jI z)]) (rest := []) dX10_set_72 ml_X10_316 okX10_isLink imX10_isLink seX10_isLink ⟨(Nat.le_of_ble_eq_true rfl), (Nat.le_of_ble_eq_true rfl)⟩ (ci := 10) rfl rfl r.1.1 rfl rfl (Nat.le_of_ble_eq_true rfl) (c_isLink r H0 (by omega)) ?_
        rintro _ q8 ⟨rfl, eq8⟩
        subst q8
        show zG l w mX10_set 75 [(4, .int (bI (decide (1 ≤ v ∧ v ≤ 60)))), (0, .ref m), (1, .int (jI z)), (2, .int (jI k)), (3, .int (jI v))] [.int (bI (decide (0 ≤ z ∧ z < nA N 0)))] h _
        refine g_bif_ne (tgt := 84) dX10_set_75 (by decide) (fun d => ?_) (fun d => ?_)
        · have d := of_decide_eq_true d
          rw [uSet_in (by omega) d, setK_1 g9]
          obtain ⟨a, ea⟩ : ∃ a : Nat, z = (a : Int) := ⟨_, (Int.toNat_of_nonneg d.1).symm⟩
          subst ea
          simp only [jI_nat]
          rw [show (a : Int).toNat = a from rfl]
          have a6 : a < 6 := by omega
          refine g_aload_n 1 dX10_set_84 rfl rfl ?_
          refine g_iload_n 2 dX10_set_85 rfl rfl ?_
          refine g_iload_n 3 dX10_set_86 rfl rfl ?_
          refine g_zif_ne (a := k) (tgt := 94) rfl dX10_set_87 (by decide) (by omega) (fun g1 => ?_) (fun g1 => ?_)
          · refine g_iload_n 3 dX10_set_94 rfl rfl ?_
            refine g_iconst (v := nI 1) dX10_set_95 (by decide) ?_
            refine g_zcmp_ne (a := k) (b := 1) (tgt := 103) rfl (by decide) dX10_set_96 (by decide) (by omega) (by omega) (fun g2 => ?_) (fun g2 => ?_)
            · exact absurd g9 g2
            · refine g_iconst (v := nI 2) dX10_set_99 (by decide) ?_
              refine g_goto (tgt := 104) dX10_set_100 (by decide) ?_
              refine g_invs (M' := mX10_link0) (As := [.int (nI a), .int (nI 2)]) (rest := [.ref m]) dX10_set_104 ml_X10_44 okX10_link0 stX10_link0 ⟨(Nat.le_of_ble_eq_true rfl), (Nat.le_of_ble_eq_true rfl)⟩ rfl rfl (Nat.le_of_ble_eq_true rfl) c_link0 ?_
              rintro _ q10 ⟨rfl, eq10⟩
              subst q10
              show zG l w mX10_set 107 [(4, .int (bI (decide (1 ≤ v ∧ v ≤ 60)))), (0, .ref m), (1, .int (nI a)), (2, .int (jI k)), (3, .int (jI v))] [.int (nI (8 + 40 * a + 2)), .ref m] h _
              refine g_iload_n 4 dX10_set_107 rfl rfl ?_
              have T := c_turned (l := l) (w := w) r (q := 8 + 40 * a + 2) (by omega) (by unfold nSp; omega) (hI.B _ (by omega)) (v := v) vb
              refine g_invv (M' := mX10_turned) (As := [.int (nI (8 + 40 * a + 2)), .int (jI v)]) (rest := []) dX10_set_108 ml_X10_343 okX10_turned imX10_turned seX10_turned ⟨(Nat.le_of_ble_eq_true rfl), (Nat.le_of_ble_eq_true rfl)⟩ (ci := 10) rfl rfl r.1.1 rfl rfl (Nat.le_of_ble_eq_true rfl) T ?_
              rintro _ h9 ⟨rfl, t2⟩
              show zG l w mX10_set 111 [(4, .int (bI (decide (1 ≤ v ∧ v ≤ 60)))), (0, .ref m), (1, .int (nI a)), (2, .int (jI k)), (3, .int (jI v))] [.int (jI (toN N (8 + 40 * a + 2) v).2.2)] h9 _
              refine g_ireturn dX10_set_111 rfl ?_
              exact ⟨rfl, t2⟩
          · exact absurd g1 (by omega)
        · have d := of_decide_eq_false d
          refine g_aload_n 1 dX10_set_78 rfl rfl ?_
          refine g_iconst (v := nI 2) dX10_set_79 (by decide) ?_
          refine g_invv (M' := mX10_refuse) (As := [.int (nI 2)]) (rest := []) dX10_set_80 ml_X10_289 okX10_refuse imX10_refuse seX10_refuse ⟨(Nat.le_of_ble_eq_true rfl), (Nat.le_of_ble_eq_true rfl)⟩ (ci := 10) rfl rfl r.1.1 rfl rfl (Nat.le_of_ble_eq_true rfl) (c_refuse r.1.1) ?_
          rintro _ q9 ⟨rfl, eq9⟩
          subst q9
          show zG l w mX10_set 83 [(4, .int (bI (decide (1 ≤ v ∧ v ≤ 60)))), (0, .ref m), (1, .int (jI z)), (2, .int (jI k)), (3, .int (jI v))] [.int (-1)] (zSi h 321 m (nI 2)) _
          refine g_ireturn dX10_set_83 rfl ?_
          rw [show uSet N z k v = (N, 2, -1) from uSet_out (by omega) d]
          exact ⟨rfl, h, r, FrM.rf, rfl⟩
      · have c := of_decide_eq_false c
        refine g_aload_n 1 dX10_set_64 rfl rfl ?_
        refine g_iconst (v := nI 1) dX10_set_65 (by decide) ?_
        refine g_invv (M' := mX10_refuse) (As := [.int (nI 1)]) (rest := []) dX10_set_66 ml_X10_289 okX10_refuse imX10_refuse seX10_refuse ⟨(Nat.le_of_ble_eq_true rfl), (Nat.le_of_ble_eq_true rfl)⟩ (ci := 10) rfl rfl r.1.1 rfl rfl (Nat.le_of_ble_eq_true rfl) (c_refuse r.1.1) ?_
        rintro _ q7 ⟨rfl, eq7⟩
        subst q7
        show zG l w mX10_set 69 [(4, .int (bI (decide (1 ≤ v ∧ v ≤ 60)))), (0, .ref m), (1, .int (jI z)), (2, .int (jI k)), (3, .int (jI v))] [.int (-1)] (zSi h 321 m (nI 1)) _
        refine g_ireturn dX10_set_69 rfl ?_
        rw [show uSet N z k v = (N, 1, -1) from uSet_bad (by omega)]
        exact ⟨rfl, h, r, FrM.rf, rfl⟩
  · refine g_iload_n 3 dX10_set_4 rfl rfl ?_
    refine g_i2l dX10_set_5 ?_
    rw [jI_l (by omega) (by omega)]
    refine g_lconst (v := jL 1) dX10_set_6 (by decide) ?_
    refine g_ldc2J (z := 9) dX10_set_7 kl_X10_337 (by decide) ?_
    refine g_invs (M' := mX10_isFrom) (As := [.long (jL v), .long (jL 1), .long (jL 9)]) (rest := []) dX10_set_10 ml_X10_252 okX10_isFrom stX10_isFrom ⟨(Nat.le_of_ble_eq_true rfl), (Nat.le_of_ble_eq_true rfl)⟩ rfl rfl (Nat.le_of_ble_eq_true rfl) (c_isFrom (by omega) (by omega) (by omega)) ?_
    rintro _ q1 ⟨rfl, eq1⟩
    subst q1
    show zG l w mX10_set 13 [(0, .ref m), (1, .int (jI z)), (2, .int (jI k)), (3, .int (jI v))] [.int (bI (decide (1 ≤ v ∧ v ≤ 9)))] h _
    refine g_goto (tgt := 57) dX10_set_13 (by decide) ?_
    refine g_istore (lv2 := [(4, .int (bI (decide (1 ≤ v ∧ v ≤ 9)))), (0, .ref m), (1, .int (jI z)), (2, .int (jI k)), (3, .int (jI v))]) dX10_set_57 (by decide) rfl ?_
    refine g_iload 0 dX10_set_59 rfl ?_
    refine g_bif_ne (tgt := 70) dX10_set_61 (by decide) (fun c => ?_) (fun c => ?_)
    · have c := of_decide_eq_true c
      refine g_aload_n 1 dX10_set_70 rfl rfl ?_
      refine g_iload_n 2 dX10_set_71 rfl rfl ?_
      refine g_invv (M' := mX10_isLink) (As := [.int (jI z)]) (rest := []) dX10_set_72 ml_X10_316 okX10_isLink imX10_isLink seX10_isLink ⟨(Nat.le_of_ble_eq_true rfl), (Nat.le_of_ble_eq_true rfl)⟩ (ci := 10) rfl rfl r.1.1 rfl rfl (Nat.le_of_ble_eq_true rfl) (c_isLink r H0 (by omega)) ?_
      rintro _ q3 ⟨rfl, eq3⟩
      subst q3
      show zG l w mX10_set 75 [(4, .int (bI (decide (1 ≤ v ∧ v ≤ 9)))), (0, .ref m), (1, .int (jI z)), (2, .int (jI k)), (3, .int (jI v))] [.int (bI (decide (0 ≤ z ∧ z < nA N 0)))] h _
      refine g_bif_ne (tgt := 84) dX10_set_75 (by decide) (fun d => ?_) (fun d => ?_)
      · have d := of_decide_eq_true d
        rw [uSet_in (by omega) d, setK_0 g]
        obtain ⟨a, ea⟩ : ∃ a : Nat, z = (a : Int) := ⟨_, (Int.toNat_of_nonneg d.1).symm⟩
        subst ea
        simp only [jI_nat]
        rw [show (a : Int).toNat = a from rfl]
        have a6 : a < 6 := by omega
        refine g_aload_n 1 dX10_set_84 rfl rfl ?_
        refine g_iload_n 2 dX10_set_85 rfl rfl ?_
        refine g_iload_n 3 dX10_set_86 rfl rfl ?_
        refine g_zif_ne (a := k) (tgt := 94) rfl dX10_set_87 (by decide) (by omega) (fun g1 => ?_) (fun g1 => ?_)
        · exact absurd g g1
        · refine g_iconst (v := nI 0) dX10_set_90 (by decide) ?_
          refine g_goto (tgt := 104) dX10_set_91 (by decide) ?_
          refine g_invs (M' := mX10_link0) (As := [.int (nI a), .int (nI 0)]) (rest := [.ref m]) dX10_set_104 ml_X10_44 okX10_link0 stX10_link0 ⟨(Nat.le_of_ble_eq_true rfl), (Nat.le_of_ble_eq_true rfl)⟩ rfl rfl (Nat.le_of_ble_eq_true rfl) c_link0 ?_
          rintro _ q5 ⟨rfl, eq5⟩
          subst q5
          show zG l w mX10_set 107 [(4, .int (bI (decide (1 ≤ v ∧ v ≤ 9)))), (0, .ref m), (1, .int (nI a)), (2, .int (jI k)), (3, .int (jI v))] [.int (nI (8 + 40 * a + 0)), .ref m] h _
          refine g_iload_n 4 dX10_set_107 rfl rfl ?_
          have T := c_turned (l := l) (w := w) r (q := 8 + 40 * a + 0) (by omega) (by unfold nSp; omega) (hI.B _ (by omega)) (v := v) vb
          refine g_invv (M' := mX10_turned) (As := [.int (nI (8 + 40 * a + 0)), .int (jI v)]) (rest := []) dX10_set_108 ml_X10_343 okX10_turned imX10_turned seX10_turned ⟨(Nat.le_of_ble_eq_true rfl), (Nat.le_of_ble_eq_true rfl)⟩ (ci := 10) rfl rfl r.1.1 rfl rfl (Nat.le_of_ble_eq_true rfl) T ?_
          rintro _ h9 ⟨rfl, t2⟩
          show zG l w mX10_set 111 [(4, .int (bI (decide (1 ≤ v ∧ v ≤ 9)))), (0, .ref m), (1, .int (nI a)), (2, .int (jI k)), (3, .int (jI v))] [.int (jI (toN N (8 + 40 * a + 0) v).2.2)] h9 _
          refine g_ireturn dX10_set_111 rfl ?_
          exact ⟨rfl, t2⟩
      · have d := of_decide_eq_false d
        refine g_aload_n 1 dX10_set_78 rfl rfl ?_
        refine g_iconst (v := nI 2) dX10_set_79 (by decide) ?_
        refine g_invv (M' := mX10_refuse) (As := [.int (nI 2)]) (rest := []) dX10_set_80 ml_X10_289 okX10_refuse imX10_refuse seX10_refuse ⟨(Nat.le_of_ble_eq_true rfl), (Nat.le_of_ble_eq_true rfl)⟩ (ci := 10) rfl rfl r.1.1 rfl rfl (Nat.le_of_ble_eq_true rfl) (c_refuse r.1.1) ?_
        rintro _ q4 ⟨rfl, eq4⟩
        subst q4
        show zG l w mX10_set 83 [(4, .int (bI (decide (1 ≤ v ∧ v ≤ 9)))), (0, .ref m), (1, .int (jI z)), (2, .int (jI k)), (3, .int (jI v))] [.int (-1)] (zSi h 321 m (nI 2)) _
        refine g_ireturn dX10_set_83 rfl ?_
        rw [show uSet N z k v = (N, 2, -1) from uSet_out (by omega) d]
        exact ⟨rfl, h, r, FrM.rf, rfl⟩
    · have c := of_decide_eq_false c
      refine g_aload_n 1 dX10_set_64 rfl rfl ?_
      refine g_iconst (v := nI 1) dX10_set_65 (by decide) ?_
      refine g_invv (M' := mX10_refuse) (As := [.int (nI 1)]) (rest := []) dX10_set_66 ml_X10_289 okX10_refuse imX10_refuse seX10_refuse ⟨(Nat.le_of_ble_eq_true rfl), (Nat.le_of_ble_eq_true rfl)⟩ (ci := 10) rfl rfl r.1.1 rfl rfl (Nat.le_of_ble_eq_true rfl) (c_refuse r.1.1) ?_
      rintro _ q2 ⟨rfl, eq2⟩
      subst q2
      show zG l w mX10_set 69 [(4, .int (bI (decide (1 ≤ v ∧ v ≤ 9)))), (0, .ref m), (1, .int (jI z)), (2, .int (jI k)), (3, .int (jI v))] [.int (-1)] (zSi h 321 m (nI 1)) _
      refine g_ireturn dX10_set_69 rfl ?_
      rw [show uSet N z k v = (N, 1, -1) from uSet_bad (by omega)]
      exact ⟨rfl, h, r, FrM.rf, rfl⟩
theorem c_allows {k v : Int} (kb : -2147483648 ≤ k ∧ k < 2147483648) (vb : -2147483648 ≤ v ∧ v < 2147483648) : zM l w mX4_allows [.int (jI k), .int (jI v)] h (fun u h1 => u = some (.int (bI (setOk k v))) ∧ h1 = h) := by
  refine zM.of (by decide) (Nat.le_of_ble_eq_true rfl) ?_
  by_cases e0 : k = 0
  · subst e0
    refine g_iload_n 0 dX4_allows_0 rfl rfl ?_
    refine g_tableIn (off := 27) (tgt := 28) dX4_allows_1 (by decide) (by decide) (by decide) (by decide) ?_
    refine g_iload_n 1 dX4_allows_28 rfl rfl ?_
    refine g_iconst (v := nI 1) dX4_allows_29 (by decide) ?_
    refine g_zcmp_lt (a := v) (b := 1) (tgt := 43) rfl (by decide) dX4_allows_30 (by decide) (by omega) (by omega) (fun g => ?_) (fun g => ?_)
    · refine g_iconst (v := bI false) dX4_allows_43 (by decide) ?_
      refine g_zreturn dX4_allows_44 rfl (bI_nar _) ?_
      exact ⟨by rw [show setOk 0 v = false from Bool.eq_false_iff.mpr (fun q => absurd (setOk_iff.mp q) (by omega))], rfl⟩
    · refine g_iload_n 1 dX4_allows_33 rfl rfl ?_
      refine g_bipush (v := nI 9) dX4_allows_34 (by decide) ?_
      refine g_zcmp_gt (a := v) (b := 9) (tgt := 43) rfl (by decide) dX4_allows_36 (by decide) (by omega) (by omega) (fun g2 => ?_) (fun g2 => ?_)
      · refine g_iconst (v := bI false) dX4_allows_43 (by decide) ?_
        refine g_zreturn dX4_allows_44 rfl (bI_nar _) ?_
        exact ⟨by rw [show setOk 0 v = false from Bool.eq_false_iff.mpr (fun q => absurd (setOk_iff.mp q) (by omega))], rfl⟩
      · refine g_iconst (v := bI true) dX4_allows_39 (by decide) ?_
        refine g_goto (tgt := 44) dX4_allows_40 (by decide) ?_
        refine g_zreturn dX4_allows_44 rfl (bI_nar _) ?_
        exact ⟨by rw [setOk_iff.mpr (by omega)], rfl⟩
  by_cases e1 : k = 1
  · subst e1
    refine g_iload_n 0 dX4_allows_0 rfl rfl ?_
    refine g_tableIn (off := 44) (tgt := 45) dX4_allows_1 (by decide) (by decide) (by decide) (by decide) ?_
    refine g_iload_n 1 dX4_allows_45 rfl rfl ?_
    refine g_iconst (v := nI 1) dX4_allows_46 (by decide) ?_
    refine g_zcmp_lt (a := v) (b := 1) (tgt := 60) rfl (by decide) dX4_allows_47 (by decide) (by omega) (by omega) (fun g => ?_) (fun g => ?_)
    · refine g_iconst (v := bI false) dX4_allows_60 (by decide) ?_
      refine g_zreturn dX4_allows_61 rfl (bI_nar _) ?_
      exact ⟨by rw [show setOk 1 v = false from Bool.eq_false_iff.mpr (fun q => absurd (setOk_iff.mp q) (by omega))], rfl⟩
    · refine g_iload_n 1 dX4_allows_50 rfl rfl ?_
      refine g_bipush (v := nI 60) dX4_allows_51 (by decide) ?_
      refine g_zcmp_gt (a := v) (b := 60) (tgt := 60) rfl (by decide) dX4_allows_53 (by decide) (by omega) (by omega) (fun g2 => ?_) (fun g2 => ?_)
      · refine g_iconst (v := bI false) dX4_allows_60 (by decide) ?_
        refine g_zreturn dX4_allows_61 rfl (bI_nar _) ?_
        exact ⟨by rw [show setOk 1 v = false from Bool.eq_false_iff.mpr (fun q => absurd (setOk_iff.mp q) (by omega))], rfl⟩
      · refine g_iconst (v := bI true) dX4_allows_56 (by decide) ?_
        refine g_goto (tgt := 61) dX4_allows_57 (by decide) ?_
        refine g_zreturn dX4_allows_61 rfl (bI_nar _) ?_
        exact ⟨by rw [setOk_iff.mpr (by omega)], rfl⟩
  by_cases e2 : k = 2
  · subst e2
    refine g_iload_n 0 dX4_allows_0 rfl rfl ?_
    refine g_tableIn (off := 61) (tgt := 62) dX4_allows_1 (by decide) (by decide) (by decide) (by decide) ?_
    refine g_iload_n 1 dX4_allows_62 rfl rfl ?_
    refine g_iconst (v := nI 2) dX4_allows_63 (by decide) ?_
    refine g_zcmp_lt (a := v) (b := 2) (tgt := 77) rfl (by decide) dX4_allows_64 (by decide) (by omega) (by omega) (fun g => ?_) (fun g => ?_)
    · refine g_iconst (v := bI false) dX4_allows_77 (by decide) ?_
      refine g_zreturn dX4_allows_78 rfl (bI_nar _) ?_
      exact ⟨by rw [show setOk 2 v = false from Bool.eq_false_iff.mpr (fun q => absurd (setOk_iff.mp q) (by omega))], rfl⟩
    · refine g_iload_n 1 dX4_allows_67 rfl rfl ?_
      refine g_bipush (v := nI 30) dX4_allows_68 (by decide) ?_
      refine g_zcmp_gt (a := v) (b := 30) (tgt := 77) rfl (by decide) dX4_allows_70 (by decide) (by omega) (by omega) (fun g2 => ?_) (fun g2 => ?_)
      · refine g_iconst (v := bI false) dX4_allows_77 (by decide) ?_
        refine g_zreturn dX4_allows_78 rfl (bI_nar _) ?_
        exact ⟨by rw [show setOk 2 v = false from Bool.eq_false_iff.mpr (fun q => absurd (setOk_iff.mp q) (by omega))], rfl⟩
      · refine g_iconst (v := bI true) dX4_allows_73 (by decide) ?_
        refine g_goto (tgt := 78) dX4_allows_74 (by decide) ?_
        refine g_zreturn dX4_allows_78 rfl (bI_nar _) ?_
        exact ⟨by rw [setOk_iff.mpr (by omega)], rfl⟩
  refine g_iload_n 0 dX4_allows_0 rfl rfl ?_
  refine g_tableOut (tgt := 79) dX4_allows_1 (by rw [jI_toInt kb.1 kb.2]; omega) (by decide) ?_
  refine g_iconst (v := bI false) dX4_allows_79 (by decide) ?_
  refine g_zreturn dX4_allows_80 rfl (bI_nar _) ?_
  exact ⟨by rw [show setOk k v = false from Bool.eq_false_iff.mpr (fun q => absurd (setOk_iff.mp q) (by omega))], rfl⟩
theorem c_setting (c : CX h b π ls N X t) {a : Nat} (ha : (a : Int) < nA N 0) (a6 : a < 6) {k : Int} (kb : k = 0 ∨ k = 1 ∨ k = 2) : zM l w mX4_setting [.ref (b + 11 + 7 * a), .int (jI k)] h (fun u h1 => u = some (.int (jI (nA N (8 + 40 * a + setK k)))) ∧ h1 = h) := by
  refine zM.of (by decide) (Nat.le_of_ble_eq_true rfl) ?_
  refine g_iload_n 1 dX4_setting_0 rfl rfl ?_
  refine g_zif_ne (a := k) (tgt := 9) rfl dX4_setting_1 (by decide) (by omega) (fun g => ?_) (fun g => ?_)
  · refine g_iload_n 1 dX4_setting_9 rfl rfl ?_
    refine g_iconst (v := nI 1) dX4_setting_10 (by decide) ?_
    refine g_zcmp_ne (a := k) (b := 1) (tgt := 21) rfl (by decide) dX4_setting_11 (by decide) (by omega) (by omega) (fun g2 => ?_) (fun g2 => ?_)
    · refine g_aload_n 0 dX4_setting_21 rfl rfl ?_
      refine g_geti (f := 131) dX4_setting_22 fl_X4_45 (c.1.2.2.2.2.2.2.2.2.1 a a6).2.1 (by decide) rfl ?_
      rw [show zi h 131 (b + 11 + 7 * a) = jI (nA N (8 + 40 * a + 3)) from (c.2.2.2.1 a ha a6).1 3 (by unfold lkJ; omega)]
      refine g_ireturn dX4_setting_25 rfl ?_
      exact ⟨by rw [setK_2 (by omega)], rfl⟩
    · refine g_aload_n 0 dX4_setting_14 rfl rfl ?_
      refine g_geti (f := 130) dX4_setting_15 fl_X4_42 (c.1.2.2.2.2.2.2.2.2.1 a a6).2.1 (by decide) rfl ?_
      rw [show zi h 130 (b + 11 + 7 * a) = jI (nA N (8 + 40 * a + 2)) from (c.2.2.2.1 a ha a6).1 2 (by unfold lkJ; omega)]
      refine g_goto (tgt := 25) dX4_setting_18 (by decide) ?_
      refine g_ireturn dX4_setting_25 rfl ?_
      exact ⟨by rw [setK_1 g2], rfl⟩
  · refine g_aload_n 0 dX4_setting_4 rfl rfl ?_
    refine g_geti (f := 128) dX4_setting_5 fl_X4_38 (c.1.2.2.2.2.2.2.2.2.1 a a6).2.1 (by decide) rfl ?_
    rw [show zi h 128 (b + 11 + 7 * a) = jI (nA N (8 + 40 * a + 0)) from (c.2.2.2.1 a ha a6).1 0 (by unfold lkJ; omega)]
    refine g_ireturn dX4_setting_8 rfl ?_
    exact ⟨by rw [setK_0 g], rfl⟩
theorem c_change (c : CX h b π ls N X t) {a : Nat} (ha : (a : Int) < nA N 0) (a6 : a < 6) {k v : Int} (kb : k = 0 ∨ k = 1 ∨ k = 2) : zM l w mX4_change [.ref (b + 11 + 7 * a), .int (jI k), .int (jI v)] h (fun u h1 => u = none ∧ CX h1 b π ls (uA N (8 + 40 * a + setK k) v) X t ∧ CSt b ls h ls h1) := by
  refine zM.of (by decide) (Nat.le_of_ble_eq_true rfl) ?_
  refine g_iload_n 1 dX4_change_0 rfl rfl ?_
  refine g_zif_ne (a := k) (tgt := 12) rfl dX4_change_1 (by decide) (by omega) (fun g => ?_) (fun g => ?_)
  · refine g_iload_n 1 dX4_change_12 rfl rfl ?_
    refine g_iconst (v := nI 1) dX4_change_13 (by decide) ?_
    refine g_zcmp_ne (a := k) (b := 1) (tgt := 25) rfl (by decide) dX4_change_14 (by decide) (by omega) (by omega) (fun g2 => ?_) (fun g2 => ?_)
    · refine g_aload_n 0 dX4_change_25 rfl rfl ?_
      refine g_iload_n 2 dX4_change_26 rfl rfl ?_
      refine g_puti (f := 131) dX4_change_27 fl_X4_45 (Or.inl rfl) (c.1.2.2.2.2.2.2.2.2.1 a a6).2.1 rfl ?_
      have cx3 : CX (zSi h 131 (b + 11 + 7 * a) (jI v)) b π ls (uA N (8 + 40 * a + 3) v) X t ∧ CSt b ls h ls (zSi h 131 (b + 11 + 7 * a) (jI v)) := c.setL (j := 3) a6 (by unfold lkJ; omega) (by omega)
      generalize zSi h 131 (b + 11 + 7 * a) (jI v) = y3 at cx3 ⊢
      refine g_return dX4_change_30 rfl ?_
      exact ⟨rfl, by rw [setK_2 (by omega)]; exact ⟨cx3.1, (CSt.rf.tr cx3.2)⟩⟩
    · refine g_aload_n 0 dX4_change_17 rfl rfl ?_
      refine g_iload_n 2 dX4_change_18 rfl rfl ?_
      refine g_puti (f := 130) dX4_change_19 fl_X4_42 (Or.inl rfl) (c.1.2.2.2.2.2.2.2.2.1 a a6).2.1 rfl ?_
      have cx2 : CX (zSi h 130 (b + 11 + 7 * a) (jI v)) b π ls (uA N (8 + 40 * a + 2) v) X t ∧ CSt b ls h ls (zSi h 130 (b + 11 + 7 * a) (jI v)) := c.setL (j := 2) a6 (by unfold lkJ; omega) (by omega)
      generalize zSi h 130 (b + 11 + 7 * a) (jI v) = y2 at cx2 ⊢
      refine g_goto (tgt := 30) dX4_change_22 (by decide) ?_
      refine g_return dX4_change_30 rfl ?_
      exact ⟨rfl, by rw [setK_1 g2]; exact ⟨cx2.1, (CSt.rf.tr cx2.2)⟩⟩
  · refine g_aload_n 0 dX4_change_4 rfl rfl ?_
    refine g_iload_n 2 dX4_change_5 rfl rfl ?_
    refine g_puti (f := 128) dX4_change_6 fl_X4_38 (Or.inl rfl) (c.1.2.2.2.2.2.2.2.2.1 a a6).2.1 rfl ?_
    have cx1 : CX (zSi h 128 (b + 11 + 7 * a) (jI v)) b π ls (uA N (8 + 40 * a + 0) v) X t ∧ CSt b ls h ls (zSi h 128 (b + 11 + 7 * a) (jI v)) := c.setL (j := 0) a6 (by unfold lkJ; omega) (by omega)
    generalize zSi h 128 (b + 11 + 7 * a) (jI v) = y1 at cx1 ⊢
    refine g_goto (tgt := 30) dX4_change_9 (by decide) ?_
    refine g_return dX4_change_30 rfl ?_
    exact ⟨rfl, by rw [setK_0 g]; exact ⟨cx1.1, (CSt.rf.tr cx1.2)⟩⟩
theorem c_setC (c : CX h b π ls N [] t) (xo : XO h x b) (hx : x < zx h) (hb : x < b ∨ b + 65 ≤ x) (hI : iN [] N) {z k v : Int} (zb : -2147483648 ≤ z ∧ z < 2147483648) (kb : -2147483648 ≤ k ∧ k < 2147483648) (vb : -2147483648 ≤ v ∧ v < 2147483648) : zM l w mX9_set [.ref x, .int (jI z), .int (jI k), .int (jI v)] h (PC h x b π ls t (uSet N z k v)) := by
  refine zM.of (by decide) (Nat.le_of_ble_eq_true rfl) ?_
  have H0 := hI.H.1
  refine g_iload_n 2 dX9_set_0 rfl rfl ?_
  refine g_iload_n 3 dX9_set_1 rfl rfl ?_
  refine g_invs (M' := mX4_allows) (As := [.int (jI k), .int (jI v)]) (rest := []) dX9_set_2 ml_X9_211 okX4_allows stX4_allows ⟨(Nat.le_of_ble_eq_true rfl), (Nat.le_of_ble_eq_true rfl)⟩ rfl rfl (Nat.le_of_ble_eq_true rfl) (c_allows kb vb) ?_
  rintro _ q1 ⟨rfl, eq1⟩
  subst q1
  show zG l w mX9_set 5 [(0, .ref x), (1, .int (jI z)), (2, .int (jI k)), (3, .int (jI v))] [.int (bI (setOk k v))] h _
  refine g_bif_ne (tgt := 14) dX9_set_5 (by decide) (fun g => ?_) (fun g => ?_)
  · have k3 := setOk_iff.mp g
    refine g_aload_n 0 dX9_set_14 rfl rfl ?_
    refine g_getr (f := 293) (b := b) dX9_set_15 fl_X9_23 xo.1 rfl xo.2 ?_
    refine g_iload_n 1 dX9_set_18 rfl rfl ?_
    by_cases d : 0 ≤ z ∧ z < nA N 0
    · rw [uSet_in k3 d]
      obtain ⟨a, ea⟩ : ∃ a : Nat, z = (a : Int) := ⟨_, (Int.toNat_of_nonneg d.1).symm⟩
      subst ea
      simp only [jI_nat]
      rw [show (a : Int).toNat = a from rfl]
      have a6 : a < 6 := by omega
      have sk : setK k < 4 := by unfold setK; split; omega; split <;> omega
      have Lb : -2147483648 ≤ nA N (8 + 40 * a + setK k) ∧ nA N (8 + 40 * a + setK k) < 2147483648 := by
        have L1 := (hI.L a d.2).1
        rcases k3 with e | e | e
        · rw [setK_0 e.1]; omega
        · rw [setK_1 e.1]; omega
        · rw [setK_2 e.1]; omega
      refine g_invv (M' := mX5_linkAt) (As := [.int (nI a)]) (rest := []) dX9_set_19 ml_X9_118 okX5_linkAt imX5_linkAt seX5_linkAt ⟨(Nat.le_of_ble_eq_true rfl), (Nat.le_of_ble_eq_true rfl)⟩ (ci := 5) rfl rfl c.1.1.2 rfl rfl (Nat.le_of_ble_eq_true rfl) (c_linkIn c H0 d.2) ?_
      rintro _ q5 ⟨rfl, eq5⟩
      subst q5
      show zG l w mX9_set 22 [(0, .ref x), (1, .int (nI a)), (2, .int (jI k)), (3, .int (jI v))] [.ref (b + 11 + 7 * a)] h _
      refine g_astore (lv2 := [(4, .ref (b + 11 + 7 * a)), (0, .ref x), (1, .int (nI a)), (2, .int (jI k)), (3, .int (jI v))]) dX9_set_22 (by decide) rfl ?_
      refine g_aload 0 dX9_set_24 rfl ?_
      refine g_ifnonnull (tgt := 35) dX9_set_26 (by decide) ?_
      refine g_aload 0 dX9_set_35 rfl ?_
      refine g_iload_n 3 dX9_set_37 rfl rfl ?_
      refine g_invv (M' := mX4_setting) (As := [.int (jI k)]) (rest := []) dX9_set_38 ml_X9_215 okX4_setting imX4_setting seX4_setting ⟨(Nat.le_of_ble_eq_true rfl), (Nat.le_of_ble_eq_true rfl)⟩ (ci := 4) rfl rfl (c.1.2.2.2.2.2.2.2.2.1 a a6).2.1 rfl rfl (Nat.le_of_ble_eq_true rfl) (c_setting c d.2 a6 (by omega)) ?_
      rintro _ q6 ⟨rfl, eq6⟩
      subst q6
      show zG l w mX9_set 41 [(4, .ref (b + 11 + 7 * a)), (0, .ref x), (1, .int (nI a)), (2, .int (jI k)), (3, .int (jI v))] [.int (jI (nA N (8 + 40 * a + setK k)))] h _
      refine g_istore (lv2 := [(5, .int (jI (nA N (8 + 40 * a + setK k)))), (4, .ref (b + 11 + 7 * a)), (0, .ref x), (1, .int (nI a)), (2, .int (jI k)), (3, .int (jI v))]) dX9_set_41 (by decide) rfl ?_
      refine g_iload 0 dX9_set_43 rfl ?_
      refine g_iload_n 5 dX9_set_45 rfl rfl ?_
      refine g_zcmp_ne (a := (nA N (8 + 40 * a + setK k))) (b := v) (tgt := 55) rfl rfl dX9_set_46 (by decide) (by omega) (by omega) (fun e => ?_) (fun e => ?_)
      · refine g_aload 1 dX9_set_55 rfl ?_
        refine g_iload_n 4 dX9_set_57 rfl rfl ?_
        refine g_iload_n 5 dX9_set_58 rfl rfl ?_
        refine g_invv (M' := mX4_change) (As := [.int (jI k), .int (jI v)]) (rest := []) dX9_set_59 ml_X9_218 okX4_change imX4_change seX4_change ⟨(Nat.le_of_ble_eq_true rfl), (Nat.le_of_ble_eq_true rfl)⟩ (ci := 4) rfl rfl (c.1.2.2.2.2.2.2.2.2.1 a a6).2.1 rfl rfl (Nat.le_of_ble_eq_true rfl) (c_change c d.2 a6 (by omega)) ?_
        rintro _ y8 ⟨rfl, cx8, sx8⟩
        show zG l w mX9_set 62 [(5, .int (jI (nA N (8 + 40 * a + setK k)))), (4, .ref (b + 11 + 7 * a)), (0, .ref x), (1, .int (nI a)), (2, .int (jI k)), (3, .int (jI v))] [] y8 _
        refine g_aload_n 2 dX9_set_62 rfl rfl ?_
        refine g_iload 0 dX9_set_63 rfl ?_
        refine g_invv (M' := mX9_answer) (As := [.int (jI (nA N (8 + 40 * a + setK k)))]) (rest := []) dX9_set_65 ml_X9_75 okX9_answer imX9_answer seX9_answer ⟨(Nat.le_of_ble_eq_true rfl), (Nat.le_of_ble_eq_true rfl)⟩ (ci := 9) rfl rfl (XO.st xo hx hb (CSt.rf.tr sx8)).1 rfl rfl (Nat.le_of_ble_eq_true rfl) (c_ans (XO.st xo hx hb (CSt.rf.tr sx8)).1) ?_
        rintro _ q9 ⟨rfl, eq9⟩
        subst q9
        show zG l w mX9_set 68 [(5, .int (jI (nA N (8 + 40 * a + setK k)))), (4, .ref (b + 11 + 7 * a)), (0, .ref x), (1, .int (nI a)), (2, .int (jI k)), (3, .int (jI v))] [.int (jI (nA N (8 + 40 * a + setK k)))] (zSi y8 290 x (nI 0)) _
        refine g_ireturn dX9_set_68 rfl ?_
        rw [show toN N (8 + 40 * a + setK k) v = (uA N (8 + 40 * a + setK k) v, 0, nA N (8 + 40 * a + setK k)) by unfold toN; rw [if_neg e]]
        exact ⟨rfl, y8, cx8, (CSt.rf.tr sx8), rfl⟩
      · refine g_aload_n 2 dX9_set_49 rfl rfl ?_
        refine g_iconst (v := nI 4) dX9_set_50 (by decide) ?_
        refine g_invv (M' := mX9_refuse) (As := [.int (nI 4)]) (rest := []) dX9_set_51 ml_X9_58 okX9_refuse imX9_refuse seX9_refuse ⟨(Nat.le_of_ble_eq_true rfl), (Nat.le_of_ble_eq_true rfl)⟩ (ci := 9) rfl rfl xo.1 rfl rfl (Nat.le_of_ble_eq_true rfl) (c_refC xo.1) ?_
        rintro _ q7 ⟨rfl, eq7⟩
        subst q7
        show zG l w mX9_set 54 [(5, .int (jI (nA N (8 + 40 * a + setK k)))), (4, .ref (b + 11 + 7 * a)), (0, .ref x), (1, .int (nI a)), (2, .int (jI k)), (3, .int (jI v))] [.int (-1)] (zSi h 290 x (nI 4)) _
        refine g_ireturn dX9_set_54 rfl ?_
        rw [show toN N (8 + 40 * a + setK k) v = (N, 4, -1) by unfold toN; rw [if_pos e]]
        exact ⟨rfl, h, c, CSt.rf, rfl⟩
    · refine g_invv (M' := mX5_linkAt) (As := [.int (jI z)]) (rest := []) dX9_set_19 ml_X9_118 okX5_linkAt imX5_linkAt seX5_linkAt ⟨(Nat.le_of_ble_eq_true rfl), (Nat.le_of_ble_eq_true rfl)⟩ (ci := 5) rfl rfl c.1.1.2 rfl rfl (Nat.le_of_ble_eq_true rfl) (c_linkOut c H0 zb d) ?_
      rintro _ q3 ⟨rfl, eq3⟩
      subst q3
      show zG l w mX9_set 22 [(0, .ref x), (1, .int (jI z)), (2, .int (jI k)), (3, .int (jI v))] [.null] h _
      refine g_astoreN (lv2 := [(4, .null), (0, .ref x), (1, .int (jI z)), (2, .int (jI k)), (3, .int (jI v))]) dX9_set_22 (by decide) rfl ?_
      refine g_aloadN 0 dX9_set_24 rfl ?_
      refine g_ifnonnullN dX9_set_26 ?_
      refine g_aload_n 1 dX9_set_29 rfl rfl ?_
      refine g_iconst (v := nI 2) dX9_set_30 (by decide) ?_
      refine g_invv (M' := mX9_refuse) (As := [.int (nI 2)]) (rest := []) dX9_set_31 ml_X9_58 okX9_refuse imX9_refuse seX9_refuse ⟨(Nat.le_of_ble_eq_true rfl), (Nat.le_of_ble_eq_true rfl)⟩ (ci := 9) rfl rfl xo.1 rfl rfl (Nat.le_of_ble_eq_true rfl) (c_refC xo.1) ?_
      rintro _ q4 ⟨rfl, eq4⟩
      subst q4
      show zG l w mX9_set 34 [(4, .null), (0, .ref x), (1, .int (jI z)), (2, .int (jI k)), (3, .int (jI v))] [.int (-1)] (zSi h 290 x (nI 2)) _
      refine g_ireturn dX9_set_34 rfl ?_
      rw [show uSet N z k v = (N, 2, -1) from uSet_out k3 d]
      exact ⟨rfl, h, c, CSt.rf, rfl⟩
  · have g1 : ¬ setOk k v = true := by rw [g]; decide
    refine g_aload_n 0 dX9_set_8 rfl rfl ?_
    refine g_iconst (v := nI 1) dX9_set_9 (by decide) ?_
    refine g_invv (M' := mX9_refuse) (As := [.int (nI 1)]) (rest := []) dX9_set_10 ml_X9_58 okX9_refuse imX9_refuse seX9_refuse ⟨(Nat.le_of_ble_eq_true rfl), (Nat.le_of_ble_eq_true rfl)⟩ (ci := 9) rfl rfl xo.1 rfl rfl (Nat.le_of_ble_eq_true rfl) (c_refC xo.1) ?_
    rintro _ q2 ⟨rfl, eq2⟩
    subst q2
    show zG l w mX9_set 13 [(0, .ref x), (1, .int (jI z)), (2, .int (jI k)), (3, .int (jI v))] [.int (-1)] (zSi h 290 x (nI 1)) _
    refine g_ireturn dX9_set_13 rfl ?_
    rw [show uSet N z k v = (N, 1, -1) by unfold uSet; rw [if_neg g1]]
    exact ⟨rfl, h, c, CSt.rf, rfl⟩
end QM3
