section TMS
variable {l : Launch} {w : zW} {h y : zH} {m : Nat} {t : Nat → Nat} {n : Nat} {T T' : tkT} {N M : nT} {f : Nat}
theorem bnd_l {e : Int × Int} {k : tkT → nT → rR} : bnd (.inl e) k = .inl e := rfl
theorem bnd_i {k : tkT → nT → rR} : bnd (.inr (T, N)) k = k T N := rfl
theorem c_aFlow (P : PmT h m n t N T) (hz : pz N) : zM l w mX10_aFlow [.ref m] h (OM m n t h (flowR t n T N)) := by
  refine zM.of (by decide) (Nat.le_of_ble_eq_true rfl) ?_
  have H1 := hz.2.1
  have H0 := hz.1
  refine g_aload_n 0 dX10_aFlow_0 rfl rfl ?_
  refine g_iconst (v := nI 1) dX10_aFlow_1 (by decide) ?_
  refine g_invv (M' := mX10_of) (As := [.int (nI 1)]) (rest := []) dX10_aFlow_2 ml_X10_48 okX10_of imX10_of seX10_of ⟨(Nat.le_of_ble_eq_true rfl), (Nat.le_of_ble_eq_true rfl)⟩ (ci := 10) rfl rfl P.1.1.1 rfl rfl (Nat.le_of_ble_eq_true rfl) (c_ofN P.1 (by omega) (by unfold nSp; omega)) ?_
  rintro _ q1 ⟨rfl, eq1⟩
  subst q1
  show zG l w mX10_aFlow 5 [(0, .ref m)] [.long (jL (nA N 1))] h _
  refine g_ldc2J (z := 6) dX10_aFlow_5 kl_X10_260 (by decide) ?_
  refine g_lif_ne (a := (nA N 1)) (b := 6) (tgt := 19) dX10_aFlow_8 rfl dX10_aFlow_9 (by decide) (by omega) (by omega) (fun c => ?_) (fun c => ?_)
  · obtain ⟨l6, lq⟩ := nFw_lt hz c
    obtain ⟨sz, s0⟩ := hpZ.start hz c
    generalize ef : nFw N = f at l6 lq sz s0
    refine g_aload_n 0 dX10_aFlow_19 rfl rfl ?_
    refine g_iconst (v := nI 1) dX10_aFlow_20 (by decide) ?_
    refine g_invv (M' := mX10_at) (As := [.int (nI 1)]) (rest := []) dX10_aFlow_21 ml_X10_58 okX10_at imX10_at seX10_at ⟨(Nat.le_of_ble_eq_true rfl), (Nat.le_of_ble_eq_true rfl)⟩ (ci := 10) rfl rfl P.1.1.1 rfl rfl (Nat.le_of_ble_eq_true rfl) (c_atN P.1 (by omega) (by unfold nSp; omega)) ?_
    rintro _ q3 ⟨rfl, eq3⟩
    subst q3
    show zG l w mX10_aFlow 24 [(0, .ref m)] [.int (jI (nA N 1))] h _
    refine g_istore_n (lv2 := [(1, .int (jI (nA N 1))), (0, .ref m)]) dX10_aFlow_24 rfl (by decide) rfl ?_
    refine g_aload_n 1 dX10_aFlow_25 rfl rfl ?_
    rw [show jI (nA N 1) = nI f by rw [← lq, jI_nat]]
    show zG l w mX10_aFlow 26 [(1, .int (nI f)), (0, .ref m)] [.ref m] h _
    refine g_invv (M' := mX10_ahead) (As := []) (rest := []) dX10_aFlow_26 ml_X10_246 okX10_ahead imX10_ahead seX10_ahead ⟨(Nat.le_of_ble_eq_true rfl), (Nat.le_of_ble_eq_true rfl)⟩ (ci := 10) rfl rfl P.1.1.1 rfl rfl (Nat.le_of_ble_eq_true rfl) (c_ahead P.2.1 P.2.2.1.2.2.1 P.2.2.2.1.2.2.1) ?_
    rintro _ y4 ⟨rfl, k4, f4⟩
    show zG l w mX10_aFlow 29 [(1, .int (nI f)), (0, .ref m)] [] y4 _
    have P4 := P.tk (T' := nxT t n T) k4 (nxT_ok P.2.2.2.1).1 f4
    have mb := mdK_bd (nxT t n T).1
    refine g_aload_n 1 dX10_aFlow_29 rfl rfl ?_
    refine g_geti (f := 329) dX10_aFlow_30 fl_X10_217 P4.1.1.1 (by decide) rfl ?_
    rw [show zi y4 329 m = nI (mdK (nxT t n T).1) from P4.2.2.1.1]
    refine g_iconst (v := nI 3) dX10_aFlow_33 (by decide) ?_
    refine g_ncmp_eq (tgt := 43) dX10_aFlow_34 (by decide) (by omega) (by omega) (fun c2 => ?_) (fun c2 => ?_)
    · have t2 := mdK_3.mp c2
      rw [show flowR t n T N = bnd (hopsR t n f 5 (nxT t n T) N) (fun T2 N2 => bnd (marksR t n f 4 T2 (fl4 N2 f) false false false) fun T3 N3 => .inr (T3, flE N3)) from by unfold flowR; rw [if_neg c, if_pos t2, ef]]
      have after : ∀ (T : tkT) (M : nT) (y : zH), hpZ N M f → PmT y m n t M T → FrX m h y → zG l w mX10_aFlow 61 [(1, .int (nI f)), (0, .ref m)] [] y (OM m n t h ((fun T2 N2 => bnd (marksR t n f 4 T2 (fl4 N2 f) false false false) fun T3 N3 => .inr (T3, flE N3)) T M)) := by
        intro T M y hp Py Fy
        have hp3 := hp.2.2.1
        have hp4 := hp.2.2.2.1
        refine g_aload_n 1 dX10_aFlow_61 rfl rfl ?_
        refine g_iload_n 0 dX10_aFlow_62 rfl rfl ?_
        refine g_iconst (v := nI 1) dX10_aFlow_63 (by decide) ?_
        refine g_invs (M' := mX10_flow0) (As := [.int (nI f), .int (nI 1)]) (rest := [.ref m]) dX10_aFlow_64 ml_X10_52 okX10_flow0 stX10_flow0 ⟨(Nat.le_of_ble_eq_true rfl), (Nat.le_of_ble_eq_true rfl)⟩ rfl rfl (Nat.le_of_ble_eq_true rfl) c_flow0 ?_
        rintro _ q6 ⟨rfl, eq6⟩
        subst q6
        show zG l w mX10_aFlow 67 [(1, .int (nI f)), (0, .ref m)] [.int (nI (248 + 20 * f + 1)), .ref m] y _
        refine g_ldc2J (z := 9999) dX10_aFlow_67 kl_X10_111 (by decide) ?_
        refine g_invv (M' := mX10_puts) (As := [.int (nI (248 + 20 * f + 1)), .long (jL 9999)]) (rest := []) dX10_aFlow_70 ml_X10_40 okX10_puts imX10_puts seX10_puts ⟨(Nat.le_of_ble_eq_true rfl), (Nat.le_of_ble_eq_true rfl)⟩ (ci := 10) rfl rfl Py.1.1.1 rfl rfl (Nat.le_of_ble_eq_true rfl) (c_putsN Py.1 (by omega) (by unfold nSp; omega)) ?_
        rintro _ y7 ⟨rfl, r7, f7⟩
        show zG l w mX10_aFlow 73 [(1, .int (nI f)), (0, .ref m)] [] y7 _
        have P7 := Py.up r7 f7
        refine g_aload_n 1 dX10_aFlow_73 rfl rfl ?_
        refine g_iload_n 0 dX10_aFlow_74 rfl rfl ?_
        refine g_iconst (v := nI 3) dX10_aFlow_75 (by decide) ?_
        refine g_invs (M' := mX10_flow0) (As := [.int (nI f), .int (nI 3)]) (rest := [.ref m]) dX10_aFlow_76 ml_X10_52 okX10_flow0 stX10_flow0 ⟨(Nat.le_of_ble_eq_true rfl), (Nat.le_of_ble_eq_true rfl)⟩ rfl rfl (Nat.le_of_ble_eq_true rfl) c_flow0 ?_
        rintro _ q8 ⟨rfl, eq8⟩
        subst q8
        show zG l w mX10_aFlow 79 [(1, .int (nI f)), (0, .ref m)] [.int (nI (248 + 20 * f + 3)), .ref m] y7 _
        refine g_lconst (v := jL 1) dX10_aFlow_79 (by decide) ?_
        refine g_invv (M' := mX10_puts) (As := [.int (nI (248 + 20 * f + 3)), .long (jL 1)]) (rest := []) dX10_aFlow_80 ml_X10_40 okX10_puts imX10_puts seX10_puts ⟨(Nat.le_of_ble_eq_true rfl), (Nat.le_of_ble_eq_true rfl)⟩ (ci := 10) rfl rfl P7.1.1.1 rfl rfl (Nat.le_of_ble_eq_true rfl) (c_putsN P7.1 (by omega) (by unfold nSp; omega)) ?_
        rintro _ y9 ⟨rfl, r9, f9⟩
        show zG l w mX10_aFlow 83 [(1, .int (nI f)), (0, .ref m)] [] y9 _
        have P9 := P7.up r9 f9
        refine g_aload_n 1 dX10_aFlow_83 rfl rfl ?_
        refine g_iload_n 0 dX10_aFlow_84 rfl rfl ?_
        refine g_iconst (v := nI 5) dX10_aFlow_85 (by decide) ?_
        refine g_invs (M' := mX10_flow0) (As := [.int (nI f), .int (nI 5)]) (rest := [.ref m]) dX10_aFlow_86 ml_X10_52 okX10_flow0 stX10_flow0 ⟨(Nat.le_of_ble_eq_true rfl), (Nat.le_of_ble_eq_true rfl)⟩ rfl rfl (Nat.le_of_ble_eq_true rfl) c_flow0 ?_
        rintro _ q10 ⟨rfl, eq10⟩
        subst q10
        show zG l w mX10_aFlow 89 [(1, .int (nI f)), (0, .ref m)] [.int (nI (248 + 20 * f + 5)), .ref m] y9 _
        refine g_ldc2J (z := 200) dX10_aFlow_89 kl_X10_278 (by decide) ?_
        refine g_invv (M' := mX10_puts) (As := [.int (nI (248 + 20 * f + 5)), .long (jL 200)]) (rest := []) dX10_aFlow_92 ml_X10_40 okX10_puts imX10_puts seX10_puts ⟨(Nat.le_of_ble_eq_true rfl), (Nat.le_of_ble_eq_true rfl)⟩ (ci := 10) rfl rfl P9.1.1.1 rfl rfl (Nat.le_of_ble_eq_true rfl) (c_putsN P9.1 (by omega) (by unfold nSp; omega)) ?_
        rintro _ y11 ⟨rfl, r11, f11⟩
        show zG l w mX10_aFlow 95 [(1, .int (nI f)), (0, .ref m)] [] y11 _
        have P11 := P9.up r11 f11
        refine g_aload_n 1 dX10_aFlow_95 rfl rfl ?_
        refine g_iload_n 0 dX10_aFlow_96 rfl rfl ?_
        refine g_bipush (v := nI 7) dX10_aFlow_97 (by decide) ?_
        refine g_invs (M' := mX10_flow0) (As := [.int (nI f), .int (nI 7)]) (rest := [.ref m]) dX10_aFlow_99 ml_X10_52 okX10_flow0 stX10_flow0 ⟨(Nat.le_of_ble_eq_true rfl), (Nat.le_of_ble_eq_true rfl)⟩ rfl rfl (Nat.le_of_ble_eq_true rfl) c_flow0 ?_
        rintro _ q12 ⟨rfl, eq12⟩
        subst q12
        show zG l w mX10_aFlow 102 [(1, .int (nI f)), (0, .ref m)] [.int (nI (248 + 20 * f + 7)), .ref m] y11 _
        refine g_ldc2J (z := 2) dX10_aFlow_102 kl_X10_116 (by decide) ?_
        refine g_aload_n 1 dX10_aFlow_105 rfl rfl ?_
        refine g_iload_n 0 dX10_aFlow_106 rfl rfl ?_
        have e0 : nA (uA (uA (uA M (248 + 20 * f + 1) 9999) (248 + 20 * f + 3) 1) (248 + 20 * f + 5) 200) (248 + 20 * f + 0) = nA M (248 + 20 * f + 0) := by rw [nA_ne (by omega), nA_ne (by omega), nA_ne (by omega)]
        have ep : ∀ i, nA (uA (uA (uA M (248 + 20 * f + 1) 9999) (248 + 20 * f + 3) 1) (248 + 20 * f + 5) 200) (248 + 20 * f + (12 + i)) = nA M (248 + 20 * f + (12 + i)) := fun i => by rw [nA_ne (by omega), nA_ne (by omega), nA_ne (by omega)]
        have hh : ∀ i : Nat, (i : Int) < nA M (248 + 20 * f + 0) → hopN M f i < 6 := fun i hi => by have z := hp4 i hi; unfold hopN; omega
        have eb : backN (uA (uA (uA M (248 + 20 * f + 1) 9999) (248 + 20 * f + 3) 1) (248 + 20 * f + 5) 200) f = backN M f := backN_pt e0 (fun i hi => ⟨ep i, by have := hh i hi; rw [nA_ne (by omega), nA_ne (by omega), nA_ne (by omega)]⟩)
        have bk : 0 ≤ backN M f ∧ backN M f ≤ 36 := by
          have q := sum9 (g := fun i => nA M (8 + 40 * hopN M f i + 1)) (nA M (248 + 20 * f + 0)).toNat (fun i hi => by
            have z := hp4 i (by omega)
            have y := (hz.2.2.2.2.2.1 (hopN M f i) (by unfold hopN; omega)).1.2.1
            have hh : hopN M f i < 6 := by unfold hopN; omega
            have e := hp.1 (8 + 40 * hopN M f i + 1) (by omega)
            omega)
          unfold backN
          omega
        refine g_invv (M' := mX10_backOf) (As := [.int (nI f)]) (rest := [.long (jL 2), .int (nI (248 + 20 * f + 7)), .ref m]) dX10_aFlow_107 ml_X10_82 okX10_backOf imX10_backOf seX10_backOf ⟨(Nat.le_of_ble_eq_true rfl), (Nat.le_of_ble_eq_true rfl)⟩ (ci := 10) rfl rfl P11.1.1.1 rfl rfl (Nat.le_of_ble_eq_true rfl) (c_backOf P11.1 (by omega) (by rw [e0]; exact hp3) (fun i hi => by rw [e0] at hi; rw [ep i]; have z := hp4 i hi; omega)) ?_
        rintro _ q13 ⟨rfl, eq13⟩
        subst q13
        rw [eb]
        show zG l w mX10_aFlow 110 [(1, .int (nI f)), (0, .ref m)] [.int (jI (backN M f)), .long (jL 2), .int (nI (248 + 20 * f + 7)), .ref m] y11 _
        refine g_i2l dX10_aFlow_110 ?_
        rw [jI_l (by omega) (by omega)]
        refine g_lmul dX10_aFlow_111 ?_
        rw [jL_mul]
        refine g_invv (M' := mX10_puts) (As := [.int (nI (248 + 20 * f + 7)), .long (jL (2 * (backN M f)))]) (rest := []) dX10_aFlow_112 ml_X10_40 okX10_puts imX10_puts seX10_puts ⟨(Nat.le_of_ble_eq_true rfl), (Nat.le_of_ble_eq_true rfl)⟩ (ci := 10) rfl rfl P11.1.1.1 rfl rfl (Nat.le_of_ble_eq_true rfl) (c_putsN P11.1 (by omega) (by unfold nSp; omega)) ?_
        rintro _ y14 ⟨rfl, r14, f14⟩
        show zG l w mX10_aFlow 115 [(1, .int (nI f)), (0, .ref m)] [] y14 _
        have P14 := P11.up r14 f14
        refine g_aload_n 1 dX10_aFlow_115 rfl rfl ?_
        refine g_iload_n 0 dX10_aFlow_116 rfl rfl ?_
        have e4 : fl4 M f = (uA (uA (uA (uA M (248 + 20 * f + 1) 9999) (248 + 20 * f + 3) 1) (248 + 20 * f + 5) 200) (248 + 20 * f + 7) (2 * (backN M f))) := rfl
        have P4 : PmT y14 m n t (fl4 M f) T := by rw [e4]; exact P14
        cases er : marksR t n f 4 T (fl4 M f) false false false with
        | inl e =>
          refine g_invv (M' := mX10_marks) (As := [.int (nI f)]) (rest := []) dX10_aFlow_117 ml_X10_280 okX10_marks imX10_marks seX10_marks ⟨(Nat.le_of_ble_eq_true rfl), (Nat.le_of_ble_eq_true rfl)⟩ (ci := 10) rfl rfl P4.1.1.1 rfl rfl (Nat.le_of_ble_eq_true rfl) (c_marksT P4 (by omega)) ?_
          rintro _ y9 Oz
          rw [er] at Oz
          obtain ⟨rfl, Ez, Fz⟩ := Oz
          show zG l w mX10_aFlow 120 [(1, .int (nI f)), (0, .ref m)] [.int (bI false)] y9 _
          refine g_bif_ne (tgt := 125) dX10_aFlow_120 (by decide) (fun dx => ?_) (fun dx => ?_)
          · cases dx
          · refine g_iconst (v := bI false) dX10_aFlow_123 (by decide) ?_
            refine g_zreturn dX10_aFlow_124 rfl (bI_nar _) ?_
            show OM m n t h (bnd (marksR t n f 4 T (fl4 M f) false false false) _) _ _
            rw [er]
            exact ⟨rfl, Ez, ((((Fy.tr (FrX.fm f7)).tr (FrX.fm f9)).tr (FrX.fm f11)).tr (FrX.fm f14)).tr Fz⟩
        | inr p =>
          refine g_invv (M' := mX10_marks) (As := [.int (nI f)]) (rest := []) dX10_aFlow_117 ml_X10_280 okX10_marks imX10_marks seX10_marks ⟨(Nat.le_of_ble_eq_true rfl), (Nat.le_of_ble_eq_true rfl)⟩ (ci := 10) rfl rfl P4.1.1.1 rfl rfl (Nat.le_of_ble_eq_true rfl) (c_marksT P4 (by omega)) ?_
          rintro _ y9 Oz
          rw [er] at Oz
          obtain ⟨rfl, Pz, Fz⟩ := Oz
          show zG l w mX10_aFlow 120 [(1, .int (nI f)), (0, .ref m)] [.int (bI true)] y9 _
          refine g_bif_ne (tgt := 125) dX10_aFlow_120 (by decide) (fun dx => ?_) (fun dx => ?_)
          · refine g_aload_n 1 dX10_aFlow_125 rfl rfl ?_
            refine g_iconst (v := nI 1) dX10_aFlow_126 (by decide) ?_
            refine g_lconst (v := jL 1) dX10_aFlow_127 (by decide) ?_
            refine g_invv (M' := mX10_adds) (As := [.int (nI 1), .long (jL 1)]) (rest := []) dX10_aFlow_128 ml_X10_76 okX10_adds imX10_adds seX10_adds ⟨(Nat.le_of_ble_eq_true rfl), (Nat.le_of_ble_eq_true rfl)⟩ (ci := 10) rfl rfl Pz.1.1.1 rfl rfl (Nat.le_of_ble_eq_true rfl) (c_addsN Pz.1 (by omega) (by unfold nSp; omega)) ?_
            rintro _ y16 ⟨rfl, r16, f16⟩
            show zG l w mX10_aFlow 131 [(1, .int (nI f)), (0, .ref m)] [] y16 _
            have P16 := Pz.up r16 f16
            refine g_iconst (v := bI true) dX10_aFlow_131 (by decide) ?_
            refine g_zreturn dX10_aFlow_132 rfl (bI_nar _) ?_
            show OM m n t h (bnd (marksR t n f 4 T (fl4 M f) false false false) _) _ _
            rw [er]
            exact ⟨rfl, P16, ((((((Fy.tr (FrX.fm f7)).tr (FrX.fm f9)).tr (FrX.fm f11)).tr (FrX.fm f14)).tr Fz).tr (FrX.fm f16))⟩
          · cases dx
      have loop : ∀ (k : Nat) (T : tkT) (M : nT) (y : zH), nA M (248 + 20 * f + 0) + (k : Int) = 5 → hpZ N M f → PmT y m n t M T → FrX m h y → zG l w mX10_aFlow 43 [(1, .int (nI f)), (0, .ref m)] [] y (OM m n t h (bnd (hopsR t n f k T M) (fun T2 N2 => bnd (marksR t n f 4 T2 (fl4 N2 f) false false false) fun T3 N3 => .inr (T3, flE N3)))) := by
        intro k
        induction k with
        | zero => intro T M y h5 hp; have := hp.2.2.1; omega
        | succ k ih =>
          intro T M y h5 hp Py Fy
          have mb2 := mdK_bd T.1
          have hp3 := hp.2.2.1
          have e0 : nA M 0 = nA N 0 := hp.1 0 (by omega)
          refine g_aload_n 1 dX10_aFlow_43 rfl rfl ?_
          refine g_geti (f := 329) dX10_aFlow_44 fl_X10_217 Py.1.1.1 (by decide) rfl ?_
          rw [show zi y 329 m = nI (mdK T.1) from Py.2.2.1.1]
          refine g_iconst (v := nI 3) dX10_aFlow_47 (by decide) ?_
          refine g_ncmp_ne (tgt := 61) dX10_aFlow_48 (by decide) (by omega) (by omega) (fun g => ?_) (fun g => ?_)
          · rw [show hopsR t n f (k + 1) T M = .inr (T, M) from by rw [hopsR, if_neg (fun z => g (mdK_3.mpr z))]]
            exact zG.sub [0, 1] rfl (after T M y hp Py Fy)
          · have t2 := mdK_3.mp g
            have vb := Py.2.2.2.1.2.2.2.2.2 t2
            have HR := c_aHop (l := l) (w := w) Py t2 (by rw [e0]; exact H0) l6 hp3 (fun i hi => by have z := hp.2.2.2.1 i hi; omega)
            have ex : hopsR t n f (k + 1) T M = bnd (if nA M 0 ≤ T.2.2.2 then .inl (flt T 3) else if inB M f T.2.2.2 = true then .inl (flt T 4) else if nA M (248 + 20 * f + 0) = 4 then .inl (flt T 6) else .inr (nxT t n T, hpN M f T.2.2.2) : rR) (fun T M => hopsR t n f k T M) := by
              rw [hopsR, if_pos t2]
              by_cases d1 : nA M 0 ≤ T.2.2.2
              · rw [if_pos d1, if_pos d1]; rfl
              · rw [if_neg d1, if_neg d1]
                by_cases d2 : inB M f T.2.2.2 = true
                · rw [if_pos d2, if_pos d2]; rfl
                · rw [if_neg d2, if_neg d2]
                  by_cases d3 : nA M (248 + 20 * f + 0) = 4
                  · rw [if_pos d3, if_pos d3]; rfl
                  · rw [if_neg d3, if_neg d3]; rfl
            have en : ∀ T2 M2, (if nA M 0 ≤ T.2.2.2 then .inl (flt T 3) else if inB M f T.2.2.2 = true then .inl (flt T 4) else if nA M (248 + 20 * f + 0) = 4 then .inl (flt T 6) else .inr (nxT t n T, hpN M f T.2.2.2) : rR) = .inr (T2, M2) → T2 = nxT t n T ∧ M2 = hpN M f T.2.2.2 ∧ ¬ nA M 0 ≤ T.2.2.2 ∧ ¬ nA M (248 + 20 * f + 0) = 4 := fun T2 M2 eq => by
              by_cases d1 : nA M 0 ≤ T.2.2.2
              · rw [if_pos d1] at eq; cases eq
              · rw [if_neg d1] at eq
                by_cases d2 : inB M f T.2.2.2 = true
                · rw [if_pos d2] at eq; cases eq
                · rw [if_neg d2] at eq
                  by_cases d3 : nA M (248 + 20 * f + 0) = 4
                  · rw [if_pos d3] at eq; cases eq
                  · rw [if_neg d3] at eq; cases eq; exact ⟨rfl, rfl, d1, d3⟩
            generalize (if nA M 0 ≤ T.2.2.2 then .inl (flt T 3) else if inB M f T.2.2.2 = true then .inl (flt T 4) else if nA M (248 + 20 * f + 0) = 4 then .inl (flt T 6) else .inr (nxT t n T, hpN M f T.2.2.2) : rR) = R at HR ex en
            rw [ex]
            refine g_aload_n 1 dX10_aFlow_51 rfl rfl ?_
            refine g_iload_n 0 dX10_aFlow_52 rfl rfl ?_
            cases R with
            | inl e =>
              refine g_invv (M' := mX10_aHop) (As := [.int (nI f)]) (rest := []) dX10_aFlow_53 ml_X10_275 okX10_aHop imX10_aHop seX10_aHop ⟨(Nat.le_of_ble_eq_true rfl), (Nat.le_of_ble_eq_true rfl)⟩ (ci := 10) rfl rfl Py.1.1.1 rfl rfl (Nat.le_of_ble_eq_true rfl) HR ?_
              rintro _ y9 ⟨rfl, Ez, Fz⟩
              show zG l w mX10_aFlow 56 [(1, .int (nI f)), (0, .ref m)] [.int (bI false)] y9 _
              refine g_bif_ne (tgt := 43) dX10_aFlow_56 (by decide) (fun dx => ?_) (fun dx => ?_)
              · cases dx
              · refine g_iconst (v := bI false) dX10_aFlow_59 (by decide) ?_
                refine g_zreturn dX10_aFlow_60 rfl (bI_nar _) ?_
                exact ⟨rfl, Ez, Fy.tr Fz⟩
            | inr p =>
              refine g_invv (M' := mX10_aHop) (As := [.int (nI f)]) (rest := []) dX10_aFlow_53 ml_X10_275 okX10_aHop imX10_aHop seX10_aHop ⟨(Nat.le_of_ble_eq_true rfl), (Nat.le_of_ble_eq_true rfl)⟩ (ci := 10) rfl rfl Py.1.1.1 rfl rfl (Nat.le_of_ble_eq_true rfl) HR ?_
              rintro _ y9 ⟨rfl, Pz, Fz⟩
              show zG l w mX10_aFlow 56 [(1, .int (nI f)), (0, .ref m)] [.int (bI true)] y9 _
              obtain ⟨e1, e2, d1, d3⟩ := en p.1 p.2 rfl
              refine g_bif_ne (tgt := 43) dX10_aFlow_56 (by decide) (fun dx => ?_) (fun dx => ?_)
              · obtain ⟨i, ei⟩ : ∃ i : Nat, nA M (248 + 20 * f + 0) = (i : Int) := ⟨_, (Int.toNat_of_nonneg hp3.1).symm⟩
                have a0 := (hpN_at (M := M) (f := f) (v := T.2.2.2) ei).1
                have go := ih p.1 p.2 y9 (by rw [e2, a0]; omega) (by rw [e2]; exact hp.step H0.2 vb.1 (by omega) d3) Pz (Fy.tr Fz)
                exact zG.sub [0, 1] rfl go
              · cases dx
      exact zG.sub [0, 1] rfl (loop 5 (nxT t n T) N y4 (by rw [s0]; rfl) sz P4 (FrX.rf.tr (FrX.f f4)))
    · refine g_aload_n 1 dX10_aFlow_37 rfl rfl ?_
      refine g_iconst (v := nI 2) dX10_aFlow_38 (by decide) ?_
      refine g_invv (M' := mX10_fails) (As := [.int (nI 2)]) (rest := []) dX10_aFlow_39 ml_X10_249 okX10_fails imX10_fails seX10_fails ⟨(Nat.le_of_ble_eq_true rfl), (Nat.le_of_ble_eq_true rfl)⟩ (ci := 10) rfl rfl P4.1.1.1 rfl rfl (Nat.le_of_ble_eq_true rfl) (c_failsM P4.1.1 P4.2.2.1 P4.2.2.2.1 P4.2.2.2.2.1) ?_
      rintro _ y5 ⟨rfl, fa5, fb5, f5⟩
      show zG l w mX10_aFlow 42 [(1, .int (nI f)), (0, .ref m)] [.int (bI false)] y5 _
      refine g_zreturn dX10_aFlow_42 rfl (bI_nar _) ?_
      rw [show flowR t n T N = .inl (flt (nxT t n T) 2) from by unfold flowR; rw [if_neg c, if_neg (fun z => c2 (mdK_3.mpr z))]]
      exact ⟨rfl, ⟨fa5, fb5⟩, (FrX.rf.tr (FrX.f f4)).tr (FrX.f2 f5)⟩
  · refine g_aload_n 0 dX10_aFlow_12 rfl rfl ?_
    refine g_bipush (v := nI 6) dX10_aFlow_13 (by decide) ?_
    refine g_invv (M' := mX10_fails) (As := [.int (nI 6)]) (rest := []) dX10_aFlow_15 ml_X10_249 okX10_fails imX10_fails seX10_fails ⟨(Nat.le_of_ble_eq_true rfl), (Nat.le_of_ble_eq_true rfl)⟩ (ci := 10) rfl rfl P.1.1.1 rfl rfl (Nat.le_of_ble_eq_true rfl) (c_failsM P.1.1 P.2.2.1 P.2.2.2.1 P.2.2.2.2.1) ?_
    rintro _ y2 ⟨rfl, fa2, fb2, f2⟩
    show zG l w mX10_aFlow 18 [(0, .ref m)] [.int (bI false)] y2 _
    refine g_zreturn dX10_aFlow_18 rfl (bI_nar _) ?_
    rw [show flowR t n T N = .inl (flt T 6) from by unfold flowR; rw [if_pos c]]
    exact ⟨rfl, ⟨fa2, fb2⟩, FrX.rf.tr (FrX.f2 f2)⟩
theorem c_aLine (P : PmT h m n t N T) (hz : pz N) : zM l w mX10_aLine [.ref m] h (OM m n t h (lineR t n T N)) := by
  refine zM.of (by decide) (Nat.le_of_ble_eq_true rfl) ?_
  refine g_aload_n 0 dX10_aLine_0 rfl rfl ?_
  refine g_invv (M' := mX10_key) (As := []) (rest := []) dX10_aLine_1 ml_X10_266 okX10_key imX10_key seX10_key ⟨(Nat.le_of_ble_eq_true rfl), (Nat.le_of_ble_eq_true rfl)⟩ (ci := 10) rfl rfl P.1.1.1 rfl rfl (Nat.le_of_ble_eq_true rfl) (c_keyM P.2.1 P.2.2.1 P.2.2.2.1) ?_
  rintro _ q1 ⟨rfl, eq1⟩
  subst q1
  show zG l w mX10_aLine 4 [(0, .ref m)] [.int (jI (keyN t T))] h _
  have kb1 := key_bd (t := t) (T := T)
  have good : ∀ (T : tkT) (N : nT) (y : zH) (v1 : Int32), PmT y m n t N T → FrX m h y → zG l w mX10_aLine 33 [(1, .int v1), (0, .ref m)] [.int (bI true)] y (OM m n t h (signR t n T N)) := by
    intro T N y v1 Py Fy
    have mb := mdK_bd T.1
    refine g_istore_n (lv2 := [(2, .int (bI true)), (1, .int v1), (0, .ref m)]) dX10_aLine_33 rfl (by decide) rfl ?_
    refine g_iload_n 0 dX10_aLine_34 rfl rfl ?_
    refine g_bif_eq (tgt := 68) dX10_aLine_35 (by decide) (fun dx => ?_) (fun dx => ?_)
    · cases dx
    · refine g_aload_n 2 dX10_aLine_38 rfl rfl ?_
      refine g_geti (f := 329) dX10_aLine_39 fl_X10_217 Py.1.1.1 (by decide) rfl ?_
      rw [show zi y 329 m = nI (mdK T.1) from Py.2.2.1.1]
      refine g_iconst (v := nI 4) dX10_aLine_42 (by decide) ?_
      refine g_ncmp_ne (tgt := 56) dX10_aLine_43 (by decide) (by omega) (by omega) (fun g => ?_) (fun g => ?_)
      · refine g_aload_n 2 dX10_aLine_56 rfl rfl ?_
        refine g_iconst (v := nI 2) dX10_aLine_57 (by decide) ?_
        refine g_invv (M' := mX10_fails) (As := [.int (nI 2)]) (rest := []) dX10_aLine_58 ml_X10_249 okX10_fails imX10_fails seX10_fails ⟨(Nat.le_of_ble_eq_true rfl), (Nat.le_of_ble_eq_true rfl)⟩ (ci := 10) rfl rfl Py.1.1.1 rfl rfl (Nat.le_of_ble_eq_true rfl) (c_failsM Py.1.1 Py.2.2.1 Py.2.2.2.1 Py.2.2.2.2.1) ?_
        rintro _ y2 ⟨rfl, fa2, fb2, f2⟩
        show zG l w mX10_aLine 61 [(2, .int (bI true)), (1, .int v1), (0, .ref m)] [.int (bI false)] y2 _
        refine g_bif_eq (tgt := 68) dX10_aLine_61 (by decide) (fun dx => ?_) (fun dx => ?_)
        · refine g_iconst (v := bI false) dX10_aLine_68 (by decide) ?_
          refine g_zreturn dX10_aLine_69 rfl (bI_nar _) ?_
          rw [show signR t n T N = .inl (flt T 2) from by unfold signR; rw [if_neg (fun z => g (mdK_4.mpr z))]]
          exact ⟨rfl, ⟨fa2, fb2⟩, Fy.tr (FrX.f2 f2)⟩
        · cases dx
      · refine g_aload_n 2 dX10_aLine_46 rfl rfl ?_
        refine g_invv (M' := mX10_takes) (As := []) (rest := []) dX10_aLine_47 ml_X10_256 okX10_takes imX10_takes seX10_takes ⟨(Nat.le_of_ble_eq_true rfl), (Nat.le_of_ble_eq_true rfl)⟩ (ci := 10) rfl rfl Py.1.1.1 rfl rfl (Nat.le_of_ble_eq_true rfl) (c_takesM Py.2.1 Py.2.2.1 Py.2.2.2.1) ?_
        rintro _ y9 ⟨rfl, k9, f9⟩
        show zG l w mX10_aLine 50 [(2, .int (bI true)), (1, .int v1), (0, .ref m)] [.int (bI true)] y9 _
        refine g_bif_eq (tgt := 68) dX10_aLine_50 (by decide) (fun dx => ?_) (fun dx => ?_)
        · cases dx
        · refine g_goto (tgt := 64) dX10_aLine_53 (by decide) ?_
          refine g_iconst (v := bI true) dX10_aLine_64 (by decide) ?_
          refine g_goto (tgt := 69) dX10_aLine_65 (by decide) ?_
          refine g_zreturn dX10_aLine_69 rfl (bI_nar _) ?_
          rw [show signR t n T N = .inr (nxT t n T, N) from by unfold signR; rw [if_pos (mdK_4.mp g)]]
          exact ⟨rfl, Py.tk (T' := nxT t n T) k9 (nxT_ok Py.2.2.2.1).1 f9, Fy.tr (FrX.f f9)⟩
  have bad : ∀ (e : Int × Int) (y : zH) (v1 : Int32), PeT y m e → FrX m h y → zG l w mX10_aLine 33 [(1, .int v1), (0, .ref m)] [.int (bI false)] y (OM m n t h (.inl e)) := by
    intro e y v1 Ey Fy
    refine g_istore_n (lv2 := [(2, .int (bI false)), (1, .int v1), (0, .ref m)]) dX10_aLine_33 rfl (by decide) rfl ?_
    refine g_iload_n 0 dX10_aLine_34 rfl rfl ?_
    refine g_bif_eq (tgt := 68) dX10_aLine_35 (by decide) (fun dx => ?_) (fun dx => ?_)
    · refine g_iconst (v := bI false) dX10_aLine_68 (by decide) ?_
      refine g_zreturn dX10_aLine_69 rfl (bI_nar _) ?_
      exact ⟨rfl, Ey, Fy⟩
    · cases dx
  refine g_istore_n (lv2 := [(1, .int (jI (keyN t T))), (0, .ref m)]) dX10_aLine_4 rfl (by decide) rfl ?_
  refine g_iload_n 0 dX10_aLine_5 rfl rfl ?_
  refine g_zif_ne (a := (keyN t T)) (tgt := 16) rfl dX10_aLine_6 (by decide) (by omega) (fun c0 => ?_) (fun c0 => ?_)
  · refine g_iload_n 0 dX10_aLine_16 rfl rfl ?_
    refine g_iconst (v := nI 1) dX10_aLine_17 (by decide) ?_
    refine g_zcmp_ne (a := (keyN t T)) (b := 1) (tgt := 28) rfl (by decide) dX10_aLine_18 (by decide) (by omega) (by omega) (fun c1 => ?_) (fun c1 => ?_)
    · refine g_aload_n 1 dX10_aLine_28 rfl rfl ?_
      refine g_iconst (v := nI 2) dX10_aLine_29 (by decide) ?_
      refine g_invv (M' := mX10_fails) (As := [.int (nI 2)]) (rest := []) dX10_aLine_30 ml_X10_249 okX10_fails imX10_fails seX10_fails ⟨(Nat.le_of_ble_eq_true rfl), (Nat.le_of_ble_eq_true rfl)⟩ (ci := 10) rfl rfl P.1.1.1 rfl rfl (Nat.le_of_ble_eq_true rfl) (c_failsM P.1.1 P.2.2.1 P.2.2.2.1 P.2.2.2.2.1) ?_
      rintro _ y3 ⟨rfl, fa3, fb3, f3⟩
      show zG l w mX10_aLine 33 [(1, .int (jI (keyN t T))), (0, .ref m)] [.int (bI false)] y3 _
      rw [show lineR t n T N = .inl (flt T 2) from by unfold lineR; rw [if_neg c0, if_neg c1]; rfl]
      exact zG.sub [0, 1] rfl (bad _ _ _ ⟨fa3, fb3⟩ (FrX.f2 f3))
    · rw [show lineR t n T N = bnd (flowR t n T N) (signR t n) from by unfold lineR; rw [if_neg c0, if_pos c1]]
      refine g_aload_n 1 dX10_aLine_21 rfl rfl ?_
      have HR := c_aFlow (l := l) (w := w) P hz
      generalize flowR t n T N = R at HR
      cases R with
      | inl e =>
        refine g_invv (M' := mX10_aFlow) (As := []) (rest := []) dX10_aLine_22 ml_X10_286 okX10_aFlow imX10_aFlow seX10_aFlow ⟨(Nat.le_of_ble_eq_true rfl), (Nat.le_of_ble_eq_true rfl)⟩ (ci := 10) rfl rfl P.1.1.1 rfl rfl (Nat.le_of_ble_eq_true rfl) HR ?_
        rintro _ y9 ⟨rfl, Ez, Fz⟩
        show zG l w mX10_aLine 25 [(1, .int (jI (keyN t T))), (0, .ref m)] [.int (bI false)] y9 _
        refine g_goto (tgt := 33) dX10_aLine_25 (by decide) ?_
        exact zG.sub [0, 1] rfl (bad e y9 _ Ez Fz)
      | inr p =>
        refine g_invv (M' := mX10_aFlow) (As := []) (rest := []) dX10_aLine_22 ml_X10_286 okX10_aFlow imX10_aFlow seX10_aFlow ⟨(Nat.le_of_ble_eq_true rfl), (Nat.le_of_ble_eq_true rfl)⟩ (ci := 10) rfl rfl P.1.1.1 rfl rfl (Nat.le_of_ble_eq_true rfl) HR ?_
        rintro _ y9 ⟨rfl, Pz, Fz⟩
        show zG l w mX10_aLine 25 [(1, .int (jI (keyN t T))), (0, .ref m)] [.int (bI true)] y9 _
        refine g_goto (tgt := 33) dX10_aLine_25 (by decide) ?_
        exact zG.sub [0, 1] rfl (good p.1 p.2 y9 _ Pz Fz)
  · rw [show lineR t n T N = bnd (linkR t n T N) (signR t n) from by unfold lineR; rw [if_pos c0]]
    refine g_aload_n 1 dX10_aLine_9 rfl rfl ?_
    have HR := c_aLink (l := l) (w := w) P hz
    generalize linkR t n T N = R at HR
    cases R with
    | inl e =>
      refine g_invv (M' := mX10_aLink) (As := []) (rest := []) dX10_aLine_10 ml_X10_283 okX10_aLink imX10_aLink seX10_aLink ⟨(Nat.le_of_ble_eq_true rfl), (Nat.le_of_ble_eq_true rfl)⟩ (ci := 10) rfl rfl P.1.1.1 rfl rfl (Nat.le_of_ble_eq_true rfl) HR ?_
      rintro _ y9 ⟨rfl, Ez, Fz⟩
      show zG l w mX10_aLine 13 [(1, .int (jI (keyN t T))), (0, .ref m)] [.int (bI false)] y9 _
      refine g_goto (tgt := 33) dX10_aLine_13 (by decide) ?_
      exact zG.sub [0, 1] rfl (bad e y9 _ Ez Fz)
    | inr p =>
      refine g_invv (M' := mX10_aLink) (As := []) (rest := []) dX10_aLine_10 ml_X10_283 okX10_aLink imX10_aLink seX10_aLink ⟨(Nat.le_of_ble_eq_true rfl), (Nat.le_of_ble_eq_true rfl)⟩ (ci := 10) rfl rfl P.1.1.1 rfl rfl (Nat.le_of_ble_eq_true rfl) HR ?_
      rintro _ y9 ⟨rfl, Pz, Fz⟩
      show zG l w mX10_aLine 13 [(1, .int (jI (keyN t T))), (0, .ref m)] [.int (bI true)] y9 _
      refine g_goto (tgt := 33) dX10_aLine_13 (by decide) ?_
      exact zG.sub [0, 1] rfl (good p.1 p.2 y9 _ Pz Fz)
end TMS
