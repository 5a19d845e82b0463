section TMR
variable {l : Launch} {w : zW} {h y : zH} {m : Nat} {t : Nat → Nat} {n : Nat} {T T' : tkT} {N M : nT} {f : Nat}
theorem c_inPathW {z : Int} (r : MoN h m N) (zb : 0 ≤ z ∧ z < 100000) (f6 : f < 6) (F1 : 0 ≤ nA N (248 + 20 * f + 0) ∧ nA N (248 + 20 * f + 0) ≤ 4) (FP : ∀ i : Nat, (i : Int) < nA N (248 + 20 * f + 0) → 0 ≤ nA N (248 + 20 * f + (12 + i)) ∧ nA N (248 + 20 * f + (12 + i)) < 6) : zM l w mX10_isInPath [.ref m, .int (nI f), .int (jI z)] h (fun u h1 => u = some (.int (bI (inB N f z))) ∧ h1 = h) := by
  refine zM.of (by decide) (Nat.le_of_ble_eq_true rfl) ?_
  obtain ⟨c, en⟩ : ∃ c : Nat, nA N (248 + 20 * f + 0) = (c : Int) := ⟨_, (Int.toNat_of_nonneg F1.1).symm⟩
  have loop : ∀ k i : Nat, i + k = c → (∀ j : Nat, j < i → ¬ nA N (248 + 20 * f + (12 + j)) = z) → zG l w mX10_isInPath 2 [(3, .int (nI i)), (0, .ref m), (1, .int (nI f)), (2, .int (jI z))] [] h (fun u h1 => u = some (.int (bI (inB N f z))) ∧ h1 = h) := by
    intro k
    induction k with
    | zero =>
      intro i hi hu
      refine g_iload_n 0 dX10_isInPath_2 rfl rfl ?_
      refine g_i2l dX10_isInPath_3 ?_
      rw [nI_l (by omega), ← jL_nat]
      refine g_aload_n 1 dX10_isInPath_4 rfl rfl ?_
      refine g_iload_n 2 dX10_isInPath_5 rfl rfl ?_
      refine g_iconst (v := nI 0) dX10_isInPath_6 (by decide) ?_
      refine g_invv (M' := mX10_ofFlow) (As := [.int (nI f), .int (nI 0)]) (rest := [.long (jL ((i : Nat) : Int))]) dX10_isInPath_7 ml_X10_62 okX10_ofFlow imX10_ofFlow seX10_ofFlow ⟨(Nat.le_of_ble_eq_true rfl), (Nat.le_of_ble_eq_true rfl)⟩ (ci := 10) rfl rfl r.1.1 rfl rfl (Nat.le_of_ble_eq_true rfl) (c_ofFlowN r (by omega)) ?_
      rintro _ q1 ⟨rfl, eq1⟩
      subst q1
      show zG l w mX10_isInPath 10 [(3, .int (nI i)), (0, .ref m), (1, .int (nI f)), (2, .int (jI z))] [.long (jL (nA N (248 + 20 * f + 0))), .long (jL ((i : Nat) : Int))] h _
      refine g_lif_ge (a := ((i : Nat) : Int)) (b := (nA N (248 + 20 * f + 0))) (tgt := 32) dX10_isInPath_10 rfl dX10_isInPath_11 (by decide) (by omega) (by omega) (fun k0 => ?_) (fun k0 => ?_)
      · refine g_iconst (v := bI false) dX10_isInPath_32 (by decide) ?_
        refine g_zreturn dX10_isInPath_33 rfl (bI_nar _) ?_
        exact ⟨by rw [inB_f (fun j hj => hu j (by omega))], rfl⟩
      · exact absurd k0 (by omega)
    | succ k ih =>
      intro i hi hu
      refine g_iload_n 0 dX10_isInPath_2 rfl rfl ?_
      refine g_i2l dX10_isInPath_3 ?_
      rw [nI_l (by omega), ← jL_nat]
      refine g_aload_n 1 dX10_isInPath_4 rfl rfl ?_
      refine g_iload_n 2 dX10_isInPath_5 rfl rfl ?_
      refine g_iconst (v := nI 0) dX10_isInPath_6 (by decide) ?_
      refine g_invv (M' := mX10_ofFlow) (As := [.int (nI f), .int (nI 0)]) (rest := [.long (jL ((i : Nat) : Int))]) dX10_isInPath_7 ml_X10_62 okX10_ofFlow imX10_ofFlow seX10_ofFlow ⟨(Nat.le_of_ble_eq_true rfl), (Nat.le_of_ble_eq_true rfl)⟩ (ci := 10) rfl rfl r.1.1 rfl rfl (Nat.le_of_ble_eq_true rfl) (c_ofFlowN r (by omega)) ?_
      rintro _ q2 ⟨rfl, eq2⟩
      subst q2
      show zG l w mX10_isInPath 10 [(3, .int (nI i)), (0, .ref m), (1, .int (nI f)), (2, .int (jI z))] [.long (jL (nA N (248 + 20 * f + 0))), .long (jL ((i : Nat) : Int))] h _
      refine g_lif_ge (a := ((i : Nat) : Int)) (b := (nA N (248 + 20 * f + 0))) (tgt := 32) dX10_isInPath_10 rfl dX10_isInPath_11 (by decide) (by omega) (by omega) (fun k0 => ?_) (fun k0 => ?_)
      · exact absurd k0 (by omega)
      · have F2 := FP i (by omega)
        have h6 : hopN N f i < 6 := by unfold hopN; omega
        have h7 : nA N (248 + 20 * f + (12 + i)) = ((hopN N f i : Nat) : Int) := by unfold hopN; omega
        refine g_aload_n 1 dX10_isInPath_14 rfl rfl ?_
        refine g_iload_n 2 dX10_isInPath_15 rfl rfl ?_
        refine g_iload_n 0 dX10_isInPath_16 rfl rfl ?_
        refine g_invv (M' := mX10_hop) (As := [.int (nI f), .int (nI i)]) (rest := []) dX10_isInPath_17 ml_X10_66 okX10_hop imX10_hop seX10_hop ⟨(Nat.le_of_ble_eq_true rfl), (Nat.le_of_ble_eq_true rfl)⟩ (ci := 10) rfl rfl r.1.1 rfl rfl (Nat.le_of_ble_eq_true rfl) (c_hop r f6 (by omega) F2.1) ?_
        rintro _ q3 ⟨rfl, eq3⟩
        subst q3
        show zG l w mX10_isInPath 20 [(3, .int (nI i)), (0, .ref m), (1, .int (nI f)), (2, .int (jI z))] [.int (nI (hopN N f i))] h _
        refine g_iload_n 3 dX10_isInPath_20 rfl rfl ?_
        refine g_zcmp_ne (a := ((hopN N f i : Nat) : Int)) (b := z) (tgt := 26) (jI_nat (hopN N f i)).symm rfl dX10_isInPath_21 (by decide) (by omega) (by omega) (fun e => ?_) (fun e => ?_)
        · refine g_inc (v := nI (i + 1)) (lv2 := [(3, .int (nI (i + 1))), (0, .ref m), (1, .int (nI f)), (2, .int (jI z))]) 0 dX10_isInPath_26 rfl (nI_add _ 1) (by decide) rfl ?_
          refine g_goto (tgt := 2) dX10_isInPath_29 (by decide) ?_
          exact zG.sub [0, 1, 2, 3] rfl (ih (i + 1) (by omega) (fun j hj => if e9 : j = i then by rw [e9]; omega else hu j (by omega)))
        · refine g_iconst (v := bI true) dX10_isInPath_24 (by decide) ?_
          refine g_zreturn dX10_isInPath_25 rfl (bI_nar _) ?_
          exact ⟨by rw [inB_t (i := i) (by omega) (by omega)], rfl⟩
  refine g_iconst (v := nI 0) dX10_isInPath_0 (by decide) ?_
  refine g_istore_n (lv2 := [(3, .int (nI 0)), (0, .ref m), (1, .int (nI f)), (2, .int (jI z))]) dX10_isInPath_1 rfl (by decide) rfl ?_
  exact zG.sub [0, 1, 2, 3] rfl (loop c 0 (Nat.zero_add _) (fun j hj => absurd hj (by omega)))
theorem c_aHop (P : PmT h m n t N T) (t2 : T.1 = 2) (L06 : 0 ≤ nA N 0 ∧ nA N 0 ≤ 6) (f6 : f < 6) (F1 : 0 ≤ nA N (248 + 20 * f + 0) ∧ nA N (248 + 20 * f + 0) ≤ 4) (FP : ∀ i : Nat, (i : Int) < nA N (248 + 20 * f + 0) → 0 ≤ nA N (248 + 20 * f + (12 + i)) ∧ nA N (248 + 20 * f + (12 + i)) < 6) : zM l w mX10_aHop [.ref m, .int (nI f)] h (OM m n t h (if nA N 0 ≤ T.2.2.2 then .inl (flt T 3) else if inB N f T.2.2.2 = true then .inl (flt T 4) else if nA N (248 + 20 * f + 0) = 4 then .inl (flt T 6) else .inr (nxT t n T, hpN N f T.2.2.2) : rR)) := by
  refine zM.of (by decide) (Nat.le_of_ble_eq_true rfl) ?_
  have vb := P.2.2.2.1.2.2.2.2.2 t2
  obtain ⟨c, en⟩ : ∃ c : Nat, nA N (248 + 20 * f + 0) = (c : Int) := ⟨_, (Int.toNat_of_nonneg F1.1).symm⟩
  refine g_aload_n 0 dX10_aHop_0 rfl rfl ?_
  refine g_geti (f := 332) dX10_aHop_1 fl_X10_226 P.1.1.1 (by decide) rfl ?_
  rw [show zi h 332 m = jI T.2.2.2 from P.2.2.1.2.2.2 t2]
  refine g_i2l dX10_aHop_4 ?_
  rw [jI_l (by omega) (by omega)]
  refine g_aload_n 0 dX10_aHop_5 rfl rfl ?_
  refine g_iconst (v := nI 0) dX10_aHop_6 (by decide) ?_
  refine g_invv (M' := mX10_of) (As := [.int (nI 0)]) (rest := [.long (jL T.2.2.2)]) dX10_aHop_7 ml_X10_48 okX10_of imX10_of seX10_of ⟨(Nat.le_of_ble_eq_true rfl), (Nat.le_of_ble_eq_true rfl)⟩ (ci := 10) rfl rfl P.1.1.1 rfl rfl (Nat.le_of_ble_eq_true rfl) (c_ofN P.1 (by omega) (by unfold nSp; omega)) ?_
  rintro _ q1 ⟨rfl, eq1⟩
  subst q1
  show zG l w mX10_aHop 10 [(0, .ref m), (1, .int (nI f))] [.long (jL (nA N 0)), .long (jL T.2.2.2)] h _
  refine g_lif_lt (a := T.2.2.2) (b := (nA N 0)) (tgt := 20) dX10_aHop_10 rfl dX10_aHop_11 (by decide) (by omega) (by omega) (fun c1 => ?_) (fun c1 => ?_)
  · refine g_aload_n 0 dX10_aHop_20 rfl rfl ?_
    refine g_iload_n 1 dX10_aHop_21 rfl rfl ?_
    refine g_aload_n 0 dX10_aHop_22 rfl rfl ?_
    refine g_geti (f := 332) dX10_aHop_23 fl_X10_226 P.1.1.1 (by decide) rfl ?_
    rw [show zi h 332 m = jI T.2.2.2 from P.2.2.1.2.2.2 t2]
    refine g_invv (M' := mX10_isInPath) (As := [.int (nI f), .int (jI T.2.2.2)]) (rest := []) dX10_aHop_26 ml_X10_269 okX10_isInPath imX10_isInPath seX10_isInPath ⟨(Nat.le_of_ble_eq_true rfl), (Nat.le_of_ble_eq_true rfl)⟩ (ci := 10) rfl rfl P.1.1.1 rfl rfl (Nat.le_of_ble_eq_true rfl) (c_inPathW P.1 (by omega) f6 F1 FP) ?_
    rintro _ q3 ⟨rfl, eq3⟩
    subst q3
    show zG l w mX10_aHop 29 [(0, .ref m), (1, .int (nI f))] [.int (bI (inB N f T.2.2.2))] h _
    refine g_bif_eq (tgt := 38) dX10_aHop_29 (by decide) (fun c2 => ?_) (fun c2 => ?_)
    · refine g_aload_n 0 dX10_aHop_38 rfl rfl ?_
      refine g_iload_n 1 dX10_aHop_39 rfl rfl ?_
      refine g_iconst (v := nI 0) dX10_aHop_40 (by decide) ?_
      refine g_invv (M' := mX10_ofFlow) (As := [.int (nI f), .int (nI 0)]) (rest := []) dX10_aHop_41 ml_X10_62 okX10_ofFlow imX10_ofFlow seX10_ofFlow ⟨(Nat.le_of_ble_eq_true rfl), (Nat.le_of_ble_eq_true rfl)⟩ (ci := 10) rfl rfl P.1.1.1 rfl rfl (Nat.le_of_ble_eq_true rfl) (c_ofFlowN P.1 (by omega)) ?_
      rintro _ q5 ⟨rfl, eq5⟩
      subst q5
      show zG l w mX10_aHop 44 [(0, .ref m), (1, .int (nI f))] [.long (jL (nA N (248 + 20 * f + 0)))] h _
      refine g_ldc2J (z := 4) dX10_aHop_44 kl_X10_273 (by decide) ?_
      refine g_lif_ne (a := (nA N (248 + 20 * f + 0))) (b := 4) (tgt := 58) dX10_aHop_47 rfl dX10_aHop_48 (by decide) (by omega) (by omega) (fun c3 => ?_) (fun c3 => ?_)
      · refine g_aload_n 0 dX10_aHop_58 rfl rfl ?_
        refine g_iload_n 1 dX10_aHop_59 rfl rfl ?_
        refine g_bipush (v := nI 12) dX10_aHop_60 (by decide) ?_
        refine g_aload_n 0 dX10_aHop_62 rfl rfl ?_
        refine g_iload_n 1 dX10_aHop_63 rfl rfl ?_
        refine g_iconst (v := nI 0) dX10_aHop_64 (by decide) ?_
        refine g_invs (M' := mX10_flow0) (As := [.int (nI f), .int (nI 0)]) (rest := [.ref m, .int (nI 12), .int (nI f), .ref m]) dX10_aHop_65 ml_X10_52 okX10_flow0 stX10_flow0 ⟨(Nat.le_of_ble_eq_true rfl), (Nat.le_of_ble_eq_true rfl)⟩ rfl rfl (Nat.le_of_ble_eq_true rfl) c_flow0 ?_
        rintro _ q7 ⟨rfl, eq7⟩
        subst q7
        show zG l w mX10_aHop 68 [(0, .ref m), (1, .int (nI f))] [.int (nI (248 + 20 * f + 0)), .ref m, .int (nI 12), .int (nI f), .ref m] h _
        refine g_invv (M' := mX10_at) (As := [.int (nI (248 + 20 * f + 0))]) (rest := [.int (nI 12), .int (nI f), .ref m]) dX10_aHop_68 ml_X10_58 okX10_at imX10_at seX10_at ⟨(Nat.le_of_ble_eq_true rfl), (Nat.le_of_ble_eq_true rfl)⟩ (ci := 10) rfl rfl P.1.1.1 rfl rfl (Nat.le_of_ble_eq_true rfl) (c_atN P.1 (by omega) (by unfold nSp; omega)) ?_
        rintro _ q8 ⟨rfl, eq8⟩
        subst q8
        show zG l w mX10_aHop 71 [(0, .ref m), (1, .int (nI f))] [.int (jI (nA N (248 + 20 * f + 0))), .int (nI 12), .int (nI f), .ref m] h _
        rw [show jI (nA N (248 + 20 * f + 0)) = nI c by rw [en, jI_nat]]
        show zG l w mX10_aHop 71 [(0, .ref m), (1, .int (nI f))] [.int (nI c), .int (nI 12), .int (nI f), .ref m] h _
        refine g_iadd dX10_aHop_71 ?_
        rw [nI_add 12 c]
        refine g_invs (M' := mX10_flow0) (As := [.int (nI f), .int (nI (12 + c))]) (rest := [.ref m]) dX10_aHop_72 ml_X10_52 okX10_flow0 stX10_flow0 ⟨(Nat.le_of_ble_eq_true rfl), (Nat.le_of_ble_eq_true rfl)⟩ rfl rfl (Nat.le_of_ble_eq_true rfl) c_flow0 ?_
        rintro _ q9 ⟨rfl, eq9⟩
        subst q9
        show zG l w mX10_aHop 75 [(0, .ref m), (1, .int (nI f))] [.int (nI (248 + 20 * f + (12 + c))), .ref m] h _
        refine g_aload_n 0 dX10_aHop_75 rfl rfl ?_
        refine g_geti (f := 332) dX10_aHop_76 fl_X10_226 P.1.1.1 (by decide) rfl ?_
        rw [show zi h 332 m = jI T.2.2.2 from P.2.2.1.2.2.2 t2]
        refine g_i2l dX10_aHop_79 ?_
        rw [jI_l (by omega) (by omega)]
        refine g_invv (M' := mX10_puts) (As := [.int (nI (248 + 20 * f + (12 + c))), .long (jL T.2.2.2)]) (rest := []) dX10_aHop_80 ml_X10_40 okX10_puts imX10_puts seX10_puts ⟨(Nat.le_of_ble_eq_true rfl), (Nat.le_of_ble_eq_true rfl)⟩ (ci := 10) rfl rfl P.1.1.1 rfl rfl (Nat.le_of_ble_eq_true rfl) (c_putsN P.1 (by omega) (by unfold nSp; omega)) ?_
        rintro _ y10 ⟨rfl, r10, f10⟩
        show zG l w mX10_aHop 83 [(0, .ref m), (1, .int (nI f))] [] y10 _
        have P10 := P.up r10 f10
        refine g_aload_n 0 dX10_aHop_83 rfl rfl ?_
        refine g_iload_n 1 dX10_aHop_84 rfl rfl ?_
        refine g_iconst (v := nI 0) dX10_aHop_85 (by decide) ?_
        refine g_invs (M' := mX10_flow0) (As := [.int (nI f), .int (nI 0)]) (rest := [.ref m]) dX10_aHop_86 ml_X10_52 okX10_flow0 stX10_flow0 ⟨(Nat.le_of_ble_eq_true rfl), (Nat.le_of_ble_eq_true rfl)⟩ rfl rfl (Nat.le_of_ble_eq_true rfl) c_flow0 ?_
        rintro _ q11 ⟨rfl, eq11⟩
        subst q11
        show zG l w mX10_aHop 89 [(0, .ref m), (1, .int (nI f))] [.int (nI (248 + 20 * f + 0)), .ref m] y10 _
        refine g_lconst (v := jL 1) dX10_aHop_89 (by decide) ?_
        refine g_invv (M' := mX10_adds) (As := [.int (nI (248 + 20 * f + 0)), .long (jL 1)]) (rest := []) dX10_aHop_90 ml_X10_76 okX10_adds imX10_adds seX10_adds ⟨(Nat.le_of_ble_eq_true rfl), (Nat.le_of_ble_eq_true rfl)⟩ (ci := 10) rfl rfl P10.1.1.1 rfl rfl (Nat.le_of_ble_eq_true rfl) (c_addsN P10.1 (by omega) (by unfold nSp; omega)) ?_
        rintro _ y12 ⟨rfl, r12, f12⟩
        rw [show nA (uA N (248 + 20 * f + (12 + c)) T.2.2.2) (248 + 20 * f + 0) = nA N (248 + 20 * f + 0) by rw [nA_ne (by omega)]] at r12
        show zG l w mX10_aHop 93 [(0, .ref m), (1, .int (nI f))] [] y12 _
        have P12 := P10.up r12 f12
        refine g_aload_n 0 dX10_aHop_93 rfl rfl ?_
        refine g_invv (M' := mX10_takes) (As := []) (rest := []) dX10_aHop_94 ml_X10_256 okX10_takes imX10_takes seX10_takes ⟨(Nat.le_of_ble_eq_true rfl), (Nat.le_of_ble_eq_true rfl)⟩ (ci := 10) rfl rfl P12.1.1.1 rfl rfl (Nat.le_of_ble_eq_true rfl) (c_takesM P12.2.1 P12.2.2.1 P12.2.2.2.1) ?_
        rintro _ y9 ⟨rfl, k9, f9⟩
        show zG l w mX10_aHop 97 [(0, .ref m), (1, .int (nI f))] [.int (bI true)] y9 _
        refine g_zreturn dX10_aHop_97 rfl (bI_nar _) ?_
        rw [if_neg (show ¬ nA N 0 ≤ T.2.2.2 by omega), if_neg (show ¬ inB N f T.2.2.2 = true by rw [c2]; decide), if_neg c3]
        have Pz := P12.tk (T' := nxT t n T) k9 (nxT_ok P12.2.2.2.1).1 f9
        have eh : hpN N f T.2.2.2 = (uA (uA N (248 + 20 * f + (12 + c)) T.2.2.2) (248 + 20 * f + 0) (nA N (248 + 20 * f + 0) + 1)) := by unfold hpN; rw [en, Int.toNat_natCast]
        exact ⟨rfl, by rw [eh]; exact Pz, ((FrX.rf.tr (FrX.fm f10)).tr (FrX.fm f12)).tr (FrX.f f9)⟩
      · refine g_aload_n 0 dX10_aHop_51 rfl rfl ?_
        refine g_bipush (v := nI 6) dX10_aHop_52 (by decide) ?_
        refine g_invv (M' := mX10_fails) (As := [.int (nI 6)]) (rest := []) dX10_aHop_54 ml_X10_249 okX10_fails imX10_fails seX10_fails ⟨(Nat.le_of_ble_eq_true rfl), (Nat.le_of_ble_eq_true rfl)⟩ (ci := 10) rfl rfl P.1.1.1 rfl rfl (Nat.le_of_ble_eq_true rfl) (c_failsM P.1.1 P.2.2.1 P.2.2.2.1 P.2.2.2.2.1) ?_
        rintro _ y6 ⟨rfl, fa6, fb6, f6⟩
        show zG l w mX10_aHop 57 [(0, .ref m), (1, .int (nI f))] [.int (bI false)] y6 _
        refine g_zreturn dX10_aHop_57 rfl (bI_nar _) ?_
        rw [if_neg (show ¬ nA N 0 ≤ T.2.2.2 by omega), if_neg (show ¬ inB N f T.2.2.2 = true by rw [c2]; decide), if_pos c3]
        exact ⟨rfl, ⟨fa6, fb6⟩, FrX.rf.tr (FrX.f2 f6)⟩
    · refine g_aload_n 0 dX10_aHop_32 rfl rfl ?_
      refine g_iconst (v := nI 4) dX10_aHop_33 (by decide) ?_
      refine g_invv (M' := mX10_fails) (As := [.int (nI 4)]) (rest := []) dX10_aHop_34 ml_X10_249 okX10_fails imX10_fails seX10_fails ⟨(Nat.le_of_ble_eq_true rfl), (Nat.le_of_ble_eq_true rfl)⟩ (ci := 10) rfl rfl P.1.1.1 rfl rfl (Nat.le_of_ble_eq_true rfl) (c_failsM P.1.1 P.2.2.1 P.2.2.2.1 P.2.2.2.2.1) ?_
      rintro _ y4 ⟨rfl, fa4, fb4, f4⟩
      show zG l w mX10_aHop 37 [(0, .ref m), (1, .int (nI f))] [.int (bI false)] y4 _
      refine g_zreturn dX10_aHop_37 rfl (bI_nar _) ?_
      rw [if_neg (show ¬ nA N 0 ≤ T.2.2.2 by omega), if_pos c2]
      exact ⟨rfl, ⟨fa4, fb4⟩, FrX.rf.tr (FrX.f2 f4)⟩
  · refine g_aload_n 0 dX10_aHop_14 rfl rfl ?_
    refine g_iconst (v := nI 3) dX10_aHop_15 (by decide) ?_
    refine g_invv (M' := mX10_fails) (As := [.int (nI 3)]) (rest := []) dX10_aHop_16 ml_X10_249 okX10_fails imX10_fails seX10_fails ⟨(Nat.le_of_ble_eq_true rfl), (Nat.le_of_ble_eq_true rfl)⟩ (ci := 10) rfl rfl P.1.1.1 rfl rfl (Nat.le_of_ble_eq_true rfl) (c_failsM P.1.1 P.2.2.1 P.2.2.2.1 P.2.2.2.2.1) ?_
    rintro _ y2 ⟨rfl, fa2, fb2, f2⟩
    show zG l w mX10_aHop 19 [(0, .ref m), (1, .int (nI f))] [.int (bI false)] y2 _
    refine g_zreturn dX10_aHop_19 rfl (bI_nar _) ?_
    rw [if_pos (show nA N 0 ≤ T.2.2.2 by omega)]
    exact ⟨rfl, ⟨fa2, fb2⟩, FrX.rf.tr (FrX.f2 f2)⟩
def btK (a b c : Bool) : Nat := (if a then 1 else 0) + (if b then 2 else 0) + (if c then 4 else 0)
theorem bt_and {a b c : Bool} : nI (btK a b c) &&& nI 1 = bI a ∧ (¬ nI (btK a b c) &&& nI 2 = 0 ↔ b = true) ∧ (¬ nI (btK a b c) &&& nI 4 = 0 ↔ c = true) := by cases a <;> cases b <;> cases c <;> decide
theorem bt_or {a b c : Bool} : nI (btK a b c) ||| nI 1 = nI (btK true b c) ∧ nI (btK a b c) ||| nI 2 = nI (btK a true c) ∧ nI (btK a b c) ||| nI 4 = nI (btK a b true) := by cases a <;> cases b <;> cases c <;> decide
def btn (a b c : Bool) : Nat := (if a then 1 else 0) + (if b then 1 else 0) + (if c then 1 else 0)
theorem btn_le {a b c : Bool} : btn a b c ≤ 3 := by cases a <;> cases b <;> cases c <;> decide
theorem c_marksT (P : PmT h m n t N T) (f6 : f < 6) : zM l w mX10_marks [.ref m, .int (nI f)] h (OM m n t h (marksR t n f 4 T N false false false)) := by
  refine zM.of (by decide) (Nat.le_of_ble_eq_true rfl) ?_
  have loop : ∀ (k : Nat) (T : tkT) (M : nT) (b1 b2 b3 : Bool) (y : zH), 4 ≤ btn b1 b2 b3 + k → PmT y m n t M T → FrX m h y → zG l w mX10_marks 7 [(3, .int (jI (keyN t T))), (2, .int (nI (btK b1 b2 b3))), (0, .ref m), (1, .int (nI f))] [] y (OM m n t h (marksR t n f k T M b1 b2 b3)) := by
    intro k
    induction k with
    | zero => intro T M b1 b2 b3 y hb; have := btn_le (a := b1) (b := b2) (c := b3); omega
    | succ k ih =>
      intro T M b1 b2 b3 y hb Py Fy
      have kb := key_bd (t := t) (T := T)
      refine g_iload_n 0 dX10_marks_7 rfl rfl ?_
      refine g_iconst (v := nI 3) dX10_marks_8 (by decide) ?_
      refine g_zcmp_lt (a := (keyN t T)) (b := 3) (tgt := 125) rfl (by decide) dX10_marks_9 (by decide) (by omega) (by omega) (fun c1 => ?_) (fun c1 => ?_)
      · refine g_iconst (v := bI true) dX10_marks_125 (by decide) ?_
        refine g_zreturn dX10_marks_126 rfl (bI_nar _) ?_
        rw [show marksR t n f (k + 1) T M b1 b2 b3 = .inr (T, M) from by rw [marksR, if_pos c1]]
        exact ⟨rfl, Py, Fy⟩
      · refine g_iload_n 0 dX10_marks_12 rfl rfl ?_
        refine g_iconst (v := nI 3) dX10_marks_13 (by decide) ?_
        refine g_zcmp_ne (a := (keyN t T)) (b := 3) (tgt := 21) rfl (by decide) dX10_marks_14 (by decide) (by omega) (by omega) (fun c2 => ?_) (fun c2 => ?_)
        · refine g_iload_n 0 dX10_marks_21 rfl rfl ?_
          refine g_bipush (v := nI 7) dX10_marks_22 (by decide) ?_
          refine g_zcmp_ge (a := (keyN t T)) (b := 7) (tgt := 31) rfl (by decide) dX10_marks_24 (by decide) (by omega) (by omega) (fun c3 => ?_) (fun c3 => ?_)
          · refine g_iconst (v := nI 4) dX10_marks_31 (by decide) ?_
            refine g_istore (lv2 := [(4, .int (nI 4)), (3, .int (jI (keyN t T))), (2, .int (nI (btK b1 b2 b3))), (0, .ref m), (1, .int (nI f))]) dX10_marks_32 (by decide) rfl ?_
            refine g_iload_n 2 dX10_marks_34 rfl rfl ?_
            refine g_iload 0 dX10_marks_35 rfl ?_
            refine g_iand dX10_marks_37 ?_
            refine g_if_eq (tgt := 47) dX10_marks_38 (by decide) (fun d => ?_) (fun d => ?_)
            · have d : b3 = false := by
                cases b1 <;> cases b2 <;> cases b3 <;> first | rfl | (exact absurd d (by decide))
              refine g_iload_n 2 dX10_marks_47 rfl rfl ?_
              refine g_iload 0 dX10_marks_48 rfl ?_
              refine g_ior dX10_marks_50 ?_
              rw [bt_or.2.2]
              have hb2 : btn b1 b2 b3 + 1 = btn b1 b2 true := by
                cases b1 <;> cases b2 <;> cases b3 <;> first | rfl | (exact absurd d (by decide))
              refine g_istore_n (lv2 := [(2, .int (nI (btK b1 b2 true))), (4, .int (nI 4)), (3, .int (jI (keyN t T))), (0, .ref m), (1, .int (nI f))]) dX10_marks_51 rfl (by decide) rfl ?_
              refine g_aload_n 3 dX10_marks_52 rfl rfl ?_
              refine g_invv (M' := mX10_ahead) (As := []) (rest := []) dX10_marks_53 ml_X10_246 okX10_ahead imX10_ahead seX10_ahead ⟨(Nat.le_of_ble_eq_true rfl), (Nat.le_of_ble_eq_true rfl)⟩ (ci := 10) rfl rfl Py.1.1.1 rfl rfl (Nat.le_of_ble_eq_true rfl) (c_ahead Py.2.1 Py.2.2.1.2.2.1 Py.2.2.2.1.2.2.1) ?_
              rintro _ y13 ⟨rfl, k13, f13⟩
              show zG l w mX10_marks 56 [(2, .int (nI (btK b1 b2 true))), (4, .int (nI 4)), (3, .int (jI (keyN t T))), (0, .ref m), (1, .int (nI f))] [] y13 _
              have P13 := Py.tk (T' := nxT t n T) k13 (nxT_ok Py.2.2.2.1).1 f13
              refine g_iload 1 dX10_marks_56 rfl ?_
              refine g_iconst (v := nI 1) dX10_marks_58 (by decide) ?_
              refine g_ncmp_ne (tgt := 80) dX10_marks_59 (by decide) (by omega) (by omega) (fun g1 => ?_) (fun g1 => ?_)
              · refine g_iload 1 dX10_marks_80 rfl ?_
                refine g_iconst (v := nI 2) dX10_marks_82 (by decide) ?_
                refine g_ncmp_ne (tgt := 101) dX10_marks_83 (by decide) (by omega) (by omega) (fun g3 => ?_) (fun g3 => ?_)
                · refine g_iload 1 dX10_marks_101 rfl ?_
                  refine g_iconst (v := nI 4) dX10_marks_103 (by decide) ?_
                  refine g_ncmp_ne (tgt := 117) dX10_marks_104 (by decide) (by omega) (by omega) (fun g4 => ?_) (fun g4 => ?_)
                  · exact absurd rfl g4
                  · refine g_aload_n 3 dX10_marks_107 rfl rfl ?_
                    refine g_iload_n 4 dX10_marks_108 rfl rfl ?_
                    refine g_iconst (v := nI 3) dX10_marks_109 (by decide) ?_
                    refine g_invs (M' := mX10_flow0) (As := [.int (nI f), .int (nI 3)]) (rest := [.ref m]) dX10_marks_110 ml_X10_52 okX10_flow0 stX10_flow0 ⟨(Nat.le_of_ble_eq_true rfl), (Nat.le_of_ble_eq_true rfl)⟩ rfl rfl (Nat.le_of_ble_eq_true rfl) c_flow0 ?_
                    rintro _ q14 ⟨rfl, eq14⟩
                    subst q14
                    show zG l w mX10_marks 113 [(2, .int (nI (btK b1 b2 true))), (4, .int (nI 4)), (3, .int (jI (keyN t T))), (0, .ref m), (1, .int (nI f))] [.int (nI (248 + 20 * f + 3)), .ref m] y13 _
                    refine g_lconst (v := jL 0) dX10_marks_113 (by decide) ?_
                    refine g_invv (M' := mX10_puts) (As := [.int (nI (248 + 20 * f + 3)), .long (jL 0)]) (rest := []) dX10_marks_114 ml_X10_40 okX10_puts imX10_puts seX10_puts ⟨(Nat.le_of_ble_eq_true rfl), (Nat.le_of_ble_eq_true rfl)⟩ (ci := 10) rfl rfl P13.1.1.1 rfl rfl (Nat.le_of_ble_eq_true rfl) (c_putsN P13.1 (by omega) (by unfold nSp; omega)) ?_
                    rintro _ y15 ⟨rfl, r15, f15⟩
                    show zG l w mX10_marks 117 [(2, .int (nI (btK b1 b2 true))), (4, .int (nI 4)), (3, .int (jI (keyN t T))), (0, .ref m), (1, .int (nI f))] [] y15 _
                    have P15 := P13.up r15 f15
                    refine g_aload_n 3 dX10_marks_117 rfl rfl ?_
                    refine g_invv (M' := mX10_key) (As := []) (rest := []) dX10_marks_118 ml_X10_266 okX10_key imX10_key seX10_key ⟨(Nat.le_of_ble_eq_true rfl), (Nat.le_of_ble_eq_true rfl)⟩ (ci := 10) rfl rfl P15.1.1.1 rfl rfl (Nat.le_of_ble_eq_true rfl) (c_keyM P15.2.1 P15.2.2.1 P15.2.2.2.1) ?_
                    rintro _ q16 ⟨rfl, eq16⟩
                    subst q16
                    show zG l w mX10_marks 121 [(2, .int (nI (btK b1 b2 true))), (4, .int (nI 4)), (3, .int (jI (keyN t T))), (0, .ref m), (1, .int (nI f))] [.int (jI (keyN t (nxT t n T)))] y15 _
                    have kb16 := key_bd (t := t) (T := nxT t n T)
                    refine g_istore_n (lv2 := [(3, .int (jI (keyN t (nxT t n T)))), (2, .int (nI (btK b1 b2 true))), (4, .int (nI 4)), (0, .ref m), (1, .int (nI f))]) dX10_marks_121 rfl (by decide) rfl ?_
                    refine g_goto (tgt := 7) dX10_marks_122 (by decide) ?_
                    rw [show marksR t n f (k + 1) T M b1 b2 b3 = marksR t n f k (nxT t n T) (uA M (248 + 20 * f + 3) 0) b1 b2 true from by rw [marksR, if_neg c1, if_neg c2, if_neg (show ¬ keyN t T < 7 by omega), if_neg (show ¬ b3 = true by rw [d]; decide)]]
                    exact zG.sub [0, 1, 3, 4] rfl (ih _ _ _ _ _ _ (by omega) P15 ((Fy.tr (FrX.f f13)).tr (FrX.fm f15)))
                · exact absurd g3 (by omega)
              · exact absurd g1 (by omega)
            · have d : b3 = true := by
                cases b1 <;> cases b2 <;> cases b3 <;> first | rfl | (exact absurd d (by decide))
              refine g_aload_n 3 dX10_marks_41 rfl rfl ?_
              refine g_iconst (v := nI 5) dX10_marks_42 (by decide) ?_
              refine g_invv (M' := mX10_fails) (As := [.int (nI 5)]) (rest := []) dX10_marks_43 ml_X10_249 okX10_fails imX10_fails seX10_fails ⟨(Nat.le_of_ble_eq_true rfl), (Nat.le_of_ble_eq_true rfl)⟩ (ci := 10) rfl rfl Py.1.1.1 rfl rfl (Nat.le_of_ble_eq_true rfl) (c_failsM Py.1.1 Py.2.2.1 Py.2.2.2.1 Py.2.2.2.2.1) ?_
              rintro _ y12 ⟨rfl, fa12, fb12, f12⟩
              show zG l w mX10_marks 46 [(4, .int (nI 4)), (3, .int (jI (keyN t T))), (2, .int (nI (btK b1 b2 b3))), (0, .ref m), (1, .int (nI f))] [.int (bI false)] y12 _
              refine g_zreturn dX10_marks_46 rfl (bI_nar _) ?_
              rw [show marksR t n f (k + 1) T M b1 b2 b3 = .inl (flt T 5) from by rw [marksR, if_neg c1, if_neg c2, if_neg (show ¬ keyN t T < 7 by omega), if_pos d]]
              exact ⟨rfl, ⟨fa12, fb12⟩, Fy.tr (FrX.f2 f12)⟩
          · refine g_iconst (v := nI 2) dX10_marks_27 (by decide) ?_
            refine g_goto (tgt := 32) dX10_marks_28 (by decide) ?_
            refine g_istore (lv2 := [(4, .int (nI 2)), (3, .int (jI (keyN t T))), (2, .int (nI (btK b1 b2 b3))), (0, .ref m), (1, .int (nI f))]) dX10_marks_32 (by decide) rfl ?_
            refine g_iload_n 2 dX10_marks_34 rfl rfl ?_
            refine g_iload 0 dX10_marks_35 rfl ?_
            refine g_iand dX10_marks_37 ?_
            refine g_if_eq (tgt := 47) dX10_marks_38 (by decide) (fun d => ?_) (fun d => ?_)
            · have d : b2 = false := by
                cases b1 <;> cases b2 <;> cases b3 <;> first | rfl | (exact absurd d (by decide))
              refine g_iload_n 2 dX10_marks_47 rfl rfl ?_
              refine g_iload 0 dX10_marks_48 rfl ?_
              refine g_ior dX10_marks_50 ?_
              rw [bt_or.2.1]
              have hb2 : btn b1 b2 b3 + 1 = btn b1 true b3 := by
                cases b1 <;> cases b2 <;> cases b3 <;> first | rfl | (exact absurd d (by decide))
              refine g_istore_n (lv2 := [(2, .int (nI (btK b1 true b3))), (4, .int (nI 2)), (3, .int (jI (keyN t T))), (0, .ref m), (1, .int (nI f))]) dX10_marks_51 rfl (by decide) rfl ?_
              refine g_aload_n 3 dX10_marks_52 rfl rfl ?_
              refine g_invv (M' := mX10_ahead) (As := []) (rest := []) dX10_marks_53 ml_X10_246 okX10_ahead imX10_ahead seX10_ahead ⟨(Nat.le_of_ble_eq_true rfl), (Nat.le_of_ble_eq_true rfl)⟩ (ci := 10) rfl rfl Py.1.1.1 rfl rfl (Nat.le_of_ble_eq_true rfl) (c_ahead Py.2.1 Py.2.2.1.2.2.1 Py.2.2.2.1.2.2.1) ?_
              rintro _ y8 ⟨rfl, k8, f8⟩
              show zG l w mX10_marks 56 [(2, .int (nI (btK b1 true b3))), (4, .int (nI 2)), (3, .int (jI (keyN t T))), (0, .ref m), (1, .int (nI f))] [] y8 _
              have P8 := Py.tk (T' := nxT t n T) k8 (nxT_ok Py.2.2.2.1).1 f8
              refine g_iload 1 dX10_marks_56 rfl ?_
              refine g_iconst (v := nI 1) dX10_marks_58 (by decide) ?_
              refine g_ncmp_ne (tgt := 80) dX10_marks_59 (by decide) (by omega) (by omega) (fun g1 => ?_) (fun g1 => ?_)
              · refine g_iload 1 dX10_marks_80 rfl ?_
                refine g_iconst (v := nI 2) dX10_marks_82 (by decide) ?_
                refine g_ncmp_ne (tgt := 101) dX10_marks_83 (by decide) (by omega) (by omega) (fun g3 => ?_) (fun g3 => ?_)
                · exact absurd rfl g3
                · refine g_aload_n 3 dX10_marks_86 rfl rfl ?_
                  refine g_iload_n 4 dX10_marks_87 rfl rfl ?_
                  refine g_iconst (v := nI 2) dX10_marks_88 (by decide) ?_
                  refine g_invs (M' := mX10_flow0) (As := [.int (nI f), .int (nI 2)]) (rest := [.ref m]) dX10_marks_89 ml_X10_52 okX10_flow0 stX10_flow0 ⟨(Nat.le_of_ble_eq_true rfl), (Nat.le_of_ble_eq_true rfl)⟩ rfl rfl (Nat.le_of_ble_eq_true rfl) c_flow0 ?_
                  rintro _ q9 ⟨rfl, eq9⟩
                  subst q9
                  show zG l w mX10_marks 92 [(2, .int (nI (btK b1 true b3))), (4, .int (nI 2)), (3, .int (jI (keyN t T))), (0, .ref m), (1, .int (nI f))] [.int (nI (248 + 20 * f + 2)), .ref m] y8 _
                  refine g_iload_n 2 dX10_marks_92 rfl rfl ?_
                  refine g_i2l dX10_marks_93 ?_
                  rw [jI_l (by omega) (by omega)]
                  refine g_ldc2J (z := 3) dX10_marks_94 kl_X10_134 (by decide) ?_
                  refine g_lsub dX10_marks_97 ?_
                  rw [jL_sub]
                  refine g_invv (M' := mX10_puts) (As := [.int (nI (248 + 20 * f + 2)), .long (jL ((keyN t T) - 3))]) (rest := []) dX10_marks_98 ml_X10_40 okX10_puts imX10_puts seX10_puts ⟨(Nat.le_of_ble_eq_true rfl), (Nat.le_of_ble_eq_true rfl)⟩ (ci := 10) rfl rfl P8.1.1.1 rfl rfl (Nat.le_of_ble_eq_true rfl) (c_putsN P8.1 (by omega) (by unfold nSp; omega)) ?_
                  rintro _ y10 ⟨rfl, r10, f10⟩
                  show zG l w mX10_marks 101 [(2, .int (nI (btK b1 true b3))), (4, .int (nI 2)), (3, .int (jI (keyN t T))), (0, .ref m), (1, .int (nI f))] [] y10 _
                  have P10 := P8.up r10 f10
                  refine g_iload 1 dX10_marks_101 rfl ?_
                  refine g_iconst (v := nI 4) dX10_marks_103 (by decide) ?_
                  refine g_ncmp_ne (tgt := 117) dX10_marks_104 (by decide) (by omega) (by omega) (fun g4 => ?_) (fun g4 => ?_)
                  · refine g_aload_n 3 dX10_marks_117 rfl rfl ?_
                    refine g_invv (M' := mX10_key) (As := []) (rest := []) dX10_marks_118 ml_X10_266 okX10_key imX10_key seX10_key ⟨(Nat.le_of_ble_eq_true rfl), (Nat.le_of_ble_eq_true rfl)⟩ (ci := 10) rfl rfl P10.1.1.1 rfl rfl (Nat.le_of_ble_eq_true rfl) (c_keyM P10.2.1 P10.2.2.1 P10.2.2.2.1) ?_
                    rintro _ q11 ⟨rfl, eq11⟩
                    subst q11
                    show zG l w mX10_marks 121 [(2, .int (nI (btK b1 true b3))), (4, .int (nI 2)), (3, .int (jI (keyN t T))), (0, .ref m), (1, .int (nI f))] [.int (jI (keyN t (nxT t n T)))] y10 _
                    have kb11 := key_bd (t := t) (T := nxT t n T)
                    refine g_istore_n (lv2 := [(3, .int (jI (keyN t (nxT t n T)))), (2, .int (nI (btK b1 true b3))), (4, .int (nI 2)), (0, .ref m), (1, .int (nI f))]) dX10_marks_121 rfl (by decide) rfl ?_
                    refine g_goto (tgt := 7) dX10_marks_122 (by decide) ?_
                    rw [show marksR t n f (k + 1) T M b1 b2 b3 = marksR t n f k (nxT t n T) (uA M (248 + 20 * f + 2) (keyN t T - 3)) b1 true b3 from by rw [marksR, if_neg c1, if_neg c2, if_pos (show keyN t T < 7 by omega), if_neg (show ¬ b2 = true by rw [d]; decide)]]
                    exact zG.sub [0, 1, 3, 4] rfl (ih _ _ _ _ _ _ (by omega) P10 ((Fy.tr (FrX.f f8)).tr (FrX.fm f10)))
                  · exact absurd g4 (by omega)
              · exact absurd g1 (by omega)
            · have d : b2 = true := by
                cases b1 <;> cases b2 <;> cases b3 <;> first | rfl | (exact absurd d (by decide))
              refine g_aload_n 3 dX10_marks_41 rfl rfl ?_
              refine g_iconst (v := nI 5) dX10_marks_42 (by decide) ?_
              refine g_invv (M' := mX10_fails) (As := [.int (nI 5)]) (rest := []) dX10_marks_43 ml_X10_249 okX10_fails imX10_fails seX10_fails ⟨(Nat.le_of_ble_eq_true rfl), (Nat.le_of_ble_eq_true rfl)⟩ (ci := 10) rfl rfl Py.1.1.1 rfl rfl (Nat.le_of_ble_eq_true rfl) (c_failsM Py.1.1 Py.2.2.1 Py.2.2.2.1 Py.2.2.2.2.1) ?_
              rintro _ y7 ⟨rfl, fa7, fb7, f7⟩
              show zG l w mX10_marks 46 [(4, .int (nI 2)), (3, .int (jI (keyN t T))), (2, .int (nI (btK b1 b2 b3))), (0, .ref m), (1, .int (nI f))] [.int (bI false)] y7 _
              refine g_zreturn dX10_marks_46 rfl (bI_nar _) ?_
              rw [show marksR t n f (k + 1) T M b1 b2 b3 = .inl (flt T 5) from by rw [marksR, if_neg c1, if_neg c2, if_pos (show keyN t T < 7 by omega), if_pos d]]
              exact ⟨rfl, ⟨fa7, fb7⟩, Fy.tr (FrX.f2 f7)⟩
        · refine g_iconst (v := nI 1) dX10_marks_17 (by decide) ?_
          refine g_goto (tgt := 32) dX10_marks_18 (by decide) ?_
          refine g_istore (lv2 := [(4, .int (nI 1)), (3, .int (jI (keyN t T))), (2, .int (nI (btK b1 b2 b3))), (0, .ref m), (1, .int (nI f))]) dX10_marks_32 (by decide) rfl ?_
          refine g_iload_n 2 dX10_marks_34 rfl rfl ?_
          refine g_iload 0 dX10_marks_35 rfl ?_
          refine g_iand dX10_marks_37 ?_
          rw [bt_and.1]
          refine g_bif_eq (tgt := 47) dX10_marks_38 (by decide) (fun d => ?_) (fun d => ?_)
          · refine g_iload_n 2 dX10_marks_47 rfl rfl ?_
            refine g_iload 0 dX10_marks_48 rfl ?_
            refine g_ior dX10_marks_50 ?_
            rw [bt_or.1]
            have hb2 : btn b1 b2 b3 + 1 = btn true b2 b3 := by
              cases b1 <;> cases b2 <;> cases b3 <;> first | rfl | (exact absurd d (by decide))
            refine g_istore_n (lv2 := [(2, .int (nI (btK true b2 b3))), (4, .int (nI 1)), (3, .int (jI (keyN t T))), (0, .ref m), (1, .int (nI f))]) dX10_marks_51 rfl (by decide) rfl ?_
            refine g_aload_n 3 dX10_marks_52 rfl rfl ?_
            refine g_invv (M' := mX10_ahead) (As := []) (rest := []) dX10_marks_53 ml_X10_246 okX10_ahead imX10_ahead seX10_ahead ⟨(Nat.le_of_ble_eq_true rfl), (Nat.le_of_ble_eq_true rfl)⟩ (ci := 10) rfl rfl Py.1.1.1 rfl rfl (Nat.le_of_ble_eq_true rfl) (c_ahead Py.2.1 Py.2.2.1.2.2.1 Py.2.2.2.1.2.2.1) ?_
            rintro _ y2 ⟨rfl, k2, f2⟩
            show zG l w mX10_marks 56 [(2, .int (nI (btK true b2 b3))), (4, .int (nI 1)), (3, .int (jI (keyN t T))), (0, .ref m), (1, .int (nI f))] [] y2 _
            have P2 := Py.tk (T' := nxT t n T) k2 (nxT_ok Py.2.2.2.1).1 f2
            refine g_iload 1 dX10_marks_56 rfl ?_
            refine g_iconst (v := nI 1) dX10_marks_58 (by decide) ?_
            refine g_ncmp_ne (tgt := 80) dX10_marks_59 (by decide) (by omega) (by omega) (fun gg => ?_) (fun gg => ?_)
            · exact absurd rfl gg
            · refine g_aload_n 3 dX10_marks_62 rfl rfl ?_
              refine g_iload_n 4 dX10_marks_63 rfl rfl ?_
              refine g_iconst (v := nI 1) dX10_marks_64 (by decide) ?_
              refine g_invs (M' := mX10_flow0) (As := [.int (nI f), .int (nI 1)]) (rest := [.ref m]) dX10_marks_65 ml_X10_52 okX10_flow0 stX10_flow0 ⟨(Nat.le_of_ble_eq_true rfl), (Nat.le_of_ble_eq_true rfl)⟩ rfl rfl (Nat.le_of_ble_eq_true rfl) c_flow0 ?_
              rintro _ q3 ⟨rfl, eq3⟩
              subst q3
              show zG l w mX10_marks 68 [(2, .int (nI (btK true b2 b3))), (4, .int (nI 1)), (3, .int (jI (keyN t T))), (0, .ref m), (1, .int (nI f))] [.int (nI (248 + 20 * f + 1)), .ref m] y2 _
              refine g_iconst (v := nI 0) dX10_marks_68 (by decide) ?_
              refine g_sipush (v := nI 9999) dX10_marks_69 (by decide) ?_
              by_cases o1 : okB (nxT t n T) 0 9999 = true
              · refine g_invv (M' := mX10_takesNumber) (As := [.int (nI (248 + 20 * f + 1)), .int (nI 0), .int (nI 9999)]) (rest := []) dX10_marks_72 ml_X10_262 okX10_takesNumber imX10_takesNumber seX10_takesNumber ⟨(Nat.le_of_ble_eq_true rfl), (Nat.le_of_ble_eq_true rfl)⟩ (ci := 10) rfl rfl P2.1.1.1 rfl rfl (Nat.le_of_ble_eq_true rfl) (c_tnT P2 (by omega) (by unfold nSp; omega) (by omega) (by omega) o1) ?_
                rintro _ y4 ⟨rfl, P4, x4⟩
                show zG l w mX10_marks 75 [(2, .int (nI (btK true b2 b3))), (4, .int (nI 1)), (3, .int (jI (keyN t T))), (0, .ref m), (1, .int (nI f))] [.int (bI true)] y4 _
                refine g_bif_ne (tgt := 80) dX10_marks_75 (by decide) (fun dx => ?_) (fun dx => ?_)
                · refine g_iload 1 dX10_marks_80 rfl ?_
                  refine g_iconst (v := nI 2) dX10_marks_82 (by decide) ?_
                  refine g_ncmp_ne (tgt := 101) dX10_marks_83 (by decide) (by omega) (by omega) (fun g3 => ?_) (fun g3 => ?_)
                  · refine g_iload 1 dX10_marks_101 rfl ?_
                    refine g_iconst (v := nI 4) dX10_marks_103 (by decide) ?_
                    refine g_ncmp_ne (tgt := 117) dX10_marks_104 (by decide) (by omega) (by omega) (fun g4 => ?_) (fun g4 => ?_)
                    · refine g_aload_n 3 dX10_marks_117 rfl rfl ?_
                      refine g_invv (M' := mX10_key) (As := []) (rest := []) dX10_marks_118 ml_X10_266 okX10_key imX10_key seX10_key ⟨(Nat.le_of_ble_eq_true rfl), (Nat.le_of_ble_eq_true rfl)⟩ (ci := 10) rfl rfl P4.1.1.1 rfl rfl (Nat.le_of_ble_eq_true rfl) (c_keyM P4.2.1 P4.2.2.1 P4.2.2.2.1) ?_
                      rintro _ q6 ⟨rfl, eq6⟩
                      subst q6
                      show zG l w mX10_marks 121 [(2, .int (nI (btK true b2 b3))), (4, .int (nI 1)), (3, .int (jI (keyN t T))), (0, .ref m), (1, .int (nI f))] [.int (jI (keyN t (nxT t n (nxT t n T))))] y4 _
                      have kb6 := key_bd (t := t) (T := nxT t n (nxT t n T))
                      refine g_istore_n (lv2 := [(3, .int (jI (keyN t (nxT t n (nxT t n T))))), (2, .int (nI (btK true b2 b3))), (4, .int (nI 1)), (0, .ref m), (1, .int (nI f))]) dX10_marks_121 rfl (by decide) rfl ?_
                      refine g_goto (tgt := 7) dX10_marks_122 (by decide) ?_
                      rw [show marksR t n f (k + 1) T M b1 b2 b3 = marksR t n f k (nxT t n (nxT t n T)) (uA M (248 + 20 * f + 1) (nxT t n T).2.2.2) true b2 b3 from by rw [marksR, if_neg c1, if_pos c2, if_neg (show ¬ b1 = true by rw [d]; decide), if_pos o1]]
                      exact zG.sub [0, 1, 3, 4] rfl (ih _ _ _ _ _ _ (by omega) P4 ((Fy.tr (FrX.f f2)).tr x4))
                    · exact absurd g4 (by omega)
                  · exact absurd g3 (by omega)
                · cases dx
              · refine g_invv (M' := mX10_takesNumber) (As := [.int (nI (248 + 20 * f + 1)), .int (nI 0), .int (nI 9999)]) (rest := []) dX10_marks_72 ml_X10_262 okX10_takesNumber imX10_takesNumber seX10_takesNumber ⟨(Nat.le_of_ble_eq_true rfl), (Nat.le_of_ble_eq_true rfl)⟩ (ci := 10) rfl rfl P2.1.1.1 rfl rfl (Nat.le_of_ble_eq_true rfl) (c_tnF P2 (by omega) (by unfold nSp; omega) (by omega) (by omega) (Bool.eq_false_iff.mpr o1)) ?_
                rintro _ y5 ⟨rfl, E5, x5⟩
                show zG l w mX10_marks 75 [(2, .int (nI (btK true b2 b3))), (4, .int (nI 1)), (3, .int (jI (keyN t T))), (0, .ref m), (1, .int (nI f))] [.int (bI false)] y5 _
                refine g_bif_ne (tgt := 80) dX10_marks_75 (by decide) (fun dx => ?_) (fun dx => ?_)
                · cases dx
                · refine g_iconst (v := bI false) dX10_marks_78 (by decide) ?_
                  refine g_zreturn dX10_marks_79 rfl (bI_nar _) ?_
                  rw [show marksR t n f (k + 1) T M b1 b2 b3 = .inl (nuF (nxT t n T)) from by rw [marksR, if_neg c1, if_pos c2, if_neg (show ¬ b1 = true by rw [d]; decide), if_neg o1]]
                  exact ⟨rfl, E5, ((Fy.tr (FrX.f f2)).tr x5)⟩
          · refine g_aload_n 3 dX10_marks_41 rfl rfl ?_
            refine g_iconst (v := nI 5) dX10_marks_42 (by decide) ?_
            refine g_invv (M' := mX10_fails) (As := [.int (nI 5)]) (rest := []) dX10_marks_43 ml_X10_249 okX10_fails imX10_fails seX10_fails ⟨(Nat.le_of_ble_eq_true rfl), (Nat.le_of_ble_eq_true rfl)⟩ (ci := 10) rfl rfl Py.1.1.1 rfl rfl (Nat.le_of_ble_eq_true rfl) (c_failsM Py.1.1 Py.2.2.1 Py.2.2.2.1 Py.2.2.2.2.1) ?_
            rintro _ y1 ⟨rfl, fa1, fb1, f1⟩
            show zG l w mX10_marks 46 [(4, .int (nI 1)), (3, .int (jI (keyN t T))), (2, .int (nI (btK b1 b2 b3))), (0, .ref m), (1, .int (nI f))] [.int (bI false)] y1 _
            refine g_zreturn dX10_marks_46 rfl (bI_nar _) ?_
            rw [show marksR t n f (k + 1) T M b1 b2 b3 = .inl (flt T 5) from by rw [marksR, if_neg c1, if_pos c2, if_pos d]]
            exact ⟨rfl, ⟨fa1, fb1⟩, Fy.tr (FrX.f2 f1)⟩
  refine g_iconst (v := nI 0) dX10_marks_0 (by decide) ?_
  refine g_istore_n (lv2 := [(2, .int (nI 0)), (0, .ref m), (1, .int (nI f))]) dX10_marks_1 rfl (by decide) rfl ?_
  refine g_aload_n 1 dX10_marks_2 rfl rfl ?_
  refine g_invv (M' := mX10_key) (As := []) (rest := []) dX10_marks_3 ml_X10_266 okX10_key imX10_key seX10_key ⟨(Nat.le_of_ble_eq_true rfl), (Nat.le_of_ble_eq_true rfl)⟩ (ci := 10) rfl rfl P.1.1.1 rfl rfl (Nat.le_of_ble_eq_true rfl) (c_keyM P.2.1 P.2.2.1 P.2.2.2.1) ?_
  rintro _ q17 ⟨rfl, eq17⟩
  subst q17
  show zG l w mX10_marks 6 [(2, .int (nI 0)), (0, .ref m), (1, .int (nI f))] [.int (jI (keyN t T))] h _
  have kb17 := key_bd (t := t) (T := T)
  refine g_istore_n (lv2 := [(3, .int (jI (keyN t T))), (2, .int (nI 0)), (0, .ref m), (1, .int (nI f))]) dX10_marks_6 rfl (by decide) rfl ?_
  exact zG.sub [0, 1, 2, 3] rfl (loop 4 T N false false false h (by decide) P FrX.rf)
end TMR
