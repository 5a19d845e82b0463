section M6
variable {l : Launch} {w : zW} {h : zH} {m : Nat} {N : nT}
theorem c_returns (r : MoN h m N) (hF : nFit N) (hB : nBd N) {p f : Nat} (hp : p < 480) (hf : nA N (368 + 8 * p + 0) = (f : Int) + 1) (hf6 : f < 6) (hv : 100 ≤ nA N (248 + 20 * f + 5) ∧ nA N (248 + 20 * f + 5) ≤ 4000) (h7 : nA N 7 = 0 ∨ nA N 7 = 1) : zM l w mX10_returns [.ref m, .int (nI p)] h (fun v h1 => v = none ∧ MoN h1 m (retN N p) ∧ FrM m h h1) := by
  refine zM.of (by decide) (Nat.le_of_ble_eq_true rfl) ?_
  have hfl : flN N p = f := by unfold flN; rw [hf]; omega
  have hT : ∀ h' N' z, MoN h' m N' → FrM m h h' → (-2 ^ 62 ≤ z ∧ z < 2 ^ 62) → retN N p = uA (uA N' (248 + 20 * f + 5) (max 100 (min 4000 z))) (368 + 8 * p + 0) 0 → zG l w mX10_returns 203 [(3, .long (jL z)), (2, .int (nI f)), (0, .ref m), (1, .int (nI p))] [] h' (fun v h1 => v = none ∧ MoN h1 m (retN N p) ∧ FrM m h h1) := by
    intro h' N' z r' fr' hz e
    refine g_aload_n 2 dX10_returns_203 rfl rfl ?_
    refine g_iload_n 1 dX10_returns_204 rfl rfl ?_
    refine g_iconst (v := nI 5) dX10_returns_205 (by decide) ?_
    refine g_invs (M' := mX10_flow0) (As := [.int (nI f), .int (nI 5)]) (rest := [.ref m]) dX10_returns_206 ml_X10_52 okX10_flow0 stX10_flow0 ⟨(Nat.le_of_ble_eq_true rfl), (Nat.le_of_ble_eq_true rfl)⟩ rfl rfl (Nat.le_of_ble_eq_true rfl) c_flow0 ?_
    rintro _ q1 ⟨rfl, eq1⟩
    subst q1
    show zG l w mX10_returns 209 [(3, .long (jL z)), (2, .int (nI f)), (0, .ref m), (1, .int (nI p))] [.int (nI (248 + 20 * f + 5)), .ref m] h' _
    refine g_ldc2J (z := 100) dX10_returns_209 kl_X10_122 (by decide) ?_
    refine g_ldc2J (z := 4000) dX10_returns_212 kl_X10_124 (by decide) ?_
    refine g_lload_n 0 dX10_returns_215 rfl rfl ?_
    refine g_invs (M' := mJ9_min_f86c9) (As := [.long (jL 4000), .long (jL z)]) (rest := [.long (jL 100), .int (nI (248 + 20 * f + 5)), .ref m]) dX10_returns_216 ml_X10_113 okJ9_min_f86c9 stJ9_min_f86c9 ⟨(Nat.le_of_ble_eq_true rfl), (Nat.le_of_ble_eq_true rfl)⟩ rfl rfl (Nat.le_of_ble_eq_true rfl) (c_minL (by omega) (by omega)) ?_
    rintro _ q2 ⟨rfl, eq2⟩
    subst q2
    show zG l w mX10_returns 219 [(3, .long (jL z)), (2, .int (nI f)), (0, .ref m), (1, .int (nI p))] [.long (jL (min 4000 z)), .long (jL 100), .int (nI (248 + 20 * f + 5)), .ref m] h' _
    refine g_invs (M' := mJ9_max_f86c9) (As := [.long (jL 100), .long (jL (min 4000 z))]) (rest := [.int (nI (248 + 20 * f + 5)), .ref m]) dX10_returns_219 ml_X10_87 okJ9_max_f86c9 stJ9_max_f86c9 ⟨(Nat.le_of_ble_eq_true rfl), (Nat.le_of_ble_eq_true rfl)⟩ rfl rfl (Nat.le_of_ble_eq_true rfl) (c_maxL (by omega) (by omega)) ?_
    rintro _ q3 ⟨rfl, eq3⟩
    subst q3
    show zG l w mX10_returns 222 [(3, .long (jL z)), (2, .int (nI f)), (0, .ref m), (1, .int (nI p))] [.long (jL (max 100 (min 4000 z))), .int (nI (248 + 20 * f + 5)), .ref m] h' _
    refine g_invv (M' := mX10_puts) (As := [.int (nI (248 + 20 * f + 5)), .long (jL (max 100 (min 4000 z)))]) (rest := []) dX10_returns_222 ml_X10_40 okX10_puts imX10_puts seX10_puts ⟨(Nat.le_of_ble_eq_true rfl), (Nat.le_of_ble_eq_true rfl)⟩ (ci := 10) rfl rfl r'.1.1 rfl rfl (Nat.le_of_ble_eq_true rfl) (c_putsN r' (by omega) (by unfold nSp; omega)) ?_
    rintro _ y4 ⟨rfl, r4, f4⟩
    show zG l w mX10_returns 225 [(3, .long (jL z)), (2, .int (nI f)), (0, .ref m), (1, .int (nI p))] [] y4 _
    refine g_aload_n 2 dX10_returns_225 rfl rfl ?_
    refine g_iload_n 3 dX10_returns_226 rfl rfl ?_
    refine g_iconst (v := nI 0) dX10_returns_227 (by decide) ?_
    refine g_invs (M' := mX10_packet0) (As := [.int (nI p), .int (nI 0)]) (rest := [.ref m]) dX10_returns_228 ml_X10_55 okX10_packet0 stX10_packet0 ⟨(Nat.le_of_ble_eq_true rfl), (Nat.le_of_ble_eq_true rfl)⟩ rfl rfl (Nat.le_of_ble_eq_true rfl) c_packet0 ?_
    rintro _ q5 ⟨rfl, eq5⟩
    subst q5
    show zG l w mX10_returns 231 [(3, .long (jL z)), (2, .int (nI f)), (0, .ref m), (1, .int (nI p))] [.int (nI (368 + 8 * p + 0)), .ref m] y4 _
    refine g_lconst (v := jL 0) dX10_returns_231 (by decide) ?_
    refine g_invv (M' := mX10_puts) (As := [.int (nI (368 + 8 * p + 0)), .long (jL 0)]) (rest := []) dX10_returns_232 ml_X10_40 okX10_puts imX10_puts seX10_puts ⟨(Nat.le_of_ble_eq_true rfl), (Nat.le_of_ble_eq_true rfl)⟩ (ci := 10) rfl rfl r4.1.1 rfl rfl (Nat.le_of_ble_eq_true rfl) (c_putsN r4 (by omega) (by unfold nSp; omega)) ?_
    rintro _ y6 ⟨rfl, r6, f6⟩
    show zG l w mX10_returns 235 [(3, .long (jL z)), (2, .int (nI f)), (0, .ref m), (1, .int (nI p))] [] y6 _
    refine g_return dX10_returns_235 rfl ?_
    rw [e]
    exact ⟨rfl, r6, ((fr'.tr f4).tr f6)⟩
  refine g_aload_n 0 dX10_returns_0 rfl rfl ?_
  refine g_iload_n 1 dX10_returns_1 rfl rfl ?_
  refine g_invv (M' := mX10_flowOf) (As := [.int (nI p)]) (rest := []) dX10_returns_2 ml_X10_79 okX10_flowOf imX10_flowOf seX10_flowOf ⟨(Nat.le_of_ble_eq_true rfl), (Nat.le_of_ble_eq_true rfl)⟩ (ci := 10) rfl rfl r.1.1 rfl rfl (Nat.le_of_ble_eq_true rfl) (c_flowOf r hp hf) ?_
  rintro _ q7 ⟨rfl, eq7⟩
  subst q7
  show zG l w mX10_returns 5 [(0, .ref m), (1, .int (nI p))] [.int (nI f)] h _
  refine g_istore_n (lv2 := [(2, .int (nI f)), (0, .ref m), (1, .int (nI p))]) dX10_returns_5 rfl (by decide) rfl ?_
  refine g_aload_n 1 dX10_returns_6 rfl rfl ?_
  refine g_iload_n 0 dX10_returns_7 rfl rfl ?_
  refine g_iconst (v := nI 5) dX10_returns_8 (by decide) ?_
  refine g_invv (M' := mX10_ofFlow) (As := [.int (nI f), .int (nI 5)]) (rest := []) dX10_returns_9 ml_X10_62 okX10_ofFlow imX10_ofFlow seX10_ofFlow ⟨(Nat.le_of_ble_eq_true rfl), (Nat.le_of_ble_eq_true rfl)⟩ (ci := 10) rfl rfl r.1.1 rfl rfl (Nat.le_of_ble_eq_true rfl) (c_ofFlowN r (by omega)) ?_
  rintro _ q8 ⟨rfl, eq8⟩
  subst q8
  show zG l w mX10_returns 12 [(2, .int (nI f)), (0, .ref m), (1, .int (nI p))] [.long (jL (nA N (248 + 20 * f + 5)))] h _
  refine g_lstore_n (lv2 := [(3, .long (jL (nA N (248 + 20 * f + 5)))), (2, .int (nI f)), (0, .ref m), (1, .int (nI p))]) dX10_returns_12 rfl (by decide) rfl ?_
  refine g_aload_n 2 dX10_returns_13 rfl rfl ?_
  refine g_iload_n 1 dX10_returns_14 rfl rfl ?_
  refine g_bipush (v := nI 6) dX10_returns_15 (by decide) ?_
  refine g_invs (M' := mX10_flow0) (As := [.int (nI f), .int (nI 6)]) (rest := [.ref m]) dX10_returns_17 ml_X10_52 okX10_flow0 stX10_flow0 ⟨(Nat.le_of_ble_eq_true rfl), (Nat.le_of_ble_eq_true rfl)⟩ rfl rfl (Nat.le_of_ble_eq_true rfl) c_flow0 ?_
  rintro _ q9 ⟨rfl, eq9⟩
  subst q9
  show zG l w mX10_returns 20 [(3, .long (jL (nA N (248 + 20 * f + 5)))), (2, .int (nI f)), (0, .ref m), (1, .int (nI p))] [.int (nI (248 + 20 * f + 6)), .ref m] h _
  refine g_ldc2J (z := (-1)) dX10_returns_20 kl_X10_74 (by decide) ?_
  refine g_invv (M' := mX10_adds) (As := [.int (nI (248 + 20 * f + 6)), .long (jL (-1))]) (rest := []) dX10_returns_23 ml_X10_76 okX10_adds imX10_adds seX10_adds ⟨(Nat.le_of_ble_eq_true rfl), (Nat.le_of_ble_eq_true rfl)⟩ (ci := 10) rfl rfl r.1.1 rfl rfl (Nat.le_of_ble_eq_true rfl) (c_addsN r (by omega) (by unfold nSp; omega)) ?_
  rintro _ y10 ⟨rfl, r10, f10⟩
  show zG l w mX10_returns 26 [(3, .long (jL (nA N (248 + 20 * f + 5)))), (2, .int (nI f)), (0, .ref m), (1, .int (nI p))] [] y10 _
  refine g_aload_n 2 dX10_returns_26 rfl rfl ?_
  refine g_iload_n 1 dX10_returns_27 rfl rfl ?_
  refine g_bipush (v := nI 7) dX10_returns_28 (by decide) ?_
  refine g_invs (M' := mX10_flow0) (As := [.int (nI f), .int (nI 7)]) (rest := [.ref m]) dX10_returns_30 ml_X10_52 okX10_flow0 stX10_flow0 ⟨(Nat.le_of_ble_eq_true rfl), (Nat.le_of_ble_eq_true rfl)⟩ rfl rfl (Nat.le_of_ble_eq_true rfl) c_flow0 ?_
  rintro _ q11 ⟨rfl, eq11⟩
  subst q11
  show zG l w mX10_returns 33 [(3, .long (jL (nA N (248 + 20 * f + 5)))), (2, .int (nI f)), (0, .ref m), (1, .int (nI p))] [.int (nI (248 + 20 * f + 7)), .ref m] y10 _
  refine g_aload_n 2 dX10_returns_33 rfl rfl ?_
  refine g_iconst (v := nI 2) dX10_returns_34 (by decide) ?_
  refine g_invv (M' := mX10_of) (As := [.int (nI 2)]) (rest := [.int (nI (248 + 20 * f + 7)), .ref m]) dX10_returns_35 ml_X10_48 okX10_of imX10_of seX10_of ⟨(Nat.le_of_ble_eq_true rfl), (Nat.le_of_ble_eq_true rfl)⟩ (ci := 10) rfl rfl r10.1.1 rfl rfl (Nat.le_of_ble_eq_true rfl) (c_ofN r10 (by omega) (by unfold nSp; omega)) ?_
  rintro _ q12 ⟨rfl, eq12⟩
  subst q12
  show zG l w mX10_returns 38 [(3, .long (jL (nA N (248 + 20 * f + 5)))), (2, .int (nI f)), (0, .ref m), (1, .int (nI p))] [.long (jL (nA (uA N (248 + 20 * f + 6) (nA N (248 + 20 * f + 6) + -1)) 2)), .int (nI (248 + 20 * f + 7)), .ref m] y10 _
  rw [show nA (uA N (248 + 20 * f + 6) (nA N (248 + 20 * f + 6) + -1)) 2 = nA N 2 by rw [nA_ne (by omega)]]
  refine g_aload_n 2 dX10_returns_38 rfl rfl ?_
  refine g_iload_n 3 dX10_returns_39 rfl rfl ?_
  refine g_iconst (v := nI 1) dX10_returns_40 (by decide) ?_
  refine g_invs (M' := mX10_packet0) (As := [.int (nI p), .int (nI 1)]) (rest := [.ref m, .long (jL (nA N 2)), .int (nI (248 + 20 * f + 7)), .ref m]) dX10_returns_41 ml_X10_55 okX10_packet0 stX10_packet0 ⟨(Nat.le_of_ble_eq_true rfl), (Nat.le_of_ble_eq_true rfl)⟩ rfl rfl (Nat.le_of_ble_eq_true rfl) c_packet0 ?_
  rintro _ q13 ⟨rfl, eq13⟩
  subst q13
  show zG l w mX10_returns 44 [(3, .long (jL (nA N (248 + 20 * f + 5)))), (2, .int (nI f)), (0, .ref m), (1, .int (nI p))] [.int (nI (368 + 8 * p + 1)), .ref m, .long (jL (nA N 2)), .int (nI (248 + 20 * f + 7)), .ref m] y10 _
  refine g_invv (M' := mX10_of) (As := [.int (nI (368 + 8 * p + 1))]) (rest := [.long (jL (nA N 2)), .int (nI (248 + 20 * f + 7)), .ref m]) dX10_returns_44 ml_X10_48 okX10_of imX10_of seX10_of ⟨(Nat.le_of_ble_eq_true rfl), (Nat.le_of_ble_eq_true rfl)⟩ (ci := 10) rfl rfl r10.1.1 rfl rfl (Nat.le_of_ble_eq_true rfl) (c_ofN r10 (by omega) (by unfold nSp; omega)) ?_
  rintro _ q14 ⟨rfl, eq14⟩
  subst q14
  show zG l w mX10_returns 47 [(3, .long (jL (nA N (248 + 20 * f + 5)))), (2, .int (nI f)), (0, .ref m), (1, .int (nI p))] [.long (jL (nA (uA N (248 + 20 * f + 6) (nA N (248 + 20 * f + 6) + -1)) (368 + 8 * p + 1))), .long (jL (nA N 2)), .int (nI (248 + 20 * f + 7)), .ref m] y10 _
  rw [show nA (uA N (248 + 20 * f + 6) (nA N (248 + 20 * f + 6) + -1)) (368 + 8 * p + 1) = nA N (368 + 8 * p + 1) by rw [nA_ne (by omega)]]
  refine g_lsub dX10_returns_47 ?_
  rw [jL_sub]
  refine g_invv (M' := mX10_puts) (As := [.int (nI (248 + 20 * f + 7)), .long (jL ((nA N 2) - (nA N (368 + 8 * p + 1))))]) (rest := []) dX10_returns_48 ml_X10_40 okX10_puts imX10_puts seX10_puts ⟨(Nat.le_of_ble_eq_true rfl), (Nat.le_of_ble_eq_true rfl)⟩ (ci := 10) rfl rfl r10.1.1 rfl rfl (Nat.le_of_ble_eq_true rfl) (c_putsN r10 (by omega) (by unfold nSp; omega)) ?_
  rintro _ y15 ⟨rfl, r15, f15⟩
  show zG l w mX10_returns 51 [(3, .long (jL (nA N (248 + 20 * f + 5)))), (2, .int (nI f)), (0, .ref m), (1, .int (nI p))] [] y15 _
  refine g_aload_n 2 dX10_returns_51 rfl rfl ?_
  refine g_iload_n 3 dX10_returns_52 rfl rfl ?_
  refine g_bipush (v := nI 7) dX10_returns_53 (by decide) ?_
  refine g_invs (M' := mX10_packet0) (As := [.int (nI p), .int (nI 7)]) (rest := [.ref m]) dX10_returns_55 ml_X10_55 okX10_packet0 stX10_packet0 ⟨(Nat.le_of_ble_eq_true rfl), (Nat.le_of_ble_eq_true rfl)⟩ rfl rfl (Nat.le_of_ble_eq_true rfl) c_packet0 ?_
  rintro _ q16 ⟨rfl, eq16⟩
  subst q16
  show zG l w mX10_returns 58 [(3, .long (jL (nA N (248 + 20 * f + 5)))), (2, .int (nI f)), (0, .ref m), (1, .int (nI p))] [.int (nI (368 + 8 * p + 7)), .ref m] y15 _
  refine g_invv (M' := mX10_of) (As := [.int (nI (368 + 8 * p + 7))]) (rest := []) dX10_returns_58 ml_X10_48 okX10_of imX10_of seX10_of ⟨(Nat.le_of_ble_eq_true rfl), (Nat.le_of_ble_eq_true rfl)⟩ (ci := 10) rfl rfl r15.1.1 rfl rfl (Nat.le_of_ble_eq_true rfl) (c_ofN r15 (by omega) (by unfold nSp; omega)) ?_
  rintro _ q17 ⟨rfl, eq17⟩
  subst q17
  show zG l w mX10_returns 61 [(3, .long (jL (nA N (248 + 20 * f + 5)))), (2, .int (nI f)), (0, .ref m), (1, .int (nI p))] [.long (jL (nA (uA (uA N (248 + 20 * f + 6) (nA N (248 + 20 * f + 6) + -1)) (248 + 20 * f + 7) ((nA N 2) - (nA N (368 + 8 * p + 1)))) (368 + 8 * p + 7)))] y15 _
  rw [show nA (uA (uA N (248 + 20 * f + 6) (nA N (248 + 20 * f + 6) + -1)) (248 + 20 * f + 7) ((nA N 2) - (nA N (368 + 8 * p + 1)))) (368 + 8 * p + 7) = nA N (368 + 8 * p + 7) by rw [nA_ne (by omega), nA_ne (by omega)]]
  refine g_lconst (v := jL 1) dX10_returns_61 (by decide) ?_
  have b18 := hB (368 + 8 * p + 7) (by omega)
  refine g_lif_ne (a := (nA N (368 + 8 * p + 7))) (b := 1) (tgt := 109) dX10_returns_62 rfl dX10_returns_63 (by decide) (by omega) (by omega) (fun c => ?_) (fun c => ?_)
  · have hb7 : zi y15 323 m = jI (nA N 7) := by
      have b := r15.2.2.1
      rwa [nA_ne (by omega), nA_ne (by omega)] at b
    have bd2 := hB (248 + 20 * f + 2) (by omega)
    have bd5 := hB (368 + 8 * p + 5) (by omega)
    have hD : ∀ d, d = (if nA N 7 = 1 then 10000 / nA N (248 + 20 * f + 5) else nA N (368 + 8 * p + 5)) → (-17592186044416 ≤ d ∧ d < 17592186044416) → zG l w mX10_returns 133 [(3, .long (jL (nA N (248 + 20 * f + 5)))), (2, .int (nI f)), (0, .ref m), (1, .int (nI p))] [.long (jL d)] y15 (fun v h1 => v = none ∧ MoN h1 m (retN N p) ∧ FrM m h h1) := by
      intro d hd bd
      refine g_lstore (lv2 := [(5, .long (jL d)), (3, .long (jL (nA N (248 + 20 * f + 5)))), (2, .int (nI f)), (0, .ref m), (1, .int (nI p))]) dX10_returns_133 (by decide) rfl ?_
      refine g_aload_n 3 dX10_returns_135 rfl rfl ?_
      refine g_iload_n 2 dX10_returns_136 rfl rfl ?_
      refine g_bipush (v := nI 9) dX10_returns_137 (by decide) ?_
      refine g_invs (M' := mX10_flow0) (As := [.int (nI f), .int (nI 9)]) (rest := [.ref m]) dX10_returns_139 ml_X10_52 okX10_flow0 stX10_flow0 ⟨(Nat.le_of_ble_eq_true rfl), (Nat.le_of_ble_eq_true rfl)⟩ rfl rfl (Nat.le_of_ble_eq_true rfl) c_flow0 ?_
      rintro _ q26 ⟨rfl, eq26⟩
      subst q26
      show zG l w mX10_returns 142 [(5, .long (jL d)), (3, .long (jL (nA N (248 + 20 * f + 5)))), (2, .int (nI f)), (0, .ref m), (1, .int (nI p))] [.int (nI (248 + 20 * f + 9)), .ref m] y15 _
      refine g_lconst (v := jL 1) dX10_returns_142 (by decide) ?_
      refine g_invv (M' := mX10_adds) (As := [.int (nI (248 + 20 * f + 9)), .long (jL 1)]) (rest := []) dX10_returns_143 ml_X10_76 okX10_adds imX10_adds seX10_adds ⟨(Nat.le_of_ble_eq_true rfl), (Nat.le_of_ble_eq_true rfl)⟩ (ci := 10) rfl rfl r15.1.1 rfl rfl (Nat.le_of_ble_eq_true rfl) (c_addsN r15 (by omega) (by unfold nSp; omega)) ?_
      rintro _ y27 ⟨rfl, r27, f27⟩
      rw [show nA (uA (uA N (248 + 20 * f + 6) (nA N (248 + 20 * f + 6) + -1)) (248 + 20 * f + 7) ((nA N 2) - (nA N (368 + 8 * p + 1)))) (248 + 20 * f + 9) = nA N (248 + 20 * f + 9) by rw [nA_ne (by omega), nA_ne (by omega)]] at r27
      show zG l w mX10_returns 146 [(5, .long (jL d)), (3, .long (jL (nA N (248 + 20 * f + 5)))), (2, .int (nI f)), (0, .ref m), (1, .int (nI p))] [] y27 _
      refine g_lload_n 1 dX10_returns_146 rfl rfl ?_
      refine g_aload_n 3 dX10_returns_147 rfl rfl ?_
      refine g_iload_n 2 dX10_returns_148 rfl rfl ?_
      refine g_iconst (v := nI 2) dX10_returns_149 (by decide) ?_
      refine g_invv (M' := mX10_ofFlow) (As := [.int (nI f), .int (nI 2)]) (rest := [.long (jL (nA N (248 + 20 * f + 5)))]) dX10_returns_150 ml_X10_62 okX10_ofFlow imX10_ofFlow seX10_ofFlow ⟨(Nat.le_of_ble_eq_true rfl), (Nat.le_of_ble_eq_true rfl)⟩ (ci := 10) rfl rfl r27.1.1 rfl rfl (Nat.le_of_ble_eq_true rfl) (c_ofFlowN r27 (by omega)) ?_
      rintro _ q28 ⟨rfl, eq28⟩
      subst q28
      show zG l w mX10_returns 153 [(5, .long (jL d)), (3, .long (jL (nA N (248 + 20 * f + 5)))), (2, .int (nI f)), (0, .ref m), (1, .int (nI p))] [.long (jL (nA (uA (uA (uA N (248 + 20 * f + 6) (nA N (248 + 20 * f + 6) + -1)) (248 + 20 * f + 7) ((nA N 2) - (nA N (368 + 8 * p + 1)))) (248 + 20 * f + 9) (nA N (248 + 20 * f + 9) + 1)) (248 + 20 * f + 2))), .long (jL (nA N (248 + 20 * f + 5)))] y27 _
      rw [show nA (uA (uA (uA N (248 + 20 * f + 6) (nA N (248 + 20 * f + 6) + -1)) (248 + 20 * f + 7) ((nA N 2) - (nA N (368 + 8 * p + 1)))) (248 + 20 * f + 9) (nA N (248 + 20 * f + 9) + 1)) (248 + 20 * f + 2) = nA N (248 + 20 * f + 2) by rw [nA_ne (by omega), nA_ne (by omega), nA_ne (by omega)]]
      refine g_lconst (v := jL 1) dX10_returns_153 (by decide) ?_
      have hE : ∀ e, e = (if nA N (248 + 20 * f + 2) = 1 ∧ d < 0 then 0 else d) → zG l w mX10_returns 171 [(5, .long (jL d)), (3, .long (jL (nA N (248 + 20 * f + 5)))), (2, .int (nI f)), (0, .ref m), (1, .int (nI p))] [.long (jL e), .long (jL (nA N (248 + 20 * f + 5)))] y27 (fun v h1 => v = none ∧ MoN h1 m (retN N p) ∧ FrM m h h1) := by
        intro e he
        have be : -17592186044416 ≤ e ∧ e < 17592186044416 := by rw [he]; split <;> omega
        refine g_ladd dX10_returns_171 ?_
        rw [jL_add]
        refine g_lstore_n (lv2 := [(3, .long (jL ((nA N (248 + 20 * f + 5)) + e))), (5, .long (jL d)), (2, .int (nI f)), (0, .ref m), (1, .int (nI p))]) dX10_returns_172 rfl (by decide) rfl ?_
        refine g_aload_n 3 dX10_returns_173 rfl rfl ?_
        refine g_iload_n 2 dX10_returns_174 rfl rfl ?_
        refine g_iconst (v := nI 1) dX10_returns_175 (by decide) ?_
        refine g_invv (M' := mX10_ofFlow) (As := [.int (nI f), .int (nI 1)]) (rest := []) dX10_returns_176 ml_X10_62 okX10_ofFlow imX10_ofFlow seX10_ofFlow ⟨(Nat.le_of_ble_eq_true rfl), (Nat.le_of_ble_eq_true rfl)⟩ (ci := 10) rfl rfl r27.1.1 rfl rfl (Nat.le_of_ble_eq_true rfl) (c_ofFlowN r27 (by omega)) ?_
        rintro _ q29 ⟨rfl, eq29⟩
        subst q29
        show zG l w mX10_returns 179 [(3, .long (jL ((nA N (248 + 20 * f + 5)) + e))), (5, .long (jL d)), (2, .int (nI f)), (0, .ref m), (1, .int (nI p))] [.long (jL (nA (uA (uA (uA N (248 + 20 * f + 6) (nA N (248 + 20 * f + 6) + -1)) (248 + 20 * f + 7) ((nA N 2) - (nA N (368 + 8 * p + 1)))) (248 + 20 * f + 9) (nA N (248 + 20 * f + 9) + 1)) (248 + 20 * f + 1)))] y27 _
        rw [show nA (uA (uA (uA N (248 + 20 * f + 6) (nA N (248 + 20 * f + 6) + -1)) (248 + 20 * f + 7) ((nA N 2) - (nA N (368 + 8 * p + 1)))) (248 + 20 * f + 9) (nA N (248 + 20 * f + 9) + 1)) (248 + 20 * f + 1) = nA N (248 + 20 * f + 1) by rw [nA_ne (by omega), nA_ne (by omega), nA_ne (by omega)]]
        refine g_lconst (v := jL 0) dX10_returns_179 (by decide) ?_
        have b30 := hB (248 + 20 * f + 1) (by omega)
        refine g_lif_ne (a := (nA N (248 + 20 * f + 1))) (b := 0) (tgt := 203) dX10_returns_180 rfl dX10_returns_181 (by decide) (by omega) (by omega) (fun c1 => ?_) (fun c1 => ?_)
        · refine zG.sub [0, 2, 3, 4] rfl (hT _ _ (nA N (248 + 20 * f + 5) + e) r27 (((FrM.rf.tr f10).tr f15).tr f27) (by omega) ?_)
          unfold retN
          rw [hfl, if_neg c]
          simp only []
          rw [if_neg (fun q => c1 q.1), ← hd, ← he]
          rfl
        · refine g_aload_n 3 dX10_returns_184 rfl rfl ?_
          refine g_iload_n 2 dX10_returns_185 rfl rfl ?_
          refine g_bipush (v := nI 6) dX10_returns_186 (by decide) ?_
          refine g_invv (M' := mX10_ofFlow) (As := [.int (nI f), .int (nI 6)]) (rest := []) dX10_returns_188 ml_X10_62 okX10_ofFlow imX10_ofFlow seX10_ofFlow ⟨(Nat.le_of_ble_eq_true rfl), (Nat.le_of_ble_eq_true rfl)⟩ (ci := 10) rfl rfl r27.1.1 rfl rfl (Nat.le_of_ble_eq_true rfl) (c_ofFlowN r27 (by omega)) ?_
          rintro _ q31 ⟨rfl, eq31⟩
          subst q31
          show zG l w mX10_returns 191 [(3, .long (jL ((nA N (248 + 20 * f + 5)) + e))), (5, .long (jL d)), (2, .int (nI f)), (0, .ref m), (1, .int (nI p))] [.long (jL (nA (uA (uA (uA N (248 + 20 * f + 6) (nA N (248 + 20 * f + 6) + -1)) (248 + 20 * f + 7) ((nA N 2) - (nA N (368 + 8 * p + 1)))) (248 + 20 * f + 9) (nA N (248 + 20 * f + 9) + 1)) (248 + 20 * f + 6)))] y27 _
          rw [show nA (uA (uA (uA N (248 + 20 * f + 6) (nA N (248 + 20 * f + 6) + -1)) (248 + 20 * f + 7) ((nA N 2) - (nA N (368 + 8 * p + 1)))) (248 + 20 * f + 9) (nA N (248 + 20 * f + 9) + 1)) (248 + 20 * f + 6) = nA N (248 + 20 * f + 6) + -1 by rw [nA_ne (by omega), nA_ne (by omega), nA_eq]]
          refine g_lconst (v := jL 0) dX10_returns_191 (by decide) ?_
          have b32 := hB (248 + 20 * f + 6) (by omega)
          refine g_lif_ne (a := (nA N (248 + 20 * f + 6) + -1)) (b := 0) (tgt := 203) dX10_returns_192 rfl dX10_returns_193 (by decide) (by omega) (by omega) (fun c2 => ?_) (fun c2 => ?_)
          · refine zG.sub [0, 2, 3, 4] rfl (hT _ _ (nA N (248 + 20 * f + 5) + e) r27 (((FrM.rf.tr f10).tr f15).tr f27) (by omega) ?_)
            unfold retN
            rw [hfl, if_neg c]
            simp only []
            rw [if_neg (fun q => c2 (by omega)), ← hd, ← he]
            rfl
          · refine g_aload_n 3 dX10_returns_196 rfl rfl ?_
            refine g_iconst (v := nI 4) dX10_returns_197 (by decide) ?_
            refine g_iconst (v := (-1)) dX10_returns_198 (by decide) ?_
            refine g_iload_n 2 dX10_returns_199 rfl rfl ?_
            refine g_invv (M' := mX10_happens) (As := [.int (nI 4), .int (-1), .int (nI f)]) (rest := []) dX10_returns_200 ml_X10_100 okX10_happens imX10_happens seX10_happens ⟨(Nat.le_of_ble_eq_true rfl), (Nat.le_of_ble_eq_true rfl)⟩ (ci := 10) rfl rfl r27.1.1 rfl rfl (Nat.le_of_ble_eq_true rfl) (c_hapM (k := 4) r27 (nFit_uA (nFit_uA (nFit_uA hF))) (by omega) (by omega)) ?_
            rintro _ y33 ⟨rfl, r33, f33⟩
            show zG l w mX10_returns 203 [(3, .long (jL ((nA N (248 + 20 * f + 5)) + e))), (5, .long (jL d)), (2, .int (nI f)), (0, .ref m), (1, .int (nI p))] [] y33 _
            refine zG.sub [0, 2, 3, 4] rfl (hT _ _ (nA N (248 + 20 * f + 5) + e) r33 ((((FrM.rf.tr f10).tr f15).tr f27).tr f33) (by omega) ?_)
            unfold retN
            rw [hfl, if_neg c]
            simp only []
            rw [if_pos (⟨c1, by omega⟩), ← hd, ← he]
            rfl
      have b34 := hB (248 + 20 * f + 2) (by omega)
      refine g_lif_ne (a := (nA N (248 + 20 * f + 2))) (b := 1) (tgt := 169) dX10_returns_154 rfl dX10_returns_155 (by decide) (by omega) (by omega) (fun c1 => ?_) (fun c1 => ?_)
      · refine g_lload 0 dX10_returns_169 rfl ?_
        exact hE d (by rw [if_neg (fun q => c1 q.1)])
      · refine g_lload 0 dX10_returns_158 rfl ?_
        refine g_lconst (v := jL 0) dX10_returns_160 (by decide) ?_
        refine g_lif_ge (a := d) (b := 0) (tgt := 169) dX10_returns_161 rfl dX10_returns_162 (by decide) (by omega) (by omega) (fun c2 => ?_) (fun c2 => ?_)
        · refine g_lload 0 dX10_returns_169 rfl ?_
          exact hE d (by rw [if_neg (by omega)])
        · refine g_lconst (v := jL 0) dX10_returns_165 (by decide) ?_
          refine g_goto (tgt := 171) dX10_returns_166 (by decide) ?_
          exact hE 0 (by rw [if_pos ⟨c1, by omega⟩])
    refine g_aload_n 2 dX10_returns_109 rfl rfl ?_
    refine g_geti (f := 323) dX10_returns_110 fl_X10_118 r15.1.1 (by decide) rfl ?_
    refine g_if_eq (tgt := 124) dX10_returns_113 (by decide) (fun c3 => ?_) (fun c3 => ?_)
    · refine g_aload_n 2 dX10_returns_124 rfl rfl ?_
      refine g_iload_n 3 dX10_returns_125 rfl rfl ?_
      refine g_iconst (v := nI 5) dX10_returns_126 (by decide) ?_
      refine g_invs (M' := mX10_packet0) (As := [.int (nI p), .int (nI 5)]) (rest := [.ref m]) dX10_returns_127 ml_X10_55 okX10_packet0 stX10_packet0 ⟨(Nat.le_of_ble_eq_true rfl), (Nat.le_of_ble_eq_true rfl)⟩ rfl rfl (Nat.le_of_ble_eq_true rfl) c_packet0 ?_
      rintro _ q35 ⟨rfl, eq35⟩
      subst q35
      show zG l w mX10_returns 130 [(3, .long (jL (nA N (248 + 20 * f + 5)))), (2, .int (nI f)), (0, .ref m), (1, .int (nI p))] [.int (nI (368 + 8 * p + 5)), .ref m] y15 _
      refine g_invv (M' := mX10_of) (As := [.int (nI (368 + 8 * p + 5))]) (rest := []) dX10_returns_130 ml_X10_48 okX10_of imX10_of seX10_of ⟨(Nat.le_of_ble_eq_true rfl), (Nat.le_of_ble_eq_true rfl)⟩ (ci := 10) rfl rfl r15.1.1 rfl rfl (Nat.le_of_ble_eq_true rfl) (c_ofN r15 (by omega) (by unfold nSp; omega)) ?_
      rintro _ q36 ⟨rfl, eq36⟩
      subst q36
      show zG l w mX10_returns 133 [(3, .long (jL (nA N (248 + 20 * f + 5)))), (2, .int (nI f)), (0, .ref m), (1, .int (nI p))] [.long (jL (nA (uA (uA N (248 + 20 * f + 6) (nA N (248 + 20 * f + 6) + -1)) (248 + 20 * f + 7) ((nA N 2) - (nA N (368 + 8 * p + 1)))) (368 + 8 * p + 5)))] y15 _
      rw [show nA (uA (uA N (248 + 20 * f + 6) (nA N (248 + 20 * f + 6) + -1)) (248 + 20 * f + 7) ((nA N 2) - (nA N (368 + 8 * p + 1)))) (368 + 8 * p + 5) = nA N (368 + 8 * p + 5) by rw [nA_ne (by omega), nA_ne (by omega)]]
      refine hD _ ?_ bd5
      rw [if_neg]
      intro q
      rw [hb7, q] at c3
      exact absurd c3 (by decide)
    · have e7 : nA N 7 = 1 := by
        rcases h7 with q | q
        · exact absurd (by rw [hb7, q]; rfl) c3
        · exact q
      have dv : 0 ≤ 10000 / nA N (248 + 20 * f + 5) := Int.ediv_nonneg (by omega) (by omega)
      have dv2 : 10000 / nA N (248 + 20 * f + 5) ≤ 10000 := Int.ediv_le_self _ (by omega)
      refine g_ldc2J (z := 10000) dX10_returns_116 kl_X10_85 (by decide) ?_
      refine g_lload_n 0 dX10_returns_119 rfl rfl ?_
      refine g_ldiv dX10_returns_120 (jL_ne0 (by omega)) ?_
      rw [jL_div (by omega) (by omega)]
      refine g_goto (tgt := 133) dX10_returns_121 (by decide) ?_
      exact hD _ (by rw [if_pos e7]) (by omega)
  · refine g_aload_n 2 dX10_returns_66 rfl rfl ?_
    refine g_iload_n 1 dX10_returns_67 rfl rfl ?_
    refine g_bipush (v := nI 10) dX10_returns_68 (by decide) ?_
    refine g_invs (M' := mX10_flow0) (As := [.int (nI f), .int (nI 10)]) (rest := [.ref m]) dX10_returns_70 ml_X10_52 okX10_flow0 stX10_flow0 ⟨(Nat.le_of_ble_eq_true rfl), (Nat.le_of_ble_eq_true rfl)⟩ rfl rfl (Nat.le_of_ble_eq_true rfl) c_flow0 ?_
    rintro _ q19 ⟨rfl, eq19⟩
    subst q19
    show zG l w mX10_returns 73 [(3, .long (jL (nA N (248 + 20 * f + 5)))), (2, .int (nI f)), (0, .ref m), (1, .int (nI p))] [.int (nI (248 + 20 * f + 10)), .ref m] y15 _
    refine g_lconst (v := jL 1) dX10_returns_73 (by decide) ?_
    refine g_invv (M' := mX10_adds) (As := [.int (nI (248 + 20 * f + 10)), .long (jL 1)]) (rest := []) dX10_returns_74 ml_X10_76 okX10_adds imX10_adds seX10_adds ⟨(Nat.le_of_ble_eq_true rfl), (Nat.le_of_ble_eq_true rfl)⟩ (ci := 10) rfl rfl r15.1.1 rfl rfl (Nat.le_of_ble_eq_true rfl) (c_addsN r15 (by omega) (by unfold nSp; omega)) ?_
    rintro _ y20 ⟨rfl, r20, f20⟩
    rw [show nA (uA (uA N (248 + 20 * f + 6) (nA N (248 + 20 * f + 6) + -1)) (248 + 20 * f + 7) ((nA N 2) - (nA N (368 + 8 * p + 1)))) (248 + 20 * f + 10) = nA N (248 + 20 * f + 10) by rw [nA_ne (by omega), nA_ne (by omega)]] at r20
    show zG l w mX10_returns 77 [(3, .long (jL (nA N (248 + 20 * f + 5)))), (2, .int (nI f)), (0, .ref m), (1, .int (nI p))] [] y20 _
    refine g_aload_n 2 dX10_returns_77 rfl rfl ?_
    refine g_iload_n 1 dX10_returns_78 rfl rfl ?_
    refine g_iconst (v := nI 1) dX10_returns_79 (by decide) ?_
    refine g_invs (M' := mX10_flow0) (As := [.int (nI f), .int (nI 1)]) (rest := [.ref m]) dX10_returns_80 ml_X10_52 okX10_flow0 stX10_flow0 ⟨(Nat.le_of_ble_eq_true rfl), (Nat.le_of_ble_eq_true rfl)⟩ rfl rfl (Nat.le_of_ble_eq_true rfl) c_flow0 ?_
    rintro _ q21 ⟨rfl, eq21⟩
    subst q21
    show zG l w mX10_returns 83 [(3, .long (jL (nA N (248 + 20 * f + 5)))), (2, .int (nI f)), (0, .ref m), (1, .int (nI p))] [.int (nI (248 + 20 * f + 1)), .ref m] y20 _
    refine g_ldc2J (z := 9999) dX10_returns_83 kl_X10_111 (by decide) ?_
    refine g_aload_n 2 dX10_returns_86 rfl rfl ?_
    refine g_iload_n 1 dX10_returns_87 rfl rfl ?_
    refine g_iconst (v := nI 1) dX10_returns_88 (by decide) ?_
    refine g_invv (M' := mX10_ofFlow) (As := [.int (nI f), .int (nI 1)]) (rest := [.long (jL 9999), .int (nI (248 + 20 * f + 1)), .ref m]) dX10_returns_89 ml_X10_62 okX10_ofFlow imX10_ofFlow seX10_ofFlow ⟨(Nat.le_of_ble_eq_true rfl), (Nat.le_of_ble_eq_true rfl)⟩ (ci := 10) rfl rfl r20.1.1 rfl rfl (Nat.le_of_ble_eq_true rfl) (c_ofFlowN r20 (by omega)) ?_
    rintro _ q22 ⟨rfl, eq22⟩
    subst q22
    show zG l w mX10_returns 92 [(3, .long (jL (nA N (248 + 20 * f + 5)))), (2, .int (nI f)), (0, .ref m), (1, .int (nI p))] [.long (jL (nA (uA (uA (uA N (248 + 20 * f + 6) (nA N (248 + 20 * f + 6) + -1)) (248 + 20 * f + 7) ((nA N 2) - (nA N (368 + 8 * p + 1)))) (248 + 20 * f + 10) (nA N (248 + 20 * f + 10) + 1)) (248 + 20 * f + 1))), .long (jL 9999), .int (nI (248 + 20 * f + 1)), .ref m] y20 _
    rw [show nA (uA (uA (uA N (248 + 20 * f + 6) (nA N (248 + 20 * f + 6) + -1)) (248 + 20 * f + 7) ((nA N 2) - (nA N (368 + 8 * p + 1)))) (248 + 20 * f + 10) (nA N (248 + 20 * f + 10) + 1)) (248 + 20 * f + 1) = nA N (248 + 20 * f + 1) by rw [nA_ne (by omega), nA_ne (by omega), nA_ne (by omega)]]
    refine g_lconst (v := jL 1) dX10_returns_92 (by decide) ?_
    refine g_ladd dX10_returns_93 ?_
    rw [jL_add]
    have b23 := hB (248 + 20 * f + 1) (by omega)
    refine g_invs (M' := mJ9_min_f86c9) (As := [.long (jL 9999), .long (jL ((nA N (248 + 20 * f + 1)) + 1))]) (rest := [.int (nI (248 + 20 * f + 1)), .ref m]) dX10_returns_94 ml_X10_113 okJ9_min_f86c9 stJ9_min_f86c9 ⟨(Nat.le_of_ble_eq_true rfl), (Nat.le_of_ble_eq_true rfl)⟩ rfl rfl (Nat.le_of_ble_eq_true rfl) (c_minL (by omega) (by omega)) ?_
    rintro _ q24 ⟨rfl, eq24⟩
    subst q24
    show zG l w mX10_returns 97 [(3, .long (jL (nA N (248 + 20 * f + 5)))), (2, .int (nI f)), (0, .ref m), (1, .int (nI p))] [.long (jL (min 9999 ((nA N (248 + 20 * f + 1)) + 1))), .int (nI (248 + 20 * f + 1)), .ref m] y20 _
    refine g_invv (M' := mX10_puts) (As := [.int (nI (248 + 20 * f + 1)), .long (jL (min 9999 ((nA N (248 + 20 * f + 1)) + 1)))]) (rest := []) dX10_returns_97 ml_X10_40 okX10_puts imX10_puts seX10_puts ⟨(Nat.le_of_ble_eq_true rfl), (Nat.le_of_ble_eq_true rfl)⟩ (ci := 10) rfl rfl r20.1.1 rfl rfl (Nat.le_of_ble_eq_true rfl) (c_putsN r20 (by omega) (by unfold nSp; omega)) ?_
    rintro _ y25 ⟨rfl, r25, f25⟩
    show zG l w mX10_returns 100 [(3, .long (jL (nA N (248 + 20 * f + 5)))), (2, .int (nI f)), (0, .ref m), (1, .int (nI p))] [] y25 _
    refine g_lload_n 0 dX10_returns_100 rfl rfl ?_
    refine g_ldc2J (z := 2) dX10_returns_101 kl_X10_116 (by decide) ?_
    refine g_ldiv dX10_returns_104 (jL_ne0 (by omega)) ?_
    rw [jL_div (by omega) (by omega)]
    refine g_lstore_n (lv2 := [(3, .long (jL ((nA N (248 + 20 * f + 5)) / 2))), (2, .int (nI f)), (0, .ref m), (1, .int (nI p))]) dX10_returns_105 rfl (by decide) rfl ?_
    refine g_goto (tgt := 203) dX10_returns_106 (by decide) ?_
    refine zG.sub [0, 1, 2, 3] rfl (hT _ _ _ r25 ((((FrM.rf.tr f10).tr f15).tr f20).tr f25) (by omega) ?_)
    unfold retN
    rw [hfl, if_pos c]
    rfl
theorem c_maySend (r : MoN h m N) (hB : nBd N) {f : Nat} (hf6 : f < 6) (hv : 100 ≤ nA N (248 + 20 * f + 5) ∧ nA N (248 + 20 * f + 5) ≤ 4000) : zM l w mX10_maySend [.ref m, .int (nI f)] h (fun v h1 => v = some (.int (bI (mayN N f))) ∧ h1 = h) := by
  refine zM.of (by decide) (Nat.le_of_ble_eq_true rfl) ?_
  refine g_aload_n 0 dX10_maySend_0 rfl rfl ?_
  refine g_iload_n 1 dX10_maySend_1 rfl rfl ?_
  refine g_iconst (v := nI 1) dX10_maySend_2 (by decide) ?_
  refine g_invv (M' := mX10_ofFlow) (As := [.int (nI f), .int (nI 1)]) (rest := []) dX10_maySend_3 ml_X10_62 okX10_ofFlow imX10_ofFlow seX10_ofFlow ⟨(Nat.le_of_ble_eq_true rfl), (Nat.le_of_ble_eq_true rfl)⟩ (ci := 10) rfl rfl r.1.1 rfl rfl (Nat.le_of_ble_eq_true rfl) (c_ofFlowN r (by omega)) ?_
  rintro _ q1 ⟨rfl, eq1⟩
  subst q1
  show zG l w mX10_maySend 6 [(0, .ref m), (1, .int (nI f))] [.long (jL (nA N (248 + 20 * f + 1)))] h _
  refine g_lconst (v := jL 0) dX10_maySend_6 (by decide) ?_
  have b2 := hB (248 + 20 * f + 1) (by omega)
  refine g_lif_le (a := (nA N (248 + 20 * f + 1))) (b := 0) (tgt := 59) dX10_maySend_7 rfl dX10_maySend_8 (by decide) (by omega) (by omega) (fun c => ?_) (fun c => ?_)
  · refine g_iconst (v := bI false) dX10_maySend_59 (by decide) ?_
    refine g_zreturn dX10_maySend_60 rfl (bI_nar _) ?_
    exact ⟨by rw [show mayN N f = false by unfold mayN; rw [decide_eq_false (by omega)]; rfl], rfl⟩
  · have hE : ∀ k, k = (if nA N (248 + 20 * f + 2) = 3 then 2 else 1) → zG l w mX10_maySend 50 [(0, .ref m), (1, .int (nI f))] [.long (jL k), .long (jL (nA N (248 + 20 * f + 5))), .long (jL (100 * (nA N (248 + 20 * f + 6) + 1)))] h (fun v h1 => v = some (.int (bI (mayN N f))) ∧ h1 = h) := by
      intro k hk
      have bk : k = 2 ∨ k = 1 := by rw [hk]; split <;> omega
      refine g_lmul dX10_maySend_50 ?_
      rw [jL_mul]
      have bv : 0 ≤ nA N (248 + 20 * f + 5) * k ∧ nA N (248 + 20 * f + 5) * k ≤ 8000 := by rcases bk with e | e <;> rw [e] <;> omega
      have b7 := hB (248 + 20 * f + 6) (by omega)
      have b8 := hB (248 + 20 * f + 5) (by omega)
      refine g_lif_gt (a := (100 * (nA N (248 + 20 * f + 6) + 1))) (b := ((nA N (248 + 20 * f + 5)) * k)) (tgt := 59) dX10_maySend_51 rfl dX10_maySend_52 (by decide) (by omega) (by omega) (fun c2 => ?_) (fun c2 => ?_)
      · refine g_iconst (v := bI false) dX10_maySend_59 (by decide) ?_
        refine g_zreturn dX10_maySend_60 rfl (bI_nar _) ?_
        exact ⟨by rw [show mayN N f = false by unfold mayN; rw [← hk, decide_eq_false (p := _ ≤ _) (by omega), Bool.and_false]], rfl⟩
      · refine g_iconst (v := bI true) dX10_maySend_55 (by decide) ?_
        refine g_goto (tgt := 60) dX10_maySend_56 (by decide) ?_
        refine g_zreturn dX10_maySend_60 rfl (bI_nar _) ?_
        exact ⟨by rw [show mayN N f = true by unfold mayN; rw [← hk, decide_eq_true (p := _ ≤ _) (by omega), decide_eq_true (by omega)]; rfl], rfl⟩
    refine g_ldc2J (z := 100) dX10_maySend_11 kl_X10_122 (by decide) ?_
    refine g_aload_n 0 dX10_maySend_14 rfl rfl ?_
    refine g_iload_n 1 dX10_maySend_15 rfl rfl ?_
    refine g_bipush (v := nI 6) dX10_maySend_16 (by decide) ?_
    refine g_invv (M' := mX10_ofFlow) (As := [.int (nI f), .int (nI 6)]) (rest := [.long (jL 100)]) dX10_maySend_18 ml_X10_62 okX10_ofFlow imX10_ofFlow seX10_ofFlow ⟨(Nat.le_of_ble_eq_true rfl), (Nat.le_of_ble_eq_true rfl)⟩ (ci := 10) rfl rfl r.1.1 rfl rfl (Nat.le_of_ble_eq_true rfl) (c_ofFlowN r (by omega)) ?_
    rintro _ q3 ⟨rfl, eq3⟩
    subst q3
    show zG l w mX10_maySend 21 [(0, .ref m), (1, .int (nI f))] [.long (jL (nA N (248 + 20 * f + 6))), .long (jL 100)] h _
    refine g_lconst (v := jL 1) dX10_maySend_21 (by decide) ?_
    refine g_ladd dX10_maySend_22 ?_
    rw [jL_add]
    refine g_lmul dX10_maySend_23 ?_
    rw [jL_mul]
    refine g_aload_n 0 dX10_maySend_24 rfl rfl ?_
    refine g_iload_n 1 dX10_maySend_25 rfl rfl ?_
    refine g_iconst (v := nI 5) dX10_maySend_26 (by decide) ?_
    refine g_invv (M' := mX10_ofFlow) (As := [.int (nI f), .int (nI 5)]) (rest := [.long (jL (100 * ((nA N (248 + 20 * f + 6)) + 1)))]) dX10_maySend_27 ml_X10_62 okX10_ofFlow imX10_ofFlow seX10_ofFlow ⟨(Nat.le_of_ble_eq_true rfl), (Nat.le_of_ble_eq_true rfl)⟩ (ci := 10) rfl rfl r.1.1 rfl rfl (Nat.le_of_ble_eq_true rfl) (c_ofFlowN r (by omega)) ?_
    rintro _ q4 ⟨rfl, eq4⟩
    subst q4
    show zG l w mX10_maySend 30 [(0, .ref m), (1, .int (nI f))] [.long (jL (nA N (248 + 20 * f + 5))), .long (jL (100 * ((nA N (248 + 20 * f + 6)) + 1)))] h _
    refine g_aload_n 0 dX10_maySend_30 rfl rfl ?_
    refine g_iload_n 1 dX10_maySend_31 rfl rfl ?_
    refine g_iconst (v := nI 2) dX10_maySend_32 (by decide) ?_
    refine g_invv (M' := mX10_ofFlow) (As := [.int (nI f), .int (nI 2)]) (rest := [.long (jL (nA N (248 + 20 * f + 5))), .long (jL (100 * ((nA N (248 + 20 * f + 6)) + 1)))]) dX10_maySend_33 ml_X10_62 okX10_ofFlow imX10_ofFlow seX10_ofFlow ⟨(Nat.le_of_ble_eq_true rfl), (Nat.le_of_ble_eq_true rfl)⟩ (ci := 10) rfl rfl r.1.1 rfl rfl (Nat.le_of_ble_eq_true rfl) (c_ofFlowN r (by omega)) ?_
    rintro _ q5 ⟨rfl, eq5⟩
    subst q5
    show zG l w mX10_maySend 36 [(0, .ref m), (1, .int (nI f))] [.long (jL (nA N (248 + 20 * f + 2))), .long (jL (nA N (248 + 20 * f + 5))), .long (jL (100 * ((nA N (248 + 20 * f + 6)) + 1)))] h _
    refine g_ldc2J (z := 3) dX10_maySend_36 kl_X10_134 (by decide) ?_
    have b6 := hB (248 + 20 * f + 2) (by omega)
    refine g_lif_ne (a := (nA N (248 + 20 * f + 2))) (b := 3) (tgt := 49) dX10_maySend_39 rfl dX10_maySend_40 (by decide) (by omega) (by omega) (fun c1 => ?_) (fun c1 => ?_)
    · refine g_lconst (v := jL 1) dX10_maySend_49 (by decide) ?_
      exact hE _ (by rw [if_neg c1])
    · refine g_ldc2J (z := 2) dX10_maySend_43 kl_X10_116 (by decide) ?_
      refine g_goto (tgt := 50) dX10_maySend_46 (by decide) ?_
      exact hE _ (by rw [if_pos c1])
/-- what a link's surplus is shared by: no count runs over -/
def nLq (N : nT) (a : Nat) : Prop := (0 ≤ nA N (8 + 40 * a + 8) ∧ 0 ≤ nA N (8 + 40 * a + 9)) ∧ (0 < nA N (8 + 40 * a + 10) ∧ 0 < nA N (8 + 40 * a + 11)) ∧ (0 ≤ nA N (8 + 40 * a + 12) ∧ nA N (8 + 40 * a + 12) ≤ nA N (8 + 40 * a + 10)) ∧ (0 ≤ nA N (8 + 40 * a + 13) ∧ nA N (8 + 40 * a + 13) ≤ nA N (8 + 40 * a + 11)) ∧ nA N (8 + 40 * a + 10) * nA N (8 + 40 * a + 8) < 2 ^ 62 ∧ nA N (8 + 40 * a + 11) * nA N (8 + 40 * a + 9) < 2 ^ 62
theorem mul_bd {g x y : Int} (hg : 0 ≤ g ∧ g ≤ x) (hy : 0 ≤ y) : 0 ≤ g * y ∧ g * y ≤ x * y := ⟨Int.mul_nonneg hg.1 hy, Int.mul_le_mul_of_nonneg_right hg.2 hy⟩
theorem div_bd {g x y : Int} (hg : 0 ≤ g ∧ g ≤ x) (hy : 0 ≤ y) (hx : 0 < x) : 0 ≤ g * y / x ∧ g * y / x ≤ y := ⟨Int.ediv_nonneg (Int.mul_nonneg hg.1 hy) (by omega), Int.ediv_le_of_le_mul hx (by rw [Int.mul_comm y x]; exact (mul_bd hg hy).2)⟩
theorem c_plusBy (r : MoN h m N) (hB : nBd N) {a : Nat} (ha : a < 6) {g : Int} (hq : nLq N a) (hg : 0 ≤ g ∧ g ≤ nA N (8 + 40 * a + 10)) : zM l w mX10_plusBy [.ref m, .int (nI a), .long (jL g)] h (fun v h1 => v = some (.long (jL (plusN N a g))) ∧ h1 = h) := by
  refine zM.of (by decide) (Nat.le_of_ble_eq_true rfl) ?_
  have b1 := hq.2.1
  have b2 := mul_bd hg hq.1.1
  have b3 := hq.2.2.2.2
  have b4 := hB (8 + 40 * a + 10) (by omega)
  refine g_lload_n 2 dX10_plusBy_0 rfl rfl ?_
  refine g_aload_n 0 dX10_plusBy_1 rfl rfl ?_
  refine g_iload_n 1 dX10_plusBy_2 rfl rfl ?_
  refine g_bipush (v := nI 8) dX10_plusBy_3 (by decide) ?_
  refine g_invv (M' := mX10_ofLink) (As := [.int (nI a), .int (nI 8)]) (rest := [.long (jL g)]) dX10_plusBy_5 ml_X10_69 okX10_ofLink imX10_ofLink seX10_ofLink ⟨(Nat.le_of_ble_eq_true rfl), (Nat.le_of_ble_eq_true rfl)⟩ (ci := 10) rfl rfl r.1.1 rfl rfl (Nat.le_of_ble_eq_true rfl) (c_ofLinkN r (by omega) (by unfold nSp; omega)) ?_
  rintro _ q1 ⟨rfl, eq1⟩
  subst q1
  show zG l w mX10_plusBy 8 [(0, .ref m), (1, .int (nI a)), (2, .long (jL g))] [.long (jL (nA N (8 + 40 * a + 8))), .long (jL g)] h _
  refine g_lmul dX10_plusBy_8 ?_
  rw [jL_mul]
  refine g_aload_n 0 dX10_plusBy_9 rfl rfl ?_
  refine g_iload_n 1 dX10_plusBy_10 rfl rfl ?_
  refine g_bipush (v := nI 10) dX10_plusBy_11 (by decide) ?_
  refine g_invv (M' := mX10_ofLink) (As := [.int (nI a), .int (nI 10)]) (rest := [.long (jL (g * (nA N (8 + 40 * a + 8))))]) dX10_plusBy_13 ml_X10_69 okX10_ofLink imX10_ofLink seX10_ofLink ⟨(Nat.le_of_ble_eq_true rfl), (Nat.le_of_ble_eq_true rfl)⟩ (ci := 10) rfl rfl r.1.1 rfl rfl (Nat.le_of_ble_eq_true rfl) (c_ofLinkN r (by omega) (by unfold nSp; omega)) ?_
  rintro _ q2 ⟨rfl, eq2⟩
  subst q2
  show zG l w mX10_plusBy 16 [(0, .ref m), (1, .int (nI a)), (2, .long (jL g))] [.long (jL (nA N (8 + 40 * a + 10))), .long (jL (g * (nA N (8 + 40 * a + 8))))] h _
  refine g_ldiv dX10_plusBy_16 (jL_ne0 (by omega)) ?_
  rw [jL_div (by omega) (by omega)]
  refine g_lreturn dX10_plusBy_17 rfl ?_
  exact ⟨rfl, rfl⟩
theorem plusN_bd {a : Nat} {g : Int} (hB : nBd N) (hq : nLq N a) (hg : 0 ≤ g ∧ g ≤ nA N (8 + 40 * a + 10)) : 0 ≤ plusN N a g ∧ plusN N a g < 17592186044416 := by
  have b := div_bd hg hq.1.1 hq.2.1.1
  have c := hB (8 + 40 * a + 8) (by omega)
  unfold plusN
  omega
theorem c_minusBy (r : MoN h m N) (hB : nBd N) {a : Nat} (ha : a < 6) {g : Int} (hq : nLq N a) (hg : 0 ≤ g ∧ g ≤ nA N (8 + 40 * a + 11)) : zM l w mX10_minusBy [.ref m, .int (nI a), .long (jL g)] h (fun v h1 => v = some (.long (jL (minusN N a g))) ∧ h1 = h) := by
  refine zM.of (by decide) (Nat.le_of_ble_eq_true rfl) ?_
  have b1 := hq.2.1
  have b2 := mul_bd hg hq.1.2
  have b3 := hq.2.2.2.2
  have b4 := hB (8 + 40 * a + 11) (by omega)
  refine g_lload_n 2 dX10_minusBy_0 rfl rfl ?_
  refine g_aload_n 0 dX10_minusBy_1 rfl rfl ?_
  refine g_iload_n 1 dX10_minusBy_2 rfl rfl ?_
  refine g_bipush (v := nI 9) dX10_minusBy_3 (by decide) ?_
  refine g_invv (M' := mX10_ofLink) (As := [.int (nI a), .int (nI 9)]) (rest := [.long (jL g)]) dX10_minusBy_5 ml_X10_69 okX10_ofLink imX10_ofLink seX10_ofLink ⟨(Nat.le_of_ble_eq_true rfl), (Nat.le_of_ble_eq_true rfl)⟩ (ci := 10) rfl rfl r.1.1 rfl rfl (Nat.le_of_ble_eq_true rfl) (c_ofLinkN r (by omega) (by unfold nSp; omega)) ?_
  rintro _ q1 ⟨rfl, eq1⟩
  subst q1
  show zG l w mX10_minusBy 8 [(0, .ref m), (1, .int (nI a)), (2, .long (jL g))] [.long (jL (nA N (8 + 40 * a + 9))), .long (jL g)] h _
  refine g_lmul dX10_minusBy_8 ?_
  rw [jL_mul]
  refine g_aload_n 0 dX10_minusBy_9 rfl rfl ?_
  refine g_iload_n 1 dX10_minusBy_10 rfl rfl ?_
  refine g_bipush (v := nI 11) dX10_minusBy_11 (by decide) ?_
  refine g_invv (M' := mX10_ofLink) (As := [.int (nI a), .int (nI 11)]) (rest := [.long (jL (g * (nA N (8 + 40 * a + 9))))]) dX10_minusBy_13 ml_X10_69 okX10_ofLink imX10_ofLink seX10_ofLink ⟨(Nat.le_of_ble_eq_true rfl), (Nat.le_of_ble_eq_true rfl)⟩ (ci := 10) rfl rfl r.1.1 rfl rfl (Nat.le_of_ble_eq_true rfl) (c_ofLinkN r (by omega) (by unfold nSp; omega)) ?_
  rintro _ q2 ⟨rfl, eq2⟩
  subst q2
  show zG l w mX10_minusBy 16 [(0, .ref m), (1, .int (nI a)), (2, .long (jL g))] [.long (jL (nA N (8 + 40 * a + 11))), .long (jL (g * (nA N (8 + 40 * a + 9))))] h _
  refine g_ldiv dX10_minusBy_16 (jL_ne0 (by omega)) ?_
  rw [jL_div (by omega) (by omega)]
  refine g_lreturn dX10_minusBy_17 rfl ?_
  exact ⟨rfl, rfl⟩
theorem minusN_bd {a : Nat} {g : Int} (hB : nBd N) (hq : nLq N a) (hg : 0 ≤ g ∧ g ≤ nA N (8 + 40 * a + 11)) : 0 ≤ minusN N a g ∧ minusN N a g < 17592186044416 := by
  have b := div_bd hg hq.1.2 hq.2.1.2
  have c := hB (8 + 40 * a + 9) (by omega)
  unfold minusN
  omega
theorem partN_bd {p : Nat} (hB : nBd N) (h4 : 0 ≤ nA N (368 + 8 * p + 4)) (h3 : 0 < nA N (368 + 8 * p + 3)) : 0 < partN N p ∧ partN N p < 2 ^ 58 := by
  have b4 := hB (368 + 8 * p + 4) (by omega)
  have hq : 0 ≤ 10000 * nA N (368 + 8 * p + 4) / nA N (368 + 8 * p + 3) := Int.ediv_nonneg (by omega) (by omega)
  have hq2 : 10000 * nA N (368 + 8 * p + 4) / nA N (368 + 8 * p + 3) ≤ 10000 * nA N (368 + 8 * p + 4) := Int.ediv_le_self _ (by omega)
  show 0 < max 1 (10000 * nA N (368 + 8 * p + 4) / nA N (368 + 8 * p + 3)) ∧ max 1 (10000 * nA N (368 + 8 * p + 4) / nA N (368 + 8 * p + 3)) < 2 ^ 58
  omega
theorem c_gotWith (r : MoN h m N) (hB : nBd N) {a p : Nat} (ha : a < 6) (hp : p < 480) (h4 : 0 ≤ nA N (368 + 8 * p + 4)) (h3 : 0 < nA N (368 + 8 * p + 3)) : zM l w mX10_gotWith [.ref m, .int (nI a), .int (nI p)] h (fun v h1 => v = some (.long (jL (gotN N a p))) ∧ h1 = h) := by
  refine zM.of (by decide) (Nat.le_of_ble_eq_true rfl) ?_
  refine g_aload_n 0 dX10_gotWith_0 rfl rfl ?_
  refine g_iload_n 1 dX10_gotWith_1 rfl rfl ?_
  refine g_bipush (v := nI 10) dX10_gotWith_2 (by decide) ?_
  refine g_invv (M' := mX10_ofLink) (As := [.int (nI a), .int (nI 10)]) (rest := []) dX10_gotWith_4 ml_X10_69 okX10_ofLink imX10_ofLink seX10_ofLink ⟨(Nat.le_of_ble_eq_true rfl), (Nat.le_of_ble_eq_true rfl)⟩ (ci := 10) rfl rfl r.1.1 rfl rfl (Nat.le_of_ble_eq_true rfl) (c_ofLinkN r (by omega) (by unfold nSp; omega)) ?_
  rintro _ q1 ⟨rfl, eq1⟩
  subst q1
  show zG l w mX10_gotWith 7 [(0, .ref m), (1, .int (nI a)), (2, .int (nI p))] [.long (jL (nA N (8 + 40 * a + 10)))] h _
  refine g_aload_n 0 dX10_gotWith_7 rfl rfl ?_
  refine g_iload_n 1 dX10_gotWith_8 rfl rfl ?_
  refine g_bipush (v := nI 12) dX10_gotWith_9 (by decide) ?_
  refine g_invv (M' := mX10_ofLink) (As := [.int (nI a), .int (nI 12)]) (rest := [.long (jL (nA N (8 + 40 * a + 10)))]) dX10_gotWith_11 ml_X10_69 okX10_ofLink imX10_ofLink seX10_ofLink ⟨(Nat.le_of_ble_eq_true rfl), (Nat.le_of_ble_eq_true rfl)⟩ (ci := 10) rfl rfl r.1.1 rfl rfl (Nat.le_of_ble_eq_true rfl) (c_ofLinkN r (by omega) (by unfold nSp; omega)) ?_
  rintro _ q2 ⟨rfl, eq2⟩
  subst q2
  show zG l w mX10_gotWith 14 [(0, .ref m), (1, .int (nI a)), (2, .int (nI p))] [.long (jL (nA N (8 + 40 * a + 12))), .long (jL (nA N (8 + 40 * a + 10)))] h _
  refine g_aload_n 0 dX10_gotWith_14 rfl rfl ?_
  refine g_iload_n 2 dX10_gotWith_15 rfl rfl ?_
  have b4 := hB (368 + 8 * p + 4) (by omega)
  have b3 := hB (368 + 8 * p + 3) (by omega)
  have bp := partN_bd hB h4 h3
  refine g_invv (M' := mX10_partOf) (As := [.int (nI p)]) (rest := [.long (jL (nA N (8 + 40 * a + 12))), .long (jL (nA N (8 + 40 * a + 10)))]) dX10_gotWith_16 ml_X10_108 okX10_partOf imX10_partOf seX10_partOf ⟨(Nat.le_of_ble_eq_true rfl), (Nat.le_of_ble_eq_true rfl)⟩ (ci := 10) rfl rfl r.1.1 rfl rfl (Nat.le_of_ble_eq_true rfl) (c_partOf r hp (by omega) (by omega)) ?_
  rintro _ q3 ⟨rfl, eq3⟩
  subst q3
  show zG l w mX10_gotWith 19 [(0, .ref m), (1, .int (nI a)), (2, .int (nI p))] [.long (jL (partN N p)), .long (jL (nA N (8 + 40 * a + 12))), .long (jL (nA N (8 + 40 * a + 10)))] h _
  refine g_ladd dX10_gotWith_19 ?_
  rw [jL_add]
  have b4 := hB (8 + 40 * a + 10) (by omega)
  have b5 := hB (8 + 40 * a + 12) (by omega)
  refine g_invs (M' := mJ9_min_f86c9) (As := [.long (jL (nA N (8 + 40 * a + 10))), .long (jL ((nA N (8 + 40 * a + 12)) + (partN N p)))]) (rest := []) dX10_gotWith_20 ml_X10_113 okJ9_min_f86c9 stJ9_min_f86c9 ⟨(Nat.le_of_ble_eq_true rfl), (Nat.le_of_ble_eq_true rfl)⟩ rfl rfl (Nat.le_of_ble_eq_true rfl) (c_minL (by omega) (by omega)) ?_
  rintro _ q6 ⟨rfl, eq6⟩
  subst q6
  show zG l w mX10_gotWith 23 [(0, .ref m), (1, .int (nI a)), (2, .int (nI p))] [.long (jL (min (nA N (8 + 40 * a + 10)) ((nA N (8 + 40 * a + 12)) + (partN N p))))] h _
  refine g_lreturn dX10_gotWith_23 rfl ?_
  exact ⟨rfl, rfl⟩
theorem c_tookWith (r : MoN h m N) (hB : nBd N) {a : Nat} (ha : a < 6) : zM l w mX10_tookWith [.ref m, .int (nI a)] h (fun v h1 => v = some (.long (jL (tookN N a))) ∧ h1 = h) := by
  refine zM.of (by decide) (Nat.le_of_ble_eq_true rfl) ?_
  refine g_aload_n 0 dX10_tookWith_0 rfl rfl ?_
  refine g_iload_n 1 dX10_tookWith_1 rfl rfl ?_
  refine g_bipush (v := nI 11) dX10_tookWith_2 (by decide) ?_
  refine g_invv (M' := mX10_ofLink) (As := [.int (nI a), .int (nI 11)]) (rest := []) dX10_tookWith_4 ml_X10_69 okX10_ofLink imX10_ofLink seX10_ofLink ⟨(Nat.le_of_ble_eq_true rfl), (Nat.le_of_ble_eq_true rfl)⟩ (ci := 10) rfl rfl r.1.1 rfl rfl (Nat.le_of_ble_eq_true rfl) (c_ofLinkN r (by omega) (by unfold nSp; omega)) ?_
  rintro _ q1 ⟨rfl, eq1⟩
  subst q1
  show zG l w mX10_tookWith 7 [(0, .ref m), (1, .int (nI a))] [.long (jL (nA N (8 + 40 * a + 11)))] h _
  refine g_aload_n 0 dX10_tookWith_7 rfl rfl ?_
  refine g_iload_n 1 dX10_tookWith_8 rfl rfl ?_
  refine g_bipush (v := nI 13) dX10_tookWith_9 (by decide) ?_
  refine g_invv (M' := mX10_ofLink) (As := [.int (nI a), .int (nI 13)]) (rest := [.long (jL (nA N (8 + 40 * a + 11)))]) dX10_tookWith_11 ml_X10_69 okX10_ofLink imX10_ofLink seX10_ofLink ⟨(Nat.le_of_ble_eq_true rfl), (Nat.le_of_ble_eq_true rfl)⟩ (ci := 10) rfl rfl r.1.1 rfl rfl (Nat.le_of_ble_eq_true rfl) (c_ofLinkN r (by omega) (by unfold nSp; omega)) ?_
  rintro _ q2 ⟨rfl, eq2⟩
  subst q2
  show zG l w mX10_tookWith 14 [(0, .ref m), (1, .int (nI a))] [.long (jL (nA N (8 + 40 * a + 13))), .long (jL (nA N (8 + 40 * a + 11)))] h _
  refine g_lconst (v := jL 1) dX10_tookWith_14 (by decide) ?_
  refine g_ladd dX10_tookWith_15 ?_
  rw [jL_add]
  have b3 := hB (8 + 40 * a + 11) (by omega)
  have b4 := hB (8 + 40 * a + 13) (by omega)
  refine g_invs (M' := mJ9_min_f86c9) (As := [.long (jL (nA N (8 + 40 * a + 11))), .long (jL ((nA N (8 + 40 * a + 13)) + 1))]) (rest := []) dX10_tookWith_16 ml_X10_113 okJ9_min_f86c9 stJ9_min_f86c9 ⟨(Nat.le_of_ble_eq_true rfl), (Nat.le_of_ble_eq_true rfl)⟩ rfl rfl (Nat.le_of_ble_eq_true rfl) (c_minL (by omega) (by omega)) ?_
  rintro _ q5 ⟨rfl, eq5⟩
  subst q5
  show zG l w mX10_tookWith 19 [(0, .ref m), (1, .int (nI a))] [.long (jL (min (nA N (8 + 40 * a + 11)) ((nA N (8 + 40 * a + 13)) + 1)))] h _
  refine g_lreturn dX10_tookWith_19 rfl ?_
  exact ⟨rfl, rfl⟩
theorem gotN_bd {a p : Nat} (hB : nBd N) (hq : nLq N a) (h4 : 0 ≤ nA N (368 + 8 * p + 4)) (h3 : 0 < nA N (368 + 8 * p + 3)) : 0 ≤ gotN N a p ∧ gotN N a p ≤ nA N (8 + 40 * a + 10) := by
  have bp := partN_bd hB h4 h3
  have b1 := hq.2.1
  have b2 := hq.2.2.1
  show 0 ≤ min (nA N (8 + 40 * a + 10)) (nA N (8 + 40 * a + 12) + partN N p) ∧ min (nA N (8 + 40 * a + 10)) (nA N (8 + 40 * a + 12) + partN N p) ≤ nA N (8 + 40 * a + 10)
  omega
theorem tookN_bd {a : Nat} (hq : nLq N a) : 0 ≤ tookN N a ∧ tookN N a ≤ nA N (8 + 40 * a + 11) := by
  have b1 := hq.2.1
  have b2 := hq.2.2.2.1
  show 0 ≤ min (nA N (8 + 40 * a + 11)) (nA N (8 + 40 * a + 13) + 1) ∧ min (nA N (8 + 40 * a + 11)) (nA N (8 + 40 * a + 13) + 1) ≤ nA N (8 + 40 * a + 11)
  omega
theorem shareN_bd {a p : Nat} (hB : nBd N) (hq : nLq N a) (h4 : 0 ≤ nA N (368 + 8 * p + 4)) (h3 : 0 < nA N (368 + 8 * p + 3)) : -35184372088832 < shareN N a p ∧ shareN N a p < 35184372088832 := by
  have b1 := plusN_bd hB hq (gotN_bd hB hq h4 h3)
  have b2 := plusN_bd hB hq hq.2.2.1
  have b3 := minusN_bd hB hq (tookN_bd hq)
  have b4 := minusN_bd hB hq hq.2.2.2.1
  unfold shareN
  omega
theorem c_shareOf (r : MoN h m N) (hB : nBd N) {a p : Nat} (ha : a < 6) (hq : nLq N a) (hp : p < 480) (h4 : 0 ≤ nA N (368 + 8 * p + 4)) (h3 : 0 < nA N (368 + 8 * p + 3)) : zM l w mX10_shareOf [.ref m, .int (nI a), .int (nI p)] h (fun v h1 => v = some (.long (jL (shareN N a p))) ∧ h1 = h) := by
  refine zM.of (by decide) (Nat.le_of_ble_eq_true rfl) ?_
  refine g_aload_n 0 dX10_shareOf_0 rfl rfl ?_
  refine g_iload_n 1 dX10_shareOf_1 rfl rfl ?_
  refine g_aload_n 0 dX10_shareOf_2 rfl rfl ?_
  refine g_iload_n 1 dX10_shareOf_3 rfl rfl ?_
  refine g_iload_n 2 dX10_shareOf_4 rfl rfl ?_
  refine g_invv (M' := mX10_gotWith) (As := [.int (nI a), .int (nI p)]) (rest := [.int (nI a), .ref m]) dX10_shareOf_5 ml_X10_146 okX10_gotWith imX10_gotWith seX10_gotWith ⟨(Nat.le_of_ble_eq_true rfl), (Nat.le_of_ble_eq_true rfl)⟩ (ci := 10) rfl rfl r.1.1 rfl rfl (Nat.le_of_ble_eq_true rfl) (c_gotWith r hB ha hp h4 h3) ?_
  rintro _ q1 ⟨rfl, eq1⟩
  subst q1
  show zG l w mX10_shareOf 8 [(0, .ref m), (1, .int (nI a)), (2, .int (nI p))] [.long (jL (gotN N a p)), .int (nI a), .ref m] h _
  refine g_invv (M' := mX10_plusBy) (As := [.int (nI a), .long (jL (gotN N a p))]) (rest := []) dX10_shareOf_8 ml_X10_149 okX10_plusBy imX10_plusBy seX10_plusBy ⟨(Nat.le_of_ble_eq_true rfl), (Nat.le_of_ble_eq_true rfl)⟩ (ci := 10) rfl rfl r.1.1 rfl rfl (Nat.le_of_ble_eq_true rfl) (c_plusBy r hB ha hq (gotN_bd hB hq h4 h3)) ?_
  rintro _ q2 ⟨rfl, eq2⟩
  subst q2
  show zG l w mX10_shareOf 11 [(0, .ref m), (1, .int (nI a)), (2, .int (nI p))] [.long (jL (plusN N a (gotN N a p)))] h _
  refine g_aload_n 0 dX10_shareOf_11 rfl rfl ?_
  refine g_iload_n 1 dX10_shareOf_12 rfl rfl ?_
  refine g_aload_n 0 dX10_shareOf_13 rfl rfl ?_
  refine g_iload_n 1 dX10_shareOf_14 rfl rfl ?_
  refine g_bipush (v := nI 12) dX10_shareOf_15 (by decide) ?_
  refine g_invv (M' := mX10_ofLink) (As := [.int (nI a), .int (nI 12)]) (rest := [.int (nI a), .ref m, .long (jL (plusN N a (gotN N a p)))]) dX10_shareOf_17 ml_X10_69 okX10_ofLink imX10_ofLink seX10_ofLink ⟨(Nat.le_of_ble_eq_true rfl), (Nat.le_of_ble_eq_true rfl)⟩ (ci := 10) rfl rfl r.1.1 rfl rfl (Nat.le_of_ble_eq_true rfl) (c_ofLinkN r (by omega) (by unfold nSp; omega)) ?_
  rintro _ q3 ⟨rfl, eq3⟩
  subst q3
  show zG l w mX10_shareOf 20 [(0, .ref m), (1, .int (nI a)), (2, .int (nI p))] [.long (jL (nA N (8 + 40 * a + 12))), .int (nI a), .ref m, .long (jL (plusN N a (gotN N a p)))] h _
  refine g_invv (M' := mX10_plusBy) (As := [.int (nI a), .long (jL (nA N (8 + 40 * a + 12)))]) (rest := [.long (jL (plusN N a (gotN N a p)))]) dX10_shareOf_20 ml_X10_149 okX10_plusBy imX10_plusBy seX10_plusBy ⟨(Nat.le_of_ble_eq_true rfl), (Nat.le_of_ble_eq_true rfl)⟩ (ci := 10) rfl rfl r.1.1 rfl rfl (Nat.le_of_ble_eq_true rfl) (c_plusBy r hB ha hq hq.2.2.1) ?_
  rintro _ q4 ⟨rfl, eq4⟩
  subst q4
  show zG l w mX10_shareOf 23 [(0, .ref m), (1, .int (nI a)), (2, .int (nI p))] [.long (jL (plusN N a (nA N (8 + 40 * a + 12)))), .long (jL (plusN N a (gotN N a p)))] h _
  refine g_lsub dX10_shareOf_23 ?_
  rw [jL_sub]
  refine g_aload_n 0 dX10_shareOf_24 rfl rfl ?_
  refine g_iload_n 1 dX10_shareOf_25 rfl rfl ?_
  refine g_aload_n 0 dX10_shareOf_26 rfl rfl ?_
  refine g_iload_n 1 dX10_shareOf_27 rfl rfl ?_
  refine g_invv (M' := mX10_tookWith) (As := [.int (nI a)]) (rest := [.int (nI a), .ref m, .long (jL ((plusN N a (gotN N a p)) - (plusN N a (nA N (8 + 40 * a + 12)))))]) dX10_shareOf_28 ml_X10_153 okX10_tookWith imX10_tookWith seX10_tookWith ⟨(Nat.le_of_ble_eq_true rfl), (Nat.le_of_ble_eq_true rfl)⟩ (ci := 10) rfl rfl r.1.1 rfl rfl (Nat.le_of_ble_eq_true rfl) (c_tookWith r hB ha) ?_
  rintro _ q5 ⟨rfl, eq5⟩
  subst q5
  show zG l w mX10_shareOf 31 [(0, .ref m), (1, .int (nI a)), (2, .int (nI p))] [.long (jL (tookN N a)), .int (nI a), .ref m, .long (jL ((plusN N a (gotN N a p)) - (plusN N a (nA N (8 + 40 * a + 12)))))] h _
  refine g_invv (M' := mX10_minusBy) (As := [.int (nI a), .long (jL (tookN N a))]) (rest := [.long (jL ((plusN N a (gotN N a p)) - (plusN N a (nA N (8 + 40 * a + 12)))))]) dX10_shareOf_31 ml_X10_156 okX10_minusBy imX10_minusBy seX10_minusBy ⟨(Nat.le_of_ble_eq_true rfl), (Nat.le_of_ble_eq_true rfl)⟩ (ci := 10) rfl rfl r.1.1 rfl rfl (Nat.le_of_ble_eq_true rfl) (c_minusBy r hB ha hq (tookN_bd hq)) ?_
  rintro _ q6 ⟨rfl, eq6⟩
  subst q6
  show zG l w mX10_shareOf 34 [(0, .ref m), (1, .int (nI a)), (2, .int (nI p))] [.long (jL (minusN N a (tookN N a))), .long (jL ((plusN N a (gotN N a p)) - (plusN N a (nA N (8 + 40 * a + 12)))))] h _
  refine g_lsub dX10_shareOf_34 ?_
  rw [jL_sub]
  refine g_aload_n 0 dX10_shareOf_35 rfl rfl ?_
  refine g_iload_n 1 dX10_shareOf_36 rfl rfl ?_
  refine g_aload_n 0 dX10_shareOf_37 rfl rfl ?_
  refine g_iload_n 1 dX10_shareOf_38 rfl rfl ?_
  refine g_bipush (v := nI 13) dX10_shareOf_39 (by decide) ?_
  refine g_invv (M' := mX10_ofLink) (As := [.int (nI a), .int (nI 13)]) (rest := [.int (nI a), .ref m, .long (jL (((plusN N a (gotN N a p)) - (plusN N a (nA N (8 + 40 * a + 12)))) - (minusN N a (tookN N a))))]) dX10_shareOf_41 ml_X10_69 okX10_ofLink imX10_ofLink seX10_ofLink ⟨(Nat.le_of_ble_eq_true rfl), (Nat.le_of_ble_eq_true rfl)⟩ (ci := 10) rfl rfl r.1.1 rfl rfl (Nat.le_of_ble_eq_true rfl) (c_ofLinkN r (by omega) (by unfold nSp; omega)) ?_
  rintro _ q7 ⟨rfl, eq7⟩
  subst q7
  show zG l w mX10_shareOf 44 [(0, .ref m), (1, .int (nI a)), (2, .int (nI p))] [.long (jL (nA N (8 + 40 * a + 13))), .int (nI a), .ref m, .long (jL (((plusN N a (gotN N a p)) - (plusN N a (nA N (8 + 40 * a + 12)))) - (minusN N a (tookN N a))))] h _
  refine g_invv (M' := mX10_minusBy) (As := [.int (nI a), .long (jL (nA N (8 + 40 * a + 13)))]) (rest := [.long (jL (((plusN N a (gotN N a p)) - (plusN N a (nA N (8 + 40 * a + 12)))) - (minusN N a (tookN N a))))]) dX10_shareOf_44 ml_X10_156 okX10_minusBy imX10_minusBy seX10_minusBy ⟨(Nat.le_of_ble_eq_true rfl), (Nat.le_of_ble_eq_true rfl)⟩ (ci := 10) rfl rfl r.1.1 rfl rfl (Nat.le_of_ble_eq_true rfl) (c_minusBy r hB ha hq hq.2.2.2.1) ?_
  rintro _ q8 ⟨rfl, eq8⟩
  subst q8
  show zG l w mX10_shareOf 47 [(0, .ref m), (1, .int (nI a)), (2, .int (nI p))] [.long (jL (minusN N a (nA N (8 + 40 * a + 13)))), .long (jL (((plusN N a (gotN N a p)) - (plusN N a (nA N (8 + 40 * a + 12)))) - (minusN N a (tookN N a))))] h _
  refine g_ladd dX10_shareOf_47 ?_
  rw [jL_add]
  refine g_lreturn dX10_shareOf_48 rfl ?_
  exact ⟨rfl, rfl⟩
end M6
