section QM5
variable {l : Launch} {w : zW} {h : zH} {m x b : Nat} {π : Nat → Nat} {ls : Nat → List Nat} {N : nT} {X : List Nat} {t : Nat}
def inB (N : nT) (f : Nat) (z : Int) : Bool := (List.range (nA N (248 + 20 * f + 0)).toNat).any fun i => decide (nA N (248 + 20 * f + (12 + i)) = z)
theorem inB_t {f i : Nat} {z : Int} (hi : (i : Int) < nA N (248 + 20 * f + 0)) (e : nA N (248 + 20 * f + (12 + i)) = z) : inB N f z = true := by
  unfold inB
  exact List.any_eq_true.mpr ⟨i, List.mem_range.mpr (by omega), decide_eq_true e⟩
theorem inB_f {f : Nat} {z : Int} (e : ∀ i : Nat, (i : Int) < nA N (248 + 20 * f + 0) → ¬ nA N (248 + 20 * f + (12 + i)) = z) : inB N f z = false := by
  unfold inB
  rw [List.any_eq_false]
  intro i hi
  have := List.mem_range.mp hi
  simpa using e i (by omega)
theorem inB_no {f : Nat} {z : Int} (e : inB N f z = false) (i : Nat) (hi : (i : Int) < nA N (248 + 20 * f + 0)) : ¬ nA N (248 + 20 * f + (12 + i)) = z := fun q => by rw [inB_t hi q] at e; cases e
def uDetour (N : nT) (z i p : Int) : nT × Int × Int := if i < 0 then (N, 1, -1) else if (0 ≤ z ∧ z < nA N 1) ∧ 0 ≤ p ∧ p < nA N 0 then (if inB N z.toNat p then (N, 4, -1) else if i < nA N (248 + 20 * z.toNat + 0) then toN N (248 + 20 * z.toNat + (12 + i.toNat)) p else (N, 5, -1)) else (N, 2, -1)
theorem CX.setPath {f i : Nat} {z : Int} (c : CX h b π ls N X t) (f6 : f < 6) (i4 : i < 4) (z6 : 0 ≤ z ∧ z < 6) : CX (zSi (zSI h (b + 53 + 2 * f + 1) i (jI z)) 69 (b + 53 + 2 * f) (jI (backN (uA N (248 + 20 * f + (12 + i)) z) f))) b π ls (uA N (248 + 20 * f + (12 + i)) z) X t ∧ CSt b ls h ls (zSi (zSI h (b + 53 + 2 * f + 1) i (jI z)) 69 (b + 53 + 2 * f) (jI (backN (uA N (248 + 20 * f + (12 + i)) z) f))) := by
  have fr : FrSc b h (zSi (zSI h (b + 53 + 2 * f + 1) i (jI z)) 69 (b + 53 + 2 * f) (jI (backN (uA N (248 + 20 * f + (12 + i)) z) f))) := (FrSc.sI (by omega)).tr (FrSc.si (by omega) (by omega))
  refine ⟨c.scal fr (fun k hk => nA_ne (by omega)) (nA_ne (by omega)) rfl rfl rfl rfl rfl ?_ ?_ ?_, fr.st⟩
  · exact NtC_far c.2.2.1 (fun q _ _ => by rw [zi_Si, if_neg (by omega), zi_SI]) (by omega)
  · intro a ha a6
    rw [nA_ne (by omega)] at ha
    exact (c.2.2.2.1 a ha a6).congr (fun j hj => by have := lkF_bd hj; rw [zi_Si, if_neg (by omega), zi_SI]) rfl (fun _ _ _ => rfl) (fun d j h3 h6 => by rw [zI_Si, zI_SI, if_neg (by omega)]) (fun k h1 h2 => nA_ne (by omega))
  · intro g hg g6
    rw [nA_ne (by omega)] at hg
    have q := c.2.2.2.2.1 g hg g6
    by_cases e : g = f
    · subst e
      have e0 : nA (uA N (248 + 20 * g + (12 + i)) z) (248 + 20 * g + 0) = nA N (248 + 20 * g + 0) := nA_ne (by omega)
      obtain ⟨c1, c2, c3, c4⟩ := q
      refine ⟨fun j hj hj4 => ?_, ?_, by rw [e0]; exact c3, fun j hj => ?_⟩
      · rw [zi_Si, if_neg (by omega), zi_SI, nA_ne (by omega)]; exact c1 j hj hj4
      · rw [zi_Si, if_pos ⟨rfl, rfl⟩]
      · rw [e0] at hj
        rw [zI_Si, zI_SI]
        by_cases d : j = i
        · subst d
          rw [if_pos ⟨rfl, rfl⟩, nA_eq]
          exact ⟨rfl, by unfold hopN; rw [nA_eq]; omega⟩
        · rw [if_neg (by omega), nA_ne (by omega), show hopN (uA N (248 + 20 * g + (12 + i)) z) g j = hopN N g j by unfold hopN; rw [nA_ne (by omega)]]
          exact c4 j hj
    · exact q.congr (fun j hj => by rw [zi_Si, if_neg (by omega), zi_SI]) (fun j => by rw [zI_Si, zI_SI, if_neg (by omega)]) (fun k h1 h2 => nA_ne (by omega)) (fun k hk => nA_ne (by omega))
theorem c_isInPath (r : MoN h m N) (hI : iN [] N) {f a : Nat} (hf : (f : Int) < nA N 1) (a6 : a < 6) : zM l w mX10_isInPath [.ref m, .int (nI f), .int (nI a)] h (fun u h1 => u = some (.int (bI (inB N f (a : Int)))) ∧ h1 = h) := by
  refine zM.of (by decide) (Nat.le_of_ble_eq_true rfl) ?_
  have H1 := hI.H.2.1
  have f6 : f < 6 := by omega
  have F := hI.F f hf
  have F1 := F.1
  have H0 := hI.H.1
  obtain ⟨n, en⟩ : ∃ n : Nat, (nA N (248 + 20 * f + 0)) = (n : Int) := ⟨_, (Int.toNat_of_nonneg (by omega)).symm⟩
  have loop : ∀ k i : Nat, i + k = n → (∀ j : Nat, j < i → ¬ nA N (248 + 20 * f + (12 + j)) = (a : Int)) → zG l w mX10_isInPath 2 [(3, .int (nI i)), (0, .ref m), (1, .int (nI f)), (2, .int (nI a))] [] h (fun u h1 => u = some (.int (bI (inB N f (a : Int)))) ∧ h1 = h) := by
    intro k
    induction k with
    | zero =>
      intro i hi hu
      refine g_iload_n 0 dX10_isInPath_2 rfl rfl ?_
      refine g_i2l dX10_isInPath_3 ?_
      rw [nI_l (by omega), ← jL_nat]
      refine g_aload_n 1 dX10_isInPath_4 rfl rfl ?_
      refine g_iload_n 2 dX10_isInPath_5 rfl rfl ?_
      refine g_iconst (v := nI 0) dX10_isInPath_6 (by decide) ?_
      refine g_invv (M' := mX10_ofFlow) (As := [.int (nI f), .int (nI 0)]) (rest := [.long (jL ((i : Nat) : Int))]) dX10_isInPath_7 ml_X10_62 okX10_ofFlow imX10_ofFlow seX10_ofFlow ⟨(Nat.le_of_ble_eq_true rfl), (Nat.le_of_ble_eq_true rfl)⟩ (ci := 10) rfl rfl r.1.1 rfl rfl (Nat.le_of_ble_eq_true rfl) (c_ofFlowN r (by omega)) ?_
      rintro _ q1 ⟨rfl, eq1⟩
      subst q1
      show zG l w mX10_isInPath 10 [(3, .int (nI i)), (0, .ref m), (1, .int (nI f)), (2, .int (nI a))] [.long (jL (nA N (248 + 20 * f + 0))), .long (jL ((i : Nat) : Int))] h _
      refine g_lif_ge (a := ((i : Nat) : Int)) (b := (nA N (248 + 20 * f + 0))) (tgt := 32) dX10_isInPath_10 rfl dX10_isInPath_11 (by decide) (by omega) (by omega) (fun k0 => ?_) (fun k0 => ?_)
      · refine g_iconst (v := bI false) dX10_isInPath_32 (by decide) ?_
        refine g_zreturn dX10_isInPath_33 rfl (bI_nar _) ?_
        exact ⟨by rw [show inB N f (a : Int) = false from inB_f (fun j hj => hu j (by omega))], rfl⟩
      · exact absurd k0 (by omega)
    | succ k ih =>
      intro i hi hu
      refine g_iload_n 0 dX10_isInPath_2 rfl rfl ?_
      refine g_i2l dX10_isInPath_3 ?_
      rw [nI_l (by omega), ← jL_nat]
      refine g_aload_n 1 dX10_isInPath_4 rfl rfl ?_
      refine g_iload_n 2 dX10_isInPath_5 rfl rfl ?_
      refine g_iconst (v := nI 0) dX10_isInPath_6 (by decide) ?_
      refine g_invv (M' := mX10_ofFlow) (As := [.int (nI f), .int (nI 0)]) (rest := [.long (jL ((i : Nat) : Int))]) dX10_isInPath_7 ml_X10_62 okX10_ofFlow imX10_ofFlow seX10_ofFlow ⟨(Nat.le_of_ble_eq_true rfl), (Nat.le_of_ble_eq_true rfl)⟩ (ci := 10) rfl rfl r.1.1 rfl rfl (Nat.le_of_ble_eq_true rfl) (c_ofFlowN r (by omega)) ?_
      rintro _ q2 ⟨rfl, eq2⟩
      subst q2
      show zG l w mX10_isInPath 10 [(3, .int (nI i)), (0, .ref m), (1, .int (nI f)), (2, .int (nI a))] [.long (jL (nA N (248 + 20 * f + 0))), .long (jL ((i : Nat) : Int))] h _
      refine g_lif_ge (a := ((i : Nat) : Int)) (b := (nA N (248 + 20 * f + 0))) (tgt := 32) dX10_isInPath_10 rfl dX10_isInPath_11 (by decide) (by omega) (by omega) (fun k0 => ?_) (fun k0 => ?_)
      · exact absurd k0 (by omega)
      · have F2 := F.2.1 i (by omega)
        refine g_aload_n 1 dX10_isInPath_14 rfl rfl ?_
        refine g_iload_n 2 dX10_isInPath_15 rfl rfl ?_
        refine g_iload_n 0 dX10_isInPath_16 rfl rfl ?_
        refine g_invv (M' := mX10_hop) (As := [.int (nI f), .int (nI i)]) (rest := []) dX10_isInPath_17 ml_X10_66 okX10_hop imX10_hop seX10_hop ⟨(Nat.le_of_ble_eq_true rfl), (Nat.le_of_ble_eq_true rfl)⟩ (ci := 10) rfl rfl r.1.1 rfl rfl (Nat.le_of_ble_eq_true rfl) (c_hop r f6 (by omega) F2.1) ?_
        rintro _ q3 ⟨rfl, eq3⟩
        subst q3
        show zG l w mX10_isInPath 20 [(3, .int (nI i)), (0, .ref m), (1, .int (nI f)), (2, .int (nI a))] [.int (nI (hopN N f i))] h _
        have h6 : hopN N f i < 6 := by unfold hopN; omega
        have h7 : nA N (248 + 20 * f + (12 + i)) = ((hopN N f i : Nat) : Int) := by unfold hopN; omega
        refine g_iload_n 3 dX10_isInPath_20 rfl rfl ?_
        refine g_ncmp_ne (tgt := 26) dX10_isInPath_21 (by decide) (by omega) (by omega) (fun e => ?_) (fun e => ?_)
        · refine g_inc (v := nI (i + 1)) (lv2 := [(3, .int (nI (i + 1))), (0, .ref m), (1, .int (nI f)), (2, .int (nI a))]) 0 dX10_isInPath_26 rfl (nI_add _ 1) (by decide) rfl ?_
          refine g_goto (tgt := 2) dX10_isInPath_29 (by decide) ?_
          exact zG.sub [0, 1, 2, 3] rfl (ih (i + 1) (by omega) (fun j hj => if e9 : j = i then by rw [e9]; omega else hu j (by omega)))
        · refine g_iconst (v := bI true) dX10_isInPath_24 (by decide) ?_
          refine g_zreturn dX10_isInPath_25 rfl (bI_nar _) ?_
          exact ⟨by rw [show inB N f (a : Int) = true from inB_t (i := i) (by omega) (by omega)], rfl⟩
  refine g_iconst (v := nI 0) dX10_isInPath_0 (by decide) ?_
  refine g_istore_n (lv2 := [(3, .int (nI 0)), (0, .ref m), (1, .int (nI f)), (2, .int (nI a))]) dX10_isInPath_1 rfl (by decide) rfl ?_
  exact zG.sub [0, 1, 2, 3] rfl (loop n 0 (Nat.zero_add _) (fun j hj => absurd hj (by omega)))
theorem c_goesOver (c : CX h b π ls N X t) (hI : iN [] N) {f a : Nat} (hf : (f : Int) < nA N 1) (a6 : a < 6) : zM l w mX2_goesOver [.ref (b + 53 + 2 * f), .int (nI a)] h (fun u h1 => u = some (.int (bI (inB N f (a : Int)))) ∧ h1 = h) := by
  refine zM.of (by decide) (Nat.le_of_ble_eq_true rfl) ?_
  have H1 := hI.H.2.1
  have f6 : f < 6 := by omega
  have F := hI.F f hf
  have F1 := F.1
  have H0 := hI.H.1
  obtain ⟨n, en⟩ : ∃ n : Nat, (nA N (248 + 20 * f + 0)) = (n : Int) := ⟨_, (Int.toNat_of_nonneg (by omega)).symm⟩
  have loop : ∀ k i : Nat, i + k = n → (∀ j : Nat, j < i → ¬ nA N (248 + 20 * f + (12 + j)) = (a : Int)) → zG l w mX2_goesOver 2 [(2, .int (nI i)), (0, .ref (b + 53 + 2 * f)), (1, .int (nI a))] [] h (fun u h1 => u = some (.int (bI (inB N f (a : Int)))) ∧ h1 = h) := by
    intro k
    induction k with
    | zero =>
      intro i hi hu
      refine g_iload_n 0 dX2_goesOver_2 rfl rfl ?_
      refine g_aload_n 1 dX2_goesOver_3 rfl rfl ?_
      refine g_geti (f := 65) dX2_goesOver_4 fl_X2_15 (c.1.2.2.2.2.2.2.2.2.2 f f6).2.1 (by decide) rfl ?_
      rw [show zi h 65 (b + 53 + 2 * f) = jI (nA N (248 + 20 * f + 0)) from (c.2.2.2.2.1 f hf f6).1 0 (by omega) (by omega)]
      refine g_zcmp_ge (a := ((i : Nat) : Int)) (b := (nA N (248 + 20 * f + 0))) (tgt := 27) (jI_nat i).symm rfl dX2_goesOver_7 (by decide) (by omega) (by omega) (fun k0 => ?_) (fun k0 => ?_)
      · refine g_iconst (v := bI false) dX2_goesOver_27 (by decide) ?_
        refine g_zreturn dX2_goesOver_28 rfl (bI_nar _) ?_
        exact ⟨by rw [show inB N f (a : Int) = false from inB_f (fun j hj => hu j (by omega))], rfl⟩
      · exact absurd k0 (by omega)
    | succ k ih =>
      intro i hi hu
      refine g_iload_n 0 dX2_goesOver_2 rfl rfl ?_
      refine g_aload_n 1 dX2_goesOver_3 rfl rfl ?_
      refine g_geti (f := 65) dX2_goesOver_4 fl_X2_15 (c.1.2.2.2.2.2.2.2.2.2 f f6).2.1 (by decide) rfl ?_
      rw [show zi h 65 (b + 53 + 2 * f) = jI (nA N (248 + 20 * f + 0)) from (c.2.2.2.2.1 f hf f6).1 0 (by omega) (by omega)]
      refine g_zcmp_ge (a := ((i : Nat) : Int)) (b := (nA N (248 + 20 * f + 0))) (tgt := 27) (jI_nat i).symm rfl dX2_goesOver_7 (by decide) (by omega) (by omega) (fun k0 => ?_) (fun k0 => ?_)
      · exact absurd k0 (by omega)
      · have F2 := F.2.1 i (by omega)
        refine g_aload_n 1 dX2_goesOver_10 rfl rfl ?_
        refine g_iload_n 0 dX2_goesOver_11 rfl rfl ?_
        refine g_invv (M' := mX2_pathAt) (As := [.int (nI i)]) (rest := []) dX2_goesOver_12 ml_X2_60 okX2_pathAt imX2_pathAt seX2_pathAt ⟨(Nat.le_of_ble_eq_true rfl), (Nat.le_of_ble_eq_true rfl)⟩ (ci := 2) rfl rfl (c.1.2.2.2.2.2.2.2.2.2 f f6).2.1 rfl rfl (Nat.le_of_ble_eq_true rfl) (c_pathIn c hf f6 (by omega) F2.1) ?_
        rintro _ q1 ⟨rfl, eq1⟩
        subst q1
        show zG l w mX2_goesOver 15 [(2, .int (nI i)), (0, .ref (b + 53 + 2 * f)), (1, .int (nI a))] [.int (nI (hopN N f i))] h _
        have h6 : hopN N f i < 6 := by unfold hopN; omega
        have h7 : nA N (248 + 20 * f + (12 + i)) = ((hopN N f i : Nat) : Int) := by unfold hopN; omega
        refine g_iload_n 2 dX2_goesOver_15 rfl rfl ?_
        refine g_ncmp_ne (tgt := 21) dX2_goesOver_16 (by decide) (by omega) (by omega) (fun e => ?_) (fun e => ?_)
        · refine g_inc (v := nI (i + 1)) (lv2 := [(2, .int (nI (i + 1))), (0, .ref (b + 53 + 2 * f)), (1, .int (nI a))]) 0 dX2_goesOver_21 rfl (nI_add _ 1) (by decide) rfl ?_
          refine g_goto (tgt := 2) dX2_goesOver_24 (by decide) ?_
          exact zG.sub [0, 1, 2] rfl (ih (i + 1) (by omega) (fun j hj => if e9 : j = i then by rw [e9]; omega else hu j (by omega)))
        · refine g_iconst (v := bI true) dX2_goesOver_19 (by decide) ?_
          refine g_zreturn dX2_goesOver_20 rfl (bI_nar _) ?_
          exact ⟨by rw [show inB N f (a : Int) = true from inB_t (i := i) (by omega) (by omega)], rfl⟩
  refine g_iconst (v := nI 0) dX2_goesOver_0 (by decide) ?_
  refine g_istore_n (lv2 := [(2, .int (nI 0)), (0, .ref (b + 53 + 2 * f)), (1, .int (nI a))]) dX2_goesOver_1 rfl (by decide) rfl ?_
  exact zG.sub [0, 1, 2] rfl (loop n 0 (Nat.zero_add _) (fun j hj => absurd hj (by omega)))
theorem c_detourM (r : MoN h m N) (hI : iN [] N) {z i p : Int} (zb : -2147483648 ≤ z ∧ z < 2147483648) (ib : -2147483648 ≤ i ∧ i < 2147483648) (pb : -2147483648 ≤ p ∧ p < 2147483648) : zM l w mX10_detour [.ref m, .int (jI z), .int (jI i), .int (jI p)] h (PM h m (uDetour N z i p)) := by
  refine zM.of (by decide) (Nat.le_of_ble_eq_true rfl) ?_
  have H1 := hI.H.2.1
  have H0 := hI.H.1
  refine g_iload_n 2 dX10_detour_0 rfl rfl ?_
  refine g_zif_ge (a := i) (tgt := 10) rfl dX10_detour_1 (by decide) (by omega) (fun g => ?_) (fun g => ?_)
  · refine g_aload_n 0 dX10_detour_10 rfl rfl ?_
    refine g_iload_n 1 dX10_detour_11 rfl rfl ?_
    refine g_invv (M' := mX10_isFlow) (As := [.int (jI z)]) (rest := []) dX10_detour_12 ml_X10_321 okX10_isFlow imX10_isFlow seX10_isFlow ⟨(Nat.le_of_ble_eq_true rfl), (Nat.le_of_ble_eq_true rfl)⟩ (ci := 10) rfl rfl r.1.1 rfl rfl (Nat.le_of_ble_eq_true rfl) (c_isFlow r H1 (by omega)) ?_
    rintro _ q2 ⟨rfl, eq2⟩
    subst q2
    show zG l w mX10_detour 15 [(0, .ref m), (1, .int (jI z)), (2, .int (jI i)), (3, .int (jI p))] [.int (bI (decide (0 ≤ z ∧ z < nA N 1)))] h _
    refine g_bif_eq (tgt := 26) dX10_detour_15 (by decide) (fun d => ?_) (fun d => ?_)
    · have d := of_decide_eq_false d
      refine g_aload_n 0 dX10_detour_26 rfl rfl ?_
      refine g_iconst (v := nI 2) dX10_detour_27 (by decide) ?_
      refine g_invv (M' := mX10_refuse) (As := [.int (nI 2)]) (rest := []) dX10_detour_28 ml_X10_289 okX10_refuse imX10_refuse seX10_refuse ⟨(Nat.le_of_ble_eq_true rfl), (Nat.le_of_ble_eq_true rfl)⟩ (ci := 10) rfl rfl r.1.1 rfl rfl (Nat.le_of_ble_eq_true rfl) (c_refuse r.1.1) ?_
      rintro _ q3 ⟨rfl, eq3⟩
      subst q3
      show zG l w mX10_detour 31 [(0, .ref m), (1, .int (jI z)), (2, .int (jI i)), (3, .int (jI p))] [.int (-1)] (zSi h 321 m (nI 2)) _
      refine g_ireturn dX10_detour_31 rfl ?_
      rw [show uDetour N z i p = (N, 2, -1) by unfold uDetour; rw [if_neg (by omega), if_neg (fun q => d q.1)]]
      exact ⟨rfl, h, r, FrM.rf, rfl⟩
    · have d := of_decide_eq_true d
      refine g_aload_n 0 dX10_detour_18 rfl rfl ?_
      refine g_iload_n 3 dX10_detour_19 rfl rfl ?_
      refine g_invv (M' := mX10_isLink) (As := [.int (jI p)]) (rest := []) dX10_detour_20 ml_X10_316 okX10_isLink imX10_isLink seX10_isLink ⟨(Nat.le_of_ble_eq_true rfl), (Nat.le_of_ble_eq_true rfl)⟩ (ci := 10) rfl rfl r.1.1 rfl rfl (Nat.le_of_ble_eq_true rfl) (c_isLink r H0 (by omega)) ?_
      rintro _ q4 ⟨rfl, eq4⟩
      subst q4
      show zG l w mX10_detour 23 [(0, .ref m), (1, .int (jI z)), (2, .int (jI i)), (3, .int (jI p))] [.int (bI (decide (0 ≤ p ∧ p < nA N 0)))] h _
      refine g_bif_ne (tgt := 32) dX10_detour_23 (by decide) (fun d2 => ?_) (fun d2 => ?_)
      · have d2 := of_decide_eq_true d2
        have hq : uDetour N z i p = (if inB N z.toNat p then (N, 4, -1) else if i < nA N (248 + 20 * z.toNat + 0) then toN N (248 + 20 * z.toNat + (12 + i.toNat)) p else (N, 5, -1)) := by unfold uDetour; rw [if_neg (by omega), if_pos ⟨d, d2⟩]
        rw [hq]
        clear hq
        obtain ⟨f, ef⟩ : ∃ f : Nat, z = (f : Int) := ⟨_, (Int.toNat_of_nonneg d.1).symm⟩
        subst ef
        obtain ⟨a, ea⟩ : ∃ a : Nat, p = (a : Int) := ⟨_, (Int.toNat_of_nonneg d2.1).symm⟩
        subst ea
        obtain ⟨j, ej⟩ : ∃ j : Nat, i = (j : Int) := ⟨_, (Int.toNat_of_nonneg (by omega)).symm⟩
        subst ej
        simp only [jI_nat]
        rw [show (f : Int).toNat = f from rfl, show (j : Int).toNat = j from rfl]
        have f6 : f < 6 := by omega
        have a6 : a < 6 := by omega
        have F1 := (hI.F f d.2).1
        refine g_aload_n 0 dX10_detour_32 rfl rfl ?_
        refine g_iload_n 1 dX10_detour_33 rfl rfl ?_
        refine g_iload_n 3 dX10_detour_34 rfl rfl ?_
        refine g_invv (M' := mX10_isInPath) (As := [.int (nI f), .int (nI a)]) (rest := []) dX10_detour_35 ml_X10_269 okX10_isInPath imX10_isInPath seX10_isInPath ⟨(Nat.le_of_ble_eq_true rfl), (Nat.le_of_ble_eq_true rfl)⟩ (ci := 10) rfl rfl r.1.1 rfl rfl (Nat.le_of_ble_eq_true rfl) (c_isInPath r hI d.2 a6) ?_
        rintro _ q6 ⟨rfl, eq6⟩
        subst q6
        show zG l w mX10_detour 38 [(0, .ref m), (1, .int (nI f)), (2, .int (nI j)), (3, .int (nI a))] [.int (bI (inB N f (a : Int)))] h _
        refine g_bif_eq (tgt := 47) dX10_detour_38 (by decide) (fun e => ?_) (fun e => ?_)
        · rw [if_neg (show ¬ inB N f (a : Int) = true by rw [e]; decide)]
          refine g_iload_n 2 dX10_detour_47 rfl rfl ?_
          refine g_i2l dX10_detour_48 ?_
          rw [nI_l (by omega), ← jL_nat]
          refine g_aload_n 0 dX10_detour_49 rfl rfl ?_
          refine g_iload_n 1 dX10_detour_50 rfl rfl ?_
          refine g_iconst (v := nI 0) dX10_detour_51 (by decide) ?_
          refine g_invv (M' := mX10_ofFlow) (As := [.int (nI f), .int (nI 0)]) (rest := [.long (jL ((j : Nat) : Int))]) dX10_detour_52 ml_X10_62 okX10_ofFlow imX10_ofFlow seX10_ofFlow ⟨(Nat.le_of_ble_eq_true rfl), (Nat.le_of_ble_eq_true rfl)⟩ (ci := 10) rfl rfl r.1.1 rfl rfl (Nat.le_of_ble_eq_true rfl) (c_ofFlowN r (by omega)) ?_
          rintro _ q8 ⟨rfl, eq8⟩
          subst q8
          show zG l w mX10_detour 55 [(0, .ref m), (1, .int (nI f)), (2, .int (nI j)), (3, .int (nI a))] [.long (jL (nA N (248 + 20 * f + 0))), .long (jL ((j : Nat) : Int))] h _
          refine g_lif_ge (a := ((j : Nat) : Int)) (b := (nA N (248 + 20 * f + 0))) (tgt := 75) dX10_detour_55 rfl dX10_detour_56 (by decide) (by omega) (by omega) (fun k => ?_) (fun k => ?_)
          · rw [if_neg (by omega)]
            refine g_aload_n 0 dX10_detour_75 rfl rfl ?_
            refine g_iconst (v := nI 5) dX10_detour_76 (by decide) ?_
            refine g_invv (M' := mX10_refuse) (As := [.int (nI 5)]) (rest := []) dX10_detour_77 ml_X10_289 okX10_refuse imX10_refuse seX10_refuse ⟨(Nat.le_of_ble_eq_true rfl), (Nat.le_of_ble_eq_true rfl)⟩ (ci := 10) rfl rfl r.1.1 rfl rfl (Nat.le_of_ble_eq_true rfl) (c_refuse r.1.1) ?_
            rintro _ q9 ⟨rfl, eq9⟩
            subst q9
            show zG l w mX10_detour 80 [(0, .ref m), (1, .int (nI f)), (2, .int (nI j)), (3, .int (nI a))] [.int (-1)] (zSi h 321 m (nI 5)) _
            refine g_ireturn dX10_detour_80 rfl ?_
            exact ⟨rfl, h, r, FrM.rf, rfl⟩
          · rw [if_pos (by omega)]
            refine g_aload_n 0 dX10_detour_59 rfl rfl ?_
            refine g_iload_n 1 dX10_detour_60 rfl rfl ?_
            refine g_bipush (v := nI 12) dX10_detour_61 (by decide) ?_
            refine g_iload_n 2 dX10_detour_63 rfl rfl ?_
            refine g_iadd dX10_detour_64 ?_
            rw [nI_add 12 j]
            refine g_invs (M' := mX10_flow0) (As := [.int (nI f), .int (nI (12 + j))]) (rest := [.ref m]) dX10_detour_65 ml_X10_52 okX10_flow0 stX10_flow0 ⟨(Nat.le_of_ble_eq_true rfl), (Nat.le_of_ble_eq_true rfl)⟩ rfl rfl (Nat.le_of_ble_eq_true rfl) c_flow0 ?_
            rintro _ q10 ⟨rfl, eq10⟩
            subst q10
            show zG l w mX10_detour 68 [(0, .ref m), (1, .int (nI f)), (2, .int (nI j)), (3, .int (nI a))] [.int (nI (248 + 20 * f + (12 + j))), .ref m] h _
            refine g_iload_n 3 dX10_detour_68 rfl rfl ?_
            have F2 := (hI.F f d.2).2.1 j (by omega)
            have T := c_turned (l := l) (w := w) r (q := 248 + 20 * f + (12 + j)) (by omega) (by unfold nSp; omega) (by omega) (v := (a : Int)) (by omega)
            rw [jI_nat] at T
            refine g_invv (M' := mX10_turned) (As := [.int (nI (248 + 20 * f + (12 + j))), .int (nI a)]) (rest := []) dX10_detour_69 ml_X10_343 okX10_turned imX10_turned seX10_turned ⟨(Nat.le_of_ble_eq_true rfl), (Nat.le_of_ble_eq_true rfl)⟩ (ci := 10) rfl rfl r.1.1 rfl rfl (Nat.le_of_ble_eq_true rfl) T ?_
            rintro _ h9 ⟨rfl, t2⟩
            show zG l w mX10_detour 72 [(0, .ref m), (1, .int (nI f)), (2, .int (nI j)), (3, .int (nI a))] [.int (jI (toN N (248 + 20 * f + (12 + j)) (a : Int)).2.2)] h9 _
            refine g_goto (tgt := 80) dX10_detour_72 (by decide) ?_
            refine g_ireturn dX10_detour_80 rfl ?_
            exact ⟨rfl, t2⟩
        · rw [if_pos e]
          refine g_aload_n 0 dX10_detour_41 rfl rfl ?_
          refine g_iconst (v := nI 4) dX10_detour_42 (by decide) ?_
          refine g_invv (M' := mX10_refuse) (As := [.int (nI 4)]) (rest := []) dX10_detour_43 ml_X10_289 okX10_refuse imX10_refuse seX10_refuse ⟨(Nat.le_of_ble_eq_true rfl), (Nat.le_of_ble_eq_true rfl)⟩ (ci := 10) rfl rfl r.1.1 rfl rfl (Nat.le_of_ble_eq_true rfl) (c_refuse r.1.1) ?_
          rintro _ q7 ⟨rfl, eq7⟩
          subst q7
          show zG l w mX10_detour 46 [(0, .ref m), (1, .int (nI f)), (2, .int (nI j)), (3, .int (nI a))] [.int (-1)] (zSi h 321 m (nI 4)) _
          refine g_ireturn dX10_detour_46 rfl ?_
          exact ⟨rfl, h, r, FrM.rf, rfl⟩
      · have d2 := of_decide_eq_false d2
        refine g_aload_n 0 dX10_detour_26 rfl rfl ?_
        refine g_iconst (v := nI 2) dX10_detour_27 (by decide) ?_
        refine g_invv (M' := mX10_refuse) (As := [.int (nI 2)]) (rest := []) dX10_detour_28 ml_X10_289 okX10_refuse imX10_refuse seX10_refuse ⟨(Nat.le_of_ble_eq_true rfl), (Nat.le_of_ble_eq_true rfl)⟩ (ci := 10) rfl rfl r.1.1 rfl rfl (Nat.le_of_ble_eq_true rfl) (c_refuse r.1.1) ?_
        rintro _ q5 ⟨rfl, eq5⟩
        subst q5
        show zG l w mX10_detour 31 [(0, .ref m), (1, .int (jI z)), (2, .int (jI i)), (3, .int (jI p))] [.int (-1)] (zSi h 321 m (nI 2)) _
        refine g_ireturn dX10_detour_31 rfl ?_
        rw [show uDetour N z i p = (N, 2, -1) by unfold uDetour; rw [if_neg (by omega), if_neg (fun q => d2 q.2)]]
        exact ⟨rfl, h, r, FrM.rf, rfl⟩
  · refine g_aload_n 0 dX10_detour_4 rfl rfl ?_
    refine g_iconst (v := nI 1) dX10_detour_5 (by decide) ?_
    refine g_invv (M' := mX10_refuse) (As := [.int (nI 1)]) (rest := []) dX10_detour_6 ml_X10_289 okX10_refuse imX10_refuse seX10_refuse ⟨(Nat.le_of_ble_eq_true rfl), (Nat.le_of_ble_eq_true rfl)⟩ (ci := 10) rfl rfl r.1.1 rfl rfl (Nat.le_of_ble_eq_true rfl) (c_refuse r.1.1) ?_
    rintro _ q1 ⟨rfl, eq1⟩
    subst q1
    show zG l w mX10_detour 9 [(0, .ref m), (1, .int (jI z)), (2, .int (jI i)), (3, .int (jI p))] [.int (-1)] (zSi h 321 m (nI 1)) _
    refine g_ireturn dX10_detour_9 rfl ?_
    rw [show uDetour N z i p = (N, 1, -1) by unfold uDetour; rw [if_pos (by omega)]]
    exact ⟨rfl, h, r, FrM.rf, rfl⟩
theorem c_detourC (c : CX h b π ls N [] t) (xo : XO h x b) (hx : x < zx h) (hb : x < b ∨ b + 65 ≤ x) (hI : iN [] N) {z i p : Int} (zb : -2147483648 ≤ z ∧ z < 2147483648) (ib : -2147483648 ≤ i ∧ i < 2147483648) (pb : -2147483648 ≤ p ∧ p < 2147483648) : zM l w mX9_detour [.ref x, .int (jI z), .int (jI i), .int (jI p)] h (PC h x b π ls t (uDetour N z i p)) := by
  refine zM.of (by decide) (Nat.le_of_ble_eq_true rfl) ?_
  have H1 := hI.H.2.1
  have H0 := hI.H.1
  refine g_iload_n 2 dX9_detour_0 rfl rfl ?_
  refine g_zif_ge (a := i) (tgt := 10) rfl dX9_detour_1 (by decide) (by omega) (fun g => ?_) (fun g => ?_)
  · refine g_aload_n 0 dX9_detour_10 rfl rfl ?_
    refine g_getr (f := 293) (b := b) dX9_detour_11 fl_X9_23 xo.1 rfl xo.2 ?_
    refine g_iload_n 1 dX9_detour_14 rfl rfl ?_
    by_cases d : 0 ≤ z ∧ z < nA N 1
    · have d0 := d
      obtain ⟨f, ef⟩ : ∃ f : Nat, z = (f : Int) := ⟨_, (Int.toNat_of_nonneg d.1).symm⟩
      subst ef
      simp only [jI_nat]
      have f6 : f < 6 := by omega
      refine g_invv (M' := mX5_flowAt) (As := [.int (nI f)]) (rest := []) dX9_detour_15 ml_X9_127 okX5_flowAt imX5_flowAt seX5_flowAt ⟨(Nat.le_of_ble_eq_true rfl), (Nat.le_of_ble_eq_true rfl)⟩ (ci := 5) rfl rfl c.1.1.2 rfl rfl (Nat.le_of_ble_eq_true rfl) (c_flowIn c H1 d.2) ?_
      rintro _ q4 ⟨rfl, eq4⟩
      subst q4
      show zG l w mX9_detour 18 [(0, .ref x), (1, .int (nI f)), (2, .int (jI i)), (3, .int (jI p))] [.ref (b + 53 + 2 * f)] h _
      refine g_astore (lv2 := [(4, .ref (b + 53 + 2 * f)), (0, .ref x), (1, .int (nI f)), (2, .int (jI i)), (3, .int (jI p))]) dX9_detour_18 (by decide) rfl ?_
      refine g_aload 0 dX9_detour_20 rfl ?_
      refine g_ifnull dX9_detour_22 ?_
      refine g_aload_n 1 dX9_detour_25 rfl rfl ?_
      refine g_getr (f := 293) (b := b) dX9_detour_26 fl_X9_23 xo.1 rfl xo.2 ?_
      refine g_iload_n 4 dX9_detour_29 rfl rfl ?_
      by_cases d2 : 0 ≤ p ∧ p < nA N 0
      · have hq : uDetour N (f : Int) i p = (if inB N f p then (N, 4, -1) else if i < nA N (248 + 20 * f + 0) then toN N (248 + 20 * f + (12 + i.toNat)) p else (N, 5, -1)) := by unfold uDetour; rw [if_neg (by omega), if_pos ⟨d, d2⟩]; rfl
        rw [hq]
        clear hq
        obtain ⟨a, ea⟩ : ∃ a : Nat, p = (a : Int) := ⟨_, (Int.toNat_of_nonneg d2.1).symm⟩
        subst ea
        obtain ⟨j, ej⟩ : ∃ j : Nat, i = (j : Int) := ⟨_, (Int.toNat_of_nonneg (by omega)).symm⟩
        subst ej
        simp only [jI_nat]
        rw [show (j : Int).toNat = j from rfl]
        have a6 : a < 6 := by omega
        have F := hI.F f d.2
        have F1 := F.1
        refine g_invv (M' := mX5_linkAt) (As := [.int (nI a)]) (rest := []) dX9_detour_30 ml_X9_118 okX5_linkAt imX5_linkAt seX5_linkAt ⟨(Nat.le_of_ble_eq_true rfl), (Nat.le_of_ble_eq_true rfl)⟩ (ci := 5) rfl rfl c.1.1.2 rfl rfl (Nat.le_of_ble_eq_true rfl) (c_linkIn c H0 d2.2) ?_
        rintro _ q7 ⟨rfl, eq7⟩
        subst q7
        show zG l w mX9_detour 33 [(4, .ref (b + 53 + 2 * f)), (0, .ref x), (1, .int (nI f)), (2, .int (nI j)), (3, .int (nI a))] [.ref (b + 11 + 7 * a)] h _
        refine g_ifnonnull (tgt := 42) dX9_detour_33 (by decide) ?_
        refine g_aload 0 dX9_detour_42 rfl ?_
        refine g_iload_n 4 dX9_detour_44 rfl rfl ?_
        refine g_invv (M' := mX2_goesOver) (As := [.int (nI a)]) (rest := []) dX9_detour_45 ml_X9_232 okX2_goesOver imX2_goesOver seX2_goesOver ⟨(Nat.le_of_ble_eq_true rfl), (Nat.le_of_ble_eq_true rfl)⟩ (ci := 2) rfl rfl (c.1.2.2.2.2.2.2.2.2.2 f f6).2.1 rfl rfl (Nat.le_of_ble_eq_true rfl) (c_goesOver c hI d.2 a6) ?_
        rintro _ q8 ⟨rfl, eq8⟩
        subst q8
        show zG l w mX9_detour 48 [(4, .ref (b + 53 + 2 * f)), (0, .ref x), (1, .int (nI f)), (2, .int (nI j)), (3, .int (nI a))] [.int (bI (inB N f (a : Int)))] h _
        refine g_bif_eq (tgt := 57) dX9_detour_48 (by decide) (fun e => ?_) (fun e => ?_)
        · rw [if_neg (show ¬ inB N f (a : Int) = true by rw [e]; decide)]
          refine g_iload_n 3 dX9_detour_57 rfl rfl ?_
          refine g_aload 0 dX9_detour_58 rfl ?_
          refine g_geti (f := 65) dX9_detour_60 fl_X9_137 (c.1.2.2.2.2.2.2.2.2.2 f f6).2.1 (by decide) rfl ?_
          rw [show zi h 65 (b + 53 + 2 * f) = jI (nA N (248 + 20 * f + 0)) from (c.2.2.2.2.1 f d.2 f6).1 0 (by omega) (by omega)]
          refine g_zcmp_lt (a := ((j : Nat) : Int)) (b := (nA N (248 + 20 * f + 0))) (tgt := 72) (jI_nat j).symm rfl dX9_detour_63 (by decide) (by omega) (by omega) (fun k => ?_) (fun k => ?_)
          · rw [if_pos (by omega)]
            have F2 := F.2.1 j (by omega)
            refine g_aload 0 dX9_detour_72 rfl ?_
            refine g_iload_n 3 dX9_detour_74 rfl rfl ?_
            refine g_invv (M' := mX2_pathAt) (As := [.int (nI j)]) (rest := []) dX9_detour_75 ml_X9_140 okX2_pathAt imX2_pathAt seX2_pathAt ⟨(Nat.le_of_ble_eq_true rfl), (Nat.le_of_ble_eq_true rfl)⟩ (ci := 2) rfl rfl (c.1.2.2.2.2.2.2.2.2.2 f f6).2.1 rfl rfl (Nat.le_of_ble_eq_true rfl) (c_pathIn c d.2 f6 (by omega) F2.1) ?_
            rintro _ q11 ⟨rfl, eq11⟩
            subst q11
            show zG l w mX9_detour 78 [(4, .ref (b + 53 + 2 * f)), (0, .ref x), (1, .int (nI f)), (2, .int (nI j)), (3, .int (nI a))] [.int (nI (hopN N f j))] h _
            refine g_istore (lv2 := [(5, .int (nI (hopN N f j))), (4, .ref (b + 53 + 2 * f)), (0, .ref x), (1, .int (nI f)), (2, .int (nI j)), (3, .int (nI a))]) dX9_detour_78 (by decide) rfl ?_
            refine g_aload 1 dX9_detour_80 rfl ?_
            refine g_iload_n 4 dX9_detour_82 rfl rfl ?_
            refine g_iload_n 5 dX9_detour_83 rfl rfl ?_
            rw [show toN N (248 + 20 * f + (12 + j)) (a : Int) = (uA N (248 + 20 * f + (12 + j)) (a : Int), 0, nA N (248 + 20 * f + (12 + j))) by unfold toN; rw [if_neg (inB_no e j (by omega))]]
            refine g_invv (M' := mX2_putPath) (As := [.int (nI j), .int (nI a)]) (rest := []) dX9_detour_84 ml_X9_236 okX2_putPath imX2_putPath seX2_putPath ⟨(Nat.le_of_ble_eq_true rfl), (Nat.le_of_ble_eq_true rfl)⟩ (ci := 2) rfl rfl (c.1.2.2.2.2.2.2.2.2.2 f f6).2.1 rfl rfl (Nat.le_of_ble_eq_true rfl) (c_putPath c.1 f6 (by omega)) ?_
            rintro _ q7 ⟨rfl, eq7⟩
            subst q7
            show zG l w mX9_detour 87 [(5, .int (nI (hopN N f j))), (4, .ref (b + 53 + 2 * f)), (0, .ref x), (1, .int (nI f)), (2, .int (nI j)), (3, .int (nI a))] [] (zSI h (b + 53 + 2 * f + 1) j (nI a)) _
            have fr1 : FrSc b h (zSI h (b + 53 + 2 * f + 1) j (nI a)) := FrSc.sI (by omega)
            have S1 : ClS (zSI h (b + 53 + 2 * f + 1) j (nI a)) b := c.1.fr (Nat.le_refl _) (fun q _ _ => ⟨rfl, rfl, fun _ _ _ _ => rfl, fun _ => rfl⟩)
            obtain ⟨n, en⟩ : ∃ n : Nat, nA N (248 + 20 * f + 0) = (n : Int) := ⟨_, (Int.toNat_of_nonneg (by omega)).symm⟩
            obtain ⟨nl, enl⟩ : ∃ n : Nat, nA N 0 = (n : Int) := ⟨_, (Int.toNat_of_nonneg (by omega)).symm⟩
            have Fl := c.2.2.2.2.1 f d.2 f6
            have M := c_measureW (l := l) (w := w) S1 (f := f) (n := n) (nl := nl) (p := hopN (uA N (248 + 20 * f + (12 + j)) (a : Int)) f) (g := fun q => nA (uA N (248 + 20 * f + (12 + j)) (a : Int)) (8 + 40 * q + 1)) f6 (by rw [zi_SI]; exact (Fl.1 0 (by omega) (by omega)).trans (by rw [en, jI_nat])) (by omega) (by rw [zi_SI]; exact c.2.2.1.1.trans (by rw [enl, jI_nat])) (by omega) (fun i hi => by
              have q := F.2.1 i (by omega)
              rw [zI_SI]
              by_cases e2 : i = j
              · subst e2
                rw [if_pos ⟨rfl, rfl⟩]
                have e4 : hopN (uA N (248 + 20 * f + (12 + i)) (a : Int)) f i = a := by unfold hopN; rw [nA_eq]; rfl
                rw [e4]
                exact ⟨rfl, by omega⟩
              · rw [if_neg (by omega)]
                have e4 : hopN (uA N (248 + 20 * f + (12 + j)) (a : Int)) f i = hopN N f i := by unfold hopN; rw [nA_ne (by omega)]
                rw [e4]
                exact ⟨(Fl.2.2.2 i (by omega)).1.trans (by rw [← jI_nat]; unfold hopN; rw [Int.toNat_of_nonneg q.1]), by unfold hopN; omega⟩) (fun q hq => by rw [zi_SI, nA_ne (by omega)]; exact (c.2.2.2.1 q (by omega) (by omega)).1 1 (by unfold lkJ; omega))
            refine g_aload_n 2 dX9_detour_87 rfl rfl ?_
            refine g_getr (f := 293) (b := b) dX9_detour_88 fl_X9_23 xo.1 rfl xo.2 ?_
            refine g_aload 1 dX9_detour_91 rfl ?_
            have P := CX.setPath (z := (a : Int)) c f6 (i := j) (by omega) (by omega)
            rw [jI_nat] at P
            have eb : ((List.range n).map fun i => (fun q => nA (uA N (248 + 20 * f + (12 + j)) (a : Int)) (8 + 40 * q + 1)) (hopN (uA N (248 + 20 * f + (12 + j)) (a : Int)) f i)).sum = backN (uA N (248 + 20 * f + (12 + j)) (a : Int)) f := by unfold backN; rw [nA_ne (by omega), en]; rfl
            rw [eb] at M
            refine g_invv (M' := mX5_measureBack) (As := [.ref (b + 53 + 2 * f)]) (rest := []) dX9_detour_93 ml_X9_239 okX5_measureBack imX5_measureBack seX5_measureBack ⟨(Nat.le_of_ble_eq_true rfl), (Nat.le_of_ble_eq_true rfl)⟩ (ci := 5) rfl rfl S1.1.2 rfl rfl (Nat.le_of_ble_eq_true rfl) M ?_
            rintro _ q8 ⟨rfl, eq8⟩
            subst q8
            show zG l w mX9_detour 96 [(5, .int (nI (hopN N f j))), (4, .ref (b + 53 + 2 * f)), (0, .ref x), (1, .int (nI f)), (2, .int (nI j)), (3, .int (nI a))] [] (zSi (zSI h (b + 53 + 2 * f + 1) j (nI a)) 69 (b + 53 + 2 * f) (jI (backN (uA N (248 + 20 * f + (12 + j)) (a : Int)) f))) _
            generalize zSi (zSI h (b + 53 + 2 * f + 1) j (nI a)) 69 (b + 53 + 2 * f) (jI (backN (uA N (248 + 20 * f + (12 + j)) (a : Int)) f)) = y9 at P ⊢
            refine g_aload_n 2 dX9_detour_96 rfl rfl ?_
            refine g_iload 0 dX9_detour_97 rfl ?_
            refine g_invv (M' := mX9_answer) (As := [.int (nI (hopN N f j))]) (rest := []) dX9_detour_99 ml_X9_75 okX9_answer imX9_answer seX9_answer ⟨(Nat.le_of_ble_eq_true rfl), (Nat.le_of_ble_eq_true rfl)⟩ (ci := 9) rfl rfl (XO.st xo hx hb P.2).1 rfl rfl (Nat.le_of_ble_eq_true rfl) (c_ans (XO.st xo hx hb P.2).1) ?_
            rintro _ q12 ⟨rfl, eq12⟩
            subst q12
            show zG l w mX9_detour 102 [(5, .int (nI (hopN N f j))), (4, .ref (b + 53 + 2 * f)), (0, .ref x), (1, .int (nI f)), (2, .int (nI j)), (3, .int (nI a))] [.int (nI (hopN N f j))] (zSi y9 290 x (nI 0)) _
            refine g_ireturn dX9_detour_102 rfl ?_
            have e7 : nI (hopN N f j) = jI (nA N (248 + 20 * f + (12 + j))) := by rw [← jI_nat]; unfold hopN; rw [Int.toNat_of_nonneg F2.1]
            exact ⟨by rw [e7], y9, P.1, P.2, rfl⟩
          · rw [if_neg (by omega)]
            refine g_aload_n 1 dX9_detour_66 rfl rfl ?_
            refine g_iconst (v := nI 5) dX9_detour_67 (by decide) ?_
            refine g_invv (M' := mX9_refuse) (As := [.int (nI 5)]) (rest := []) dX9_detour_68 ml_X9_58 okX9_refuse imX9_refuse seX9_refuse ⟨(Nat.le_of_ble_eq_true rfl), (Nat.le_of_ble_eq_true rfl)⟩ (ci := 9) rfl rfl xo.1 rfl rfl (Nat.le_of_ble_eq_true rfl) (c_refC xo.1) ?_
            rintro _ q10 ⟨rfl, eq10⟩
            subst q10
            show zG l w mX9_detour 71 [(4, .ref (b + 53 + 2 * f)), (0, .ref x), (1, .int (nI f)), (2, .int (nI j)), (3, .int (nI a))] [.int (-1)] (zSi h 290 x (nI 5)) _
            refine g_ireturn dX9_detour_71 rfl ?_
            exact ⟨rfl, h, c, CSt.rf, rfl⟩
        · rw [if_pos e]
          refine g_aload_n 1 dX9_detour_51 rfl rfl ?_
          refine g_iconst (v := nI 4) dX9_detour_52 (by decide) ?_
          refine g_invv (M' := mX9_refuse) (As := [.int (nI 4)]) (rest := []) dX9_detour_53 ml_X9_58 okX9_refuse imX9_refuse seX9_refuse ⟨(Nat.le_of_ble_eq_true rfl), (Nat.le_of_ble_eq_true rfl)⟩ (ci := 9) rfl rfl xo.1 rfl rfl (Nat.le_of_ble_eq_true rfl) (c_refC xo.1) ?_
          rintro _ q9 ⟨rfl, eq9⟩
          subst q9
          show zG l w mX9_detour 56 [(4, .ref (b + 53 + 2 * f)), (0, .ref x), (1, .int (nI f)), (2, .int (nI j)), (3, .int (nI a))] [.int (-1)] (zSi h 290 x (nI 4)) _
          refine g_ireturn dX9_detour_56 rfl ?_
          exact ⟨rfl, h, c, CSt.rf, rfl⟩
      · refine g_invv (M' := mX5_linkAt) (As := [.int (jI p)]) (rest := []) dX9_detour_30 ml_X9_118 okX5_linkAt imX5_linkAt seX5_linkAt ⟨(Nat.le_of_ble_eq_true rfl), (Nat.le_of_ble_eq_true rfl)⟩ (ci := 5) rfl rfl c.1.1.2 rfl rfl (Nat.le_of_ble_eq_true rfl) (c_linkOut c H0 pb d2) ?_
        rintro _ q5 ⟨rfl, eq5⟩
        subst q5
        show zG l w mX9_detour 33 [(4, .ref (b + 53 + 2 * f)), (0, .ref x), (1, .int (nI f)), (2, .int (jI i)), (3, .int (jI p))] [.null] h _
        refine g_ifnonnullN dX9_detour_33 ?_
        refine g_aload_n 1 dX9_detour_36 rfl rfl ?_
        refine g_iconst (v := nI 2) dX9_detour_37 (by decide) ?_
        refine g_invv (M' := mX9_refuse) (As := [.int (nI 2)]) (rest := []) dX9_detour_38 ml_X9_58 okX9_refuse imX9_refuse seX9_refuse ⟨(Nat.le_of_ble_eq_true rfl), (Nat.le_of_ble_eq_true rfl)⟩ (ci := 9) rfl rfl xo.1 rfl rfl (Nat.le_of_ble_eq_true rfl) (c_refC xo.1) ?_
        rintro _ q6 ⟨rfl, eq6⟩
        subst q6
        show zG l w mX9_detour 41 [(4, .ref (b + 53 + 2 * f)), (0, .ref x), (1, .int (nI f)), (2, .int (jI i)), (3, .int (jI p))] [.int (-1)] (zSi h 290 x (nI 2)) _
        refine g_ireturn dX9_detour_41 rfl ?_
        rw [show uDetour N (f : Int) i p = (N, 2, -1) by unfold uDetour; rw [if_neg (by omega), if_neg (fun q => d2 q.2)]]
        exact ⟨rfl, h, c, CSt.rf, rfl⟩
    · refine g_invv (M' := mX5_flowAt) (As := [.int (jI z)]) (rest := []) dX9_detour_15 ml_X9_127 okX5_flowAt imX5_flowAt seX5_flowAt ⟨(Nat.le_of_ble_eq_true rfl), (Nat.le_of_ble_eq_true rfl)⟩ (ci := 5) rfl rfl c.1.1.2 rfl rfl (Nat.le_of_ble_eq_true rfl) (c_flowOut c H1 zb d) ?_
      rintro _ q2 ⟨rfl, eq2⟩
      subst q2
      show zG l w mX9_detour 18 [(0, .ref x), (1, .int (jI z)), (2, .int (jI i)), (3, .int (jI p))] [.null] h _
      refine g_astoreN (lv2 := [(4, .null), (0, .ref x), (1, .int (jI z)), (2, .int (jI i)), (3, .int (jI p))]) dX9_detour_18 (by decide) rfl ?_
      refine g_aloadN 0 dX9_detour_20 rfl ?_
      refine g_ifnullN (tgt := 36) dX9_detour_22 (by decide) ?_
      refine g_aload_n 1 dX9_detour_36 rfl rfl ?_
      refine g_iconst (v := nI 2) dX9_detour_37 (by decide) ?_
      refine g_invv (M' := mX9_refuse) (As := [.int (nI 2)]) (rest := []) dX9_detour_38 ml_X9_58 okX9_refuse imX9_refuse seX9_refuse ⟨(Nat.le_of_ble_eq_true rfl), (Nat.le_of_ble_eq_true rfl)⟩ (ci := 9) rfl rfl xo.1 rfl rfl (Nat.le_of_ble_eq_true rfl) (c_refC xo.1) ?_
      rintro _ q3 ⟨rfl, eq3⟩
      subst q3
      show zG l w mX9_detour 41 [(4, .null), (0, .ref x), (1, .int (jI z)), (2, .int (jI i)), (3, .int (jI p))] [.int (-1)] (zSi h 290 x (nI 2)) _
      refine g_ireturn dX9_detour_41 rfl ?_
      rw [show uDetour N z i p = (N, 2, -1) by unfold uDetour; rw [if_neg (by omega), if_neg (fun q => d q.1)]]
      exact ⟨rfl, h, c, CSt.rf, rfl⟩
  · refine g_aload_n 0 dX9_detour_4 rfl rfl ?_
    refine g_iconst (v := nI 1) dX9_detour_5 (by decide) ?_
    refine g_invv (M' := mX9_refuse) (As := [.int (nI 1)]) (rest := []) dX9_detour_6 ml_X9_58 okX9_refuse imX9_refuse seX9_refuse ⟨(Nat.le_of_ble_eq_true rfl), (Nat.le_of_ble_eq_true rfl)⟩ (ci := 9) rfl rfl xo.1 rfl rfl (Nat.le_of_ble_eq_true rfl) (c_refC xo.1) ?_
    rintro _ q1 ⟨rfl, eq1⟩
    subst q1
    show zG l w mX9_detour 9 [(0, .ref x), (1, .int (jI z)), (2, .int (jI i)), (3, .int (jI p))] [.int (-1)] (zSi h 290 x (nI 1)) _
    refine g_ireturn dX9_detour_9 rfl ?_
    rw [show uDetour N z i p = (N, 1, -1) by unfold uDetour; rw [if_pos (by omega)]]
    exact ⟨rfl, h, c, CSt.rf, rfl⟩
end QM5
