section QM4
variable {l : Launch} {w : zW} {h : zH} {m x b : Nat} {π : Nat → Nat} {ls : Nat → List Nat} {N : nT} {X : List Nat} {t : Nat}
theorem c_linkW (S : ClS h b) {n a : Nat} (hn : zi h 161 b = nI n) (n6 : n ≤ 6) (ha : a < n) : zM l w mX5_linkAt [.ref b, .int (nI a)] h (fun v h1 => v = some (.ref (b + 11 + 7 * a)) ∧ h1 = h) := by
  refine zM.of (by decide) (Nat.le_of_ble_eq_true rfl) ?_
  refine g_iload_n 1 dX5_linkAt_0 rfl rfl ?_
  refine g_zif_lt (a := ((a : Nat) : Int)) (tgt := 30) (jI_nat a).symm dX5_linkAt_1 (by decide) (by omega) (fun q => ?_) (fun q => ?_)
  · exact absurd q (by omega)
  · refine g_iload_n 1 dX5_linkAt_4 rfl rfl ?_
    refine g_aload_n 0 dX5_linkAt_5 rfl rfl ?_
    refine g_geti (f := 161) dX5_linkAt_6 fl_X5_49 S.1.2 (by decide) rfl ?_
    rw [show zi h 161 b = nI n from hn]
    refine g_zcmp_ge (a := ((a : Nat) : Int)) (b := ((n : Nat) : Int)) (tgt := 30) (jI_nat a).symm (jI_nat n).symm dX5_linkAt_9 (by decide) (by omega) (by omega) (fun q2 => ?_) (fun q2 => ?_)
    · exact absurd q2 (by omega)
    · refine g_iload_n 1 dX5_linkAt_12 rfl rfl ?_
      refine g_aload_n 0 dX5_linkAt_13 rfl rfl ?_
      refine g_getr (f := 160) (b := b + 1) dX5_linkAt_14 fl_X5_11 S.1.2 rfl S.2.1.1 ?_
      refine g_alen (t := 5) (v := nI 6) dX5_linkAt_17 S.2.1.2.1 rfl (fun _ => rfl) (congrArg Int32.ofNat (show zn h (b + 1) = 6 from S.2.1.2.2)) ?_
      refine g_zcmp_ge (a := ((a : Nat) : Int)) (b := 6) (tgt := 30) (jI_nat a).symm (by decide) dX5_linkAt_18 (by decide) (by omega) (by omega) (fun q3 => ?_) (fun q3 => ?_)
      · exact absurd q3 (by omega)
      · refine g_aload_n 0 dX5_linkAt_21 rfl rfl ?_
        refine g_getr (f := 160) (b := b + 1) dX5_linkAt_22 fl_X5_11 S.1.2 rfl S.2.1.1 ?_
        refine g_iload_n 1 dX5_linkAt_25 rfl rfl ?_
        refine g_aald (t := 5) (b := b + 11 + 7 * a) dX5_linkAt_26 S.2.1.2.1 rfl (fun _ => rfl) (by decide) (by rw [show zn h (b + 1) = 6 from S.2.1.2.2]; exact vp_in_nI (by omega) (by omega)) (by rw [nI_clamp (by omega)]; exact (S.2.2.2.2.2.2.2.2.1 a (by omega)).1) ?_
        refine g_goto (tgt := 31) dX5_linkAt_27 (by decide) ?_
        refine g_areturn dX5_linkAt_31 rfl (Or.inl ⟨_, rfl⟩) (Or.inr ⟨_, rfl⟩) ?_
        exact ⟨rfl, rfl⟩
theorem c_flowW (S : ClS h b) {n a : Nat} (hn : zi h 163 b = nI n) (n6 : n ≤ 6) (ha : a < n) : zM l w mX5_flowAt [.ref b, .int (nI a)] h (fun v h1 => v = some (.ref (b + 53 + 2 * a)) ∧ h1 = h) := by
  refine zM.of (by decide) (Nat.le_of_ble_eq_true rfl) ?_
  refine g_iload_n 1 dX5_flowAt_0 rfl rfl ?_
  refine g_zif_lt (a := ((a : Nat) : Int)) (tgt := 30) (jI_nat a).symm dX5_flowAt_1 (by decide) (by omega) (fun q => ?_) (fun q => ?_)
  · exact absurd q (by omega)
  · refine g_iload_n 1 dX5_flowAt_4 rfl rfl ?_
    refine g_aload_n 0 dX5_flowAt_5 rfl rfl ?_
    refine g_geti (f := 163) dX5_flowAt_6 fl_X5_53 S.1.2 (by decide) rfl ?_
    rw [show zi h 163 b = nI n from hn]
    refine g_zcmp_ge (a := ((a : Nat) : Int)) (b := ((n : Nat) : Int)) (tgt := 30) (jI_nat a).symm (jI_nat n).symm dX5_flowAt_9 (by decide) (by omega) (by omega) (fun q2 => ?_) (fun q2 => ?_)
    · exact absurd q2 (by omega)
    · refine g_iload_n 1 dX5_flowAt_12 rfl rfl ?_
      refine g_aload_n 0 dX5_flowAt_13 rfl rfl ?_
      refine g_getr (f := 162) (b := b + 2) dX5_flowAt_14 fl_X5_19 S.1.2 rfl S.2.2.1.1 ?_
      refine g_alen (t := 4) (v := nI 6) dX5_flowAt_17 S.2.2.1.2.1 rfl (fun _ => rfl) (congrArg Int32.ofNat (show zn h (b + 2) = 6 from S.2.2.1.2.2)) ?_
      refine g_zcmp_ge (a := ((a : Nat) : Int)) (b := 6) (tgt := 30) (jI_nat a).symm (by decide) dX5_flowAt_18 (by decide) (by omega) (by omega) (fun q3 => ?_) (fun q3 => ?_)
      · exact absurd q3 (by omega)
      · refine g_aload_n 0 dX5_flowAt_21 rfl rfl ?_
        refine g_getr (f := 162) (b := b + 2) dX5_flowAt_22 fl_X5_19 S.1.2 rfl S.2.2.1.1 ?_
        refine g_iload_n 1 dX5_flowAt_25 rfl rfl ?_
        refine g_aald (t := 4) (b := b + 53 + 2 * a) dX5_flowAt_26 S.2.2.1.2.1 rfl (fun _ => rfl) (by decide) (by rw [show zn h (b + 2) = 6 from S.2.2.1.2.2]; exact vp_in_nI (by omega) (by omega)) (by rw [nI_clamp (by omega)]; exact (S.2.2.2.2.2.2.2.2.2 a (by omega)).1) ?_
        refine g_goto (tgt := 31) dX5_flowAt_27 (by decide) ?_
        refine g_areturn dX5_flowAt_31 rfl (Or.inl ⟨_, rfl⟩) (Or.inr ⟨_, rfl⟩) ?_
        exact ⟨rfl, rfl⟩
theorem c_pathW (S : ClS h b) {f n i : Nat} (f6 : f < 6) (hn : zi h 65 (b + 53 + 2 * f) = nI n) (n4 : n ≤ 4) (hi : i < n) : zM l w mX2_pathAt [.ref (b + 53 + 2 * f), .int (nI i)] h (fun v h1 => v = some (.int (zI h (b + 53 + 2 * f + 1) i)) ∧ h1 = h) := by
  refine zM.of (by decide) (Nat.le_of_ble_eq_true rfl) ?_
  refine g_iload_n 1 dX2_pathAt_0 rfl rfl ?_
  refine g_zif_lt (a := ((i : Nat) : Int)) (tgt := 30) (jI_nat i).symm dX2_pathAt_1 (by decide) (by omega) (fun q => ?_) (fun q => ?_)
  · exact absurd q (by omega)
  · refine g_iload_n 1 dX2_pathAt_4 rfl rfl ?_
    refine g_aload_n 0 dX2_pathAt_5 rfl rfl ?_
    refine g_geti (f := 65) dX2_pathAt_6 fl_X2_15 (S.2.2.2.2.2.2.2.2.2 f f6).2.1 (by decide) rfl ?_
    rw [show zi h 65 (b + 53 + 2 * f) = nI n from hn]
    refine g_zcmp_ge (a := ((i : Nat) : Int)) (b := ((n : Nat) : Int)) (tgt := 30) (jI_nat i).symm (jI_nat n).symm dX2_pathAt_9 (by decide) (by omega) (by omega) (fun q2 => ?_) (fun q2 => ?_)
    · exact absurd q2 (by omega)
    · refine g_iload_n 1 dX2_pathAt_12 rfl rfl ?_
      refine g_aload_n 0 dX2_pathAt_13 rfl rfl ?_
      refine g_getr (f := 64) (b := b + 53 + 2 * f + 1) dX2_pathAt_14 fl_X2_9 (S.2.2.2.2.2.2.2.2.2 f f6).2.1 rfl (S.2.2.2.2.2.2.2.2.2 f f6).2.2.1 ?_
      refine g_alen (t := 1) (v := nI 4) dX2_pathAt_17 (S.2.2.2.2.2.2.2.2.2 f f6).2.2.2.1 rfl (fun _ => rfl) (congrArg Int32.ofNat (show zn h (b + 53 + 2 * f + 1) = 4 from (S.2.2.2.2.2.2.2.2.2 f f6).2.2.2.2)) ?_
      refine g_zcmp_ge (a := ((i : Nat) : Int)) (b := 4) (tgt := 30) (jI_nat i).symm (by decide) dX2_pathAt_18 (by decide) (by omega) (by omega) (fun q3 => ?_) (fun q3 => ?_)
      · exact absurd q3 (by omega)
      · refine g_aload_n 0 dX2_pathAt_21 rfl rfl ?_
        refine g_getr (f := 64) (b := b + 53 + 2 * f + 1) dX2_pathAt_22 fl_X2_9 (S.2.2.2.2.2.2.2.2.2 f f6).2.1 rfl (S.2.2.2.2.2.2.2.2.2 f f6).2.2.1 ?_
        refine g_iload_n 1 dX2_pathAt_25 rfl rfl ?_
        refine g_iald dX2_pathAt_26 (S.2.2.2.2.2.2.2.2.2 f f6).2.2.2.1 (by rw [show zn h (b + 53 + 2 * f + 1) = 4 from (S.2.2.2.2.2.2.2.2.2 f f6).2.2.2.2]; exact vp_in_nI (by omega) (by omega)) ?_
        rw [nI_clamp (by omega)]
        refine g_goto (tgt := 31) dX2_pathAt_27 (by decide) ?_
        refine g_ireturn dX2_pathAt_31 rfl ?_
        exact ⟨rfl, rfl⟩
theorem c_putPath (S : ClS h b) {f i : Nat} {v : Int32} (f6 : f < 6) (hi : i < 4) : zM l w mX2_putPath [.ref (b + 53 + 2 * f), .int (nI i), .int v] h (fun u h1 => u = none ∧ h1 = zSI h (b + 53 + 2 * f + 1) i v) := by
  refine zM.of (by decide) (Nat.le_of_ble_eq_true rfl) ?_
  refine g_iload_n 1 dX2_putPath_0 rfl rfl ?_
  refine g_zif_lt (a := ((i : Nat) : Int)) (tgt := 20) (jI_nat i).symm dX2_putPath_1 (by decide) (by omega) (fun q => ?_) (fun q => ?_)
  · exact absurd q (by omega)
  · refine g_iload_n 1 dX2_putPath_4 rfl rfl ?_
    refine g_aload_n 0 dX2_putPath_5 rfl rfl ?_
    refine g_getr (f := 64) (b := b + 53 + 2 * f + 1) dX2_putPath_6 fl_X2_9 (S.2.2.2.2.2.2.2.2.2 f f6).2.1 rfl (S.2.2.2.2.2.2.2.2.2 f f6).2.2.1 ?_
    refine g_alen (t := 1) (v := nI 4) dX2_putPath_9 (S.2.2.2.2.2.2.2.2.2 f f6).2.2.2.1 rfl (fun _ => rfl) (congrArg Int32.ofNat (show zn h (b + 53 + 2 * f + 1) = 4 from (S.2.2.2.2.2.2.2.2.2 f f6).2.2.2.2)) ?_
    refine g_zcmp_ge (a := ((i : Nat) : Int)) (b := 4) (tgt := 20) (jI_nat i).symm (by decide) dX2_putPath_10 (by decide) (by omega) (by omega) (fun q2 => ?_) (fun q2 => ?_)
    · exact absurd q2 (by omega)
    · refine g_aload_n 0 dX2_putPath_13 rfl rfl ?_
      refine g_getr (f := 64) (b := b + 53 + 2 * f + 1) dX2_putPath_14 fl_X2_9 (S.2.2.2.2.2.2.2.2.2 f f6).2.1 rfl (S.2.2.2.2.2.2.2.2.2 f f6).2.2.1 ?_
      refine g_iload_n 1 dX2_putPath_17 rfl rfl ?_
      refine g_iload_n 2 dX2_putPath_18 rfl rfl ?_
      refine g_iast (n := i) dX2_putPath_19 (S.2.2.2.2.2.2.2.2.2 f f6).2.2.2.1 (by rw [show zn h (b + 53 + 2 * f + 1) = 4 from (S.2.2.2.2.2.2.2.2.2 f f6).2.2.2.2]; exact vp_in_nI (by omega) (by omega)) (nI_clamp (by omega)) ?_
      refine g_return dX2_putPath_20 rfl ?_
      exact ⟨rfl, rfl⟩
theorem c_measureW (S : ClS h b) {f n nl : Nat} {p : Nat → Nat} {g : Nat → Int} (f6 : f < 6) (hn : zi h 65 (b + 53 + 2 * f) = nI n) (n4 : n ≤ 4) (hl : zi h 161 b = nI nl) (nl6 : nl ≤ 6) (hP : ∀ i, i < n → zI h (b + 53 + 2 * f + 1) i = nI (p i) ∧ p i < nl) (hL : ∀ a, a < nl → zi h 129 (b + 11 + 7 * a) = jI (g a)) : zM l w mX5_measureBack [.ref b, .ref (b + 53 + 2 * f)] h (fun u h1 => u = none ∧ h1 = zSi h 69 (b + 53 + 2 * f) (jI (((List.range n).map fun i => g (p i)).sum))) := by
  refine zM.of (by decide) (Nat.le_of_ble_eq_true rfl) ?_
  have loop : ∀ k i : Nat, i + k = n → zG l w mX5_measureBack 4 [(3, .int (nI i)), (2, .int (jI (((List.range i).map fun i => g (p i)).sum))), (0, .ref b), (1, .ref (b + 53 + 2 * f))] [] h (fun u h1 => u = none ∧ h1 = zSi h 69 (b + 53 + 2 * f) (jI (((List.range n).map fun i => g (p i)).sum))) := by
    intro k
    induction k with
    | zero =>
      intro i hi
      refine g_iload_n 0 dX5_measureBack_4 rfl rfl ?_
      refine g_aload_n 3 dX5_measureBack_5 rfl rfl ?_
      refine g_geti (f := 65) dX5_measureBack_6 fl_X5_125 (S.2.2.2.2.2.2.2.2.2 f f6).2.1 (by decide) rfl ?_
      rw [show zi h 65 (b + 53 + 2 * f) = nI n from hn]
      refine g_zcmp_ge (a := ((i : Nat) : Int)) (b := ((n : Nat) : Int)) (tgt := 42) (jI_nat i).symm (jI_nat n).symm dX5_measureBack_9 (by decide) (by omega) (by omega) (fun k0 => ?_) (fun k0 => ?_)
      · obtain rfl : i = n := by omega
        refine g_aload_n 3 dX5_measureBack_42 rfl rfl ?_
        refine g_iload_n 1 dX5_measureBack_43 rfl rfl ?_
        refine g_puti (f := 69) dX5_measureBack_44 fl_X5_139 (Or.inl rfl) (S.2.2.2.2.2.2.2.2.2 f f6).2.1 rfl ?_
        refine g_return dX5_measureBack_47 rfl ?_
        exact ⟨rfl, rfl⟩
      · exact absurd k0 (by omega)
    | succ k ih =>
      intro i hi
      refine g_iload_n 0 dX5_measureBack_4 rfl rfl ?_
      refine g_aload_n 3 dX5_measureBack_5 rfl rfl ?_
      refine g_geti (f := 65) dX5_measureBack_6 fl_X5_125 (S.2.2.2.2.2.2.2.2.2 f f6).2.1 (by decide) rfl ?_
      rw [show zi h 65 (b + 53 + 2 * f) = nI n from hn]
      refine g_zcmp_ge (a := ((i : Nat) : Int)) (b := ((n : Nat) : Int)) (tgt := 42) (jI_nat i).symm (jI_nat n).symm dX5_measureBack_9 (by decide) (by omega) (by omega) (fun k0 => ?_) (fun k0 => ?_)
      · exact absurd k0 (by omega)
      · obtain ⟨hp, p6⟩ := hP i (by omega)
        have pl := hL (p i) p6
        refine g_aload_n 2 dX5_measureBack_12 rfl rfl ?_
        refine g_aload_n 3 dX5_measureBack_13 rfl rfl ?_
        refine g_iload_n 0 dX5_measureBack_14 rfl rfl ?_
        refine g_invv (M' := mX2_pathAt) (As := [.int (nI i)]) (rest := [.ref b]) dX5_measureBack_15 ml_X5_128 okX2_pathAt imX2_pathAt seX2_pathAt ⟨(Nat.le_of_ble_eq_true rfl), (Nat.le_of_ble_eq_true rfl)⟩ (ci := 2) rfl rfl (S.2.2.2.2.2.2.2.2.2 f f6).2.1 rfl rfl (Nat.le_of_ble_eq_true rfl) (c_pathW S f6 hn n4 (by omega)) ?_
        rintro _ q1 ⟨rfl, eq1⟩
        subst q1
        show zG l w mX5_measureBack 18 [(3, .int (nI i)), (2, .int (jI (((List.range i).map fun i => g (p i)).sum))), (0, .ref b), (1, .ref (b + 53 + 2 * f))] [.int (zI h (b + 53 + 2 * f + 1) i), .ref b] h _
        rw [hp]
        refine g_invv (M' := mX5_linkAt) (As := [.int (nI (p i))]) (rest := []) dX5_measureBack_18 ml_X5_132 okX5_linkAt imX5_linkAt seX5_linkAt ⟨(Nat.le_of_ble_eq_true rfl), (Nat.le_of_ble_eq_true rfl)⟩ (ci := 5) rfl rfl S.1.2 rfl rfl (Nat.le_of_ble_eq_true rfl) (c_linkW S hl nl6 p6) ?_
        rintro _ q2 ⟨rfl, eq2⟩
        subst q2
        show zG l w mX5_measureBack 21 [(3, .int (nI i)), (2, .int (jI (((List.range i).map fun i => g (p i)).sum))), (0, .ref b), (1, .ref (b + 53 + 2 * f))] [.ref (b + 11 + 7 * (p i))] h _
        refine g_astore (lv2 := [(4, .ref (b + 11 + 7 * (p i))), (3, .int (nI i)), (2, .int (jI (((List.range i).map fun i => g (p i)).sum))), (0, .ref b), (1, .ref (b + 53 + 2 * f))]) dX5_measureBack_21 (by decide) rfl ?_
        refine g_aload 0 dX5_measureBack_23 rfl ?_
        refine g_ifnull dX5_measureBack_25 ?_
        refine g_iload_n 2 dX5_measureBack_28 rfl rfl ?_
        refine g_aload 0 dX5_measureBack_29 rfl ?_
        refine g_geti (f := 129) dX5_measureBack_31 fl_X5_136 (S.2.2.2.2.2.2.2.2.1 (p i) (by omega : p i < 6)).2.1 (by decide) rfl ?_
        rw [show zi h 129 (b + 11 + 7 * (p i)) = jI (g (p i)) from pl]
        refine g_iadd dX5_measureBack_34 ?_
        refine zG.top (show (jI (((List.range i).map fun i => g (p i)).sum)) + (jI (g (p i))) = jI ((((List.range i).map fun i => g (p i)).sum) + (g (p i))) by rw [jI_add]) ?_
        refine zG.top (show _ = jI (((List.range (i + 1)).map fun i => g (p i)).sum) from congrArg jI (by rw [List.range_succ, List.map_append, List.sum_append]; simp)) ?_
        refine g_istore_n (lv2 := [(2, .int (jI (((List.range (i + 1)).map fun i => g (p i)).sum))), (4, .ref (b + 11 + 7 * (p i))), (3, .int (nI i)), (0, .ref b), (1, .ref (b + 53 + 2 * f))]) dX5_measureBack_35 rfl (by decide) rfl ?_
        refine g_inc (v := nI (i + 1)) (lv2 := [(3, .int (nI (i + 1))), (2, .int (jI (((List.range (i + 1)).map fun i => g (p i)).sum))), (4, .ref (b + 11 + 7 * (p i))), (0, .ref b), (1, .ref (b + 53 + 2 * f))]) 2 dX5_measureBack_36 rfl (nI_add _ 1) (by decide) rfl ?_
        refine g_goto (tgt := 4) dX5_measureBack_39 (by decide) ?_
        exact zG.sub [0, 1, 3, 4] rfl (ih (i + 1) (by omega))
  refine g_iconst (v := jI 0) dX5_measureBack_0 (by decide) ?_
  refine g_istore_n (lv2 := [(2, .int (jI 0)), (0, .ref b), (1, .ref (b + 53 + 2 * f))]) dX5_measureBack_1 rfl (by decide) rfl ?_
  refine g_iconst (v := nI 0) dX5_measureBack_2 (by decide) ?_
  refine g_istore_n (lv2 := [(3, .int (nI 0)), (2, .int (jI 0)), (0, .ref b), (1, .ref (b + 53 + 2 * f))]) dX5_measureBack_3 rfl (by decide) rfl ?_
  exact zG.sub [0, 1, 2, 3] rfl (loop n 0 (Nat.zero_add _))
end QM4
