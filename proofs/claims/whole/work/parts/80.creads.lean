section CY1
variable {l : Launch} {w : zW} {h : zH} {b : Nat} {π : Nat → Nat} {ls : Nat → List Nat} {N : nT} {X : List Nat} {t : Nat}
theorem c_linkIn (c : CX h b π ls N X t) (h0 : 0 ≤ nA N 0 ∧ nA N 0 ≤ 6) {a : Nat} (ha : (a : Int) < nA N 0) : zM l w mX5_linkAt [.ref b, .int (nI a)] h (fun v h1 => v = some (.ref (b + 11 + 7 * a)) ∧ h1 = h) := by
  refine zM.of (by decide) (Nat.le_of_ble_eq_true rfl) ?_
  have a6 : a < 6 := by omega
  refine g_iload_n 1 dX5_linkAt_0 rfl rfl ?_
  refine g_zif_lt (a := ((a : Nat) : Int)) (tgt := 30) (jI_nat a).symm dX5_linkAt_1 (by decide) (by omega) (fun q => ?_) (fun q => ?_)
  · exact absurd q (by omega)
  · refine g_iload_n 1 dX5_linkAt_4 rfl rfl ?_
    refine g_aload_n 0 dX5_linkAt_5 rfl rfl ?_
    refine g_geti (f := 161) dX5_linkAt_6 fl_X5_49 c.1.1.2 (by decide) rfl ?_
    rw [show zi h 161 b = jI (nA N 0) from c.2.2.1.1]
    refine g_zcmp_ge (a := ((a : Nat) : Int)) (b := (nA N 0)) (tgt := 30) (jI_nat a).symm rfl dX5_linkAt_9 (by decide) (by omega) (by omega) (fun q2 => ?_) (fun q2 => ?_)
    · exact absurd q2 (by omega)
    · refine g_iload_n 1 dX5_linkAt_12 rfl rfl ?_
      refine g_aload_n 0 dX5_linkAt_13 rfl rfl ?_
      refine g_getr (f := 160) (b := b + 1) dX5_linkAt_14 fl_X5_11 c.1.1.2 rfl c.1.2.1.1 ?_
      refine g_alen (t := 5) (v := nI 6) dX5_linkAt_17 c.1.2.1.2.1 rfl (fun _ => rfl) (congrArg Int32.ofNat (show zn h (b + 1) = 6 from c.1.2.1.2.2)) ?_
      refine g_zcmp_ge (a := ((a : Nat) : Int)) (b := 6) (tgt := 30) (jI_nat a).symm (by decide) dX5_linkAt_18 (by decide) (by omega) (by omega) (fun q3 => ?_) (fun q3 => ?_)
      · exact absurd q3 (by omega)
      · refine g_aload_n 0 dX5_linkAt_21 rfl rfl ?_
        refine g_getr (f := 160) (b := b + 1) dX5_linkAt_22 fl_X5_11 c.1.1.2 rfl c.1.2.1.1 ?_
        refine g_iload_n 1 dX5_linkAt_25 rfl rfl ?_
        refine g_aald (t := 5) (b := b + 11 + 7 * a) dX5_linkAt_26 c.1.2.1.2.1 rfl (fun _ => rfl) (by decide) (by rw [show zn h (b + 1) = 6 from c.1.2.1.2.2]; exact vp_in_nI (by omega) (by omega)) (by rw [nI_clamp (by omega)]; exact (c.1.2.2.2.2.2.2.2.2.1 a a6).1) ?_
        refine g_goto (tgt := 31) dX5_linkAt_27 (by decide) ?_
        refine g_areturn dX5_linkAt_31 rfl (Or.inl ⟨_, rfl⟩) (Or.inr ⟨_, rfl⟩) ?_
        exact ⟨rfl, rfl⟩
theorem c_linkOut (c : CX h b π ls N X t) (h0 : 0 ≤ nA N 0 ∧ nA N 0 ≤ 6) {z : Int} (zb : -2147483648 ≤ z ∧ z < 2147483648) (hz : ¬ (0 ≤ z ∧ z < nA N 0)) : zM l w mX5_linkAt [.ref b, .int (jI z)] h (fun v h1 => v = some .null ∧ h1 = h) := by
  refine zM.of (by decide) (Nat.le_of_ble_eq_true rfl) ?_
  refine g_iload_n 1 dX5_linkAt_0 rfl rfl ?_
  refine g_zif_lt (a := z) (tgt := 30) rfl dX5_linkAt_1 (by decide) (by omega) (fun q => ?_) (fun q => ?_)
  · refine g_null dX5_linkAt_30 ?_
    refine g_areturn dX5_linkAt_31 rfl (Or.inl ⟨_, rfl⟩) (Or.inl rfl) ?_
    exact ⟨rfl, rfl⟩
  · refine g_iload_n 1 dX5_linkAt_4 rfl rfl ?_
    refine g_aload_n 0 dX5_linkAt_5 rfl rfl ?_
    refine g_geti (f := 161) dX5_linkAt_6 fl_X5_49 c.1.1.2 (by decide) rfl ?_
    rw [show zi h 161 b = jI (nA N 0) from c.2.2.1.1]
    refine g_zcmp_ge (a := z) (b := (nA N 0)) (tgt := 30) rfl rfl dX5_linkAt_9 (by decide) (by omega) (by omega) (fun q2 => ?_) (fun q2 => ?_)
    · refine g_null dX5_linkAt_30 ?_
      refine g_areturn dX5_linkAt_31 rfl (Or.inl ⟨_, rfl⟩) (Or.inl rfl) ?_
      exact ⟨rfl, rfl⟩
    · exact absurd hz (by omega)
theorem c_flowIn (c : CX h b π ls N X t) (h0 : 0 ≤ nA N 1 ∧ nA N 1 ≤ 6) {a : Nat} (ha : (a : Int) < nA N 1) : zM l w mX5_flowAt [.ref b, .int (nI a)] h (fun v h1 => v = some (.ref (b + 53 + 2 * a)) ∧ h1 = h) := by
  refine zM.of (by decide) (Nat.le_of_ble_eq_true rfl) ?_
  have a6 : a < 6 := by omega
  refine g_iload_n 1 dX5_flowAt_0 rfl rfl ?_
  refine g_zif_lt (a := ((a : Nat) : Int)) (tgt := 30) (jI_nat a).symm dX5_flowAt_1 (by decide) (by omega) (fun q => ?_) (fun q => ?_)
  · exact absurd q (by omega)
  · refine g_iload_n 1 dX5_flowAt_4 rfl rfl ?_
    refine g_aload_n 0 dX5_flowAt_5 rfl rfl ?_
    refine g_geti (f := 163) dX5_flowAt_6 fl_X5_53 c.1.1.2 (by decide) rfl ?_
    rw [show zi h 163 b = jI (nA N 1) from c.2.2.1.2.1]
    refine g_zcmp_ge (a := ((a : Nat) : Int)) (b := (nA N 1)) (tgt := 30) (jI_nat a).symm rfl dX5_flowAt_9 (by decide) (by omega) (by omega) (fun q2 => ?_) (fun q2 => ?_)
    · exact absurd q2 (by omega)
    · refine g_iload_n 1 dX5_flowAt_12 rfl rfl ?_
      refine g_aload_n 0 dX5_flowAt_13 rfl rfl ?_
      refine g_getr (f := 162) (b := b + 2) dX5_flowAt_14 fl_X5_19 c.1.1.2 rfl c.1.2.2.1.1 ?_
      refine g_alen (t := 4) (v := nI 6) dX5_flowAt_17 c.1.2.2.1.2.1 rfl (fun _ => rfl) (congrArg Int32.ofNat (show zn h (b + 2) = 6 from c.1.2.2.1.2.2)) ?_
      refine g_zcmp_ge (a := ((a : Nat) : Int)) (b := 6) (tgt := 30) (jI_nat a).symm (by decide) dX5_flowAt_18 (by decide) (by omega) (by omega) (fun q3 => ?_) (fun q3 => ?_)
      · exact absurd q3 (by omega)
      · refine g_aload_n 0 dX5_flowAt_21 rfl rfl ?_
        refine g_getr (f := 162) (b := b + 2) dX5_flowAt_22 fl_X5_19 c.1.1.2 rfl c.1.2.2.1.1 ?_
        refine g_iload_n 1 dX5_flowAt_25 rfl rfl ?_
        refine g_aald (t := 4) (b := b + 53 + 2 * a) dX5_flowAt_26 c.1.2.2.1.2.1 rfl (fun _ => rfl) (by decide) (by rw [show zn h (b + 2) = 6 from c.1.2.2.1.2.2]; exact vp_in_nI (by omega) (by omega)) (by rw [nI_clamp (by omega)]; exact (c.1.2.2.2.2.2.2.2.2.2 a a6).1) ?_
        refine g_goto (tgt := 31) dX5_flowAt_27 (by decide) ?_
        refine g_areturn dX5_flowAt_31 rfl (Or.inl ⟨_, rfl⟩) (Or.inr ⟨_, rfl⟩) ?_
        exact ⟨rfl, rfl⟩
theorem c_flowOut (c : CX h b π ls N X t) (h0 : 0 ≤ nA N 1 ∧ nA N 1 ≤ 6) {z : Int} (zb : -2147483648 ≤ z ∧ z < 2147483648) (hz : ¬ (0 ≤ z ∧ z < nA N 1)) : zM l w mX5_flowAt [.ref b, .int (jI z)] h (fun v h1 => v = some .null ∧ h1 = h) := by
  refine zM.of (by decide) (Nat.le_of_ble_eq_true rfl) ?_
  refine g_iload_n 1 dX5_flowAt_0 rfl rfl ?_
  refine g_zif_lt (a := z) (tgt := 30) rfl dX5_flowAt_1 (by decide) (by omega) (fun q => ?_) (fun q => ?_)
  · refine g_null dX5_flowAt_30 ?_
    refine g_areturn dX5_flowAt_31 rfl (Or.inl ⟨_, rfl⟩) (Or.inl rfl) ?_
    exact ⟨rfl, rfl⟩
  · refine g_iload_n 1 dX5_flowAt_4 rfl rfl ?_
    refine g_aload_n 0 dX5_flowAt_5 rfl rfl ?_
    refine g_geti (f := 163) dX5_flowAt_6 fl_X5_53 c.1.1.2 (by decide) rfl ?_
    rw [show zi h 163 b = jI (nA N 1) from c.2.2.1.2.1]
    refine g_zcmp_ge (a := z) (b := (nA N 1)) (tgt := 30) rfl rfl dX5_flowAt_9 (by decide) (by omega) (by omega) (fun q2 => ?_) (fun q2 => ?_)
    · refine g_null dX5_flowAt_30 ?_
      refine g_areturn dX5_flowAt_31 rfl (Or.inl ⟨_, rfl⟩) (Or.inl rfl) ?_
      exact ⟨rfl, rfl⟩
    · exact absurd hz (by omega)
theorem c_pathIn (c : CX h b π ls N X t) {f : Nat} (hf : (f : Int) < nA N 1) (f6 : f < 6) {i : Nat} (hi : (i : Int) < nA N (248 + 20 * f + 0)) (h12 : 0 ≤ nA N (248 + 20 * f + (12 + i))) : zM l w mX2_pathAt [.ref (b + 53 + 2 * f), .int (nI i)] h (fun v h1 => v = some (.int (nI (hopN N f i))) ∧ h1 = h) := by
  refine zM.of (by decide) (Nat.le_of_ble_eq_true rfl) ?_
  have F := c.2.2.2.2.1 f hf f6
  have F3 := F.2.2.1
  have F4 := F.2.2.2 i hi
  refine g_iload_n 1 dX2_pathAt_0 rfl rfl ?_
  refine g_zif_lt (a := ((i : Nat) : Int)) (tgt := 30) (jI_nat i).symm dX2_pathAt_1 (by decide) (by omega) (fun q => ?_) (fun q => ?_)
  · exact absurd q (by omega)
  · refine g_iload_n 1 dX2_pathAt_4 rfl rfl ?_
    refine g_aload_n 0 dX2_pathAt_5 rfl rfl ?_
    refine g_geti (f := 65) dX2_pathAt_6 fl_X2_15 (c.1.2.2.2.2.2.2.2.2.2 f f6).2.1 (by decide) rfl ?_
    rw [show zi h 65 (b + 53 + 2 * f) = jI (nA N (248 + 20 * f + 0)) from (c.2.2.2.2.1 f hf f6).1 0 (by omega) (by omega)]
    refine g_zcmp_ge (a := ((i : Nat) : Int)) (b := (nA N (248 + 20 * f + 0))) (tgt := 30) (jI_nat i).symm rfl dX2_pathAt_9 (by decide) (by omega) (by omega) (fun q2 => ?_) (fun q2 => ?_)
    · exact absurd q2 (by omega)
    · refine g_iload_n 1 dX2_pathAt_12 rfl rfl ?_
      refine g_aload_n 0 dX2_pathAt_13 rfl rfl ?_
      refine g_getr (f := 64) (b := b + 53 + 2 * f + 1) dX2_pathAt_14 fl_X2_9 (c.1.2.2.2.2.2.2.2.2.2 f f6).2.1 rfl (c.1.2.2.2.2.2.2.2.2.2 f f6).2.2.1 ?_
      refine g_alen (t := 1) (v := nI 4) dX2_pathAt_17 (c.1.2.2.2.2.2.2.2.2.2 f f6).2.2.2.1 rfl (fun _ => rfl) (congrArg Int32.ofNat (show zn h (b + 53 + 2 * f + 1) = 4 from (c.1.2.2.2.2.2.2.2.2.2 f f6).2.2.2.2)) ?_
      refine g_zcmp_ge (a := ((i : Nat) : Int)) (b := 4) (tgt := 30) (jI_nat i).symm (by decide) dX2_pathAt_18 (by decide) (by omega) (by omega) (fun q3 => ?_) (fun q3 => ?_)
      · exact absurd q3 (by omega)
      · refine g_aload_n 0 dX2_pathAt_21 rfl rfl ?_
        refine g_getr (f := 64) (b := b + 53 + 2 * f + 1) dX2_pathAt_22 fl_X2_9 (c.1.2.2.2.2.2.2.2.2.2 f f6).2.1 rfl (c.1.2.2.2.2.2.2.2.2.2 f f6).2.2.1 ?_
        refine g_iload_n 1 dX2_pathAt_25 rfl rfl ?_
        refine g_iald dX2_pathAt_26 (c.1.2.2.2.2.2.2.2.2.2 f f6).2.2.2.1 (by rw [show zn h (b + 53 + 2 * f + 1) = 4 from (c.1.2.2.2.2.2.2.2.2.2 f f6).2.2.2.2]; exact vp_in_nI (by omega) (by omega)) ?_
        rw [nI_clamp (by omega)]
        rw [F4.1, show jI (nA N (248 + 20 * f + (12 + i))) = nI (hopN N f i) by rw [← jI_nat]; unfold hopN; rw [Int.toNat_of_nonneg h12]]
        refine g_goto (tgt := 31) dX2_pathAt_27 (by decide) ?_
        refine g_ireturn dX2_pathAt_31 rfl ?_
        exact ⟨rfl, rfl⟩
theorem c_pathOut (c : CX h b π ls N X t) {f : Nat} (hf : (f : Int) < nA N 1) (f6 : f < 6) {z : Int} (zb : -2147483648 ≤ z ∧ z < 2147483648) (h0 : 0 ≤ nA N (248 + 20 * f + 0)) (hz : ¬ (0 ≤ z ∧ z < nA N (248 + 20 * f + 0))) : zM l w mX2_pathAt [.ref (b + 53 + 2 * f), .int (jI z)] h (fun v h1 => v = some (.int (-1)) ∧ h1 = h) := by
  refine zM.of (by decide) (Nat.le_of_ble_eq_true rfl) ?_
  have F := c.2.2.2.2.1 f hf f6
  have F3 := F.2.2.1
  refine g_iload_n 1 dX2_pathAt_0 rfl rfl ?_
  refine g_zif_lt (a := z) (tgt := 30) rfl dX2_pathAt_1 (by decide) (by omega) (fun q => ?_) (fun q => ?_)
  · refine g_iconst (v := (-1)) dX2_pathAt_30 (by decide) ?_
    refine g_ireturn dX2_pathAt_31 rfl ?_
    exact ⟨rfl, rfl⟩
  · refine g_iload_n 1 dX2_pathAt_4 rfl rfl ?_
    refine g_aload_n 0 dX2_pathAt_5 rfl rfl ?_
    refine g_geti (f := 65) dX2_pathAt_6 fl_X2_15 (c.1.2.2.2.2.2.2.2.2.2 f f6).2.1 (by decide) rfl ?_
    rw [show zi h 65 (b + 53 + 2 * f) = jI (nA N (248 + 20 * f + 0)) from (c.2.2.2.2.1 f hf f6).1 0 (by omega) (by omega)]
    refine g_zcmp_ge (a := z) (b := (nA N (248 + 20 * f + 0))) (tgt := 30) rfl rfl dX2_pathAt_9 (by decide) (by omega) (by omega) (fun q2 => ?_) (fun q2 => ?_)
    · refine g_iconst (v := (-1)) dX2_pathAt_30 (by decide) ?_
      refine g_ireturn dX2_pathAt_31 rfl ?_
      exact ⟨rfl, rfl⟩
    · exact absurd hz (by omega)
theorem has_calI : ∀ s, s < 64 → ∀ f, f < 6 → (nI s >>> (nI f &&& 31)) &&& nI 1 = nI (s / 2 ^ f % 2) := by decide +kernel
theorem c_hasCaught (c : CX h b π ls N X t) {a : Nat} (ha : (a : Int) < nA N 0) (a6 : a < 6) {f : Nat} (f6 : f < 6) (hs : 0 ≤ nA N (8 + 40 * a + 14) ∧ nA N (8 + 40 * a + 14) < 64) : zM l w mX4_hasCaught [.ref (b + 11 + 7 * a), .int (nI f)] h (fun v h1 => v = some (.int (bI (hasN (nA N (8 + 40 * a + 14)) f))) ∧ h1 = h) := by
  refine zM.of (by decide) (Nat.le_of_ble_eq_true rfl) ?_
  obtain ⟨s, es⟩ : ∃ s : Nat, nA N (8 + 40 * a + 14) = (s : Int) := ⟨(nA N (8 + 40 * a + 14)).toNat, (Int.toNat_of_nonneg hs.1).symm⟩
  refine g_aload_n 0 dX4_hasCaught_0 rfl rfl ?_
  refine g_geti (f := 141) dX4_hasCaught_1 fl_X4_51 (c.1.2.2.2.2.2.2.2.2.1 a a6).2.1 (by decide) rfl ?_
  rw [show zi h 141 (b + 11 + 7 * a) = jI (nA N (8 + 40 * a + 14)) from (c.2.2.2.1 a ha a6).1 14 (by unfold lkJ; omega)]
  rw [es, jI_nat]
  refine g_iload_n 1 dX4_hasCaught_4 rfl rfl ?_
  refine g_ishr dX4_hasCaught_5 ?_
  refine g_iconst (v := nI 1) dX4_hasCaught_6 (by decide) ?_
  refine g_iand dX4_hasCaught_7 ?_
  rw [has_calI s (by omega) f f6]
  have b1 : s / 2 ^ f % 2 < 2 := Nat.mod_lt _ (by decide)
  have e1 : hasN s f = decide (((s / 2 ^ f % 2 : Nat) : Int) = 1) := by unfold hasN; congr 2 <;> simp
  refine g_zif_eq (a := ((s / 2 ^ f % 2 : Nat) : Int)) (tgt := 15) (jI_nat (s / 2 ^ f % 2)).symm dX4_hasCaught_8 (by decide) (by omega) (fun q => ?_) (fun q => ?_)
  · refine g_iconst (v := bI false) dX4_hasCaught_15 (by decide) ?_
    refine g_zreturn dX4_hasCaught_16 rfl (bI_nar _) ?_
    exact ⟨by rw [e1, decide_eq_false (by omega)], rfl⟩
  · refine g_iconst (v := bI true) dX4_hasCaught_11 (by decide) ?_
    refine g_goto (tgt := 16) dX4_hasCaught_12 (by decide) ?_
    refine g_zreturn dX4_hasCaught_16 rfl (bI_nar _) ?_
    exact ⟨by rw [e1, decide_eq_true (by omega)], rfl⟩
theorem c_letsIn (c : CX h b π ls N X t) {a : Nat} (ha : (a : Int) < nA N 0) (a6 : a < 6) (hB : nBd N) {f : Nat} (f6 : f < 6) (hs : 0 ≤ nA N (8 + 40 * a + 14) ∧ nA N (8 + 40 * a + 14) < 64) (h2 : 0 ≤ nA N (8 + 40 * a + 2) ∧ nA N (8 + 40 * a + 2) ≤ 60) (hr : (nR N a).length ≤ 60) (h20 : 0 ≤ nA N (8 + 40 * a + (20 + f)) ∧ nA N (8 + 40 * a + (20 + f)) < 1000000) (h15 : 0 ≤ nA N (8 + 40 * a + 15) ∧ nA N (8 + 40 * a + 15) ≤ 270) : zM l w mX4_letsIn [.ref (b + 11 + 7 * a), .int (nI f)] h (fun v h1 => v = some (.int (bI (!shutN N f a))) ∧ h1 = h) := by
  refine zM.of (by decide) (Nat.le_of_ble_eq_true rfl) ?_
  have B2 := hB (8 + 40 * a + 2) (by omega)
  have eR : (ls (b + 11 + 7 * a + 1)).length = (nR N a).length := by rw [(c.2.2.2.2.2.1.2.2.2.1 a a6).1, List.length_map]
  refine g_iload_n 1 dX4_letsIn_0 rfl rfl ?_
  refine g_zif_lt (a := ((f : Nat) : Int)) (tgt := 27) (jI_nat f).symm dX4_letsIn_1 (by decide) (by omega) (fun q => ?_) (fun q => ?_)
  · exact absurd q (by omega)
  · refine g_iload_n 1 dX4_letsIn_4 rfl rfl ?_
    refine g_aload_n 0 dX4_letsIn_5 rfl rfl ?_
    refine g_getr (f := 137) (b := b + 11 + 7 * a + 3) dX4_letsIn_6 fl_X4_21 (c.1.2.2.2.2.2.2.2.2.1 a a6).2.1 rfl ((c.1.2.2.2.2.2.2.2.2.1 a a6).2.2.2.2.1 0 (by omega)).1 ?_
    refine g_alen (t := 1) (v := nI 6) dX4_letsIn_9 ((c.1.2.2.2.2.2.2.2.2.1 a a6).2.2.2.2.1 0 (by omega)).2.1 rfl (fun _ => rfl) (congrArg Int32.ofNat (show zn h (b + 11 + 7 * a + 3) = 6 from ((c.1.2.2.2.2.2.2.2.2.1 a a6).2.2.2.2.1 0 (by omega)).2.2)) ?_
    refine g_zcmp_ge (a := ((f : Nat) : Int)) (b := 6) (tgt := 27) (jI_nat f).symm (by decide) dX4_letsIn_10 (by decide) (by omega) (by omega) (fun q2 => ?_) (fun q2 => ?_)
    · exact absurd q2 (by omega)
    · refine g_aload_n 0 dX4_letsIn_13 rfl rfl ?_
      refine g_getr (f := 132) (b := b + 11 + 7 * a + 1) dX4_letsIn_14 fl_X4_12 (c.1.2.2.2.2.2.2.2.2.1 a a6).2.1 rfl (c.1.2.2.2.2.2.2.2.2.1 a a6).2.2.1.1 ?_
      refine g_geti (f := 98) dX4_letsIn_17 fl_X4_89 (c.1.2.2.2.2.2.2.2.2.1 a a6).2.2.1.2 (by decide) rfl ?_
      rw [show zi h 98 (b + 11 + 7 * a + 1) = nI (ls (b + 11 + 7 * a + 1)).length from (c.2.1.1 _ (c.1.iR a6)).2.2.1]
      rw [eR]
      refine g_aload_n 0 dX4_letsIn_20 rfl rfl ?_
      refine g_geti (f := 130) dX4_letsIn_21 fl_X4_42 (c.1.2.2.2.2.2.2.2.2.1 a a6).2.1 (by decide) rfl ?_
      rw [show zi h 130 (b + 11 + 7 * a) = jI (nA N (8 + 40 * a + 2)) from (c.2.2.2.1 a ha a6).1 2 (by unfold lkJ; omega)]
      refine g_zcmp_lt (a := (((nR N a).length : Nat) : Int)) (b := (nA N (8 + 40 * a + 2))) (tgt := 29) (jI_nat ((nR N a).length)).symm rfl dX4_letsIn_24 (by decide) (by omega) (by omega) (fun q3 => ?_) (fun q3 => ?_)
      · have e3 : shutN N f a = (hasN (nA N (8 + 40 * a + 14)) f && decide (nA N (8 + 40 * a + 15) ≤ nA N (8 + 40 * a + (20 + f)))) := by unfold shutN; rw [decide_eq_false (p := nA N (8 + 40 * a + 2) ≤ ((nR N a).length : Int)) (by omega), Bool.or_false]
        rw [e3]
        refine g_aload_n 0 dX4_letsIn_29 rfl rfl ?_
        refine g_iload_n 1 dX4_letsIn_30 rfl rfl ?_
        refine g_invv (M' := mX4_hasCaught) (As := [.int (nI f)]) (rest := []) dX4_letsIn_31 ml_X4_92 okX4_hasCaught imX4_hasCaught seX4_hasCaught ⟨(Nat.le_of_ble_eq_true rfl), (Nat.le_of_ble_eq_true rfl)⟩ (ci := 4) rfl rfl (c.1.2.2.2.2.2.2.2.2.1 a a6).2.1 rfl rfl (Nat.le_of_ble_eq_true rfl) (c_hasCaught c ha a6 f6 hs) ?_
        rintro _ q9 ⟨rfl, eq9⟩
        subst q9
        show zG l w mX4_letsIn 34 [(0, .ref (b + 11 + 7 * a)), (1, .int (nI f))] [.int (bI (hasN (nA N (8 + 40 * a + 14)) f))] h _
        refine g_bif_eq (tgt := 50) dX4_letsIn_34 (by decide) (fun g => ?_) (fun g => ?_)
        · refine g_iconst (v := bI true) dX4_letsIn_50 (by decide) ?_
          refine g_goto (tgt := 55) dX4_letsIn_51 (by decide) ?_
          refine g_zreturn dX4_letsIn_55 rfl (bI_nar _) ?_
          exact ⟨by rw [g]; rfl, rfl⟩
        · have Fa := (c.2.2.2.1 a ha a6).2.2.2 f f6
          refine g_aload_n 0 dX4_letsIn_37 rfl rfl ?_
          refine g_getr (f := 137) (b := b + 11 + 7 * a + 3) dX4_letsIn_38 fl_X4_21 (c.1.2.2.2.2.2.2.2.2.1 a a6).2.1 rfl ((c.1.2.2.2.2.2.2.2.2.1 a a6).2.2.2.2.1 0 (by omega)).1 ?_
          refine g_iload_n 1 dX4_letsIn_41 rfl rfl ?_
          refine g_iald dX4_letsIn_42 ((c.1.2.2.2.2.2.2.2.2.1 a a6).2.2.2.2.1 0 (by omega)).2.1 (by rw [show zn h (b + 11 + 7 * a + 3) = 6 from ((c.1.2.2.2.2.2.2.2.2.1 a a6).2.2.2.2.1 0 (by omega)).2.2]; exact vp_in_nI (by omega) (by omega)) ?_
          rw [nI_clamp (by omega)]
          rw [Fa.1]
          refine g_aload_n 0 dX4_letsIn_43 rfl rfl ?_
          refine g_geti (f := 142) dX4_letsIn_44 fl_X4_54 (c.1.2.2.2.2.2.2.2.2.1 a a6).2.1 (by decide) rfl ?_
          rw [show zi h 142 (b + 11 + 7 * a) = jI (nA N (8 + 40 * a + 15)) from (c.2.2.2.1 a ha a6).1 15 (by unfold lkJ; omega)]
          refine g_zcmp_ge (a := (nA N (8 + 40 * a + (20 + f)))) (b := (nA N (8 + 40 * a + 15))) (tgt := 54) rfl rfl dX4_letsIn_47 (by decide) (by omega) (by omega) (fun g2 => ?_) (fun g2 => ?_)
          · refine g_iconst (v := bI false) dX4_letsIn_54 (by decide) ?_
            refine g_zreturn dX4_letsIn_55 rfl (bI_nar _) ?_
            exact ⟨by rw [g, decide_eq_true g2]; rfl, rfl⟩
          · refine g_iconst (v := bI true) dX4_letsIn_50 (by decide) ?_
            refine g_goto (tgt := 55) dX4_letsIn_51 (by decide) ?_
            refine g_zreturn dX4_letsIn_55 rfl (bI_nar _) ?_
            exact ⟨by rw [g, decide_eq_false g2]; rfl, rfl⟩
      · refine g_iconst (v := bI false) dX4_letsIn_27 (by decide) ?_
        refine g_zreturn dX4_letsIn_28 rfl (bI_nar _) ?_
        exact ⟨by unfold shutN; rw [decide_eq_true (p := nA N (8 + 40 * a + 2) ≤ ((nR N a).length : Int)) (by omega), Bool.or_true]; rfl, rfl⟩
theorem c_mayC (c : CX h b π ls N X t) {f : Nat} (hf : (f : Int) < nA N 1) (f6 : f < 6) (hF : iF N f) (h6 : 0 ≤ nA N (248 + 20 * f + 6) ∧ nA N (248 + 20 * f + 6) ≤ 80) : zM l w mX2_maySend [.ref (b + 53 + 2 * f)] h (fun v h1 => v = some (.int (bI (decide (nA N (248 + 20 * f + 3) = 1) && mayN N f))) ∧ h1 = h) := by
  refine zM.of (by decide) (Nat.le_of_ble_eq_true rfl) ?_
  have F1 := hF.2.2.1
  have F2 := hF.2.2.2.1
  have F3 := hF.2.2.2.2.1
  have F5 := hF.2.2.2.2.2.1
  have mid : ∀ e : Int, e = nA N (248 + 20 * f + 5) * (if nA N (248 + 20 * f + 2) = 3 then 2 else 1) → zG l w mX2_maySend 21 [(0, .ref (b + 53 + 2 * f))] [.int (jI e)] h (fun v h1 => v = some (.int (bI (decide (nA N (248 + 20 * f + 3) = 1) && mayN N f))) ∧ h1 = h) := by
    intro e he
    have eb : 100 ≤ e ∧ e ≤ 8000 := by rw [he]; split <;> omega
    have em : mayN N f = (decide (0 < nA N (248 + 20 * f + 1)) && decide (100 * (nA N (248 + 20 * f + 6) + 1) ≤ e)) := by unfold mayN; rw [he]
    rw [em]
    refine g_istore_n (lv2 := [(1, .int (jI e)), (0, .ref (b + 53 + 2 * f))]) dX2_maySend_21 rfl (by decide) rfl ?_
    refine g_aload_n 1 dX2_maySend_22 rfl rfl ?_
    refine g_geti (f := 68) dX2_maySend_23 fl_X2_25 (c.1.2.2.2.2.2.2.2.2.2 f f6).2.1 (by decide) rfl ?_
    rw [show zi h 68 (b + 53 + 2 * f) = jI (nA N (248 + 20 * f + 3)) from (c.2.2.2.2.1 f hf f6).1 3 (by omega) (by omega)]
    refine g_zif_eq (a := (nA N (248 + 20 * f + 3))) (tgt := 53) rfl dX2_maySend_26 (by decide) (by omega) (fun q => ?_) (fun q => ?_)
    · refine g_iconst (v := bI false) dX2_maySend_53 (by decide) ?_
      refine g_zreturn dX2_maySend_54 rfl (bI_nar _) ?_
      exact ⟨by rw [decide_eq_false (p := nA N (248 + 20 * f + 3) = 1) (by omega)]; rfl, rfl⟩
    · refine g_aload_n 1 dX2_maySend_29 rfl rfl ?_
      refine g_geti (f := 66) dX2_maySend_30 fl_X2_19 (c.1.2.2.2.2.2.2.2.2.2 f f6).2.1 (by decide) rfl ?_
      rw [show zi h 66 (b + 53 + 2 * f) = jI (nA N (248 + 20 * f + 1)) from (c.2.2.2.2.1 f hf f6).1 1 (by omega) (by omega)]
      refine g_zif_le (a := (nA N (248 + 20 * f + 1))) (tgt := 53) rfl dX2_maySend_33 (by decide) (by omega) (fun q2 => ?_) (fun q2 => ?_)
      · refine g_iconst (v := bI false) dX2_maySend_53 (by decide) ?_
        refine g_zreturn dX2_maySend_54 rfl (bI_nar _) ?_
        exact ⟨by rw [decide_eq_false (p := 0 < nA N (248 + 20 * f + 1)) (by omega), Bool.false_and, Bool.and_false], rfl⟩
      · refine g_aload_n 1 dX2_maySend_36 rfl rfl ?_
        refine g_geti (f := 71) dX2_maySend_37 fl_X2_35 (c.1.2.2.2.2.2.2.2.2.2 f f6).2.1 (by decide) rfl ?_
        rw [show zi h 71 (b + 53 + 2 * f) = jI (nA N (248 + 20 * f + 6)) from (c.2.2.2.2.1 f hf f6).1 6 (by omega) (by omega)]
        refine g_iconst (v := nI 1) dX2_maySend_40 (by decide) ?_
        refine g_iadd dX2_maySend_41 ?_
        refine zG.top (show (jI (nA N (248 + 20 * f + 6))) + (nI 1) = jI ((nA N (248 + 20 * f + 6)) + 1) by rw [show nI 1 = jI 1 from (by decide), jI_add]) ?_
        refine g_bipush (v := nI 100) dX2_maySend_42 (by decide) ?_
        refine g_imul dX2_maySend_44 ?_
        refine zG.top (show (jI ((nA N (248 + 20 * f + 6)) + 1)) * (nI 100) = jI (((nA N (248 + 20 * f + 6)) + 1) * 100) by rw [show nI 100 = jI 100 from (by decide), jI_mul]) ?_
        refine g_iload_n 0 dX2_maySend_45 rfl rfl ?_
        refine g_zcmp_gt (a := (((nA N (248 + 20 * f + 6)) + 1) * 100)) (b := e) (tgt := 53) rfl rfl dX2_maySend_46 (by decide) (by omega) (by omega) (fun q3 => ?_) (fun q3 => ?_)
        · refine g_iconst (v := bI false) dX2_maySend_53 (by decide) ?_
          refine g_zreturn dX2_maySend_54 rfl (bI_nar _) ?_
          exact ⟨by rw [decide_eq_false (p := 100 * (nA N (248 + 20 * f + 6) + 1) ≤ e) (by omega), Bool.and_false, Bool.and_false], rfl⟩
        · refine g_iconst (v := bI true) dX2_maySend_49 (by decide) ?_
          refine g_goto (tgt := 54) dX2_maySend_50 (by decide) ?_
          refine g_zreturn dX2_maySend_54 rfl (bI_nar _) ?_
          exact ⟨by rw [decide_eq_true (p := nA N (248 + 20 * f + 3) = 1) (by omega), decide_eq_true (p := 0 < nA N (248 + 20 * f + 1)) (by omega), decide_eq_true (p := 100 * (nA N (248 + 20 * f + 6) + 1) ≤ e) (by omega)]; rfl, rfl⟩
  refine g_aload_n 0 dX2_maySend_0 rfl rfl ?_
  refine g_geti (f := 67) dX2_maySend_1 fl_X2_22 (c.1.2.2.2.2.2.2.2.2.2 f f6).2.1 (by decide) rfl ?_
  rw [show zi h 67 (b + 53 + 2 * f) = jI (nA N (248 + 20 * f + 2)) from (c.2.2.2.2.1 f hf f6).1 2 (by omega) (by omega)]
  refine g_iconst (v := nI 3) dX2_maySend_4 (by decide) ?_
  refine g_zcmp_ne (a := (nA N (248 + 20 * f + 2))) (b := 3) (tgt := 17) rfl (by decide) dX2_maySend_5 (by decide) (by omega) (by omega) (fun q => ?_) (fun q => ?_)
  · refine g_aload_n 0 dX2_maySend_17 rfl rfl ?_
    refine g_geti (f := 70) dX2_maySend_18 fl_X2_32 (c.1.2.2.2.2.2.2.2.2.2 f f6).2.1 (by decide) rfl ?_
    rw [show zi h 70 (b + 53 + 2 * f) = jI (nA N (248 + 20 * f + 5)) from (c.2.2.2.2.1 f hf f6).1 5 (by omega) (by omega)]
    exact mid _ (by rw [if_neg q, Int.mul_one])
  · refine g_iconst (v := nI 2) dX2_maySend_8 (by decide) ?_
    refine g_aload_n 0 dX2_maySend_9 rfl rfl ?_
    refine g_geti (f := 70) dX2_maySend_10 fl_X2_32 (c.1.2.2.2.2.2.2.2.2.2 f f6).2.1 (by decide) rfl ?_
    rw [show zi h 70 (b + 53 + 2 * f) = jI (nA N (248 + 20 * f + 5)) from (c.2.2.2.2.1 f hf f6).1 5 (by omega) (by omega)]
    refine g_imul dX2_maySend_13 ?_
    refine zG.top (show (nI 2) * (jI (nA N (248 + 20 * f + 5))) = jI (2 * (nA N (248 + 20 * f + 5))) by rw [show nI 2 = jI 2 from (by decide), jI_mul]) ?_
    refine g_goto (tgt := 21) dX2_maySend_14 (by decide) ?_
    exact mid _ (by rw [if_pos q, Int.mul_comm])
theorem c_thruF (c : CX h b π ls N X t) {f : Nat} (hf : (f : Int) < nA N 1) (f6 : f < 6) (h1 : -2147483648 ≤ nA N (248 + 20 * f + 1) ∧ nA N (248 + 20 * f + 1) < 2147483648) (h6 : -2147483648 ≤ nA N (248 + 20 * f + 6) ∧ nA N (248 + 20 * f + 6) < 2147483648) : zM l w mX2_isThrough [.ref (b + 53 + 2 * f)] h (fun v h1 => v = some (.int (bI (decide (nA N (248 + 20 * f + 1) = 0 ∧ nA N (248 + 20 * f + 6) = 0)))) ∧ h1 = h) := by
  refine zM.of (by decide) (Nat.le_of_ble_eq_true rfl) ?_
  refine g_aload_n 0 dX2_isThrough_0 rfl rfl ?_
  refine g_geti (f := 66) dX2_isThrough_1 fl_X2_19 (c.1.2.2.2.2.2.2.2.2.2 f f6).2.1 (by decide) rfl ?_
  rw [show zi h 66 (b + 53 + 2 * f) = jI (nA N (248 + 20 * f + 1)) from (c.2.2.2.2.1 f hf f6).1 1 (by omega) (by omega)]
  refine g_zif_ne (a := (nA N (248 + 20 * f + 1))) (tgt := 18) rfl dX2_isThrough_4 (by decide) (by omega) (fun q => ?_) (fun q => ?_)
  · refine g_iconst (v := bI false) dX2_isThrough_18 (by decide) ?_
    refine g_zreturn dX2_isThrough_19 rfl (bI_nar _) ?_
    exact ⟨by rw [decide_eq_false (by omega)], rfl⟩
  · refine g_aload_n 0 dX2_isThrough_7 rfl rfl ?_
    refine g_geti (f := 71) dX2_isThrough_8 fl_X2_35 (c.1.2.2.2.2.2.2.2.2.2 f f6).2.1 (by decide) rfl ?_
    rw [show zi h 71 (b + 53 + 2 * f) = jI (nA N (248 + 20 * f + 6)) from (c.2.2.2.2.1 f hf f6).1 6 (by omega) (by omega)]
    refine g_zif_ne (a := (nA N (248 + 20 * f + 6))) (tgt := 18) rfl dX2_isThrough_11 (by decide) (by omega) (fun q2 => ?_) (fun q2 => ?_)
    · refine g_iconst (v := bI false) dX2_isThrough_18 (by decide) ?_
      refine g_zreturn dX2_isThrough_19 rfl (bI_nar _) ?_
      exact ⟨by rw [decide_eq_false (by omega)], rfl⟩
    · refine g_iconst (v := bI true) dX2_isThrough_14 (by decide) ?_
      refine g_goto (tgt := 19) dX2_isThrough_15 (by decide) ?_
      refine g_zreturn dX2_isThrough_19 rfl (bI_nar _) ?_
      exact ⟨by rw [decide_eq_true (by omega)], rfl⟩
end CY1
