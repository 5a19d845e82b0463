section CRD
variable {l : Launch} {w : zW} {h y : zH} {b r p n : Nat} {t : Nat → Nat} {T : tkT} {lt ls : Nat → List Nat} {N M : nT} {i j a f : Nat}
theorem c_addLink6 {c : Nat} (S : ClS h b) (hc : zi h 161 b = nI c) (c6 : c = 6) : zM l w mX5_addLink [.ref b] h (fun u h1 => u = some .null ∧ h1 = h) := by
  refine zM.of (by decide) (Nat.le_of_ble_eq_true rfl) ?_
  refine g_aload_n 0 dX5_addLink_0 rfl rfl ?_
  refine g_geti (f := 161) dX5_addLink_1 fl_X5_49 S.1.2 (by decide) rfl ?_
  rw [show zi h 161 b = nI c from hc]
  refine g_aload_n 0 dX5_addLink_4 rfl rfl ?_
  refine g_getr (f := 160) (b := b + 1) dX5_addLink_5 fl_X5_11 S.1.2 rfl S.2.1.1 ?_
  refine g_alen (t := 5) (v := nI 6) dX5_addLink_8 S.2.1.2.1 rfl (fun _ => rfl) (congrArg Int32.ofNat (show zn h (b + 1) = 6 from S.2.1.2.2)) ?_
  refine g_ncmp_lt (tgt := 14) dX5_addLink_9 (by decide) (by omega) (by omega) (fun d => ?_) (fun d => ?_)
  · exact absurd d (by omega)
  · refine g_null dX5_addLink_12 ?_
    refine g_areturn dX5_addLink_13 rfl (Or.inl ⟨_, rfl⟩) (Or.inl rfl) ?_
    exact ⟨rfl, rfl⟩
theorem c_addLinkC {c : Nat} (S : ClS h b) (hc : zi h 161 b = nI c) (c6 : c < 6) : zM l w mX5_addLink [.ref b] h (fun u h1 => u = some (.ref (b + 11 + 7 * c)) ∧ h1 = zSi h 161 b (nI (c + 1))) := by
  refine zM.of (by decide) (Nat.le_of_ble_eq_true rfl) ?_
  refine g_aload_n 0 dX5_addLink_0 rfl rfl ?_
  refine g_geti (f := 161) dX5_addLink_1 fl_X5_49 S.1.2 (by decide) rfl ?_
  rw [show zi h 161 b = nI c from hc]
  refine g_aload_n 0 dX5_addLink_4 rfl rfl ?_
  refine g_getr (f := 160) (b := b + 1) dX5_addLink_5 fl_X5_11 S.1.2 rfl S.2.1.1 ?_
  refine g_alen (t := 5) (v := nI 6) dX5_addLink_8 S.2.1.2.1 rfl (fun _ => rfl) (congrArg Int32.ofNat (show zn h (b + 1) = 6 from S.2.1.2.2)) ?_
  refine g_ncmp_lt (tgt := 14) dX5_addLink_9 (by decide) (by omega) (by omega) (fun d => ?_) (fun d => ?_)
  · refine g_aload_n 0 dX5_addLink_14 rfl rfl ?_
    refine g_dup dX5_addLink_15 rfl ?_
    refine g_geti (f := 161) dX5_addLink_16 fl_X5_49 S.1.2 (by decide) rfl ?_
    rw [show zi h 161 b = nI c from hc]
    refine g_iconst (v := nI 1) dX5_addLink_19 (by decide) ?_
    refine g_iadd dX5_addLink_20 ?_
    rw [nI_add c 1]
    refine g_puti (f := 161) dX5_addLink_21 fl_X5_49 (Or.inl rfl) S.1.2 rfl ?_
    refine g_aload_n 0 dX5_addLink_24 rfl rfl ?_
    refine g_getr (f := 160) (b := b + 1) dX5_addLink_25 fl_X5_11 S.1.2 rfl S.2.1.1 ?_
    refine g_aload_n 0 dX5_addLink_28 rfl rfl ?_
    refine g_geti (f := 161) dX5_addLink_29 fl_X5_49 S.1.2 (by decide) rfl ?_
    rw [show zi (zSi h 161 b (nI (c + 1))) 161 b = nI (c + 1) from (by rw [zi_Si, if_pos ⟨rfl, rfl⟩])]
    refine g_iconst (v := nI 1) dX5_addLink_32 (by decide) ?_
    refine g_isub dX5_addLink_33 ?_
    rw [nI_sub (by omega), Nat.add_sub_cancel]
    refine g_aald (t := 5) (b := b + 11 + 7 * c) dX5_addLink_34 S.2.1.2.1 rfl (fun _ => rfl) (by decide) (by rw [show zn (zSi h 161 b (nI (c + 1))) (b + 1) = 6 from S.2.1.2.2]; exact vp_in_nI (by omega) (by omega)) (by rw [nI_clamp (by omega)]; exact (S.2.2.2.2.2.2.2.2.1 c (by omega)).1) ?_
    refine g_areturn dX5_addLink_35 rfl (Or.inl ⟨_, rfl⟩) (Or.inr ⟨_, rfl⟩) ?_
    exact ⟨rfl, rfl⟩
  · exact absurd d (by omega)
theorem c_addFlow6 {c : Nat} (S : ClS h b) (hc : zi h 163 b = nI c) (c6 : c = 6) : zM l w mX5_addFlow [.ref b] h (fun u h1 => u = some .null ∧ h1 = h) := by
  refine zM.of (by decide) (Nat.le_of_ble_eq_true rfl) ?_
  refine g_aload_n 0 dX5_addFlow_0 rfl rfl ?_
  refine g_geti (f := 163) dX5_addFlow_1 fl_X5_53 S.1.2 (by decide) rfl ?_
  rw [show zi h 163 b = nI c from hc]
  refine g_aload_n 0 dX5_addFlow_4 rfl rfl ?_
  refine g_getr (f := 162) (b := b + 2) dX5_addFlow_5 fl_X5_19 S.1.2 rfl S.2.2.1.1 ?_
  refine g_alen (t := 4) (v := nI 6) dX5_addFlow_8 S.2.2.1.2.1 rfl (fun _ => rfl) (congrArg Int32.ofNat (show zn h (b + 2) = 6 from S.2.2.1.2.2)) ?_
  refine g_ncmp_lt (tgt := 14) dX5_addFlow_9 (by decide) (by omega) (by omega) (fun d => ?_) (fun d => ?_)
  · exact absurd d (by omega)
  · refine g_null dX5_addFlow_12 ?_
    refine g_areturn dX5_addFlow_13 rfl (Or.inl ⟨_, rfl⟩) (Or.inl rfl) ?_
    exact ⟨rfl, rfl⟩
theorem c_addFlowC {c : Nat} (S : ClS h b) (hc : zi h 163 b = nI c) (c6 : c < 6) : zM l w mX5_addFlow [.ref b] h (fun u h1 => u = some (.ref (b + 53 + 2 * c)) ∧ h1 = zSi h 163 b (nI (c + 1))) := by
  refine zM.of (by decide) (Nat.le_of_ble_eq_true rfl) ?_
  refine g_aload_n 0 dX5_addFlow_0 rfl rfl ?_
  refine g_geti (f := 163) dX5_addFlow_1 fl_X5_53 S.1.2 (by decide) rfl ?_
  rw [show zi h 163 b = nI c from hc]
  refine g_aload_n 0 dX5_addFlow_4 rfl rfl ?_
  refine g_getr (f := 162) (b := b + 2) dX5_addFlow_5 fl_X5_19 S.1.2 rfl S.2.2.1.1 ?_
  refine g_alen (t := 4) (v := nI 6) dX5_addFlow_8 S.2.2.1.2.1 rfl (fun _ => rfl) (congrArg Int32.ofNat (show zn h (b + 2) = 6 from S.2.2.1.2.2)) ?_
  refine g_ncmp_lt (tgt := 14) dX5_addFlow_9 (by decide) (by omega) (by omega) (fun d => ?_) (fun d => ?_)
  · refine g_aload_n 0 dX5_addFlow_14 rfl rfl ?_
    refine g_dup dX5_addFlow_15 rfl ?_
    refine g_geti (f := 163) dX5_addFlow_16 fl_X5_53 S.1.2 (by decide) rfl ?_
    rw [show zi h 163 b = nI c from hc]
    refine g_iconst (v := nI 1) dX5_addFlow_19 (by decide) ?_
    refine g_iadd dX5_addFlow_20 ?_
    rw [nI_add c 1]
    refine g_puti (f := 163) dX5_addFlow_21 fl_X5_53 (Or.inl rfl) S.1.2 rfl ?_
    refine g_aload_n 0 dX5_addFlow_24 rfl rfl ?_
    refine g_getr (f := 162) (b := b + 2) dX5_addFlow_25 fl_X5_19 S.1.2 rfl S.2.2.1.1 ?_
    refine g_aload_n 0 dX5_addFlow_28 rfl rfl ?_
    refine g_geti (f := 163) dX5_addFlow_29 fl_X5_53 S.1.2 (by decide) rfl ?_
    rw [show zi (zSi h 163 b (nI (c + 1))) 163 b = nI (c + 1) from (by rw [zi_Si, if_pos ⟨rfl, rfl⟩])]
    refine g_iconst (v := nI 1) dX5_addFlow_32 (by decide) ?_
    refine g_isub dX5_addFlow_33 ?_
    rw [nI_sub (by omega), Nat.add_sub_cancel]
    refine g_aald (t := 4) (b := b + 53 + 2 * c) dX5_addFlow_34 S.2.2.1.2.1 rfl (fun _ => rfl) (by decide) (by rw [show zn (zSi h 163 b (nI (c + 1))) (b + 2) = 6 from S.2.2.1.2.2]; exact vp_in_nI (by omega) (by omega)) (by rw [nI_clamp (by omega)]; exact (S.2.2.2.2.2.2.2.2.2 c (by omega)).1) ?_
    refine g_areturn dX5_addFlow_35 rfl (Or.inl ⟨_, rfl⟩) (Or.inr ⟨_, rfl⟩) ?_
    exact ⟨rfl, rfl⟩
  · exact absurd d (by omega)
def suZ (h : zH) (o : Nat) : zH := zSl (zSl (zSl (zSl (zSl (zSl h 224 o (jL 0)) 225 o (jL 0)) 226 o (jL 1)) 227 o (jL 1)) 228 o (jL 0)) 229 o (jL 0)
theorem c_suClear {o : Nat} (hk : zk h o = 7) : zM l w mX7_clear [.ref o] h (fun u h1 => u = none ∧ h1 = suZ h o) := by
  refine zM.of (by decide) (Nat.le_of_ble_eq_true rfl) ?_
  refine g_aload_n 0 dX7_clear_0 rfl rfl ?_
  refine g_lconst (v := jL 0) dX7_clear_1 (by decide) ?_
  refine g_putl (f := 224) dX7_clear_2 fl_X7_7 (Or.inl rfl) hk rfl ?_
  refine g_aload_n 0 dX7_clear_5 rfl rfl ?_
  refine g_lconst (v := jL 0) dX7_clear_6 (by decide) ?_
  refine g_putl (f := 225) dX7_clear_7 fl_X7_13 (Or.inl rfl) hk rfl ?_
  refine g_aload_n 0 dX7_clear_10 rfl rfl ?_
  refine g_lconst (v := jL 1) dX7_clear_11 (by decide) ?_
  refine g_putl (f := 226) dX7_clear_12 fl_X7_16 (Or.inl rfl) hk rfl ?_
  refine g_aload_n 0 dX7_clear_15 rfl rfl ?_
  refine g_lconst (v := jL 1) dX7_clear_16 (by decide) ?_
  refine g_putl (f := 227) dX7_clear_17 fl_X7_19 (Or.inl rfl) hk rfl ?_
  refine g_aload_n 0 dX7_clear_20 rfl rfl ?_
  refine g_lconst (v := jL 0) dX7_clear_21 (by decide) ?_
  refine g_putl (f := 228) dX7_clear_22 fl_X7_22 (Or.inl rfl) hk rfl ?_
  refine g_aload_n 0 dX7_clear_25 rfl rfl ?_
  refine g_lconst (v := jL 0) dX7_clear_26 (by decide) ?_
  refine g_putl (f := 229) dX7_clear_27 fl_X7_25 (Or.inl rfl) hk rfl ?_
  refine g_return dX7_clear_30 rfl ?_
  exact ⟨rfl, rfl⟩
def bsZ (h : zH) (b a : Nat) (v : Int32) : zH := zSF (zSF (zSF (zSi (zSl (zSi (zSi h 134 (b + 11 + 7 * a) (nI 0)) 135 (b + 11 + 7 * a) v) 136 (b + 11 + 7 * a) (jL 0)) 143 (b + 11 + 7 * a) (nI 0)) (b + 11 + 7 * a + 3) (fl6 (zI (zSi (zSl (zSi (zSi h 134 (b + 11 + 7 * a) (nI 0)) 135 (b + 11 + 7 * a) v) 136 (b + 11 + 7 * a) (jL 0)) 143 (b + 11 + 7 * a) (nI 0)) (b + 11 + 7 * a + 3)) (nI 0) 6)) (b + 11 + 7 * a + 4) (fl6 (zI (zSF (zSi (zSl (zSi (zSi h 134 (b + 11 + 7 * a) (nI 0)) 135 (b + 11 + 7 * a) v) 136 (b + 11 + 7 * a) (jL 0)) 143 (b + 11 + 7 * a) (nI 0)) (b + 11 + 7 * a + 3) (fl6 (zI (zSi (zSl (zSi (zSi h 134 (b + 11 + 7 * a) (nI 0)) 135 (b + 11 + 7 * a) v) 136 (b + 11 + 7 * a) (jL 0)) 143 (b + 11 + 7 * a) (nI 0)) (b + 11 + 7 * a + 3)) (nI 0) 6)) (b + 11 + 7 * a + 4)) (nI 0) 6)) (b + 11 + 7 * a + 5) (fl6 (zI (zSF (zSF (zSi (zSl (zSi (zSi h 134 (b + 11 + 7 * a) (nI 0)) 135 (b + 11 + 7 * a) v) 136 (b + 11 + 7 * a) (jL 0)) 143 (b + 11 + 7 * a) (nI 0)) (b + 11 + 7 * a + 3) (fl6 (zI (zSi (zSl (zSi (zSi h 134 (b + 11 + 7 * a) (nI 0)) 135 (b + 11 + 7 * a) v) 136 (b + 11 + 7 * a) (jL 0)) 143 (b + 11 + 7 * a) (nI 0)) (b + 11 + 7 * a + 3)) (nI 0) 6)) (b + 11 + 7 * a + 4) (fl6 (zI (zSF (zSi (zSl (zSi (zSi h 134 (b + 11 + 7 * a) (nI 0)) 135 (b + 11 + 7 * a) v) 136 (b + 11 + 7 * a) (jL 0)) 143 (b + 11 + 7 * a) (nI 0)) (b + 11 + 7 * a + 3) (fl6 (zI (zSi (zSl (zSi (zSi h 134 (b + 11 + 7 * a) (nI 0)) 135 (b + 11 + 7 * a) v) 136 (b + 11 + 7 * a) (jL 0)) 143 (b + 11 + 7 * a) (nI 0)) (b + 11 + 7 * a + 3)) (nI 0) 6)) (b + 11 + 7 * a + 4)) (nI 0) 6)) (b + 11 + 7 * a + 5)) (nI 0) 6)
theorem c_bgSpanW {v : Int32} (S : ClS h b) (a6 : a < 6) (hv : zi h 130 (b + 11 + 7 * a) = v) : zM l w mX4_beginSpan [.ref (b + 11 + 7 * a)] h (fun u h1 => u = none ∧ h1 = bsZ h b a v) := by
  refine zM.of (by decide) (Nat.le_of_ble_eq_true rfl) ?_
  refine g_aload_n 0 dX4_beginSpan_0 rfl rfl ?_
  refine g_iconst (v := nI 0) dX4_beginSpan_1 (by decide) ?_
  refine g_puti (f := 134) dX4_beginSpan_2 fl_X4_66 (Or.inl rfl) (S.2.2.2.2.2.2.2.2.1 a a6).2.1 rfl ?_
  refine g_aload_n 0 dX4_beginSpan_5 rfl rfl ?_
  refine g_aload_n 0 dX4_beginSpan_6 rfl rfl ?_
  refine g_geti (f := 130) dX4_beginSpan_7 fl_X4_42 (S.2.2.2.2.2.2.2.2.1 a a6).2.1 (by decide) rfl ?_
  rw [show zi (zSi h 134 (b + 11 + 7 * a) (nI 0)) 130 (b + 11 + 7 * a) = v from (by rw [zi_Si, if_neg (by omega)]; exact hv)]
  refine g_puti (f := 135) dX4_beginSpan_10 fl_X4_69 (Or.inl rfl) (S.2.2.2.2.2.2.2.2.1 a a6).2.1 rfl ?_
  refine g_aload_n 0 dX4_beginSpan_13 rfl rfl ?_
  refine g_lconst (v := jL 0) dX4_beginSpan_14 (by decide) ?_
  refine g_putl (f := 136) dX4_beginSpan_15 fl_X4_72 (Or.inl rfl) (S.2.2.2.2.2.2.2.2.1 a a6).2.1 rfl ?_
  refine g_aload_n 0 dX4_beginSpan_18 rfl rfl ?_
  refine g_iconst (v := nI 0) dX4_beginSpan_19 (by decide) ?_
  refine g_puti (f := 143) dX4_beginSpan_20 fl_X4_86 (Or.inl rfl) (S.2.2.2.2.2.2.2.2.1 a a6).2.1 rfl ?_
  refine g_aload_n 0 dX4_beginSpan_23 rfl rfl ?_
  refine g_getr (f := 137) (b := b + 11 + 7 * a + 3) dX4_beginSpan_24 fl_X4_21 (S.2.2.2.2.2.2.2.2.1 a a6).2.1 rfl ((S.2.2.2.2.2.2.2.2.1 a a6).2.2.2.2.1 0 (by omega)).1 ?_
  refine g_iconst (v := nI 0) dX4_beginSpan_27 (by decide) ?_
  refine g_invs (M' := mJ7_fill_53178) (As := [.ref (b + 11 + 7 * a + 3), .int (nI 0)]) (rest := []) dX4_beginSpan_28 ml_X4_148 okJ7_fill_53178 stJ7_fill_53178 ⟨(Nat.le_of_ble_eq_true rfl), (Nat.le_of_ble_eq_true rfl)⟩ rfl rfl (Nat.le_of_ble_eq_true rfl) (c_fill ((S.2.2.2.2.2.2.2.2.1 a a6).2.2.2.2.1 0 (by omega)).2.1 ((S.2.2.2.2.2.2.2.2.1 a a6).2.2.2.2.1 0 (by omega)).2.2) ?_
  rintro _ q1 ⟨rfl, eq1⟩
  subst q1
  show zG l w mX4_beginSpan 31 [(0, .ref (b + 11 + 7 * a))] [] (zSF (zSi (zSl (zSi (zSi h 134 (b + 11 + 7 * a) (nI 0)) 135 (b + 11 + 7 * a) v) 136 (b + 11 + 7 * a) (jL 0)) 143 (b + 11 + 7 * a) (nI 0)) (b + 11 + 7 * a + 3) (fl6 (zI (zSi (zSl (zSi (zSi h 134 (b + 11 + 7 * a) (nI 0)) 135 (b + 11 + 7 * a) v) 136 (b + 11 + 7 * a) (jL 0)) 143 (b + 11 + 7 * a) (nI 0)) (b + 11 + 7 * a + 3)) (nI 0) 6)) _
  refine g_aload_n 0 dX4_beginSpan_31 rfl rfl ?_
  refine g_getr (f := 138) (b := b + 11 + 7 * a + 4) dX4_beginSpan_32 fl_X4_25 (S.2.2.2.2.2.2.2.2.1 a a6).2.1 rfl ((S.2.2.2.2.2.2.2.2.1 a a6).2.2.2.2.1 1 (by omega)).1 ?_
  refine g_iconst (v := nI 0) dX4_beginSpan_35 (by decide) ?_
  refine g_invs (M' := mJ7_fill_53178) (As := [.ref (b + 11 + 7 * a + 4), .int (nI 0)]) (rest := []) dX4_beginSpan_36 ml_X4_148 okJ7_fill_53178 stJ7_fill_53178 ⟨(Nat.le_of_ble_eq_true rfl), (Nat.le_of_ble_eq_true rfl)⟩ rfl rfl (Nat.le_of_ble_eq_true rfl) (c_fill ((S.2.2.2.2.2.2.2.2.1 a a6).2.2.2.2.1 1 (by omega)).2.1 ((S.2.2.2.2.2.2.2.2.1 a a6).2.2.2.2.1 1 (by omega)).2.2) ?_
  rintro _ q2 ⟨rfl, eq2⟩
  subst q2
  show zG l w mX4_beginSpan 39 [(0, .ref (b + 11 + 7 * a))] [] (zSF (zSF (zSi (zSl (zSi (zSi h 134 (b + 11 + 7 * a) (nI 0)) 135 (b + 11 + 7 * a) v) 136 (b + 11 + 7 * a) (jL 0)) 143 (b + 11 + 7 * a) (nI 0)) (b + 11 + 7 * a + 3) (fl6 (zI (zSi (zSl (zSi (zSi h 134 (b + 11 + 7 * a) (nI 0)) 135 (b + 11 + 7 * a) v) 136 (b + 11 + 7 * a) (jL 0)) 143 (b + 11 + 7 * a) (nI 0)) (b + 11 + 7 * a + 3)) (nI 0) 6)) (b + 11 + 7 * a + 4) (fl6 (zI (zSF (zSi (zSl (zSi (zSi h 134 (b + 11 + 7 * a) (nI 0)) 135 (b + 11 + 7 * a) v) 136 (b + 11 + 7 * a) (jL 0)) 143 (b + 11 + 7 * a) (nI 0)) (b + 11 + 7 * a + 3) (fl6 (zI (zSi (zSl (zSi (zSi h 134 (b + 11 + 7 * a) (nI 0)) 135 (b + 11 + 7 * a) v) 136 (b + 11 + 7 * a) (jL 0)) 143 (b + 11 + 7 * a) (nI 0)) (b + 11 + 7 * a + 3)) (nI 0) 6)) (b + 11 + 7 * a + 4)) (nI 0) 6)) _
  refine g_aload_n 0 dX4_beginSpan_39 rfl rfl ?_
  refine g_getr (f := 139) (b := b + 11 + 7 * a + 5) dX4_beginSpan_40 fl_X4_28 (S.2.2.2.2.2.2.2.2.1 a a6).2.1 rfl ((S.2.2.2.2.2.2.2.2.1 a a6).2.2.2.2.1 2 (by omega)).1 ?_
  refine g_iconst (v := nI 0) dX4_beginSpan_43 (by decide) ?_
  refine g_invs (M' := mJ7_fill_53178) (As := [.ref (b + 11 + 7 * a + 5), .int (nI 0)]) (rest := []) dX4_beginSpan_44 ml_X4_148 okJ7_fill_53178 stJ7_fill_53178 ⟨(Nat.le_of_ble_eq_true rfl), (Nat.le_of_ble_eq_true rfl)⟩ rfl rfl (Nat.le_of_ble_eq_true rfl) (c_fill ((S.2.2.2.2.2.2.2.2.1 a a6).2.2.2.2.1 2 (by omega)).2.1 ((S.2.2.2.2.2.2.2.2.1 a a6).2.2.2.2.1 2 (by omega)).2.2) ?_
  rintro _ q3 ⟨rfl, eq3⟩
  subst q3
  show zG l w mX4_beginSpan 47 [(0, .ref (b + 11 + 7 * a))] [] (zSF (zSF (zSF (zSi (zSl (zSi (zSi h 134 (b + 11 + 7 * a) (nI 0)) 135 (b + 11 + 7 * a) v) 136 (b + 11 + 7 * a) (jL 0)) 143 (b + 11 + 7 * a) (nI 0)) (b + 11 + 7 * a + 3) (fl6 (zI (zSi (zSl (zSi (zSi h 134 (b + 11 + 7 * a) (nI 0)) 135 (b + 11 + 7 * a) v) 136 (b + 11 + 7 * a) (jL 0)) 143 (b + 11 + 7 * a) (nI 0)) (b + 11 + 7 * a + 3)) (nI 0) 6)) (b + 11 + 7 * a + 4) (fl6 (zI (zSF (zSi (zSl (zSi (zSi h 134 (b + 11 + 7 * a) (nI 0)) 135 (b + 11 + 7 * a) v) 136 (b + 11 + 7 * a) (jL 0)) 143 (b + 11 + 7 * a) (nI 0)) (b + 11 + 7 * a + 3) (fl6 (zI (zSi (zSl (zSi (zSi h 134 (b + 11 + 7 * a) (nI 0)) 135 (b + 11 + 7 * a) v) 136 (b + 11 + 7 * a) (jL 0)) 143 (b + 11 + 7 * a) (nI 0)) (b + 11 + 7 * a + 3)) (nI 0) 6)) (b + 11 + 7 * a + 4)) (nI 0) 6)) (b + 11 + 7 * a + 5) (fl6 (zI (zSF (zSF (zSi (zSl (zSi (zSi h 134 (b + 11 + 7 * a) (nI 0)) 135 (b + 11 + 7 * a) v) 136 (b + 11 + 7 * a) (jL 0)) 143 (b + 11 + 7 * a) (nI 0)) (b + 11 + 7 * a + 3) (fl6 (zI (zSi (zSl (zSi (zSi h 134 (b + 11 + 7 * a) (nI 0)) 135 (b + 11 + 7 * a) v) 136 (b + 11 + 7 * a) (jL 0)) 143 (b + 11 + 7 * a) (nI 0)) (b + 11 + 7 * a + 3)) (nI 0) 6)) (b + 11 + 7 * a + 4) (fl6 (zI (zSF (zSi (zSl (zSi (zSi h 134 (b + 11 + 7 * a) (nI 0)) 135 (b + 11 + 7 * a) v) 136 (b + 11 + 7 * a) (jL 0)) 143 (b + 11 + 7 * a) (nI 0)) (b + 11 + 7 * a + 3) (fl6 (zI (zSi (zSl (zSi (zSi h 134 (b + 11 + 7 * a) (nI 0)) 135 (b + 11 + 7 * a) v) 136 (b + 11 + 7 * a) (jL 0)) 143 (b + 11 + 7 * a) (nI 0)) (b + 11 + 7 * a + 3)) (nI 0) 6)) (b + 11 + 7 * a + 4)) (nI 0) 6)) (b + 11 + 7 * a + 5)) (nI 0) 6)) _
  refine g_return dX4_beginSpan_47 rfl ?_
  exact ⟨rfl, rfl⟩
def lbZ (h : zH) (b a : Nat) (v : Int32) : zH := bsZ (zSi (zSi (zSi (suZ h (b + 11 + 7 * a + 6)) 141 (b + 11 + 7 * a) (nI 0)) 142 (b + 11 + 7 * a) (nI 0)) 144 (b + 11 + 7 * a) (nI 0)) b a v
theorem c_lkBegin {v : Int32} (S : ClS h b) (a6 : a < 6) (hv : zi h 130 (b + 11 + 7 * a) = v) : zM l w mX4_begin [.ref (b + 11 + 7 * a)] h (fun u h1 => u = none ∧ h1 = lbZ h b a v) := by
  refine zM.of (by decide) (Nat.le_of_ble_eq_true rfl) ?_
  refine g_aload_n 0 dX4_begin_0 rfl rfl ?_
  refine g_getr (f := 140) (b := b + 11 + 7 * a + 6) dX4_begin_1 fl_X4_34 (S.2.2.2.2.2.2.2.2.1 a a6).2.1 rfl (S.2.2.2.2.2.2.2.2.1 a a6).2.2.2.2.2.1 ?_
  refine g_invv (M' := mX7_clear) (As := []) (rest := []) dX4_begin_4 ml_X4_48 okX7_clear imX7_clear seX7_clear ⟨(Nat.le_of_ble_eq_true rfl), (Nat.le_of_ble_eq_true rfl)⟩ (ci := 7) rfl rfl (S.2.2.2.2.2.2.2.2.1 a a6).2.2.2.2.2.2 rfl rfl (Nat.le_of_ble_eq_true rfl) (c_suClear (S.2.2.2.2.2.2.2.2.1 a a6).2.2.2.2.2.2) ?_
  rintro _ q1 ⟨rfl, eq1⟩
  subst q1
  show zG l w mX4_begin 7 [(0, .ref (b + 11 + 7 * a))] [] (suZ h (b + 11 + 7 * a + 6)) _
  refine g_aload_n 0 dX4_begin_7 rfl rfl ?_
  refine g_iconst (v := nI 0) dX4_begin_8 (by decide) ?_
  refine g_puti (f := 141) dX4_begin_9 fl_X4_51 (Or.inl rfl) (S.2.2.2.2.2.2.2.2.1 a a6).2.1 rfl ?_
  refine g_aload_n 0 dX4_begin_12 rfl rfl ?_
  refine g_iconst (v := nI 0) dX4_begin_13 (by decide) ?_
  refine g_puti (f := 142) dX4_begin_14 fl_X4_54 (Or.inl rfl) (S.2.2.2.2.2.2.2.2.1 a a6).2.1 rfl ?_
  refine g_aload_n 0 dX4_begin_17 rfl rfl ?_
  refine g_iconst (v := nI 0) dX4_begin_18 (by decide) ?_
  refine g_puti (f := 144) dX4_begin_19 fl_X4_57 (Or.inl rfl) (S.2.2.2.2.2.2.2.2.1 a a6).2.1 rfl ?_
  refine g_aload_n 0 dX4_begin_22 rfl rfl ?_
  have S2 : ClS (zSi (zSi (zSi (suZ h (b + 11 + 7 * a + 6)) 141 (b + 11 + 7 * a) (nI 0)) 142 (b + 11 + 7 * a) (nI 0)) 144 (b + 11 + 7 * a) (nI 0)) b := S.fr (Nat.le_refl _) (fun _ _ _ => ⟨rfl, rfl, fun _ _ _ _ => rfl, fun _ => rfl⟩)
  refine g_invv (M' := mX4_beginSpan) (As := []) (rest := []) dX4_begin_23 ml_X4_60 okX4_beginSpan imX4_beginSpan seX4_beginSpan ⟨(Nat.le_of_ble_eq_true rfl), (Nat.le_of_ble_eq_true rfl)⟩ (ci := 4) rfl rfl (S.2.2.2.2.2.2.2.2.1 a a6).2.1 rfl rfl (Nat.le_of_ble_eq_true rfl) (c_bgSpanW (v := v) S2 a6 (by rw [zi_Si, if_neg (by omega), zi_Si, if_neg (by omega), zi_Si, if_neg (by omega)]; exact hv)) ?_
  rintro _ q2 ⟨rfl, eq2⟩
  subst q2
  show zG l w mX4_begin 26 [(0, .ref (b + 11 + 7 * a))] [] (bsZ (zSi (zSi (zSi (suZ h (b + 11 + 7 * a + 6)) 141 (b + 11 + 7 * a) (nI 0)) 142 (b + 11 + 7 * a) (nI 0)) 144 (b + 11 + 7 * a) (nI 0)) b a v) _
  refine g_return dX4_begin_26 rfl ?_
  exact ⟨rfl, rfl⟩
/-- a link's cells but its lines -/
def SL (b a c : Nat) : Prop := c = b + 11 + 7 * a ∨ (b + 11 + 7 * a + 3 ≤ c ∧ c < b + 11 + 7 * a + 7)
theorem lbZ_fr {v : Int32} : FrA (SL b a) h (lbZ h b a v) := by
  unfold lbZ bsZ suZ
  have s0 : SL b a (b + 11 + 7 * a) := Or.inl rfl
  have s3 : SL b a (b + 11 + 7 * a + 3) := Or.inr (by omega)
  have s4 : SL b a (b + 11 + 7 * a + 4) := Or.inr (by omega)
  have s5 : SL b a (b + 11 + 7 * a + 5) := Or.inr (by omega)
  have s6 : SL b a (b + 11 + 7 * a + 6) := Or.inr (by omega)
  exact ((((((((((((((((FrA.rf.sl s6).sl s6).sl s6).sl s6).sl s6).sl s6).si s0).si s0).si s0).si s0).si s0).sl s0).si s0).sF s3).sF s4).sF s5)
theorem lbZ_at {v : Int32} : zi (lbZ h b a v) 134 (b + 11 + 7 * a) = nI 0 ∧ zi (lbZ h b a v) 135 (b + 11 + 7 * a) = v ∧ zi (lbZ h b a v) 143 (b + 11 + 7 * a) = nI 0 ∧ zi (lbZ h b a v) 141 (b + 11 + 7 * a) = nI 0 ∧ zi (lbZ h b a v) 142 (b + 11 + 7 * a) = nI 0 ∧ zi (lbZ h b a v) 144 (b + 11 + 7 * a) = nI 0 ∧ zi (lbZ h b a v) 128 (b + 11 + 7 * a) = zi h 128 (b + 11 + 7 * a) ∧ zi (lbZ h b a v) 129 (b + 11 + 7 * a) = zi h 129 (b + 11 + 7 * a) ∧ zi (lbZ h b a v) 130 (b + 11 + 7 * a) = zi h 130 (b + 11 + 7 * a) ∧ zi (lbZ h b a v) 131 (b + 11 + 7 * a) = zi h 131 (b + 11 + 7 * a) ∧ zl (lbZ h b a v) 136 (b + 11 + 7 * a) = jL 0 ∧ zl (lbZ h b a v) 224 (b + 11 + 7 * a + 6) = jL 0 ∧ zl (lbZ h b a v) 225 (b + 11 + 7 * a + 6) = jL 0 ∧ zl (lbZ h b a v) 226 (b + 11 + 7 * a + 6) = jL 1 ∧ zl (lbZ h b a v) 227 (b + 11 + 7 * a + 6) = jL 1 ∧ zl (lbZ h b a v) 228 (b + 11 + 7 * a + 6) = jL 0 ∧ zl (lbZ h b a v) 229 (b + 11 + 7 * a + 6) = jL 0 ∧ ∀ k, k < 6 → zI (lbZ h b a v) (b + 11 + 7 * a + 3) k = nI 0 ∧ zI (lbZ h b a v) (b + 11 + 7 * a + 4) k = nI 0 ∧ zI (lbZ h b a v) (b + 11 + 7 * a + 5) k = nI 0 := ⟨by unfold lbZ bsZ; rw [zi_SF, zi_SF, zi_SF, zi_Si, if_neg (by omega), zi_Sl, zi_Si, if_neg (by omega), zi_Si, if_pos ⟨rfl, rfl⟩], by unfold lbZ bsZ; rw [zi_SF, zi_SF, zi_SF, zi_Si, if_neg (by omega), zi_Sl, zi_Si, if_pos ⟨rfl, rfl⟩], by unfold lbZ bsZ; rw [zi_SF, zi_SF, zi_SF, zi_Si, if_pos ⟨rfl, rfl⟩], by unfold lbZ bsZ; rw [zi_SF, zi_SF, zi_SF, zi_Si, if_neg (by omega), zi_Sl, zi_Si, if_neg (by omega), zi_Si, if_neg (by omega), zi_Si, if_neg (by omega), zi_Si, if_neg (by omega), zi_Si, if_pos ⟨rfl, rfl⟩], by unfold lbZ bsZ; rw [zi_SF, zi_SF, zi_SF, zi_Si, if_neg (by omega), zi_Sl, zi_Si, if_neg (by omega), zi_Si, if_neg (by omega), zi_Si, if_neg (by omega), zi_Si, if_pos ⟨rfl, rfl⟩], by unfold lbZ bsZ; rw [zi_SF, zi_SF, zi_SF, zi_Si, if_neg (by omega), zi_Sl, zi_Si, if_neg (by omega), zi_Si, if_neg (by omega), zi_Si, if_pos ⟨rfl, rfl⟩], by unfold lbZ bsZ suZ; rw [zi_SF, zi_SF, zi_SF, zi_Si, if_neg (by omega), zi_Sl, zi_Si, if_neg (by omega), zi_Si, if_neg (by omega), zi_Si, if_neg (by omega), zi_Si, if_neg (by omega), zi_Si, if_neg (by omega), zi_Sl, zi_Sl, zi_Sl, zi_Sl, zi_Sl, zi_Sl], by unfold lbZ bsZ suZ; rw [zi_SF, zi_SF, zi_SF, zi_Si, if_neg (by omega), zi_Sl, zi_Si, if_neg (by omega), zi_Si, if_neg (by omega), zi_Si, if_neg (by omega), zi_Si, if_neg (by omega), zi_Si, if_neg (by omega), zi_Sl, zi_Sl, zi_Sl, zi_Sl, zi_Sl, zi_Sl], by unfold lbZ bsZ suZ; rw [zi_SF, zi_SF, zi_SF, zi_Si, if_neg (by omega), zi_Sl, zi_Si, if_neg (by omega), zi_Si, if_neg (by omega), zi_Si, if_neg (by omega), zi_Si, if_neg (by omega), zi_Si, if_neg (by omega), zi_Sl, zi_Sl, zi_Sl, zi_Sl, zi_Sl, zi_Sl], by unfold lbZ bsZ suZ; rw [zi_SF, zi_SF, zi_SF, zi_Si, if_neg (by omega), zi_Sl, zi_Si, if_neg (by omega), zi_Si, if_neg (by omega), zi_Si, if_neg (by omega), zi_Si, if_neg (by omega), zi_Si, if_neg (by omega), zi_Sl, zi_Sl, zi_Sl, zi_Sl, zi_Sl, zi_Sl], by unfold lbZ bsZ suZ; rw [zl_SF, zl_SF, zl_SF, zl_Si, zl_Sl, if_pos ⟨rfl, rfl⟩], by unfold lbZ bsZ suZ; rw [zl_SF, zl_SF, zl_SF, zl_Si, zl_Sl, if_neg (by omega), zl_Si, zl_Si, zl_Si, zl_Si, zl_Si, zl_Sl, if_neg (by omega), zl_Sl, if_neg (by omega), zl_Sl, if_neg (by omega), zl_Sl, if_neg (by omega), zl_Sl, if_neg (by omega), zl_Sl, if_pos ⟨rfl, rfl⟩], by unfold lbZ bsZ suZ; rw [zl_SF, zl_SF, zl_SF, zl_Si, zl_Sl, if_neg (by omega), zl_Si, zl_Si, zl_Si, zl_Si, zl_Si, zl_Sl, if_neg (by omega), zl_Sl, if_neg (by omega), zl_Sl, if_neg (by omega), zl_Sl, if_neg (by omega), zl_Sl, if_pos ⟨rfl, rfl⟩], by unfold lbZ bsZ suZ; rw [zl_SF, zl_SF, zl_SF, zl_Si, zl_Sl, if_neg (by omega), zl_Si, zl_Si, zl_Si, zl_Si, zl_Si, zl_Sl, if_neg (by omega), zl_Sl, if_neg (by omega), zl_Sl, if_neg (by omega), zl_Sl, if_pos ⟨rfl, rfl⟩], by unfold lbZ bsZ suZ; rw [zl_SF, zl_SF, zl_SF, zl_Si, zl_Sl, if_neg (by omega), zl_Si, zl_Si, zl_Si, zl_Si, zl_Si, zl_Sl, if_neg (by omega), zl_Sl, if_neg (by omega), zl_Sl, if_pos ⟨rfl, rfl⟩], by unfold lbZ bsZ suZ; rw [zl_SF, zl_SF, zl_SF, zl_Si, zl_Sl, if_neg (by omega), zl_Si, zl_Si, zl_Si, zl_Si, zl_Si, zl_Sl, if_neg (by omega), zl_Sl, if_pos ⟨rfl, rfl⟩], by unfold lbZ bsZ suZ; rw [zl_SF, zl_SF, zl_SF, zl_Si, zl_Sl, if_neg (by omega), zl_Si, zl_Si, zl_Si, zl_Si, zl_Si, zl_Sl, if_pos ⟨rfl, rfl⟩], fun k hk => ⟨by unfold lbZ bsZ; rw [zI_SF, if_neg (by omega), zI_SF, if_neg (by omega), zI_SF, if_pos rfl, fl6_in hk], by unfold lbZ bsZ; rw [zI_SF, if_neg (by omega), zI_SF, if_pos rfl, fl6_in hk], by unfold lbZ bsZ; rw [zI_SF, if_pos rfl, fl6_in hk]⟩⟩
def fbZ (h : zH) (b f : Nat) : zH := zSi (zSi (zSi (zSi (zSi (zSi (zSi (zSi (zSi (zSi (zSi h 65 (b + 53 + 2 * f) (nI 0)) 66 (b + 53 + 2 * f) (nI 9999)) 67 (b + 53 + 2 * f) (nI 0)) 68 (b + 53 + 2 * f) (nI 1)) 69 (b + 53 + 2 * f) (nI 0)) 70 (b + 53 + 2 * f) (nI 200)) 71 (b + 53 + 2 * f) (nI 0)) 72 (b + 53 + 2 * f) (nI 0)) 73 (b + 53 + 2 * f) (nI 0)) 74 (b + 53 + 2 * f) (nI 0)) 75 (b + 53 + 2 * f) (nI 0)
theorem c_flBegin (hk : zk h (b + 53 + 2 * f) = 2) : zM l w mX2_begin [.ref (b + 53 + 2 * f)] h (fun u h1 => u = none ∧ h1 = fbZ h b f) := by
  refine zM.of (by decide) (Nat.le_of_ble_eq_true rfl) ?_
  refine g_aload_n 0 dX2_begin_0 rfl rfl ?_
  refine g_iconst (v := nI 0) dX2_begin_1 (by decide) ?_
  refine g_puti (f := 65) dX2_begin_2 fl_X2_15 (Or.inl rfl) hk rfl ?_
  refine g_aload_n 0 dX2_begin_5 rfl rfl ?_
  refine g_sipush (v := nI 9999) dX2_begin_6 (by decide) ?_
  refine g_puti (f := 66) dX2_begin_9 fl_X2_19 (Or.inl rfl) hk rfl ?_
  refine g_aload_n 0 dX2_begin_12 rfl rfl ?_
  refine g_iconst (v := nI 0) dX2_begin_13 (by decide) ?_
  refine g_puti (f := 67) dX2_begin_14 fl_X2_22 (Or.inl rfl) hk rfl ?_
  refine g_aload_n 0 dX2_begin_17 rfl rfl ?_
  refine g_iconst (v := nI 1) dX2_begin_18 (by decide) ?_
  refine g_putz (f := 68) dX2_begin_19 fl_X2_25 (Or.inl rfl) hk rfl (by decide) ?_
  refine g_aload_n 0 dX2_begin_22 rfl rfl ?_
  refine g_iconst (v := nI 0) dX2_begin_23 (by decide) ?_
  refine g_puti (f := 69) dX2_begin_24 fl_X2_29 (Or.inl rfl) hk rfl ?_
  refine g_aload_n 0 dX2_begin_27 rfl rfl ?_
  refine g_sipush (v := nI 200) dX2_begin_28 (by decide) ?_
  refine g_puti (f := 70) dX2_begin_31 fl_X2_32 (Or.inl rfl) hk rfl ?_
  refine g_aload_n 0 dX2_begin_34 rfl rfl ?_
  refine g_iconst (v := nI 0) dX2_begin_35 (by decide) ?_
  refine g_puti (f := 71) dX2_begin_36 fl_X2_35 (Or.inl rfl) hk rfl ?_
  refine g_aload_n 0 dX2_begin_39 rfl rfl ?_
  refine g_iconst (v := nI 0) dX2_begin_40 (by decide) ?_
  refine g_puti (f := 72) dX2_begin_41 fl_X2_38 (Or.inl rfl) hk rfl ?_
  refine g_aload_n 0 dX2_begin_44 rfl rfl ?_
  refine g_iconst (v := nI 0) dX2_begin_45 (by decide) ?_
  refine g_puti (f := 73) dX2_begin_46 fl_X2_41 (Or.inl rfl) hk rfl ?_
  refine g_aload_n 0 dX2_begin_49 rfl rfl ?_
  refine g_iconst (v := nI 0) dX2_begin_50 (by decide) ?_
  refine g_puti (f := 74) dX2_begin_51 fl_X2_44 (Or.inl rfl) hk rfl ?_
  refine g_aload_n 0 dX2_begin_54 rfl rfl ?_
  refine g_iconst (v := nI 0) dX2_begin_55 (by decide) ?_
  refine g_puti (f := 75) dX2_begin_56 fl_X2_47 (Or.inl rfl) hk rfl ?_
  refine g_return dX2_begin_59 rfl ?_
  exact ⟨rfl, rfl⟩
theorem fbZ_at : zi (fbZ h b f) 65 (b + 53 + 2 * f) = nI 0 ∧ zi (fbZ h b f) 66 (b + 53 + 2 * f) = nI 9999 ∧ zi (fbZ h b f) 67 (b + 53 + 2 * f) = nI 0 ∧ zi (fbZ h b f) 68 (b + 53 + 2 * f) = nI 1 ∧ zi (fbZ h b f) 69 (b + 53 + 2 * f) = nI 0 ∧ zi (fbZ h b f) 70 (b + 53 + 2 * f) = nI 200 ∧ zi (fbZ h b f) 71 (b + 53 + 2 * f) = nI 0 ∧ zi (fbZ h b f) 72 (b + 53 + 2 * f) = nI 0 ∧ zi (fbZ h b f) 73 (b + 53 + 2 * f) = nI 0 ∧ zi (fbZ h b f) 74 (b + 53 + 2 * f) = nI 0 ∧ zi (fbZ h b f) 75 (b + 53 + 2 * f) = nI 0 := ⟨by unfold fbZ; rw [zi_Si, if_neg (by omega), zi_Si, if_neg (by omega), zi_Si, if_neg (by omega), zi_Si, if_neg (by omega), zi_Si, if_neg (by omega), zi_Si, if_neg (by omega), zi_Si, if_neg (by omega), zi_Si, if_neg (by omega), zi_Si, if_neg (by omega), zi_Si, if_neg (by omega), zi_Si, if_pos ⟨rfl, rfl⟩], by unfold fbZ; rw [zi_Si, if_neg (by omega), zi_Si, if_neg (by omega), zi_Si, if_neg (by omega), zi_Si, if_neg (by omega), zi_Si, if_neg (by omega), zi_Si, if_neg (by omega), zi_Si, if_neg (by omega), zi_Si, if_neg (by omega), zi_Si, if_neg (by omega), zi_Si, if_pos ⟨rfl, rfl⟩], by unfold fbZ; rw [zi_Si, if_neg (by omega), zi_Si, if_neg (by omega), zi_Si, if_neg (by omega), zi_Si, if_neg (by omega), zi_Si, if_neg (by omega), zi_Si, if_neg (by omega), zi_Si, if_neg (by omega), zi_Si, if_neg (by omega), zi_Si, if_pos ⟨rfl, rfl⟩], by unfold fbZ; rw [zi_Si, if_neg (by omega), zi_Si, if_neg (by omega), zi_Si, if_neg (by omega), zi_Si, if_neg (by omega), zi_Si, if_neg (by omega), zi_Si, if_neg (by omega), zi_Si, if_neg (by omega), zi_Si, if_pos ⟨rfl, rfl⟩], by unfold fbZ; rw [zi_Si, if_neg (by omega), zi_Si, if_neg (by omega), zi_Si, if_neg (by omega), zi_Si, if_neg (by omega), zi_Si, if_neg (by omega), zi_Si, if_neg (by omega), zi_Si, if_pos ⟨rfl, rfl⟩], by unfold fbZ; rw [zi_Si, if_neg (by omega), zi_Si, if_neg (by omega), zi_Si, if_neg (by omega), zi_Si, if_neg (by omega), zi_Si, if_neg (by omega), zi_Si, if_pos ⟨rfl, rfl⟩], by unfold fbZ; rw [zi_Si, if_neg (by omega), zi_Si, if_neg (by omega), zi_Si, if_neg (by omega), zi_Si, if_neg (by omega), zi_Si, if_pos ⟨rfl, rfl⟩], by unfold fbZ; rw [zi_Si, if_neg (by omega), zi_Si, if_neg (by omega), zi_Si, if_neg (by omega), zi_Si, if_pos ⟨rfl, rfl⟩], by unfold fbZ; rw [zi_Si, if_neg (by omega), zi_Si, if_neg (by omega), zi_Si, if_pos ⟨rfl, rfl⟩], by unfold fbZ; rw [zi_Si, if_neg (by omega), zi_Si, if_pos ⟨rfl, rfl⟩], by unfold fbZ; rw [zi_Si, if_pos ⟨rfl, rfl⟩]⟩
def SF (b f c : Nat) : Prop := c = b + 53 + 2 * f ∨ c = b + 53 + 2 * f + 1
theorem fbZ_fr : FrA (SF b f) h (fbZ h b f) := by
  unfold fbZ
  have s0 : SF b f (b + 53 + 2 * f) := Or.inl rfl
  exact (((((((((((FrA.rf.si s0).si s0).si s0).si s0).si s0).si s0).si s0).si s0).si s0).si s0).si s0)
theorem c_addPath {c : Nat} {v : Int32} (S : ClS h b) (f6 : f < 6) (hc : zi h 65 (b + 53 + 2 * f) = nI c) (c4 : c < 4) : zM l w mX2_addToPath [.ref (b + 53 + 2 * f), .int v] h (fun u h1 => u = none ∧ h1 = zSi (zSI h (b + 53 + 2 * f + 1) c v) 65 (b + 53 + 2 * f) (nI (c + 1))) := by
  refine zM.of (by decide) (Nat.le_of_ble_eq_true rfl) ?_
  refine g_aload_n 0 dX2_addToPath_0 rfl rfl ?_
  refine g_aload_n 0 dX2_addToPath_1 rfl rfl ?_
  refine g_geti (f := 65) dX2_addToPath_2 fl_X2_15 (S.2.2.2.2.2.2.2.2.2 f f6).2.1 (by decide) rfl ?_
  rw [show zi h 65 (b + 53 + 2 * f) = nI c from hc]
  refine g_iload_n 1 dX2_addToPath_5 rfl rfl ?_
  refine g_invv (M' := mX2_putPath) (As := [.int (nI c), .int v]) (rest := []) dX2_addToPath_6 ml_X2_56 okX2_putPath imX2_putPath seX2_putPath ⟨(Nat.le_of_ble_eq_true rfl), (Nat.le_of_ble_eq_true rfl)⟩ (ci := 2) rfl rfl (S.2.2.2.2.2.2.2.2.2 f f6).2.1 rfl rfl (Nat.le_of_ble_eq_true rfl) (c_putPath S f6 c4) ?_
  rintro _ q1 ⟨rfl, eq1⟩
  subst q1
  show zG l w mX2_addToPath 9 [(0, .ref (b + 53 + 2 * f)), (1, .int v)] [] (zSI h (b + 53 + 2 * f + 1) c v) _
  refine g_aload_n 0 dX2_addToPath_9 rfl rfl ?_
  refine g_dup dX2_addToPath_10 rfl ?_
  refine g_geti (f := 65) dX2_addToPath_11 fl_X2_15 (S.2.2.2.2.2.2.2.2.2 f f6).2.1 (by decide) rfl ?_
  rw [show zi (zSI h (b + 53 + 2 * f + 1) c v) 65 (b + 53 + 2 * f) = nI c from (by rw [zi_SI]; exact hc)]
  refine g_iconst (v := nI 1) dX2_addToPath_14 (by decide) ?_
  refine g_iadd dX2_addToPath_15 ?_
  rw [nI_add c 1]
  refine g_puti (f := 65) dX2_addToPath_16 fl_X2_15 (Or.inl rfl) (S.2.2.2.2.2.2.2.2.2 f f6).2.1 rfl ?_
  refine g_return dX2_addToPath_19 rfl ?_
  exact ⟨rfl, rfl⟩
theorem c_goesW {c : Nat} {z : Int} (S : ClS h b) (f6 : f < 6) (hc : zi h 65 (b + 53 + 2 * f) = nI c) (en : nA M (248 + 20 * f + 0) = (c : Int)) (c4 : c ≤ 4) (zb : 0 ≤ z ∧ z < 100000) (hP : ∀ i : Nat, i < c → zI h (b + 53 + 2 * f + 1) i = jI (nA M (248 + 20 * f + (12 + i))) ∧ 0 ≤ nA M (248 + 20 * f + (12 + i)) ∧ nA M (248 + 20 * f + (12 + i)) < 6) : zM l w mX2_goesOver [.ref (b + 53 + 2 * f), .int (jI z)] h (fun u h1 => u = some (.int (bI (inB M f z))) ∧ h1 = h) := by
  refine zM.of (by decide) (Nat.le_of_ble_eq_true rfl) ?_
  have loop : ∀ d k : Nat, k + d = c → (∀ j : Nat, j < k → ¬ nA M (248 + 20 * f + (12 + j)) = z) → zG l w mX2_goesOver 2 [(2, .int (nI k)), (0, .ref (b + 53 + 2 * f)), (1, .int (jI z))] [] h (fun u h1 => u = some (.int (bI (inB M f z))) ∧ h1 = h) := by
    intro d
    induction d with
    | zero =>
      intro k hk hu
      refine g_iload_n 0 dX2_goesOver_2 rfl rfl ?_
      refine g_aload_n 1 dX2_goesOver_3 rfl rfl ?_
      refine g_geti (f := 65) dX2_goesOver_4 fl_X2_15 (S.2.2.2.2.2.2.2.2.2 f f6).2.1 (by decide) rfl ?_
      rw [show zi h 65 (b + 53 + 2 * f) = nI c from hc]
      refine g_ncmp_ge (tgt := 27) dX2_goesOver_7 (by decide) (by omega) (by omega) (fun g => ?_) (fun g => ?_)
      · refine g_iconst (v := bI false) dX2_goesOver_27 (by decide) ?_
        refine g_zreturn dX2_goesOver_28 rfl (bI_nar _) ?_
        exact ⟨by rw [inB_f (fun j hj => hu j (by omega))], rfl⟩
      · exact absurd g (by omega)
    | succ d ih =>
      intro k hk hu
      refine g_iload_n 0 dX2_goesOver_2 rfl rfl ?_
      refine g_aload_n 1 dX2_goesOver_3 rfl rfl ?_
      refine g_geti (f := 65) dX2_goesOver_4 fl_X2_15 (S.2.2.2.2.2.2.2.2.2 f f6).2.1 (by decide) rfl ?_
      rw [show zi h 65 (b + 53 + 2 * f) = nI c from hc]
      refine g_ncmp_ge (tgt := 27) dX2_goesOver_7 (by decide) (by omega) (by omega) (fun g => ?_) (fun g => ?_)
      · exact absurd g (by omega)
      · have PP := hP k (by omega)
        refine g_aload_n 1 dX2_goesOver_10 rfl rfl ?_
        refine g_iload_n 0 dX2_goesOver_11 rfl rfl ?_
        refine g_invv (M' := mX2_pathAt) (As := [.int (nI k)]) (rest := []) dX2_goesOver_12 ml_X2_60 okX2_pathAt imX2_pathAt seX2_pathAt ⟨(Nat.le_of_ble_eq_true rfl), (Nat.le_of_ble_eq_true rfl)⟩ (ci := 2) rfl rfl (S.2.2.2.2.2.2.2.2.2 f f6).2.1 rfl rfl (Nat.le_of_ble_eq_true rfl) (c_pathW S f6 hc c4 (by omega)) ?_
        rintro _ q1 ⟨rfl, eq1⟩
        subst q1
        rw [PP.1]
        show zG l w mX2_goesOver 15 [(2, .int (nI k)), (0, .ref (b + 53 + 2 * f)), (1, .int (jI z))] [.int (jI (nA M (248 + 20 * f + (12 + k))))] h _
        refine g_iload_n 2 dX2_goesOver_15 rfl rfl ?_
        refine g_zcmp_ne (a := (nA M (248 + 20 * f + (12 + k)))) (b := z) (tgt := 21) rfl rfl dX2_goesOver_16 (by decide) (by omega) (by omega) (fun e => ?_) (fun e => ?_)
        · refine g_inc (v := nI (k + 1)) (lv2 := [(2, .int (nI (k + 1))), (0, .ref (b + 53 + 2 * f)), (1, .int (jI z))]) 0 dX2_goesOver_21 rfl (nI_add _ 1) (by decide) rfl ?_
          refine g_goto (tgt := 2) dX2_goesOver_24 (by decide) ?_
          exact zG.sub [0, 1, 2] rfl (ih (k + 1) (by omega) (fun j hj => if e9 : j = k then by rw [e9]; exact e else hu j (by omega)))
        · refine g_iconst (v := bI true) dX2_goesOver_19 (by decide) ?_
          refine g_zreturn dX2_goesOver_20 rfl (bI_nar _) ?_
          exact ⟨by rw [inB_t (i := k) (by omega) e], rfl⟩
  refine g_iconst (v := nI 0) dX2_goesOver_0 (by decide) ?_
  refine g_istore_n (lv2 := [(2, .int (nI 0)), (0, .ref (b + 53 + 2 * f)), (1, .int (jI z))]) dX2_goesOver_1 rfl (by decide) rfl ?_
  exact zG.sub [0, 1, 2] rfl (loop c 0 (Nat.zero_add _) (fun j hj => absurd hj (by omega)))
theorem c_nnT {lo hi : Nat} (R : RdC h b r p n t lt N T i j) (hl : lo < 100000) (hh : hi < 100000) (o : okB (nxT t n T) (lo : Int) (hi : Int) = true) : zM l w mX8_nextNumber [.ref r, .int (nI lo), .int (nI hi)] h (fun u h1 => u = some (.int (bI true)) ∧ RdC h1 b r p n t lt N (nxT t n T) i j ∧ FrF r 258 261 h h1) := by
  refine zM.of (by decide) (Nat.le_of_ble_eq_true rfl) ?_
  obtain ⟨t2, o1, o2⟩ := okB_t o
  refine g_aload_n 0 dX8_nextNumber_0 rfl rfl ?_
  refine g_invv (M' := mX8_advance) (As := []) (rest := []) dX8_nextNumber_1 ml_X8_43 okX8_advance imX8_advance seX8_advance ⟨(Nat.le_of_ble_eq_true rfl), (Nat.le_of_ble_eq_true rfl)⟩ (ci := 8) rfl rfl R.2.1.1.1 rfl rfl (Nat.le_of_ble_eq_true rfl) (c_advance R.2.1 R.2.2.1.2.2.1 R.2.2.2.1.2.2.1) ?_
  rintro _ y1 ⟨rfl, k1, f1⟩
  show zG l w mX8_nextNumber 4 [(0, .ref r), (1, .int (nI lo)), (2, .int (nI hi))] [] y1 _
  have R1 := R.tk (T' := nxT t n T) k1 (nxT_ok R.2.2.2.1).1 f1
  have o0 := R1.2.2.2.1.1
  refine g_aload_n 0 dX8_nextNumber_4 rfl rfl ?_
  refine g_geti (f := 260) dX8_nextNumber_5 fl_X8_46 R1.2.1.1.1 (by decide) rfl ?_
  rw [show zi y1 260 r = nI (nxT t n T).1 from R1.2.2.1.1]
  refine g_iconst (v := nI 2) dX8_nextNumber_8 (by decide) ?_
  refine g_ncmp_eq (tgt := 18) dX8_nextNumber_9 (by decide) (by omega) (by omega) (fun c => ?_) (fun c => ?_)
  · have vb := R1.2.2.2.1.2.2.2.2.2 t2
    refine g_aload_n 0 dX8_nextNumber_18 rfl rfl ?_
    refine g_geti (f := 261) dX8_nextNumber_19 fl_X8_76 R1.2.1.1.1 (by decide) rfl ?_
    rw [show zi y1 261 r = jI (nxT t n T).2.2.2 from R1.2.2.1.2.2.2 t2]
    refine g_iload_n 1 dX8_nextNumber_22 rfl rfl ?_
    refine g_zcmp_lt (a := (nxT t n T).2.2.2) (b := ((lo : Nat) : Int)) (tgt := 34) rfl (jI_nat lo).symm dX8_nextNumber_23 (by decide) (by omega) (by omega) (fun d1 => ?_) (fun d1 => ?_)
    · exact absurd d1 (by omega)
    · refine g_aload_n 0 dX8_nextNumber_26 rfl rfl ?_
      refine g_geti (f := 261) dX8_nextNumber_27 fl_X8_76 R1.2.1.1.1 (by decide) rfl ?_
      rw [show zi y1 261 r = jI (nxT t n T).2.2.2 from R1.2.2.1.2.2.2 t2]
      refine g_iload_n 2 dX8_nextNumber_30 rfl rfl ?_
      refine g_zcmp_le (a := (nxT t n T).2.2.2) (b := ((hi : Nat) : Int)) (tgt := 42) rfl (jI_nat hi).symm dX8_nextNumber_31 (by decide) (by omega) (by omega) (fun d2 => ?_) (fun d2 => ?_)
      · refine g_iconst (v := bI true) dX8_nextNumber_42 (by decide) ?_
        refine g_goto (tgt := 47) dX8_nextNumber_43 (by decide) ?_
        refine g_zreturn dX8_nextNumber_47 rfl (bI_nar _) ?_
        exact ⟨rfl, R1, f1⟩
      · exact absurd o2 d2
  · exact absurd t2 c
theorem c_nnF {lo hi : Nat} (R : RdC h b r p n t lt N T i j) (hl : lo < 100000) (hh : hi < 100000) (o : okB (nxT t n T) (lo : Int) (hi : Int) = false) : zM l w mX8_nextNumber [.ref r, .int (nI lo), .int (nI hi)] h (fun u h1 => u = some (.int (bI false)) ∧ PeC h1 r (nuF (nxT t n T)) ∧ FrF r 258 265 h h1) := by
  refine zM.of (by decide) (Nat.le_of_ble_eq_true rfl) ?_
  refine g_aload_n 0 dX8_nextNumber_0 rfl rfl ?_
  refine g_invv (M' := mX8_advance) (As := []) (rest := []) dX8_nextNumber_1 ml_X8_43 okX8_advance imX8_advance seX8_advance ⟨(Nat.le_of_ble_eq_true rfl), (Nat.le_of_ble_eq_true rfl)⟩ (ci := 8) rfl rfl R.2.1.1.1 rfl rfl (Nat.le_of_ble_eq_true rfl) (c_advance R.2.1 R.2.2.1.2.2.1 R.2.2.2.1.2.2.1) ?_
  rintro _ y1 ⟨rfl, k1, f1⟩
  show zG l w mX8_nextNumber 4 [(0, .ref r), (1, .int (nI lo)), (2, .int (nI hi))] [] y1 _
  have R1 := R.tk (T' := nxT t n T) k1 (nxT_ok R.2.2.2.1).1 f1
  have o0 := R1.2.2.2.1.1
  refine g_aload_n 0 dX8_nextNumber_4 rfl rfl ?_
  refine g_geti (f := 260) dX8_nextNumber_5 fl_X8_46 R1.2.1.1.1 (by decide) rfl ?_
  rw [show zi y1 260 r = nI (nxT t n T).1 from R1.2.2.1.1]
  refine g_iconst (v := nI 2) dX8_nextNumber_8 (by decide) ?_
  refine g_ncmp_eq (tgt := 18) dX8_nextNumber_9 (by decide) (by omega) (by omega) (fun c => ?_) (fun c => ?_)
  · have t2 := c
    have vb := R1.2.2.2.1.2.2.2.2.2 t2
    refine g_aload_n 0 dX8_nextNumber_18 rfl rfl ?_
    refine g_geti (f := 261) dX8_nextNumber_19 fl_X8_76 R1.2.1.1.1 (by decide) rfl ?_
    rw [show zi y1 261 r = jI (nxT t n T).2.2.2 from R1.2.2.1.2.2.2 t2]
    refine g_iload_n 1 dX8_nextNumber_22 rfl rfl ?_
    refine g_zcmp_lt (a := (nxT t n T).2.2.2) (b := ((lo : Nat) : Int)) (tgt := 34) rfl (jI_nat lo).symm dX8_nextNumber_23 (by decide) (by omega) (by omega) (fun d1 => ?_) (fun d1 => ?_)
    · refine g_aload_n 0 dX8_nextNumber_34 rfl rfl ?_
      refine g_iconst (v := nI 4) dX8_nextNumber_35 (by decide) ?_
      refine g_invv (M' := mX8_stopWith) (As := [.int (nI 4)]) (rest := []) dX8_nextNumber_36 ml_X8_64 okX8_stopWith imX8_stopWith seX8_stopWith ⟨(Nat.le_of_ble_eq_true rfl), (Nat.le_of_ble_eq_true rfl)⟩ (ci := 8) rfl rfl R1.2.1.1.1 rfl rfl (Nat.le_of_ble_eq_true rfl) (c_stopW R1.2.1.1.1 R1.2.2.1 R1.2.2.2.1) ?_
      rintro _ y3 ⟨rfl, fa3, fb3, f3⟩
      show zG l w mX8_nextNumber 39 [(0, .ref r), (1, .int (nI lo)), (2, .int (nI hi))] [.int (bI false)] y3 _
      refine g_bif_eq (tgt := 46) dX8_nextNumber_39 (by decide) (fun dx => ?_) (fun dx => ?_)
      · refine g_iconst (v := bI false) dX8_nextNumber_46 (by decide) ?_
        refine g_zreturn dX8_nextNumber_47 rfl (bI_nar _) ?_
        exact ⟨rfl, by rw [nuF_2 t2]; exact ⟨fa3, fb3⟩, (f1.mono (by omega) (by omega)).tr (f3.mono (by omega) (by omega))⟩
      · cases dx
    · refine g_aload_n 0 dX8_nextNumber_26 rfl rfl ?_
      refine g_geti (f := 261) dX8_nextNumber_27 fl_X8_76 R1.2.1.1.1 (by decide) rfl ?_
      rw [show zi y1 261 r = jI (nxT t n T).2.2.2 from R1.2.2.1.2.2.2 t2]
      refine g_iload_n 2 dX8_nextNumber_30 rfl rfl ?_
      refine g_zcmp_le (a := (nxT t n T).2.2.2) (b := ((hi : Nat) : Int)) (tgt := 42) rfl (jI_nat hi).symm dX8_nextNumber_31 (by decide) (by omega) (by omega) (fun d2 => ?_) (fun d2 => ?_)
      · exact absurd (okB_3 (lo := (lo : Int)) (hi := (hi : Int)) t2 ⟨by omega, d2⟩) (by rw [o]; decide)
      · refine g_aload_n 0 dX8_nextNumber_34 rfl rfl ?_
        refine g_iconst (v := nI 4) dX8_nextNumber_35 (by decide) ?_
        refine g_invv (M' := mX8_stopWith) (As := [.int (nI 4)]) (rest := []) dX8_nextNumber_36 ml_X8_64 okX8_stopWith imX8_stopWith seX8_stopWith ⟨(Nat.le_of_ble_eq_true rfl), (Nat.le_of_ble_eq_true rfl)⟩ (ci := 8) rfl rfl R1.2.1.1.1 rfl rfl (Nat.le_of_ble_eq_true rfl) (c_stopW R1.2.1.1.1 R1.2.2.1 R1.2.2.2.1) ?_
        rintro _ y4 ⟨rfl, fa4, fb4, f4⟩
        show zG l w mX8_nextNumber 39 [(0, .ref r), (1, .int (nI lo)), (2, .int (nI hi))] [.int (bI false)] y4 _
        refine g_bif_eq (tgt := 46) dX8_nextNumber_39 (by decide) (fun dx => ?_) (fun dx => ?_)
        · refine g_iconst (v := bI false) dX8_nextNumber_46 (by decide) ?_
          refine g_zreturn dX8_nextNumber_47 rfl (bI_nar _) ?_
          exact ⟨rfl, by rw [nuF_2 t2]; exact ⟨fa4, fb4⟩, (f1.mono (by omega) (by omega)).tr (f4.mono (by omega) (by omega))⟩
        · cases dx
  · refine g_aload_n 0 dX8_nextNumber_12 rfl rfl ?_
    refine g_iconst (v := nI 2) dX8_nextNumber_13 (by decide) ?_
    refine g_invv (M' := mX8_stopWith) (As := [.int (nI 2)]) (rest := []) dX8_nextNumber_14 ml_X8_64 okX8_stopWith imX8_stopWith seX8_stopWith ⟨(Nat.le_of_ble_eq_true rfl), (Nat.le_of_ble_eq_true rfl)⟩ (ci := 8) rfl rfl R1.2.1.1.1 rfl rfl (Nat.le_of_ble_eq_true rfl) (c_stopW R1.2.1.1.1 R1.2.2.1 R1.2.2.2.1) ?_
    rintro _ y2 ⟨rfl, fa2, fb2, f2⟩
    show zG l w mX8_nextNumber 17 [(0, .ref r), (1, .int (nI lo)), (2, .int (nI hi))] [.int (bI false)] y2 _
    refine g_zreturn dX8_nextNumber_17 rfl (bI_nar _) ?_
    exact ⟨rfl, by rw [nuF_1 c]; exact ⟨fa2, fb2⟩, (f1.mono (by omega) (by omega)).tr (f2.mono (by omega) (by omega))⟩
theorem c_readSign (R : RdC h b r p n t lt N T 0 0) (h6 : nLk N + 0 ≤ 6) : zM l w mX8_readSign [.ref r] h (OC b r p n t lt h (signR t n T N)) := by
  refine zM.of (by decide) (Nat.le_of_ble_eq_true rfl) ?_
  have o0 := R.2.2.2.1.1
  refine g_aload_n 0 dX8_readSign_0 rfl rfl ?_
  refine g_geti (f := 260) dX8_readSign_1 fl_X8_46 R.2.1.1.1 (by decide) rfl ?_
  rw [show zi h 260 r = nI T.1 from R.2.2.1.1]
  refine g_iconst (v := nI 3) dX8_readSign_4 (by decide) ?_
  refine g_ncmp_eq (tgt := 14) dX8_readSign_5 (by decide) (by omega) (by omega) (fun c => ?_) (fun c => ?_)
  · refine g_aload_n 0 dX8_readSign_14 rfl rfl ?_
    refine g_invv (M' := mX8_advance) (As := []) (rest := []) dX8_readSign_15 ml_X8_43 okX8_advance imX8_advance seX8_advance ⟨(Nat.le_of_ble_eq_true rfl), (Nat.le_of_ble_eq_true rfl)⟩ (ci := 8) rfl rfl R.2.1.1.1 rfl rfl (Nat.le_of_ble_eq_true rfl) (c_advance R.2.1 R.2.2.1.2.2.1 R.2.2.2.1.2.2.1) ?_
    rintro _ y2 ⟨rfl, k2, f2⟩
    show zG l w mX8_readSign 18 [(0, .ref r)] [] y2 _
    have R2 := R.tk (T' := nxT t n T) k2 (nxT_ok R.2.2.2.1).1 f2
    refine g_iconst (v := bI true) dX8_readSign_18 (by decide) ?_
    refine g_zreturn dX8_readSign_19 rfl (bI_nar _) ?_
    rw [show signR t n T N = .inr (nxT t n T, N) from by unfold signR; rw [if_pos c]]
    exact ⟨rfl, R2, SB.ff f2⟩
  · refine g_aload_n 0 dX8_readSign_8 rfl rfl ?_
    refine g_iconst (v := nI 2) dX8_readSign_9 (by decide) ?_
    refine g_invv (M' := mX8_stopWith) (As := [.int (nI 2)]) (rest := []) dX8_readSign_10 ml_X8_64 okX8_stopWith imX8_stopWith seX8_stopWith ⟨(Nat.le_of_ble_eq_true rfl), (Nat.le_of_ble_eq_true rfl)⟩ (ci := 8) rfl rfl R.2.1.1.1 rfl rfl (Nat.le_of_ble_eq_true rfl) (c_stopW R.2.1.1.1 R.2.2.1 R.2.2.2.1) ?_
    rintro _ y1 ⟨rfl, fa1, fb1, f1⟩
    show zG l w mX8_readSign 13 [(0, .ref r)] [.int (bI false)] y1 _
    refine g_zreturn dX8_readSign_13 rfl (bI_nar _) ?_
    rw [show signR t n T N = .inl (flt T 2) from by unfold signR; rw [if_neg c]]
    exact ⟨rfl, ⟨fa1, fb1⟩, R.tw h6 (f1.mono (by omega) (by omega)), SB.ff f1⟩
theorem c_kindOf (R : RdC h b r p n t lt N T i j) : zM l w mX8_kindOfWord [.ref r] h (fun u h1 => u = some (.int (nI (if keyN t T = 4 then 1 else if keyN t T = 5 then 2 else if keyN t T = 6 then 3 else 0 : Nat))) ∧ h1 = h) := by
  refine zM.of (by decide) (Nat.le_of_ble_eq_true rfl) ?_
  have kb := key_bd (t := t) (T := T)
  refine g_aload_n 0 dX8_kindOfWord_0 rfl rfl ?_
  refine g_ldcS (i := 4) dX8_kindOfWord_1 rfl ?_
  refine g_invv (M' := mX8_isWord) (As := [.ref (w.2.2.2.1 4)]) (rest := []) dX8_kindOfWord_3 ml_X8_51 okX8_isWord imX8_isWord seX8_isWord ⟨(Nat.le_of_ble_eq_true rfl), (Nat.le_of_ble_eq_true rfl)⟩ (ci := 8) rfl rfl R.2.1.1.1 rfl rfl (Nat.le_of_ble_eq_true rfl) (c_isWord R.2.1 R.2.2.1 R.2.2.2.1 (by omega)) ?_
  rintro _ q1 ⟨rfl, eq1⟩
  subst q1
  rw [key_wd (by omega)]
  show zG l w mX8_kindOfWord 6 [(0, .ref r)] [.int (bI (decide (keyN t T = ((4 : Nat) : Int))))] h _
  refine g_bif_eq (tgt := 11) dX8_kindOfWord_6 (by decide) (fun c1 => ?_) (fun c1 => ?_)
  · have c1 := of_decide_eq_false c1
    refine g_aload_n 0 dX8_kindOfWord_11 rfl rfl ?_
    refine g_ldcS (i := 5) dX8_kindOfWord_12 rfl ?_
    refine g_invv (M' := mX8_isWord) (As := [.ref (w.2.2.2.1 5)]) (rest := []) dX8_kindOfWord_14 ml_X8_51 okX8_isWord imX8_isWord seX8_isWord ⟨(Nat.le_of_ble_eq_true rfl), (Nat.le_of_ble_eq_true rfl)⟩ (ci := 8) rfl rfl R.2.1.1.1 rfl rfl (Nat.le_of_ble_eq_true rfl) (c_isWord R.2.1 R.2.2.1 R.2.2.2.1 (by omega)) ?_
    rintro _ q2 ⟨rfl, eq2⟩
    subst q2
    rw [key_wd (by omega)]
    show zG l w mX8_kindOfWord 17 [(0, .ref r)] [.int (bI (decide (keyN t T = ((5 : Nat) : Int))))] h _
    refine g_bif_eq (tgt := 22) dX8_kindOfWord_17 (by decide) (fun c2 => ?_) (fun c2 => ?_)
    · have c2 := of_decide_eq_false c2
      refine g_aload_n 0 dX8_kindOfWord_22 rfl rfl ?_
      refine g_ldcS (i := 6) dX8_kindOfWord_23 rfl ?_
      refine g_invv (M' := mX8_isWord) (As := [.ref (w.2.2.2.1 6)]) (rest := []) dX8_kindOfWord_25 ml_X8_51 okX8_isWord imX8_isWord seX8_isWord ⟨(Nat.le_of_ble_eq_true rfl), (Nat.le_of_ble_eq_true rfl)⟩ (ci := 8) rfl rfl R.2.1.1.1 rfl rfl (Nat.le_of_ble_eq_true rfl) (c_isWord R.2.1 R.2.2.1 R.2.2.2.1 (by omega)) ?_
      rintro _ q3 ⟨rfl, eq3⟩
      subst q3
      rw [key_wd (by omega)]
      show zG l w mX8_kindOfWord 28 [(0, .ref r)] [.int (bI (decide (keyN t T = ((6 : Nat) : Int))))] h _
      refine g_bif_eq (tgt := 35) dX8_kindOfWord_28 (by decide) (fun c3 => ?_) (fun c3 => ?_)
      · have c3 := of_decide_eq_false c3
        refine g_iconst (v := nI 0) dX8_kindOfWord_35 (by decide) ?_
        refine g_ireturn dX8_kindOfWord_36 rfl ?_
        exact ⟨by rw [if_neg (by omega), if_neg (by omega), if_neg (by omega)], rfl⟩
      · have c3 := of_decide_eq_true c3
        refine g_iconst (v := nI 3) dX8_kindOfWord_31 (by decide) ?_
        refine g_goto (tgt := 36) dX8_kindOfWord_32 (by decide) ?_
        refine g_ireturn dX8_kindOfWord_36 rfl ?_
        exact ⟨by rw [if_neg (by omega), if_neg (by omega), if_pos (by omega)], rfl⟩
    · have c2 := of_decide_eq_true c2
      refine g_iconst (v := nI 2) dX8_kindOfWord_20 (by decide) ?_
      refine g_ireturn dX8_kindOfWord_21 rfl ?_
      exact ⟨by rw [if_neg (by omega), if_pos (by omega)], rfl⟩
  · have c1 := of_decide_eq_true c1
    refine g_iconst (v := nI 1) dX8_kindOfWord_9 (by decide) ?_
    refine g_ireturn dX8_kindOfWord_10 rfl ?_
    exact ⟨by rw [if_pos (by omega)], rfl⟩
end CRD
