theorem nA_ne {N : nT} {k j : Nat} {z : Int} (h : j ≠ k) : nA (uA N k z) j = nA N j := by rw [nA_uA, if_neg h]
theorem nA_eq {N : nT} {k : Nat} {z : Int} : nA (uA N k z) k = z := by rw [nA_uA, if_pos rfl]
/-- every number is far from the end of the longs -/
def nBd (N : nT) : Prop := ∀ k, ¬ (k = 3 ∨ k = 6) → -17592186044416 ≤ nA N k ∧ nA N k < 17592186044416
theorem jL_div {a b : Int} (ha : 0 ≤ a ∧ a < 2 ^ 63) (hb : 0 < b ∧ b < 2 ^ 63) : jL a / jL b = jL (a / b) := by
  have h0 : 0 ≤ a / b := Int.ediv_nonneg ha.1 (Int.le_of_lt hb.1)
  have h1 : a / b ≤ a := Int.ediv_le_self b ha.1
  apply Int64.toInt_inj.mp
  rw [Int64.toInt_div_of_ne_right _ _ (fun q => ?_), jL_toInt (by omega) (by omega), jL_toInt (by omega) (by omega), jL_toInt (by omega) (by omega), Int.tdiv_eq_ediv_of_nonneg ha.1]
  have := congrArg Int64.toInt q
  rw [jL_toInt (by omega) (by omega)] at this
  have e : (-1 : Int64).toInt = -1 := by decide
  omega
theorem jL_ne0 {b : Int} (hb : 0 < b ∧ b < 2 ^ 63) : ¬ jL b = 0 := fun q => by
  have := congrArg Int64.toInt q
  rw [jL_toInt (by omega) (by omega)] at this
  have e : (0 : Int64).toInt = 0 := by decide
  omega
theorem g_inc {l : Launch} {w : zW} {M : zMe} {pc : Nat} {lv : List (Nat × Value)} {rest : List Value} {h : zH} {Q : Option Value → zH → Prop} {i : Nat} {d : Int} {x v : Int32} {lv2 : List (Nat × Value)} (n : Nat) (hd : decode M.2.1 pc = .ok (.iinc i d, 3)) (hk : lv[n]? = some (i, .int x)) (hv : x + Int32.ofInt d = v) (hn : i < M.2.2.1) (hl : (i, Value.int v) :: lv.filter (fun q => !(q.1 == i) && !(q.1 + 1 == i && q.2.category == 2)) = lv2) (k : zG l w M (pc + 3) lv2 rest h Q) : zG l w M pc lv rest h Q :=
  zG.go (fun C _ h1 kk => lv_iinc C.1 C.2.1 hd h1 hk hv hn hl kk) k
theorem has_cal : ∀ s, s < 64 → ∀ f, f < 6 → (lN s >>> ((nI f).toInt64 &&& 63)) &&& jL 1 = lN (s / 2 ^ f % 2) := by decide +kernel
section M3
variable {l : Launch} {w : zW} {h : zH} {m : Nat} {N : nT}
theorem c_has {s f : Nat} (hs : s < 64) (hf : f < 6) : zM l w mX10_has [.long (lN s), .int (nI f)] h (fun v h1 => v = some (.int (bI (hasN s f))) ∧ h1 = h) := by
  refine zM.of (by decide) (Nat.le_of_ble_eq_true rfl) ?_
  refine g_lload_n 0 dX10_has_0 rfl rfl ?_
  refine g_iload_n 1 dX10_has_1 rfl rfl ?_
  refine g_lshr dX10_has_2 ?_
  refine g_lconst (v := jL 1) dX10_has_3 (by decide) ?_
  refine g_land dX10_has_4 ?_
  rw [has_cal s hs f hf, ← jL_nat]
  refine g_lconst (v := jL 1) dX10_has_5 (by decide) ?_
  have b1 : s / 2 ^ f % 2 < 2 := Nat.mod_lt _ (by decide)
  have e1 : hasN s f = decide (((s / 2 ^ f % 2 : Nat) : Int) = 1) := by unfold hasN; congr 2 <;> simp
  refine g_lif_ne (a := ((s / 2 ^ f % 2 : Nat) : Int)) (b := 1) (tgt := 14) dX10_has_6 rfl dX10_has_7 (by decide) (by omega) (by omega) (fun c => ?_) (fun c => ?_)
  · refine g_iconst (v := bI false) dX10_has_14 (by decide) ?_
    refine g_zreturn dX10_has_15 rfl (bI_nar _) ?_
    exact ⟨by rw [e1, decide_eq_false c], rfl⟩
  · refine g_iconst (v := bI true) dX10_has_10 (by decide) ?_
    refine g_goto (tgt := 15) dX10_has_11 (by decide) ?_
    refine g_zreturn dX10_has_15 rfl (bI_nar _) ?_
    exact ⟨by rw [e1, decide_eq_true c], rfl⟩
theorem c_isOn (r : MoN h m N) (hB : nBd N) {f : Nat} (hf : f < 6) : zM l w mX10_isOn [.ref m, .int (nI f)] h (fun v h1 => v = some (.int (bI (decide (nA N (248 + 20 * f + 3) = 1)))) ∧ h1 = h) := by
  refine zM.of (by decide) (Nat.le_of_ble_eq_true rfl) ?_
  refine g_aload_n 0 dX10_isOn_0 rfl rfl ?_
  refine g_iload_n 1 dX10_isOn_1 rfl rfl ?_
  refine g_iconst (v := nI 3) dX10_isOn_2 (by decide) ?_
  refine g_invv (M' := mX10_ofFlow) (As := [.int (nI f), .int (nI 3)]) (rest := []) dX10_isOn_3 ml_X10_62 okX10_ofFlow imX10_ofFlow seX10_ofFlow ⟨(Nat.le_of_ble_eq_true rfl), (Nat.le_of_ble_eq_true rfl)⟩ (ci := 10) rfl rfl r.1.1 rfl rfl (Nat.le_of_ble_eq_true rfl) (c_ofFlowN r (by omega)) ?_
  rintro _ q1 ⟨rfl, eq1⟩
  subst q1
  show zG l w mX10_isOn 6 [(0, .ref m), (1, .int (nI f))] [.long (jL (nA N (248 + 20 * f + 3)))] h _
  refine g_lconst (v := jL 1) dX10_isOn_6 (by decide) ?_
  have b2 := hB (248 + 20 * f + 3) (by omega)
  refine g_lif_ne (a := (nA N (248 + 20 * f + 3))) (b := 1) (tgt := 15) dX10_isOn_7 rfl dX10_isOn_8 (by decide) (by omega) (by omega) (fun c => ?_) (fun c => ?_)
  · refine g_iconst (v := bI false) dX10_isOn_15 (by decide) ?_
    refine g_zreturn dX10_isOn_16 rfl (bI_nar _) ?_
    exact ⟨by rw [decide_eq_false c], rfl⟩
  · refine g_iconst (v := bI true) dX10_isOn_11 (by decide) ?_
    refine g_goto (tgt := 16) dX10_isOn_12 (by decide) ?_
    refine g_zreturn dX10_isOn_16 rfl (bI_nar _) ?_
    exact ⟨by rw [decide_eq_true c], rfl⟩
theorem c_flowOfZ (r : MoN h m N) {p : Nat} (hp : p < 480) : zM l w mX10_flowOf [.ref m, .int (nI p)] h (fun v h1 => v = some (.int (jI (nA N (368 + 8 * p + 0) - 1))) ∧ h1 = h) := by
  refine zM.of (by decide) (Nat.le_of_ble_eq_true rfl) ?_
  refine g_aload_n 0 dX10_flowOf_0 rfl rfl ?_
  refine g_iload_n 1 dX10_flowOf_1 rfl rfl ?_
  refine g_iconst (v := nI 0) dX10_flowOf_2 (by decide) ?_
  refine g_invs (M' := mX10_packet0) (As := [.int (nI p), .int (nI 0)]) (rest := [.ref m]) dX10_flowOf_3 ml_X10_55 okX10_packet0 stX10_packet0 ⟨(Nat.le_of_ble_eq_true rfl), (Nat.le_of_ble_eq_true rfl)⟩ rfl rfl (Nat.le_of_ble_eq_true rfl) c_packet0 ?_
  rintro _ q1 ⟨rfl, eq1⟩
  subst q1
  show zG l w mX10_flowOf 6 [(0, .ref m), (1, .int (nI p))] [.int (nI (368 + 8 * p + 0)), .ref m] h _
  refine g_invv (M' := mX10_at) (As := [.int (nI (368 + 8 * p + 0))]) (rest := []) dX10_flowOf_6 ml_X10_58 okX10_at imX10_at seX10_at ⟨(Nat.le_of_ble_eq_true rfl), (Nat.le_of_ble_eq_true rfl)⟩ (ci := 10) rfl rfl r.1.1 rfl rfl (Nat.le_of_ble_eq_true rfl) (c_atN r (by omega) (by unfold nSp; omega)) ?_
  rintro _ q2 ⟨rfl, eq2⟩
  subst q2
  show zG l w mX10_flowOf 9 [(0, .ref m), (1, .int (nI p))] [.int (jI (nA N (368 + 8 * p + 0)))] h _
  refine g_iconst (v := nI 1) dX10_flowOf_9 (by decide) ?_
  refine g_isub dX10_flowOf_10 ?_
  rw [← jI_nat 1]
  rw [jI_sub]
  refine g_ireturn dX10_flowOf_11 rfl ?_
  exact ⟨rfl, rfl⟩
theorem c_flowOf (r : MoN h m N) {p f : Nat} (hp : p < 480) (hf : nA N (368 + 8 * p + 0) = (f : Int) + 1) : zM l w mX10_flowOf [.ref m, .int (nI p)] h (fun v h1 => v = some (.int (nI f)) ∧ h1 = h) := by
  have q := c_flowOfZ (l := l) (w := w) r hp
  rw [hf, Int.add_sub_cancel, jI_nat] at q
  exact q
theorem c_hop (r : MoN h m N) {f i : Nat} (hf : f < 6) (hi : i < 4) (h0 : 0 ≤ nA N (248 + 20 * f + (12 + i))) : zM l w mX10_hop [.ref m, .int (nI f), .int (nI i)] h (fun v h1 => v = some (.int (nI (hopN N f i))) ∧ h1 = h) := by
  refine zM.of (by decide) (Nat.le_of_ble_eq_true rfl) ?_
  refine g_aload_n 0 dX10_hop_0 rfl rfl ?_
  refine g_iload_n 1 dX10_hop_1 rfl rfl ?_
  refine g_bipush (v := nI 12) dX10_hop_2 (by decide) ?_
  refine g_iload_n 2 dX10_hop_4 rfl rfl ?_
  refine g_iadd dX10_hop_5 ?_
  rw [nI_add 12 i]
  refine g_invs (M' := mX10_flow0) (As := [.int (nI f), .int (nI (12 + i))]) (rest := [.ref m]) dX10_hop_6 ml_X10_52 okX10_flow0 stX10_flow0 ⟨(Nat.le_of_ble_eq_true rfl), (Nat.le_of_ble_eq_true rfl)⟩ rfl rfl (Nat.le_of_ble_eq_true rfl) c_flow0 ?_
  rintro _ q1 ⟨rfl, eq1⟩
  subst q1
  show zG l w mX10_hop 9 [(0, .ref m), (1, .int (nI f)), (2, .int (nI i))] [.int (nI (248 + 20 * f + (12 + i))), .ref m] h _
  refine g_invv (M' := mX10_at) (As := [.int (nI (248 + 20 * f + (12 + i)))]) (rest := []) dX10_hop_9 ml_X10_58 okX10_at imX10_at seX10_at ⟨(Nat.le_of_ble_eq_true rfl), (Nat.le_of_ble_eq_true rfl)⟩ (ci := 10) rfl rfl r.1.1 rfl rfl (Nat.le_of_ble_eq_true rfl) (c_atN r (by omega) (by unfold nSp; omega)) ?_
  rintro _ q2 ⟨rfl, eq2⟩
  subst q2
  show zG l w mX10_hop 12 [(0, .ref m), (1, .int (nI f)), (2, .int (nI i))] [.int (jI (nA N (248 + 20 * f + (12 + i))))] h _
  refine g_ireturn dX10_hop_12 rfl ?_
  exact ⟨by rw [← jI_nat, hopN, Int.toNat_of_nonneg h0], rfl⟩
theorem c_backOf (r : MoN h m N) {f : Nat} (hf : f < 6) (h4 : 0 ≤ nA N (248 + 20 * f + 0) ∧ nA N (248 + 20 * f + 0) ≤ 4) (hP : ∀ i : Nat, (i : Int) < nA N (248 + 20 * f + 0) → 0 ≤ nA N (248 + 20 * f + (12 + i)) ∧ nA N (248 + 20 * f + (12 + i)) < 6) : zM l w mX10_backOf [.ref m, .int (nI f)] h (fun v h1 => v = some (.int (jI (backN N f))) ∧ h1 = h) := by
  refine zM.of (by decide) (Nat.le_of_ble_eq_true rfl) ?_
  have loop : ∀ n i : Nat, i + n = (nA N (248 + 20 * f + 0)).toNat → zG l w mX10_backOf 4 [(3, .int (nI i)), (2, .int (jI (((List.range i).map fun i => nA N (8 + 40 * hopN N f i + 1)).sum))), (0, .ref m), (1, .int (nI f))] [] h (fun v h1 => v = some (.int (jI (backN N f))) ∧ h1 = h) := by
    intro n
    induction n with
    | zero =>
      intro i hi
      refine g_iload_n 0 dX10_backOf_4 rfl rfl ?_
      refine g_i2l dX10_backOf_5 ?_
      rw [nI_l (by omega), ← jL_nat]
      refine g_aload_n 2 dX10_backOf_6 rfl rfl ?_
      refine g_iload_n 3 dX10_backOf_7 rfl rfl ?_
      refine g_iconst (v := nI 0) dX10_backOf_8 (by decide) ?_
      refine g_invv (M' := mX10_ofFlow) (As := [.int (nI f), .int (nI 0)]) (rest := [.long (jL ((i : Nat) : Int))]) dX10_backOf_9 ml_X10_62 okX10_ofFlow imX10_ofFlow seX10_ofFlow ⟨(Nat.le_of_ble_eq_true rfl), (Nat.le_of_ble_eq_true rfl)⟩ (ci := 10) rfl rfl r.1.1 rfl rfl (Nat.le_of_ble_eq_true rfl) (c_ofFlowN r (by omega)) ?_
      rintro _ q1 ⟨rfl, eq1⟩
      subst q1
      show zG l w mX10_backOf 12 [(3, .int (nI i)), (2, .int (jI (((List.range i).map fun i => nA N (8 + 40 * hopN N f i + 1)).sum))), (0, .ref m), (1, .int (nI f))] [.long (jL (nA N (248 + 20 * f + 0))), .long (jL ((i : Nat) : Int))] h _
      refine g_lif_ge (a := ((i : Nat) : Int)) (b := (nA N (248 + 20 * f + 0))) (tgt := 37) dX10_backOf_12 rfl dX10_backOf_13 (by decide) (by omega)  (by omega)  (fun c => ?_) (fun c => ?_)
      · refine g_iload_n 1 dX10_backOf_37 rfl rfl ?_
        refine g_ireturn dX10_backOf_38 rfl ?_
        exact ⟨by rw [show i = (nA N (248 + 20 * f + 0)).toNat by omega]; rfl, rfl⟩
      · exact absurd (show (i : Int) < nA N (248 + 20 * f + 0) by omega) (by omega)
    | succ n ih =>
      intro i hi
      refine g_iload_n 0 dX10_backOf_4 rfl rfl ?_
      refine g_i2l dX10_backOf_5 ?_
      rw [nI_l (by omega), ← jL_nat]
      refine g_aload_n 2 dX10_backOf_6 rfl rfl ?_
      refine g_iload_n 3 dX10_backOf_7 rfl rfl ?_
      refine g_iconst (v := nI 0) dX10_backOf_8 (by decide) ?_
      refine g_invv (M' := mX10_ofFlow) (As := [.int (nI f), .int (nI 0)]) (rest := [.long (jL ((i : Nat) : Int))]) dX10_backOf_9 ml_X10_62 okX10_ofFlow imX10_ofFlow seX10_ofFlow ⟨(Nat.le_of_ble_eq_true rfl), (Nat.le_of_ble_eq_true rfl)⟩ (ci := 10) rfl rfl r.1.1 rfl rfl (Nat.le_of_ble_eq_true rfl) (c_ofFlowN r (by omega)) ?_
      rintro _ q2 ⟨rfl, eq2⟩
      subst q2
      show zG l w mX10_backOf 12 [(3, .int (nI i)), (2, .int (jI (((List.range i).map fun i => nA N (8 + 40 * hopN N f i + 1)).sum))), (0, .ref m), (1, .int (nI f))] [.long (jL (nA N (248 + 20 * f + 0))), .long (jL ((i : Nat) : Int))] h _
      refine g_lif_ge (a := ((i : Nat) : Int)) (b := (nA N (248 + 20 * f + 0))) (tgt := 37) dX10_backOf_12 rfl dX10_backOf_13 (by decide) (by omega)  (by omega)  (fun c => ?_) (fun c => ?_)
      · exact absurd c (by omega)
      · refine g_iload_n 1 dX10_backOf_16 rfl rfl ?_
        refine g_aload_n 2 dX10_backOf_17 rfl rfl ?_
        refine g_aload_n 2 dX10_backOf_18 rfl rfl ?_
        refine g_iload_n 3 dX10_backOf_19 rfl rfl ?_
        refine g_iload_n 0 dX10_backOf_20 rfl rfl ?_
        have hl := hP i (by omega)
        have hn : hopN N f i < 6 := by unfold hopN; omega
        refine g_invv (M' := mX10_hop) (As := [.int (nI f), .int (nI i)]) (rest := [.ref m, .int (jI (((List.range i).map fun i => nA N (8 + 40 * hopN N f i + 1)).sum))]) dX10_backOf_21 ml_X10_66 okX10_hop imX10_hop seX10_hop ⟨(Nat.le_of_ble_eq_true rfl), (Nat.le_of_ble_eq_true rfl)⟩ (ci := 10) rfl rfl r.1.1 rfl rfl (Nat.le_of_ble_eq_true rfl) (c_hop r hf (by omega) hl.1) ?_
        rintro _ q3 ⟨rfl, eq3⟩
        subst q3
        show zG l w mX10_backOf 24 [(3, .int (nI i)), (2, .int (jI (((List.range i).map fun i => nA N (8 + 40 * hopN N f i + 1)).sum))), (0, .ref m), (1, .int (nI f))] [.int (nI (hopN N f i)), .ref m, .int (jI (((List.range i).map fun i => nA N (8 + 40 * hopN N f i + 1)).sum))] h _
        refine g_iconst (v := nI 1) dX10_backOf_24 (by decide) ?_
        refine g_invv (M' := mX10_ofLink) (As := [.int (nI (hopN N f i)), .int (nI 1)]) (rest := [.int (jI (((List.range i).map fun i => nA N (8 + 40 * hopN N f i + 1)).sum))]) dX10_backOf_25 ml_X10_69 okX10_ofLink imX10_ofLink seX10_ofLink ⟨(Nat.le_of_ble_eq_true rfl), (Nat.le_of_ble_eq_true rfl)⟩ (ci := 10) rfl rfl r.1.1 rfl rfl (Nat.le_of_ble_eq_true rfl) (c_ofLinkN r (by omega) (by unfold nSp; omega)) ?_
        rintro _ q4 ⟨rfl, eq4⟩
        subst q4
        show zG l w mX10_backOf 28 [(3, .int (nI i)), (2, .int (jI (((List.range i).map fun i => nA N (8 + 40 * hopN N f i + 1)).sum))), (0, .ref m), (1, .int (nI f))] [.long (jL (nA N (8 + 40 * (hopN N f i) + 1))), .int (jI (((List.range i).map fun i => nA N (8 + 40 * hopN N f i + 1)).sum))] h _
        refine g_l2i dX10_backOf_28 ?_
        rw [jL_i]
        refine g_iadd dX10_backOf_29 ?_
        rw [jI_add]
        rw [show ((List.range i).map fun i => nA N (8 + 40 * hopN N f i + 1)).sum + nA N (8 + 40 * hopN N f i + 1) = ((List.range (i + 1)).map fun i => nA N (8 + 40 * hopN N f i + 1)).sum by rw [List.range_succ, List.map_append, List.sum_append]; simp]
        refine g_istore_n (lv2 := [(2, .int (jI (((List.range (i + 1)).map fun i => nA N (8 + 40 * hopN N f i + 1)).sum))), (3, .int (nI i)), (0, .ref m), (1, .int (nI f))]) dX10_backOf_30 rfl (by decide) rfl ?_
        refine g_inc (v := nI (i + 1)) (lv2 := [(3, .int (nI (i + 1))), (2, .int (jI (((List.range (i + 1)).map fun i => nA N (8 + 40 * hopN N f i + 1)).sum))), (0, .ref m), (1, .int (nI f))]) 1 dX10_backOf_31 rfl (nI_add _ 1) (by decide) rfl ?_
        refine g_goto (tgt := 4) dX10_backOf_34 (by decide) ?_
        exact ih (i + 1) (by omega)
  refine g_iconst (v := jI 0) dX10_backOf_0 (by decide) ?_
  refine g_istore_n (lv2 := [(2, .int (jI 0)), (0, .ref m), (1, .int (nI f))]) dX10_backOf_1 rfl (by decide) rfl ?_
  refine g_iconst (v := nI 0) dX10_backOf_2 (by decide) ?_
  refine g_istore_n (lv2 := [(3, .int (nI 0)), (2, .int (jI 0)), (0, .ref m), (1, .int (nI f))]) dX10_backOf_3 rfl (by decide) rfl ?_
  exact loop _ 0 (Nat.zero_add _)
end M3
