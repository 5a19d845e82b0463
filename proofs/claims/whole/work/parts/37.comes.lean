section J1
variable {l : Launch} {w : zW} {h : zH}
theorem c_maxL {a b : Int} (ha : -2 ^ 63 ≤ a ∧ a < 2 ^ 63) (hb : -2 ^ 63 ≤ b ∧ b < 2 ^ 63) : zM l w mJ9_max_f86c9 [.long (jL a), .long (jL b)] h (fun v h1 => v = some (.long (jL (max a b))) ∧ h1 = h) := by
  refine zM.ofF (by decide +kernel) (Nat.le_of_ble_eq_true rfl) ?_
  refine g_lload_n 0 dJ9_max_f86c9_0 rfl rfl ?_
  refine g_lload_n 1 dJ9_max_f86c9_1 rfl rfl ?_
  refine g_lif_lt (a := a) (b := b) (tgt := 10) dJ9_max_f86c9_2 rfl dJ9_max_f86c9_3 (by decide) ha hb (fun c => ?_) (fun c => ?_)
  · refine g_lload_n 1 dJ9_max_f86c9_10 rfl rfl ?_
    refine g_lreturn dJ9_max_f86c9_11 rfl ?_
    exact ⟨by rw [show max a b = b by omega], rfl⟩
  · refine g_lload_n 0 dJ9_max_f86c9_6 rfl rfl ?_
    refine g_goto (tgt := 11) dJ9_max_f86c9_7 (by decide) ?_
    refine g_lreturn dJ9_max_f86c9_11 rfl ?_
    exact ⟨by rw [show max a b = a by omega], rfl⟩
theorem c_minL {a b : Int} (ha : -2 ^ 63 ≤ a ∧ a < 2 ^ 63) (hb : -2 ^ 63 ≤ b ∧ b < 2 ^ 63) : zM l w mJ9_min_f86c9 [.long (jL a), .long (jL b)] h (fun v h1 => v = some (.long (jL (min a b))) ∧ h1 = h) := by
  refine zM.ofF (by decide +kernel) (Nat.le_of_ble_eq_true rfl) ?_
  refine g_lload_n 0 dJ9_min_f86c9_0 rfl rfl ?_
  refine g_lload_n 1 dJ9_min_f86c9_1 rfl rfl ?_
  refine g_lif_gt (a := a) (b := b) (tgt := 10) dJ9_min_f86c9_2 rfl dJ9_min_f86c9_3 (by decide) ha hb (fun c => ?_) (fun c => ?_)
  · refine g_lload_n 1 dJ9_min_f86c9_10 rfl rfl ?_
    refine g_lreturn dJ9_min_f86c9_11 rfl ?_
    exact ⟨by rw [show min a b = b by omega], rfl⟩
  · refine g_lload_n 0 dJ9_min_f86c9_6 rfl rfl ?_
    refine g_goto (tgt := 11) dJ9_min_f86c9_7 (by decide) ?_
    refine g_lreturn dJ9_min_f86c9_11 rfl ?_
    exact ⟨by rw [show min a b = a by omega], rfl⟩
theorem c_maxI {a b : Int} (ha : -2 ^ 31 ≤ a ∧ a < 2 ^ 31) (hb : -2 ^ 31 ≤ b ∧ b < 2 ^ 31) : zM l w mJ9_max_7cf53 [.int (jI a), .int (jI b)] h (fun v h1 => v = some (.int (jI (max a b))) ∧ h1 = h) := by
  refine zM.ofF (by decide +kernel) (Nat.le_of_ble_eq_true rfl) ?_
  refine g_iload_n 0 dJ9_max_7cf53_0 rfl rfl ?_
  refine g_iload_n 1 dJ9_max_7cf53_1 rfl rfl ?_
  refine g_jcmp_lt (tgt := 9) dJ9_max_7cf53_2 (by decide) (by omega) (by omega) (fun c => ?_) (fun c => ?_)
  · refine g_iload_n 1 dJ9_max_7cf53_9 rfl rfl ?_
    refine g_ireturn dJ9_max_7cf53_10 rfl ?_
    exact ⟨by rw [show max a b = b by omega], rfl⟩
  · refine g_iload_n 0 dJ9_max_7cf53_5 rfl rfl ?_
    refine g_goto (tgt := 10) dJ9_max_7cf53_6 (by decide) ?_
    refine g_ireturn dJ9_max_7cf53_10 rfl ?_
    exact ⟨by rw [show max a b = a by omega], rfl⟩
theorem c_minI {a b : Int} (ha : -2 ^ 31 ≤ a ∧ a < 2 ^ 31) (hb : -2 ^ 31 ≤ b ∧ b < 2 ^ 31) : zM l w mJ9_min_7cf53 [.int (jI a), .int (jI b)] h (fun v h1 => v = some (.int (jI (min a b))) ∧ h1 = h) := by
  refine zM.ofF (by decide +kernel) (Nat.le_of_ble_eq_true rfl) ?_
  refine g_iload_n 0 dJ9_min_7cf53_0 rfl rfl ?_
  refine g_iload_n 1 dJ9_min_7cf53_1 rfl rfl ?_
  refine g_jcmp_gt (tgt := 9) dJ9_min_7cf53_2 (by decide) (by omega) (by omega) (fun c => ?_) (fun c => ?_)
  · refine g_iload_n 1 dJ9_min_7cf53_9 rfl rfl ?_
    refine g_ireturn dJ9_min_7cf53_10 rfl ?_
    exact ⟨by rw [show min a b = b by omega], rfl⟩
  · refine g_iload_n 0 dJ9_min_7cf53_5 rfl rfl ?_
    refine g_goto (tgt := 10) dJ9_min_7cf53_6 (by decide) ?_
    refine g_ireturn dJ9_min_7cf53_10 rfl ?_
    exact ⟨by rw [show min a b = a by omega], rfl⟩
end J1
section M5
variable {l : Launch} {w : zW} {h : zH} {m : Nat} {N : nT}
theorem MoN.offL (r : MoN h m N) {k : Nat} {v : Int64} (hk : 4208 ≤ k) (hk2 : k < 5804) (h2 : ∀ l, l < 6 → ∀ i, i < (nR N l).length → 4208 + 60 * l + i ≠ k) (h3 : ∀ l, l < 6 → ∀ i, i < (nW N l).length → 4568 + 90 * l + i ≠ k) (h4 : ∀ i, i < (nK N).length → 5108 + i ≠ k) (h5 : ∀ i, i < 4 * (nE N).length → 5588 + i ≠ k) (h6 : ∀ i, i < 6 * (nP N).length → 5684 + i ≠ k) : MoN (zSL h (m + 1) k v) m N := by
  refine ⟨r.1.fr (FrM.sL (by omega)), ?_, r.2.2⟩
  rw [zL_upd]
  exact r.2.1.off (fun j hj => updL_ne (by omega)) (fun a ha i hi => updL_ne (h2 a ha i hi)) (fun a ha i hi => updL_ne (h3 a ha i hi)) (fun i hi => updL_ne (h4 i hi)) (fun i hi => updL_ne (h5 i hi)) (fun i hi => updL_ne (h6 i hi))
theorem c_putsK (r : MoN h m N) (hF : nFit N) (hK : (nK N).length < 480) {p : Nat} : zM l w mX10_puts [.ref m, .int (nI (5108 + (nK N).length)), .long (jL (p : Int))] h (fun v h1 => v = none ∧ (MoN h1 m N ∧ zL h1 (m + 1) (5108 + (nK N).length) = lN p) ∧ FrM m h h1) := by
  refine (c_puts r.1 (by omega)).mono ?_
  rintro v h1 ⟨rfl, rfl⟩
  refine ⟨rfl, ⟨r.offL (by omega) (by omega) (fun a ha i hi => ?_) (fun a ha i hi => ?_) (fun i hi => by omega) (fun i hi => by omega) (fun i hi => by omega), ?_⟩, FrM.sL (by omega)⟩
  · have := (hF.1 a ha).1; omega
  · have := (hF.1 a ha).2; omega
  · rw [zL_upd, updL_eq, jL_nat]
theorem c_addsK (r : MoN h m N) {p : Nat} (hp : zL h (m + 1) (5108 + (nK N).length) = lN p) : zM l w mX10_adds [.ref m, .int (nI 5), .long (jL 1)] h (fun v h1 => v = none ∧ MoN h1 m (uK N (nK N ++ [p])) ∧ FrM m h h1) := by
  refine (c_adds r.1 (by omega)).mono ?_
  rintro v h1 ⟨rfl, rfl⟩
  have e : zL h (m + 1) 5 + jL 1 = lN ((nK N).length + 1) := by rw [r.2.1.2.1.2.2]; exact lN_add _ 1
  rw [e]
  exact ⟨rfl, ⟨r.1.fr (FrM.sL (by omega)), by rw [zL_upd]; exact r.2.1.pushK hp, r.2.2⟩, FrM.sL (by omega)⟩
theorem c_putsR (r : MoN h m N) (hF : nFit N) {a : Nat} (ha : a < 6) (hR : (nR N a).length < 60) {p : Nat} : zM l w mX10_puts [.ref m, .int (nI (4208 + 60 * a + (nR N a).length)), .long (jL (p : Int))] h (fun v h1 => v = none ∧ (MoN h1 m N ∧ zL h1 (m + 1) (4208 + 60 * a + (nR N a).length) = lN p) ∧ FrM m h h1) := by
  refine (c_puts r.1 (by omega)).mono ?_
  rintro v h1 ⟨rfl, rfl⟩
  refine ⟨rfl, ⟨r.offL (by omega) (by omega) (fun b hb i hi => ?_) (fun b hb i hi => by omega) (fun i hi => by omega) (fun i hi => by omega) (fun i hi => by omega), ?_⟩, FrM.sL (by omega)⟩
  · have := (hF.1 b hb).1
    by_cases e : b = a
    · subst e; omega
    · omega
  · rw [zL_upd, updL_eq, jL_nat]
theorem c_addsR (r : MoN h m N) {a p : Nat} (ha : a < 6) (hp : zL h (m + 1) (4208 + 60 * a + (nR N a).length) = lN p) : zM l w mX10_adds [.ref m, .int (nI (8 + 40 * a + 4)), .long (jL 1)] h (fun v h1 => v = none ∧ MoN h1 m (uR N a (nR N a ++ [p])) ∧ FrM m h h1) := by
  refine (c_adds r.1 (by omega)).mono ?_
  rintro v h1 ⟨rfl, rfl⟩
  have e : zL h (m + 1) (8 + 40 * a + 4) + jL 1 = lN ((nR N a).length + 1) := by rw [(r.2.1.2.2.1 a ha).1]; exact lN_add _ 1
  rw [e]
  exact ⟨rfl, ⟨r.1.fr (FrM.sL (by omega)), by rw [zL_upd]; exact r.2.1.pushR ha hp, r.2.2⟩, FrM.sL (by omega)⟩
theorem c_putsW (r : MoN h m N) (hF : nFit N) {a : Nat} (ha : a < 6) (hR : (nW N a).length < 90) {p : Nat} : zM l w mX10_puts [.ref m, .int (nI (4568 + 90 * a + (nW N a).length)), .long (jL (p : Int))] h (fun v h1 => v = none ∧ (MoN h1 m N ∧ zL h1 (m + 1) (4568 + 90 * a + (nW N a).length) = lN p) ∧ FrM m h h1) := by
  refine (c_puts r.1 (by omega)).mono ?_
  rintro v h1 ⟨rfl, rfl⟩
  refine ⟨rfl, ⟨r.offL (by omega) (by omega) (fun b hb i hi => ?_) (fun b hb i hi => ?_) (fun i hi => by omega) (fun i hi => by omega) (fun i hi => by omega), ?_⟩, FrM.sL (by omega)⟩
  · have := (hF.1 b hb).1
    omega
  · have := (hF.1 b hb).2
    by_cases e : b = a
    · subst e; omega
    · omega
  · rw [zL_upd, updL_eq, jL_nat]
theorem c_addsW (r : MoN h m N) {a p : Nat} (ha : a < 6) (hp : zL h (m + 1) (4568 + 90 * a + (nW N a).length) = lN p) : zM l w mX10_adds [.ref m, .int (nI (8 + 40 * a + 5)), .long (jL 1)] h (fun v h1 => v = none ∧ MoN h1 m (uW N a (nW N a ++ [p])) ∧ FrM m h h1) := by
  refine (c_adds r.1 (by omega)).mono ?_
  rintro v h1 ⟨rfl, rfl⟩
  have e : zL h (m + 1) (8 + 40 * a + 5) + jL 1 = lN ((nW N a).length + 1) := by rw [(r.2.1.2.2.1 a ha).2]; exact lN_add _ 1
  rw [e]
  exact ⟨rfl, ⟨r.1.fr (FrM.sL (by omega)), by rw [zL_upd]; exact r.2.1.pushW ha hp, r.2.2⟩, FrM.sL (by omega)⟩
/-- a flow's path: one to four links that there can be -/
def nPa (N : nT) (f : Nat) : Prop := (0 ≤ nA N (248 + 20 * f + 0) ∧ nA N (248 + 20 * f + 0) ≤ 4) ∧ (∀ i : Nat, (i : Int) < nA N (248 + 20 * f + 0) → 0 ≤ nA N (248 + 20 * f + (12 + i)) ∧ nA N (248 + 20 * f + (12 + i)) < 6) ∧ 0 ≤ backN N f ∧ backN N f < 1000
theorem c_comesBack (r : MoN h m N) (hF : nFit N) {p f : Nat} {b : Bool} (hp : p < 480) (hf : nA N (368 + 8 * p + 0) = (f : Int) + 1) (hf6 : f < 6) (hP : nPa N f) (hK : (nK N).length < 480) : zM l w mX10_comesBack [.ref m, .int (nI p), .int (bI b)] h (fun v h1 => v = none ∧ MoN h1 m (cbN N p (if b then 1 else 0)) ∧ FrM m h h1) := by
  refine zM.of (by decide) (Nat.le_of_ble_eq_true rfl) ?_
  have hfl : flN N p = f := by unfold flN; rw [hf]; omega
  refine g_aload_n 0 dX10_comesBack_0 rfl rfl ?_
  refine g_iload_n 1 dX10_comesBack_1 rfl rfl ?_
  refine g_bipush (v := nI 6) dX10_comesBack_2 (by decide) ?_
  refine g_invs (M' := mX10_packet0) (As := [.int (nI p), .int (nI 6)]) (rest := [.ref m]) dX10_comesBack_4 ml_X10_55 okX10_packet0 stX10_packet0 ⟨(Nat.le_of_ble_eq_true rfl), (Nat.le_of_ble_eq_true rfl)⟩ rfl rfl (Nat.le_of_ble_eq_true rfl) c_packet0 ?_
  rintro _ q1 ⟨rfl, eq1⟩
  subst q1
  show zG l w mX10_comesBack 7 [(0, .ref m), (1, .int (nI p)), (2, .int (bI b))] [.int (nI (368 + 8 * p + 6)), .ref m] h _
  refine g_aload_n 0 dX10_comesBack_7 rfl rfl ?_
  refine g_iconst (v := nI 2) dX10_comesBack_8 (by decide) ?_
  refine g_invv (M' := mX10_of) (As := [.int (nI 2)]) (rest := [.int (nI (368 + 8 * p + 6)), .ref m]) dX10_comesBack_9 ml_X10_48 okX10_of imX10_of seX10_of ⟨(Nat.le_of_ble_eq_true rfl), (Nat.le_of_ble_eq_true rfl)⟩ (ci := 10) rfl rfl r.1.1 rfl rfl (Nat.le_of_ble_eq_true rfl) (c_ofN r (by omega) (by unfold nSp; omega)) ?_
  rintro _ q2 ⟨rfl, eq2⟩
  subst q2
  show zG l w mX10_comesBack 12 [(0, .ref m), (1, .int (nI p)), (2, .int (bI b))] [.long (jL (nA N 2)), .int (nI (368 + 8 * p + 6)), .ref m] h _
  refine g_aload_n 0 dX10_comesBack_12 rfl rfl ?_
  refine g_aload_n 0 dX10_comesBack_13 rfl rfl ?_
  refine g_iload_n 1 dX10_comesBack_14 rfl rfl ?_
  refine g_invv (M' := mX10_flowOf) (As := [.int (nI p)]) (rest := [.ref m, .long (jL (nA N 2)), .int (nI (368 + 8 * p + 6)), .ref m]) dX10_comesBack_15 ml_X10_79 okX10_flowOf imX10_flowOf seX10_flowOf ⟨(Nat.le_of_ble_eq_true rfl), (Nat.le_of_ble_eq_true rfl)⟩ (ci := 10) rfl rfl r.1.1 rfl rfl (Nat.le_of_ble_eq_true rfl) (c_flowOf r hp hf) ?_
  rintro _ q3 ⟨rfl, eq3⟩
  subst q3
  show zG l w mX10_comesBack 18 [(0, .ref m), (1, .int (nI p)), (2, .int (bI b))] [.int (nI f), .ref m, .long (jL (nA N 2)), .int (nI (368 + 8 * p + 6)), .ref m] h _
  refine g_invv (M' := mX10_backOf) (As := [.int (nI f)]) (rest := [.long (jL (nA N 2)), .int (nI (368 + 8 * p + 6)), .ref m]) dX10_comesBack_18 ml_X10_82 okX10_backOf imX10_backOf seX10_backOf ⟨(Nat.le_of_ble_eq_true rfl), (Nat.le_of_ble_eq_true rfl)⟩ (ci := 10) rfl rfl r.1.1 rfl rfl (Nat.le_of_ble_eq_true rfl) (c_backOf r hf6 hP.1 hP.2.1) ?_
  rintro _ q4 ⟨rfl, eq4⟩
  subst q4
  show zG l w mX10_comesBack 21 [(0, .ref m), (1, .int (nI p)), (2, .int (bI b))] [.int (jI (backN N f)), .long (jL (nA N 2)), .int (nI (368 + 8 * p + 6)), .ref m] h _
  have hbk := hP.2.2
  refine g_i2l dX10_comesBack_21 ?_
  rw [jI_l (by omega) (by omega)]
  refine g_ladd dX10_comesBack_22 ?_
  rw [jL_add]
  refine g_invv (M' := mX10_puts) (As := [.int (nI (368 + 8 * p + 6)), .long (jL ((nA N 2) + (backN N f)))]) (rest := []) dX10_comesBack_23 ml_X10_40 okX10_puts imX10_puts seX10_puts ⟨(Nat.le_of_ble_eq_true rfl), (Nat.le_of_ble_eq_true rfl)⟩ (ci := 10) rfl rfl r.1.1 rfl rfl (Nat.le_of_ble_eq_true rfl) (c_putsN r (by omega) (by unfold nSp; omega)) ?_
  rintro _ y5 ⟨rfl, r5, f5⟩
  show zG l w mX10_comesBack 26 [(0, .ref m), (1, .int (nI p)), (2, .int (bI b))] [] y5 _
  refine g_aload_n 0 dX10_comesBack_26 rfl rfl ?_
  refine g_iload_n 1 dX10_comesBack_27 rfl rfl ?_
  refine g_bipush (v := nI 7) dX10_comesBack_28 (by decide) ?_
  refine g_invs (M' := mX10_packet0) (As := [.int (nI p), .int (nI 7)]) (rest := [.ref m]) dX10_comesBack_30 ml_X10_55 okX10_packet0 stX10_packet0 ⟨(Nat.le_of_ble_eq_true rfl), (Nat.le_of_ble_eq_true rfl)⟩ rfl rfl (Nat.le_of_ble_eq_true rfl) c_packet0 ?_
  rintro _ q6 ⟨rfl, eq6⟩
  subst q6
  show zG l w mX10_comesBack 33 [(0, .ref m), (1, .int (nI p)), (2, .int (bI b))] [.int (nI (368 + 8 * p + 7)), .ref m] y5 _
  refine g_iload_n 2 dX10_comesBack_33 rfl rfl ?_
  refine g_bif_eq (tgt := 41) dX10_comesBack_34 (by decide) (fun hb => ?_) (fun hb => ?_)
  · subst hb
    refine g_lconst (v := jL 0) dX10_comesBack_41 (by decide) ?_
    refine g_invv (M' := mX10_puts) (As := [.int (nI (368 + 8 * p + 7)), .long (jL 0)]) (rest := []) dX10_comesBack_42 ml_X10_40 okX10_puts imX10_puts seX10_puts ⟨(Nat.le_of_ble_eq_true rfl), (Nat.le_of_ble_eq_true rfl)⟩ (ci := 10) rfl rfl r5.1.1 rfl rfl (Nat.le_of_ble_eq_true rfl) (c_putsN r5 (by omega) (by unfold nSp; omega)) ?_
    rintro _ y7 ⟨rfl, r7, f7⟩
    show zG l w mX10_comesBack 45 [(0, .ref m), (1, .int (nI p)), (2, .int (bI false))] [] y7 _
    refine g_aload_n 0 dX10_comesBack_45 rfl rfl ?_
    refine g_sipush (v := nI 5108) dX10_comesBack_46 (by decide) ?_
    refine g_aload_n 0 dX10_comesBack_49 rfl rfl ?_
    refine g_iconst (v := nI 5) dX10_comesBack_50 (by decide) ?_
    refine g_invv (M' := mX10_at) (As := [.int (nI 5)]) (rest := [.int (nI 5108), .ref m]) dX10_comesBack_51 ml_X10_58 okX10_at imX10_at seX10_at ⟨(Nat.le_of_ble_eq_true rfl), (Nat.le_of_ble_eq_true rfl)⟩ (ci := 10) rfl rfl r7.1.1 rfl rfl (Nat.le_of_ble_eq_true rfl) (c_atBack r7) ?_
    rintro _ q8 ⟨rfl, eq8⟩
    subst q8
    show zG l w mX10_comesBack 54 [(0, .ref m), (1, .int (nI p)), (2, .int (bI false))] [.int (nI (nK (uA (uA N (368 + 8 * p + 6) ((nA N 2) + (backN N f))) (368 + 8 * p + 7) 0)).length), .int (nI 5108), .ref m] y7 _
    refine g_iadd dX10_comesBack_54 ?_
    rw [nI_add 5108 ((nK (uA (uA N (368 + 8 * p + 6) ((nA N 2) + (backN N f))) (368 + 8 * p + 7) 0)).length)]
    refine g_iload_n 1 dX10_comesBack_55 rfl rfl ?_
    refine g_i2l dX10_comesBack_56 ?_
    rw [nI_l (by omega), ← jL_nat]
    refine g_invv (M' := mX10_puts) (As := [.int (nI (5108 + (nK (uA (uA N (368 + 8 * p + 6) ((nA N 2) + (backN N f))) (368 + 8 * p + 7) 0)).length)), .long (jL ((p : Nat) : Int))]) (rest := []) dX10_comesBack_57 ml_X10_40 okX10_puts imX10_puts seX10_puts ⟨(Nat.le_of_ble_eq_true rfl), (Nat.le_of_ble_eq_true rfl)⟩ (ci := 10) rfl rfl r7.1.1 rfl rfl (Nat.le_of_ble_eq_true rfl) (c_putsK r7 hF hK) ?_
    rintro _ y9 ⟨rfl, ⟨r9, e9⟩, f9⟩
    show zG l w mX10_comesBack 60 [(0, .ref m), (1, .int (nI p)), (2, .int (bI false))] [] y9 _
    refine g_aload_n 0 dX10_comesBack_60 rfl rfl ?_
    refine g_iconst (v := nI 5) dX10_comesBack_61 (by decide) ?_
    refine g_lconst (v := jL 1) dX10_comesBack_62 (by decide) ?_
    refine g_invv (M' := mX10_adds) (As := [.int (nI 5), .long (jL 1)]) (rest := []) dX10_comesBack_63 ml_X10_76 okX10_adds imX10_adds seX10_adds ⟨(Nat.le_of_ble_eq_true rfl), (Nat.le_of_ble_eq_true rfl)⟩ (ci := 10) rfl rfl r9.1.1 rfl rfl (Nat.le_of_ble_eq_true rfl) (c_addsK r9 e9) ?_
    rintro _ y10 ⟨rfl, r10, f10⟩
    show zG l w mX10_comesBack 66 [(0, .ref m), (1, .int (nI p)), (2, .int (bI false))] [] y10 _
    refine g_return dX10_comesBack_66 rfl ?_
    exact ⟨rfl, by unfold cbN; rw [hfl]; exact r10, ((((FrM.rf.tr f5).tr f7).tr f9).tr f10)⟩
  · subst hb
    refine g_lconst (v := jL 1) dX10_comesBack_37 (by decide) ?_
    refine g_goto (tgt := 42) dX10_comesBack_38 (by decide) ?_
    refine g_invv (M' := mX10_puts) (As := [.int (nI (368 + 8 * p + 7)), .long (jL 1)]) (rest := []) dX10_comesBack_42 ml_X10_40 okX10_puts imX10_puts seX10_puts ⟨(Nat.le_of_ble_eq_true rfl), (Nat.le_of_ble_eq_true rfl)⟩ (ci := 10) rfl rfl r5.1.1 rfl rfl (Nat.le_of_ble_eq_true rfl) (c_putsN r5 (by omega) (by unfold nSp; omega)) ?_
    rintro _ y11 ⟨rfl, r11, f11⟩
    show zG l w mX10_comesBack 45 [(0, .ref m), (1, .int (nI p)), (2, .int (bI true))] [] y11 _
    refine g_aload_n 0 dX10_comesBack_45 rfl rfl ?_
    refine g_sipush (v := nI 5108) dX10_comesBack_46 (by decide) ?_
    refine g_aload_n 0 dX10_comesBack_49 rfl rfl ?_
    refine g_iconst (v := nI 5) dX10_comesBack_50 (by decide) ?_
    refine g_invv (M' := mX10_at) (As := [.int (nI 5)]) (rest := [.int (nI 5108), .ref m]) dX10_comesBack_51 ml_X10_58 okX10_at imX10_at seX10_at ⟨(Nat.le_of_ble_eq_true rfl), (Nat.le_of_ble_eq_true rfl)⟩ (ci := 10) rfl rfl r11.1.1 rfl rfl (Nat.le_of_ble_eq_true rfl) (c_atBack r11) ?_
    rintro _ q12 ⟨rfl, eq12⟩
    subst q12
    show zG l w mX10_comesBack 54 [(0, .ref m), (1, .int (nI p)), (2, .int (bI true))] [.int (nI (nK (uA (uA N (368 + 8 * p + 6) ((nA N 2) + (backN N f))) (368 + 8 * p + 7) 1)).length), .int (nI 5108), .ref m] y11 _
    refine g_iadd dX10_comesBack_54 ?_
    rw [nI_add 5108 ((nK (uA (uA N (368 + 8 * p + 6) ((nA N 2) + (backN N f))) (368 + 8 * p + 7) 1)).length)]
    refine g_iload_n 1 dX10_comesBack_55 rfl rfl ?_
    refine g_i2l dX10_comesBack_56 ?_
    rw [nI_l (by omega), ← jL_nat]
    refine g_invv (M' := mX10_puts) (As := [.int (nI (5108 + (nK (uA (uA N (368 + 8 * p + 6) ((nA N 2) + (backN N f))) (368 + 8 * p + 7) 1)).length)), .long (jL ((p : Nat) : Int))]) (rest := []) dX10_comesBack_57 ml_X10_40 okX10_puts imX10_puts seX10_puts ⟨(Nat.le_of_ble_eq_true rfl), (Nat.le_of_ble_eq_true rfl)⟩ (ci := 10) rfl rfl r11.1.1 rfl rfl (Nat.le_of_ble_eq_true rfl) (c_putsK r11 hF hK) ?_
    rintro _ y13 ⟨rfl, ⟨r13, e13⟩, f13⟩
    show zG l w mX10_comesBack 60 [(0, .ref m), (1, .int (nI p)), (2, .int (bI true))] [] y13 _
    refine g_aload_n 0 dX10_comesBack_60 rfl rfl ?_
    refine g_iconst (v := nI 5) dX10_comesBack_61 (by decide) ?_
    refine g_lconst (v := jL 1) dX10_comesBack_62 (by decide) ?_
    refine g_invv (M' := mX10_adds) (As := [.int (nI 5), .long (jL 1)]) (rest := []) dX10_comesBack_63 ml_X10_76 okX10_adds imX10_adds seX10_adds ⟨(Nat.le_of_ble_eq_true rfl), (Nat.le_of_ble_eq_true rfl)⟩ (ci := 10) rfl rfl r13.1.1 rfl rfl (Nat.le_of_ble_eq_true rfl) (c_addsK r13 e13) ?_
    rintro _ y14 ⟨rfl, r14, f14⟩
    show zG l w mX10_comesBack 66 [(0, .ref m), (1, .int (nI p)), (2, .int (bI true))] [] y14 _
    refine g_return dX10_comesBack_66 rfl ?_
    exact ⟨rfl, by unfold cbN; rw [hfl]; exact r14, ((((FrM.rf.tr f5).tr f11).tr f13).tr f14)⟩
theorem c_partOf (r : MoN h m N) {p : Nat} (hp : p < 480) (h4 : 0 ≤ nA N (368 + 8 * p + 4) ∧ nA N (368 + 8 * p + 4) < 17592186044416) (h3 : 0 < nA N (368 + 8 * p + 3) ∧ nA N (368 + 8 * p + 3) < 17592186044416) : zM l w mX10_partOf [.ref m, .int (nI p)] h (fun v h1 => v = some (.long (jL (partN N p))) ∧ h1 = h) := by
  refine zM.of (by decide) (Nat.le_of_ble_eq_true rfl) ?_
  have hq : 0 ≤ 10000 * nA N (368 + 8 * p + 4) / nA N (368 + 8 * p + 3) := Int.ediv_nonneg (by omega) (by omega)
  have hq2 : 10000 * nA N (368 + 8 * p + 4) / nA N (368 + 8 * p + 3) ≤ 10000 * nA N (368 + 8 * p + 4) := Int.ediv_le_self _ (by omega)
  refine g_lconst (v := jL 1) dX10_partOf_0 (by decide) ?_
  refine g_ldc2J (z := 10000) dX10_partOf_1 kl_X10_85 (by decide) ?_
  refine g_aload_n 0 dX10_partOf_4 rfl rfl ?_
  refine g_iload_n 1 dX10_partOf_5 rfl rfl ?_
  refine g_iconst (v := nI 4) dX10_partOf_6 (by decide) ?_
  refine g_invs (M' := mX10_packet0) (As := [.int (nI p), .int (nI 4)]) (rest := [.ref m, .long (jL 10000), .long (jL 1)]) dX10_partOf_7 ml_X10_55 okX10_packet0 stX10_packet0 ⟨(Nat.le_of_ble_eq_true rfl), (Nat.le_of_ble_eq_true rfl)⟩ rfl rfl (Nat.le_of_ble_eq_true rfl) c_packet0 ?_
  rintro _ q1 ⟨rfl, eq1⟩
  subst q1
  show zG l w mX10_partOf 10 [(0, .ref m), (1, .int (nI p))] [.int (nI (368 + 8 * p + 4)), .ref m, .long (jL 10000), .long (jL 1)] h _
  refine g_invv (M' := mX10_of) (As := [.int (nI (368 + 8 * p + 4))]) (rest := [.long (jL 10000), .long (jL 1)]) dX10_partOf_10 ml_X10_48 okX10_of imX10_of seX10_of ⟨(Nat.le_of_ble_eq_true rfl), (Nat.le_of_ble_eq_true rfl)⟩ (ci := 10) rfl rfl r.1.1 rfl rfl (Nat.le_of_ble_eq_true rfl) (c_ofN r (by omega) (by unfold nSp; omega)) ?_
  rintro _ q2 ⟨rfl, eq2⟩
  subst q2
  show zG l w mX10_partOf 13 [(0, .ref m), (1, .int (nI p))] [.long (jL (nA N (368 + 8 * p + 4))), .long (jL 10000), .long (jL 1)] h _
  refine g_lmul dX10_partOf_13 ?_
  rw [jL_mul]
  refine g_aload_n 0 dX10_partOf_14 rfl rfl ?_
  refine g_iload_n 1 dX10_partOf_15 rfl rfl ?_
  refine g_iconst (v := nI 3) dX10_partOf_16 (by decide) ?_
  refine g_invs (M' := mX10_packet0) (As := [.int (nI p), .int (nI 3)]) (rest := [.ref m, .long (jL (10000 * (nA N (368 + 8 * p + 4)))), .long (jL 1)]) dX10_partOf_17 ml_X10_55 okX10_packet0 stX10_packet0 ⟨(Nat.le_of_ble_eq_true rfl), (Nat.le_of_ble_eq_true rfl)⟩ rfl rfl (Nat.le_of_ble_eq_true rfl) c_packet0 ?_
  rintro _ q3 ⟨rfl, eq3⟩
  subst q3
  show zG l w mX10_partOf 20 [(0, .ref m), (1, .int (nI p))] [.int (nI (368 + 8 * p + 3)), .ref m, .long (jL (10000 * (nA N (368 + 8 * p + 4)))), .long (jL 1)] h _
  refine g_invv (M' := mX10_of) (As := [.int (nI (368 + 8 * p + 3))]) (rest := [.long (jL (10000 * (nA N (368 + 8 * p + 4)))), .long (jL 1)]) dX10_partOf_20 ml_X10_48 okX10_of imX10_of seX10_of ⟨(Nat.le_of_ble_eq_true rfl), (Nat.le_of_ble_eq_true rfl)⟩ (ci := 10) rfl rfl r.1.1 rfl rfl (Nat.le_of_ble_eq_true rfl) (c_ofN r (by omega) (by unfold nSp; omega)) ?_
  rintro _ q4 ⟨rfl, eq4⟩
  subst q4
  show zG l w mX10_partOf 23 [(0, .ref m), (1, .int (nI p))] [.long (jL (nA N (368 + 8 * p + 3))), .long (jL (10000 * (nA N (368 + 8 * p + 4)))), .long (jL 1)] h _
  refine g_ldiv dX10_partOf_23 (jL_ne0 (by omega)) ?_
  rw [jL_div (by omega) (by omega)]
  refine g_invs (M' := mJ9_max_f86c9) (As := [.long (jL 1), .long (jL ((10000 * (nA N (368 + 8 * p + 4))) / (nA N (368 + 8 * p + 3))))]) (rest := []) dX10_partOf_24 ml_X10_87 okJ9_max_f86c9 stJ9_max_f86c9 ⟨(Nat.le_of_ble_eq_true rfl), (Nat.le_of_ble_eq_true rfl)⟩ rfl rfl (Nat.le_of_ble_eq_true rfl) (c_maxL (by omega) (by omega)) ?_
  rintro _ q5 ⟨rfl, eq5⟩
  subst q5
  show zG l w mX10_partOf 27 [(0, .ref m), (1, .int (nI p))] [.long (jL (max 1 (10000 * nA N (368 + 8 * p + 4) / nA N (368 + 8 * p + 3))))] h _
  refine g_lreturn dX10_partOf_27 rfl ?_
  exact ⟨rfl, rfl⟩
theorem c_hapN (r : MoN h m N) (hF : nFit N) {k q f : Nat} (hk : k < 2147483648) (hq : q < 2147483648) (hf : f < 2147483648) : zM l w mX10_happens [.ref m, .int (nI k), .int (nI q), .int (nI f)] h (fun v h1 => v = none ∧ MoN h1 m (evN N k q f) ∧ FrM m h h1) := by
  have e := c_happens (l := l) (w := w) r hF (k := k) (q := q) (f := f) (by omega) (by omega) (by omega)
  rw [jI_nat, jI_nat, jI_nat] at e
  exact e
theorem c_hapM (r : MoN h m N) (hF : nFit N) {k f : Nat} (hk : k < 2147483648) (hf : f < 2147483648) : zM l w mX10_happens [.ref m, .int (nI k), .int (-1), .int (nI f)] h (fun v h1 => v = none ∧ MoN h1 m (evN N k (-1) f) ∧ FrM m h h1) := by
  have e := c_happens (l := l) (w := w) r hF (k := k) (q := -1) (f := f) (by omega) (by omega) (by omega)
  rw [jI_nat, jI_nat, show jI (-1) = -1 by decide] at e
  exact e
theorem backN_congr {N' : nT} {f : Nat} (hf : f < 6) (e : ∀ k, 8 ≤ k → k < 368 → nA N' k = nA N k) (hP : nPa N f) : backN N' f = backN N f := by
  have e0 : nA N' (248 + 20 * f + 0) = nA N (248 + 20 * f + 0) := e _ (by omega) (by omega)
  unfold backN
  rw [e0]
  congr 1
  apply List.map_congr_left
  intro i hi
  have hi2 := List.mem_range.mp hi
  have h1 := hP.1
  have h2 := hP.2.1 i (by omega)
  have e1 : hopN N' f i = hopN N f i := by unfold hopN; rw [e _ (by omega) (by omega)]
  rw [e1]
  have h3 : hopN N f i < 6 := by unfold hopN; omega
  exact e _ (by omega) (by omega)
theorem nPa_congr {N' : nT} {f : Nat} (hf : f < 6) (e : ∀ k, 8 ≤ k → k < 368 → nA N' k = nA N k) (hP : nPa N f) : nPa N' f := by
  have e0 : nA N' (248 + 20 * f + 0) = nA N (248 + 20 * f + 0) := e _ (by omega) (by omega)
  have h1 := hP.1
  refine ⟨by rw [e0]; exact hP.1, fun i hi => ?_, by rw [backN_congr hf e hP]; exact hP.2.2⟩
  rw [e0] at hi
  rw [e _ (by omega) (by omega)]
  exact hP.2.1 i hi
theorem nFit_uA {k : Nat} {z : Int} (h : nFit N) : nFit (uA N k z) := h
theorem nFit_ev {k q f : Int} (h : nFit N) : nFit (evN N k q f) := by
  refine ⟨h.1, h.2.1, ?_, h.2.2.2⟩
  have := h.2.2.1
  show (_ ++ [_] : List _).length ≤ 24
  rw [List.length_append]
  split
  · rw [List.length_drop]; simp; omega
  · simp; omega
theorem MoN.lose (r : MoN h m N) : MoN (zSi h 324 m (zi h 324 m + nI 1)) m (uA N 6 (nA N 6 + 1)) := by
  refine ⟨r.1, ⟨?_, r.2.1.2⟩, ?_, ?_⟩
  · intro k hk hs
    rw [nA_ne (by unfold nSp at hs; omega)]
    exact r.2.1.1 k hk hs
  · rw [nA_ne (by omega), zi_Si, if_neg (by omega)]; exact r.2.2.1
  · rw [nA_eq, nA_ne (by omega), zi_Si, if_pos ⟨rfl, rfl⟩, r.2.2.2, ← jI_nat 1, jI_add]
    congr 1
    omega
theorem FrM.lose {v : Int32} : FrM m h (zSi h 324 m v) := ⟨rfl, rfl, fun _ => rfl, fun _ => rfl, fun _ _ => rfl, fun _ _ => rfl, fun _ _ => rfl, fun f a ha => by rw [zi_Si, if_neg (by omega)], fun _ _ => rfl, fun _ _ _ => rfl, fun _ _ => rfl⟩
theorem c_partOfX {N' : nT} (r : MoN h m N') {p : Nat} (hp : p < 480) (e : ∀ k, 368 ≤ k → nA N' k = nA N k) (h4 : 0 ≤ nA N (368 + 8 * p + 4)) (h3 : 0 < nA N (368 + 8 * p + 3)) (hB : nBd N) : zM l w mX10_partOf [.ref m, .int (nI p)] h (fun v h1 => v = some (.long (jL (partN N p))) ∧ h1 = h) := by
  have b4 := hB (368 + 8 * p + 4) (by omega)
  have b3 := hB (368 + 8 * p + 3) (by omega)
  have q := c_partOf (l := l) (w := w) r hp (by rw [e _ (by omega)]; omega) (by rw [e _ (by omega)]; omega)
  have e2 : partN N' p = partN N p := by unfold partN; rw [e _ (by omega), e _ (by omega)]
  rw [e2] at q
  exact q
theorem c_comes (r : MoN h m N) (hF : nFit N) (hB : nBd N) {p f a : Nat} (hp : p < 480) (hf : nA N (368 + 8 * p + 0) = (f : Int) + 1) (hf6 : f < 6) (ha : a < 6) (hP : nPa N f) (hK : (nK N).length < 480) (hC : 0 ≤ nA N (8 + 40 * a + 14) ∧ nA N (8 + 40 * a + 14) < 64) (h60 : nA N (8 + 40 * a + 2) ≤ 60) (h4 : 0 ≤ nA N (368 + 8 * p + 4)) (h3 : 0 < nA N (368 + 8 * p + 3)) : zM l w mX10_comes [.ref m, .int (nI p), .int (nI a)] h (fun v h1 => v = none ∧ MoN h1 m (comeN N p a) ∧ FrM m h h1) := by
  refine zM.of (by decide) (Nat.le_of_ble_eq_true rfl) ?_
  have hfl : flN N p = f := by unfold flN; rw [hf]; omega
  have hcs : ((nA N (8 + 40 * a + 14)).toNat : Int) = nA N (8 + 40 * a + 14) := Int.toNat_of_nonneg hC.1
  have hL : shutN N f a = true → zG l w mX10_comes 68 [(3, .int (nI f)), (0, .ref m), (1, .int (nI p)), (2, .int (nI a))] [] h (fun v h1 => v = none ∧ MoN h1 m (comeN N p a) ∧ FrM m h h1) := by
    intro hs
    refine g_aload_n 1 dX10_comes_68 rfl rfl ?_
    refine g_dup dX10_comes_69 rfl ?_
    refine g_geti (f := 324) dX10_comes_70 fl_X10_97 r.1.1 (by decide) rfl ?_
    refine g_iconst (v := nI 1) dX10_comes_73 (by decide) ?_
    refine g_iadd dX10_comes_74 ?_
    refine g_puti (f := 324) dX10_comes_75 fl_X10_97 (Or.inl rfl) r.1.1 rfl ?_
    refine g_aload_n 1 dX10_comes_78 rfl rfl ?_
    refine g_iconst (v := nI 0) dX10_comes_79 (by decide) ?_
    refine g_iload_n 3 dX10_comes_80 rfl rfl ?_
    refine g_iload_n 0 dX10_comes_81 rfl rfl ?_
    refine g_invv (M' := mX10_happens) (As := [.int (nI 0), .int (nI a), .int (nI f)]) (rest := []) dX10_comes_82 ml_X10_100 okX10_happens imX10_happens seX10_happens ⟨(Nat.le_of_ble_eq_true rfl), (Nat.le_of_ble_eq_true rfl)⟩ (ci := 10) rfl rfl r.lose.1.1 rfl rfl (Nat.le_of_ble_eq_true rfl) (c_hapN r.lose (nFit_uA hF) (by omega) (by omega) (by omega)) ?_
    rintro _ y1 ⟨rfl, r1, f1⟩
    show zG l w mX10_comes 85 [(3, .int (nI f)), (0, .ref m), (1, .int (nI p)), (2, .int (nI a))] [] y1 _
    refine g_aload_n 1 dX10_comes_85 rfl rfl ?_
    refine g_iload_n 2 dX10_comes_86 rfl rfl ?_
    refine g_iconst (v := nI 1) dX10_comes_87 (by decide) ?_
    have e9 : ∀ k, k ≠ 6 → nA (evN (uA N 6 (nA N 6 + 1)) (0 : Nat) a f) k = nA N k := fun k hk => nA_ne hk
    refine g_invv (M' := mX10_comesBack) (As := [.int (nI p), .int (nI 1)]) (rest := []) dX10_comes_88 ml_X10_104 okX10_comesBack imX10_comesBack seX10_comesBack ⟨(Nat.le_of_ble_eq_true rfl), (Nat.le_of_ble_eq_true rfl)⟩ (ci := 10) rfl rfl r1.1.1 rfl rfl (Nat.le_of_ble_eq_true rfl) (c_comesBack (b := true) r1 (nFit_ev (nFit_uA hF)) hp (by rw [e9 _ (by omega)]; exact hf) hf6 (nPa_congr hf6 (fun k h1 h2 => e9 k (by omega)) hP) hK) ?_
    rintro _ y2 ⟨rfl, r2, f2⟩
    show zG l w mX10_comes 91 [(3, .int (nI f)), (0, .ref m), (1, .int (nI p)), (2, .int (nI a))] [] y2 _
    refine g_return dX10_comes_91 rfl ?_
    refine ⟨rfl, ?_, ((FrM.lose.tr f1).tr f2)⟩
    rw [comeN, hfl, if_pos hs]
    exact r2
  have hA : shutN N f a = false → zG l w mX10_comes 92 [(3, .int (nI f)), (0, .ref m), (1, .int (nI p)), (2, .int (nI a))] [] h (fun v h1 => v = none ∧ MoN h1 m (comeN N p a) ∧ FrM m h h1) := by
    intro hs
    have hlen : (nR N a).length < 60 := by
      unfold shutN at hs
      simp only [Bool.or_eq_false_iff, decide_eq_false_iff_not] at hs
      omega
    refine g_aload_n 1 dX10_comes_92 rfl rfl ?_
    refine g_sipush (v := nI 4208) dX10_comes_93 (by decide) ?_
    refine g_bipush (v := nI 60) dX10_comes_96 (by decide) ?_
    refine g_iload_n 3 dX10_comes_98 rfl rfl ?_
    refine g_imul dX10_comes_99 ?_
    rw [pk_mul 60 a]
    refine g_iadd dX10_comes_100 ?_
    rw [nI_add 4208 (60 * a)]
    refine g_aload_n 1 dX10_comes_101 rfl rfl ?_
    refine g_iload_n 3 dX10_comes_102 rfl rfl ?_
    refine g_iconst (v := nI 4) dX10_comes_103 (by decide) ?_
    refine g_invs (M' := mX10_link0) (As := [.int (nI a), .int (nI 4)]) (rest := [.ref m, .int (nI (4208 + 60 * a)), .ref m]) dX10_comes_104 ml_X10_44 okX10_link0 stX10_link0 ⟨(Nat.le_of_ble_eq_true rfl), (Nat.le_of_ble_eq_true rfl)⟩ rfl rfl (Nat.le_of_ble_eq_true rfl) c_link0 ?_
    rintro _ q1 ⟨rfl, eq1⟩
    subst q1
    show zG l w mX10_comes 107 [(3, .int (nI f)), (0, .ref m), (1, .int (nI p)), (2, .int (nI a))] [.int (nI (8 + 40 * a + 4)), .ref m, .int (nI (4208 + 60 * a)), .ref m] h _
    refine g_invv (M' := mX10_at) (As := [.int (nI (8 + 40 * a + 4))]) (rest := [.int (nI (4208 + 60 * a)), .ref m]) dX10_comes_107 ml_X10_58 okX10_at imX10_at seX10_at ⟨(Nat.le_of_ble_eq_true rfl), (Nat.le_of_ble_eq_true rfl)⟩ (ci := 10) rfl rfl r.1.1 rfl rfl (Nat.le_of_ble_eq_true rfl) (c_atStood r (by omega)) ?_
    rintro _ q2 ⟨rfl, eq2⟩
    subst q2
    show zG l w mX10_comes 110 [(3, .int (nI f)), (0, .ref m), (1, .int (nI p)), (2, .int (nI a))] [.int (nI (nR N a).length), .int (nI (4208 + 60 * a)), .ref m] h _
    refine g_iadd dX10_comes_110 ?_
    rw [nI_add (4208 + 60 * a) ((nR N a).length)]
    refine g_iload_n 2 dX10_comes_111 rfl rfl ?_
    refine g_i2l dX10_comes_112 ?_
    rw [nI_l (by omega), ← jL_nat]
    refine g_invv (M' := mX10_puts) (As := [.int (nI (4208 + 60 * a + (nR N a).length)), .long (jL ((p : Nat) : Int))]) (rest := []) dX10_comes_113 ml_X10_40 okX10_puts imX10_puts seX10_puts ⟨(Nat.le_of_ble_eq_true rfl), (Nat.le_of_ble_eq_true rfl)⟩ (ci := 10) rfl rfl r.1.1 rfl rfl (Nat.le_of_ble_eq_true rfl) (c_putsR r hF ha hlen) ?_
    rintro _ y3 ⟨rfl, ⟨r3, e3⟩, f3⟩
    show zG l w mX10_comes 116 [(3, .int (nI f)), (0, .ref m), (1, .int (nI p)), (2, .int (nI a))] [] y3 _
    refine g_aload_n 1 dX10_comes_116 rfl rfl ?_
    refine g_iload_n 3 dX10_comes_117 rfl rfl ?_
    refine g_iconst (v := nI 4) dX10_comes_118 (by decide) ?_
    refine g_invs (M' := mX10_link0) (As := [.int (nI a), .int (nI 4)]) (rest := [.ref m]) dX10_comes_119 ml_X10_44 okX10_link0 stX10_link0 ⟨(Nat.le_of_ble_eq_true rfl), (Nat.le_of_ble_eq_true rfl)⟩ rfl rfl (Nat.le_of_ble_eq_true rfl) c_link0 ?_
    rintro _ q4 ⟨rfl, eq4⟩
    subst q4
    show zG l w mX10_comes 122 [(3, .int (nI f)), (0, .ref m), (1, .int (nI p)), (2, .int (nI a))] [.int (nI (8 + 40 * a + 4)), .ref m] y3 _
    refine g_lconst (v := jL 1) dX10_comes_122 (by decide) ?_
    refine g_invv (M' := mX10_adds) (As := [.int (nI (8 + 40 * a + 4)), .long (jL 1)]) (rest := []) dX10_comes_123 ml_X10_76 okX10_adds imX10_adds seX10_adds ⟨(Nat.le_of_ble_eq_true rfl), (Nat.le_of_ble_eq_true rfl)⟩ (ci := 10) rfl rfl r3.1.1 rfl rfl (Nat.le_of_ble_eq_true rfl) (c_addsR r3 ha e3) ?_
    rintro _ y5 ⟨rfl, r5, f5⟩
    show zG l w mX10_comes 126 [(3, .int (nI f)), (0, .ref m), (1, .int (nI p)), (2, .int (nI a))] [] y5 _
    refine g_aload_n 1 dX10_comes_126 rfl rfl ?_
    refine g_iload_n 3 dX10_comes_127 rfl rfl ?_
    refine g_bipush (v := nI 6) dX10_comes_128 (by decide) ?_
    refine g_invs (M' := mX10_link0) (As := [.int (nI a), .int (nI 6)]) (rest := [.ref m]) dX10_comes_130 ml_X10_44 okX10_link0 stX10_link0 ⟨(Nat.le_of_ble_eq_true rfl), (Nat.le_of_ble_eq_true rfl)⟩ rfl rfl (Nat.le_of_ble_eq_true rfl) c_link0 ?_
    rintro _ q6 ⟨rfl, eq6⟩
    subst q6
    show zG l w mX10_comes 133 [(3, .int (nI f)), (0, .ref m), (1, .int (nI p)), (2, .int (nI a))] [.int (nI (8 + 40 * a + 6)), .ref m] y5 _
    refine g_lconst (v := jL 1) dX10_comes_133 (by decide) ?_
    refine g_invv (M' := mX10_adds) (As := [.int (nI (8 + 40 * a + 6)), .long (jL 1)]) (rest := []) dX10_comes_134 ml_X10_76 okX10_adds imX10_adds seX10_adds ⟨(Nat.le_of_ble_eq_true rfl), (Nat.le_of_ble_eq_true rfl)⟩ (ci := 10) rfl rfl r5.1.1 rfl rfl (Nat.le_of_ble_eq_true rfl) (c_addsN r5 (by omega) (by unfold nSp; omega)) ?_
    rintro _ y7 ⟨rfl, r7, f7⟩
    rw [show nA (uR N a (nR N a ++ [p])) (8 + 40 * a + 6) = nA N (8 + 40 * a + 6) by rw [nA_uR]] at r7
    show zG l w mX10_comes 137 [(3, .int (nI f)), (0, .ref m), (1, .int (nI p)), (2, .int (nI a))] [] y7 _
    refine g_aload_n 1 dX10_comes_137 rfl rfl ?_
    refine g_iload_n 3 dX10_comes_138 rfl rfl ?_
    refine g_bipush (v := nI 20) dX10_comes_139 (by decide) ?_
    refine g_iload_n 0 dX10_comes_141 rfl rfl ?_
    refine g_iadd dX10_comes_142 ?_
    rw [nI_add 20 f]
    refine g_invs (M' := mX10_link0) (As := [.int (nI a), .int (nI (20 + f))]) (rest := [.ref m]) dX10_comes_143 ml_X10_44 okX10_link0 stX10_link0 ⟨(Nat.le_of_ble_eq_true rfl), (Nat.le_of_ble_eq_true rfl)⟩ rfl rfl (Nat.le_of_ble_eq_true rfl) c_link0 ?_
    rintro _ q8 ⟨rfl, eq8⟩
    subst q8
    show zG l w mX10_comes 146 [(3, .int (nI f)), (0, .ref m), (1, .int (nI p)), (2, .int (nI a))] [.int (nI (8 + 40 * a + (20 + f))), .ref m] y7 _
    refine g_lconst (v := jL 1) dX10_comes_146 (by decide) ?_
    refine g_invv (M' := mX10_adds) (As := [.int (nI (8 + 40 * a + (20 + f))), .long (jL 1)]) (rest := []) dX10_comes_147 ml_X10_76 okX10_adds imX10_adds seX10_adds ⟨(Nat.le_of_ble_eq_true rfl), (Nat.le_of_ble_eq_true rfl)⟩ (ci := 10) rfl rfl r7.1.1 rfl rfl (Nat.le_of_ble_eq_true rfl) (c_addsN r7 (by omega) (by unfold nSp; omega)) ?_
    rintro _ y9 ⟨rfl, r9, f9⟩
    rw [show nA (uA (uR N a (nR N a ++ [p])) (8 + 40 * a + 6) (nA N (8 + 40 * a + 6) + 1)) (8 + 40 * a + (20 + f)) = nA N (8 + 40 * a + (20 + f)) by rw [nA_ne (by omega), nA_uR]] at r9
    show zG l w mX10_comes 150 [(3, .int (nI f)), (0, .ref m), (1, .int (nI p)), (2, .int (nI a))] [] y9 _
    refine g_aload_n 1 dX10_comes_150 rfl rfl ?_
    refine g_iload_n 3 dX10_comes_151 rfl rfl ?_
    refine g_bipush (v := nI 18) dX10_comes_152 (by decide) ?_
    refine g_invs (M' := mX10_link0) (As := [.int (nI a), .int (nI 18)]) (rest := [.ref m]) dX10_comes_154 ml_X10_44 okX10_link0 stX10_link0 ⟨(Nat.le_of_ble_eq_true rfl), (Nat.le_of_ble_eq_true rfl)⟩ rfl rfl (Nat.le_of_ble_eq_true rfl) c_link0 ?_
    rintro _ q10 ⟨rfl, eq10⟩
    subst q10
    show zG l w mX10_comes 157 [(3, .int (nI f)), (0, .ref m), (1, .int (nI p)), (2, .int (nI a))] [.int (nI (8 + 40 * a + 18)), .ref m] y9 _
    refine g_aload_n 1 dX10_comes_157 rfl rfl ?_
    refine g_iload_n 2 dX10_comes_158 rfl rfl ?_
    have e9 : ∀ k, 368 ≤ k → nA (uA (uA (uR N a (nR N a ++ [p])) (8 + 40 * a + 6) (nA N (8 + 40 * a + 6) + 1)) (8 + 40 * a + (20 + f)) (nA N (8 + 40 * a + (20 + f)) + 1)) k = nA N k := fun k hk => by rw [nA_ne (by omega), nA_ne (by omega), nA_uR]
    refine g_invv (M' := mX10_partOf) (As := [.int (nI p)]) (rest := [.int (nI (8 + 40 * a + 18)), .ref m]) dX10_comes_159 ml_X10_108 okX10_partOf imX10_partOf seX10_partOf ⟨(Nat.le_of_ble_eq_true rfl), (Nat.le_of_ble_eq_true rfl)⟩ (ci := 10) rfl rfl r9.1.1 rfl rfl (Nat.le_of_ble_eq_true rfl) (c_partOfX r9 hp e9 h4 h3 hB) ?_
    rintro _ q11 ⟨rfl, eq11⟩
    subst q11
    show zG l w mX10_comes 162 [(3, .int (nI f)), (0, .ref m), (1, .int (nI p)), (2, .int (nI a))] [.long (jL (partN N p)), .int (nI (8 + 40 * a + 18)), .ref m] y9 _
    refine g_invv (M' := mX10_adds) (As := [.int (nI (8 + 40 * a + 18)), .long (jL (partN N p))]) (rest := []) dX10_comes_162 ml_X10_76 okX10_adds imX10_adds seX10_adds ⟨(Nat.le_of_ble_eq_true rfl), (Nat.le_of_ble_eq_true rfl)⟩ (ci := 10) rfl rfl r9.1.1 rfl rfl (Nat.le_of_ble_eq_true rfl) (c_addsN r9 (by omega) (by unfold nSp; omega)) ?_
    rintro _ y12 ⟨rfl, r12, f12⟩
    rw [show nA (uA (uA (uR N a (nR N a ++ [p])) (8 + 40 * a + 6) (nA N (8 + 40 * a + 6) + 1)) (8 + 40 * a + (20 + f)) (nA N (8 + 40 * a + (20 + f)) + 1)) (8 + 40 * a + 18) = nA N (8 + 40 * a + 18) by rw [nA_ne (by omega), nA_ne (by omega), nA_uR]] at r12
    show zG l w mX10_comes 165 [(3, .int (nI f)), (0, .ref m), (1, .int (nI p)), (2, .int (nI a))] [] y12 _
    refine g_aload_n 1 dX10_comes_165 rfl rfl ?_
    refine g_iload_n 3 dX10_comes_166 rfl rfl ?_
    refine g_bipush (v := nI 26) dX10_comes_167 (by decide) ?_
    refine g_iload_n 0 dX10_comes_169 rfl rfl ?_
    refine g_iadd dX10_comes_170 ?_
    rw [nI_add 26 f]
    refine g_invs (M' := mX10_link0) (As := [.int (nI a), .int (nI (26 + f))]) (rest := [.ref m]) dX10_comes_171 ml_X10_44 okX10_link0 stX10_link0 ⟨(Nat.le_of_ble_eq_true rfl), (Nat.le_of_ble_eq_true rfl)⟩ rfl rfl (Nat.le_of_ble_eq_true rfl) c_link0 ?_
    rintro _ q13 ⟨rfl, eq13⟩
    subst q13
    show zG l w mX10_comes 174 [(3, .int (nI f)), (0, .ref m), (1, .int (nI p)), (2, .int (nI a))] [.int (nI (8 + 40 * a + (26 + f))), .ref m] y12 _
    refine g_aload_n 1 dX10_comes_174 rfl rfl ?_
    refine g_iload_n 2 dX10_comes_175 rfl rfl ?_
    refine g_iconst (v := nI 3) dX10_comes_176 (by decide) ?_
    refine g_invs (M' := mX10_packet0) (As := [.int (nI p), .int (nI 3)]) (rest := [.ref m, .int (nI (8 + 40 * a + (26 + f))), .ref m]) dX10_comes_177 ml_X10_55 okX10_packet0 stX10_packet0 ⟨(Nat.le_of_ble_eq_true rfl), (Nat.le_of_ble_eq_true rfl)⟩ rfl rfl (Nat.le_of_ble_eq_true rfl) c_packet0 ?_
    rintro _ q14 ⟨rfl, eq14⟩
    subst q14
    show zG l w mX10_comes 180 [(3, .int (nI f)), (0, .ref m), (1, .int (nI p)), (2, .int (nI a))] [.int (nI (368 + 8 * p + 3)), .ref m, .int (nI (8 + 40 * a + (26 + f))), .ref m] y12 _
    refine g_invv (M' := mX10_of) (As := [.int (nI (368 + 8 * p + 3))]) (rest := [.int (nI (8 + 40 * a + (26 + f))), .ref m]) dX10_comes_180 ml_X10_48 okX10_of imX10_of seX10_of ⟨(Nat.le_of_ble_eq_true rfl), (Nat.le_of_ble_eq_true rfl)⟩ (ci := 10) rfl rfl r12.1.1 rfl rfl (Nat.le_of_ble_eq_true rfl) (c_ofN r12 (by omega) (by unfold nSp; omega)) ?_
    rintro _ q15 ⟨rfl, eq15⟩
    subst q15
    show zG l w mX10_comes 183 [(3, .int (nI f)), (0, .ref m), (1, .int (nI p)), (2, .int (nI a))] [.long (jL (nA (uA (uA (uA (uR N a (nR N a ++ [p])) (8 + 40 * a + 6) (nA N (8 + 40 * a + 6) + 1)) (8 + 40 * a + (20 + f)) (nA N (8 + 40 * a + (20 + f)) + 1)) (8 + 40 * a + 18) (nA N (8 + 40 * a + 18) + partN N p)) (368 + 8 * p + 3))), .int (nI (8 + 40 * a + (26 + f))), .ref m] y12 _
    rw [show nA (uA (uA (uA (uR N a (nR N a ++ [p])) (8 + 40 * a + 6) (nA N (8 + 40 * a + 6) + 1)) (8 + 40 * a + (20 + f)) (nA N (8 + 40 * a + (20 + f)) + 1)) (8 + 40 * a + 18) (nA N (8 + 40 * a + 18) + partN N p)) (368 + 8 * p + 3) = nA N (368 + 8 * p + 3) by rw [nA_ne (by omega), nA_ne (by omega), nA_ne (by omega), nA_uR]]
    refine g_invv (M' := mX10_puts) (As := [.int (nI (8 + 40 * a + (26 + f))), .long (jL (nA N (368 + 8 * p + 3)))]) (rest := []) dX10_comes_183 ml_X10_40 okX10_puts imX10_puts seX10_puts ⟨(Nat.le_of_ble_eq_true rfl), (Nat.le_of_ble_eq_true rfl)⟩ (ci := 10) rfl rfl r12.1.1 rfl rfl (Nat.le_of_ble_eq_true rfl) (c_putsN r12 (by omega) (by unfold nSp; omega)) ?_
    rintro _ y16 ⟨rfl, r16, f16⟩
    show zG l w mX10_comes 186 [(3, .int (nI f)), (0, .ref m), (1, .int (nI p)), (2, .int (nI a))] [] y16 _
    refine g_aload_n 1 dX10_comes_186 rfl rfl ?_
    refine g_iload_n 3 dX10_comes_187 rfl rfl ?_
    refine g_bipush (v := nI 32) dX10_comes_188 (by decide) ?_
    refine g_iload_n 0 dX10_comes_190 rfl rfl ?_
    refine g_iadd dX10_comes_191 ?_
    rw [nI_add 32 f]
    refine g_invs (M' := mX10_link0) (As := [.int (nI a), .int (nI (32 + f))]) (rest := [.ref m]) dX10_comes_192 ml_X10_44 okX10_link0 stX10_link0 ⟨(Nat.le_of_ble_eq_true rfl), (Nat.le_of_ble_eq_true rfl)⟩ rfl rfl (Nat.le_of_ble_eq_true rfl) c_link0 ?_
    rintro _ q17 ⟨rfl, eq17⟩
    subst q17
    show zG l w mX10_comes 195 [(3, .int (nI f)), (0, .ref m), (1, .int (nI p)), (2, .int (nI a))] [.int (nI (8 + 40 * a + (32 + f))), .ref m] y16 _
    refine g_aload_n 1 dX10_comes_195 rfl rfl ?_
    refine g_iload_n 2 dX10_comes_196 rfl rfl ?_
    refine g_iconst (v := nI 4) dX10_comes_197 (by decide) ?_
    refine g_invs (M' := mX10_packet0) (As := [.int (nI p), .int (nI 4)]) (rest := [.ref m, .int (nI (8 + 40 * a + (32 + f))), .ref m]) dX10_comes_198 ml_X10_55 okX10_packet0 stX10_packet0 ⟨(Nat.le_of_ble_eq_true rfl), (Nat.le_of_ble_eq_true rfl)⟩ rfl rfl (Nat.le_of_ble_eq_true rfl) c_packet0 ?_
    rintro _ q18 ⟨rfl, eq18⟩
    subst q18
    show zG l w mX10_comes 201 [(3, .int (nI f)), (0, .ref m), (1, .int (nI p)), (2, .int (nI a))] [.int (nI (368 + 8 * p + 4)), .ref m, .int (nI (8 + 40 * a + (32 + f))), .ref m] y16 _
    refine g_invv (M' := mX10_of) (As := [.int (nI (368 + 8 * p + 4))]) (rest := [.int (nI (8 + 40 * a + (32 + f))), .ref m]) dX10_comes_201 ml_X10_48 okX10_of imX10_of seX10_of ⟨(Nat.le_of_ble_eq_true rfl), (Nat.le_of_ble_eq_true rfl)⟩ (ci := 10) rfl rfl r16.1.1 rfl rfl (Nat.le_of_ble_eq_true rfl) (c_ofN r16 (by omega) (by unfold nSp; omega)) ?_
    rintro _ q19 ⟨rfl, eq19⟩
    subst q19
    show zG l w mX10_comes 204 [(3, .int (nI f)), (0, .ref m), (1, .int (nI p)), (2, .int (nI a))] [.long (jL (nA (uA (uA (uA (uA (uR N a (nR N a ++ [p])) (8 + 40 * a + 6) (nA N (8 + 40 * a + 6) + 1)) (8 + 40 * a + (20 + f)) (nA N (8 + 40 * a + (20 + f)) + 1)) (8 + 40 * a + 18) (nA N (8 + 40 * a + 18) + partN N p)) (8 + 40 * a + (26 + f)) (nA N (368 + 8 * p + 3))) (368 + 8 * p + 4))), .int (nI (8 + 40 * a + (32 + f))), .ref m] y16 _
    rw [show nA (uA (uA (uA (uA (uR N a (nR N a ++ [p])) (8 + 40 * a + 6) (nA N (8 + 40 * a + 6) + 1)) (8 + 40 * a + (20 + f)) (nA N (8 + 40 * a + (20 + f)) + 1)) (8 + 40 * a + 18) (nA N (8 + 40 * a + 18) + partN N p)) (8 + 40 * a + (26 + f)) (nA N (368 + 8 * p + 3))) (368 + 8 * p + 4) = nA N (368 + 8 * p + 4) by rw [nA_ne (by omega), nA_ne (by omega), nA_ne (by omega), nA_ne (by omega), nA_uR]]
    refine g_invv (M' := mX10_puts) (As := [.int (nI (8 + 40 * a + (32 + f))), .long (jL (nA N (368 + 8 * p + 4)))]) (rest := []) dX10_comes_204 ml_X10_40 okX10_puts imX10_puts seX10_puts ⟨(Nat.le_of_ble_eq_true rfl), (Nat.le_of_ble_eq_true rfl)⟩ (ci := 10) rfl rfl r16.1.1 rfl rfl (Nat.le_of_ble_eq_true rfl) (c_putsN r16 (by omega) (by unfold nSp; omega)) ?_
    rintro _ y20 ⟨rfl, r20, f20⟩
    show zG l w mX10_comes 207 [(3, .int (nI f)), (0, .ref m), (1, .int (nI p)), (2, .int (nI a))] [] y20 _
    refine g_return dX10_comes_207 rfl ?_
    refine ⟨rfl, ?_, (((((((FrM.rf.tr f3).tr f5).tr f7).tr f9).tr f12).tr f16).tr f20)⟩
    rw [comeN, hfl, if_neg (by rw [hs]; decide)]
    exact r20
  have hR : (hasN (nA N (8 + 40 * a + 14)) f && decide (nA N (8 + 40 * a + 15) ≤ nA N (8 + 40 * a + (20 + f)))) = false → zG l w mX10_comes 52 [(4, .int (nI 0)), (3, .int (nI f)), (0, .ref m), (1, .int (nI p)), (2, .int (nI a))] [] h (fun v h1 => v = none ∧ MoN h1 m (comeN N p a) ∧ FrM m h h1) := by
    intro hs
    have hr60 := (hF.1 a ha).1
    refine g_aload_n 2 dX10_comes_52 rfl rfl ?_
    refine g_iload_n 4 dX10_comes_53 rfl rfl ?_
    refine g_iconst (v := nI 4) dX10_comes_54 (by decide) ?_
    refine g_invv (M' := mX10_ofLink) (As := [.int (nI a), .int (nI 4)]) (rest := []) dX10_comes_55 ml_X10_69 okX10_ofLink imX10_ofLink seX10_ofLink ⟨(Nat.le_of_ble_eq_true rfl), (Nat.le_of_ble_eq_true rfl)⟩ (ci := 10) rfl rfl r.1.1 rfl rfl (Nat.le_of_ble_eq_true rfl) (c_ofStood r (by omega)) ?_
    rintro _ q21 ⟨rfl, eq21⟩
    subst q21
    show zG l w mX10_comes 58 [(4, .int (nI 0)), (3, .int (nI f)), (0, .ref m), (1, .int (nI p)), (2, .int (nI a))] [.long (lN (nR N a).length)] h _
    rw [← jL_nat]
    refine g_aload_n 2 dX10_comes_58 rfl rfl ?_
    refine g_iload_n 4 dX10_comes_59 rfl rfl ?_
    refine g_iconst (v := nI 2) dX10_comes_60 (by decide) ?_
    refine g_invv (M' := mX10_ofLink) (As := [.int (nI a), .int (nI 2)]) (rest := [.long (jL (((nR N a).length : Nat) : Int))]) dX10_comes_61 ml_X10_69 okX10_ofLink imX10_ofLink seX10_ofLink ⟨(Nat.le_of_ble_eq_true rfl), (Nat.le_of_ble_eq_true rfl)⟩ (ci := 10) rfl rfl r.1.1 rfl rfl (Nat.le_of_ble_eq_true rfl) (c_ofLinkN r (by omega) (by unfold nSp; omega)) ?_
    rintro _ q22 ⟨rfl, eq22⟩
    subst q22
    show zG l w mX10_comes 64 [(4, .int (nI 0)), (3, .int (nI f)), (0, .ref m), (1, .int (nI p)), (2, .int (nI a))] [.long (jL (nA N (8 + 40 * a + 2))), .long (jL (((nR N a).length : Nat) : Int))] h _
    have b23 := hB (8 + 40 * a + 2) (by omega)
    refine g_lif_lt (a := (((nR N a).length : Nat) : Int)) (b := (nA N (8 + 40 * a + 2))) (tgt := 92) dX10_comes_64 rfl dX10_comes_65 (by decide) (by omega) (by omega) (fun c => ?_) (fun c => ?_)
    · refine zG.sub [1, 2, 3, 4] rfl (hA ?_)
      unfold shutN
      rw [hs, decide_eq_false (by omega)]
      rfl
    · refine zG.sub [1, 2, 3, 4] rfl (hL ?_)
      unfold shutN
      rw [hs, decide_eq_true (by omega)]
      rfl
  refine g_aload_n 0 dX10_comes_0 rfl rfl ?_
  refine g_iload_n 1 dX10_comes_1 rfl rfl ?_
  refine g_invv (M' := mX10_flowOf) (As := [.int (nI p)]) (rest := []) dX10_comes_2 ml_X10_79 okX10_flowOf imX10_flowOf seX10_flowOf ⟨(Nat.le_of_ble_eq_true rfl), (Nat.le_of_ble_eq_true rfl)⟩ (ci := 10) rfl rfl r.1.1 rfl rfl (Nat.le_of_ble_eq_true rfl) (c_flowOf r hp hf) ?_
  rintro _ q24 ⟨rfl, eq24⟩
  subst q24
  show zG l w mX10_comes 5 [(0, .ref m), (1, .int (nI p)), (2, .int (nI a))] [.int (nI f)] h _
  refine g_istore_n (lv2 := [(3, .int (nI f)), (0, .ref m), (1, .int (nI p)), (2, .int (nI a))]) dX10_comes_5 rfl (by decide) rfl ?_
  refine g_aload_n 1 dX10_comes_6 rfl rfl ?_
  refine g_iload_n 3 dX10_comes_7 rfl rfl ?_
  refine g_bipush (v := nI 14) dX10_comes_8 (by decide) ?_
  refine g_invv (M' := mX10_ofLink) (As := [.int (nI a), .int (nI 14)]) (rest := []) dX10_comes_10 ml_X10_69 okX10_ofLink imX10_ofLink seX10_ofLink ⟨(Nat.le_of_ble_eq_true rfl), (Nat.le_of_ble_eq_true rfl)⟩ (ci := 10) rfl rfl r.1.1 rfl rfl (Nat.le_of_ble_eq_true rfl) (c_ofLinkN r (by omega) (by unfold nSp; omega)) ?_
  rintro _ q25 ⟨rfl, eq25⟩
  subst q25
  show zG l w mX10_comes 13 [(3, .int (nI f)), (0, .ref m), (1, .int (nI p)), (2, .int (nI a))] [.long (jL (nA N (8 + 40 * a + 14)))] h _
  refine g_iload_n 0 dX10_comes_13 rfl rfl ?_
  rw [← hcs, jL_nat]
  refine g_invs (M' := mX10_has) (As := [.long (lN (nA N (8 + 40 * a + 14)).toNat), .int (nI f)]) (rest := []) dX10_comes_14 ml_X10_93 okX10_has stX10_has ⟨(Nat.le_of_ble_eq_true rfl), (Nat.le_of_ble_eq_true rfl)⟩ rfl rfl (Nat.le_of_ble_eq_true rfl) (c_has (by omega) hf6) ?_
  rintro _ q26 ⟨rfl, eq26⟩
  subst q26
  show zG l w mX10_comes 17 [(3, .int (nI f)), (0, .ref m), (1, .int (nI p)), (2, .int (nI a))] [.int (bI (hasN ((nA N (8 + 40 * a + 14)).toNat : Int) f))] h _
  rw [hcs]
  refine g_bif_eq (tgt := 44) dX10_comes_17 (by decide) (fun hh => ?_) (fun hh => ?_)
  · refine g_iconst (v := nI 0) dX10_comes_44 (by decide) ?_
    refine g_istore (lv2 := [(4, .int (nI 0)), (3, .int (nI f)), (0, .ref m), (1, .int (nI p)), (2, .int (nI a))]) dX10_comes_45 (by decide) rfl ?_
    refine g_iload 0 dX10_comes_47 rfl ?_
    refine g_if_ne (tgt := 68) dX10_comes_49 (by decide) (fun c => absurd rfl c) (fun _ => ?_)
    exact hR (by rw [hh]; rfl)
  · refine g_aload_n 1 dX10_comes_20 rfl rfl ?_
    refine g_iload_n 3 dX10_comes_21 rfl rfl ?_
    refine g_bipush (v := nI 20) dX10_comes_22 (by decide) ?_
    refine g_iload_n 0 dX10_comes_24 rfl rfl ?_
    refine g_iadd dX10_comes_25 ?_
    rw [nI_add 20 f]
    refine g_invv (M' := mX10_ofLink) (As := [.int (nI a), .int (nI (20 + f))]) (rest := []) dX10_comes_26 ml_X10_69 okX10_ofLink imX10_ofLink seX10_ofLink ⟨(Nat.le_of_ble_eq_true rfl), (Nat.le_of_ble_eq_true rfl)⟩ (ci := 10) rfl rfl r.1.1 rfl rfl (Nat.le_of_ble_eq_true rfl) (c_ofLinkN r (by omega) (by unfold nSp; omega)) ?_
    rintro _ q27 ⟨rfl, eq27⟩
    subst q27
    show zG l w mX10_comes 29 [(3, .int (nI f)), (0, .ref m), (1, .int (nI p)), (2, .int (nI a))] [.long (jL (nA N (8 + 40 * a + (20 + f))))] h _
    refine g_aload_n 1 dX10_comes_29 rfl rfl ?_
    refine g_iload_n 3 dX10_comes_30 rfl rfl ?_
    refine g_bipush (v := nI 15) dX10_comes_31 (by decide) ?_
    refine g_invv (M' := mX10_ofLink) (As := [.int (nI a), .int (nI 15)]) (rest := [.long (jL (nA N (8 + 40 * a + (20 + f))))]) dX10_comes_33 ml_X10_69 okX10_ofLink imX10_ofLink seX10_ofLink ⟨(Nat.le_of_ble_eq_true rfl), (Nat.le_of_ble_eq_true rfl)⟩ (ci := 10) rfl rfl r.1.1 rfl rfl (Nat.le_of_ble_eq_true rfl) (c_ofLinkN r (by omega) (by unfold nSp; omega)) ?_
    rintro _ q28 ⟨rfl, eq28⟩
    subst q28
    show zG l w mX10_comes 36 [(3, .int (nI f)), (0, .ref m), (1, .int (nI p)), (2, .int (nI a))] [.long (jL (nA N (8 + 40 * a + 15))), .long (jL (nA N (8 + 40 * a + (20 + f))))] h _
    have b29 := hB (8 + 40 * a + (20 + f)) (by omega)
    have b30 := hB (8 + 40 * a + 15) (by omega)
    refine g_lif_lt (a := (nA N (8 + 40 * a + (20 + f)))) (b := (nA N (8 + 40 * a + 15))) (tgt := 44) dX10_comes_36 rfl dX10_comes_37 (by decide) (by omega) (by omega) (fun c2 => ?_) (fun c2 => ?_)
    · refine g_iconst (v := nI 0) dX10_comes_44 (by decide) ?_
      refine g_istore (lv2 := [(4, .int (nI 0)), (3, .int (nI f)), (0, .ref m), (1, .int (nI p)), (2, .int (nI a))]) dX10_comes_45 (by decide) rfl ?_
      refine g_iload 0 dX10_comes_47 rfl ?_
      refine g_if_ne (tgt := 68) dX10_comes_49 (by decide) (fun c => absurd rfl c) (fun _ => ?_)
      exact hR (by rw [decide_eq_false (by omega), Bool.and_false])
    · refine g_iconst (v := nI 1) dX10_comes_40 (by decide) ?_
      refine g_goto (tgt := 45) dX10_comes_41 (by decide) ?_
      refine g_istore (lv2 := [(4, .int (nI 1)), (3, .int (nI f)), (0, .ref m), (1, .int (nI p)), (2, .int (nI a))]) dX10_comes_45 (by decide) rfl ?_
      refine g_iload 0 dX10_comes_47 rfl ?_
      refine g_if_ne (tgt := 68) dX10_comes_49 (by decide) (fun _ => ?_) (fun c => absurd c (by decide))
      refine zG.sub [1, 2, 3, 4] rfl (hL ?_)
      unfold shutN
      rw [hh, decide_eq_true (by omega)]
      rfl
end M5
