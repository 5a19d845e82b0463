section QA
variable {l : Launch} {w : zW} {h : zH} {m x b : Nat} {π : Nat → Nat} {ls : Nat → List Nat} {N : nT} {X : List Nat} {t : Nat}
def XO (h : zH) (x b : Nat) : Prop := zk h x = 9 ∧ zr h 293 x = some b
theorem c_refuse {v : Int32} (hk : zk h m = 10) : zM l w mX10_refuse [.ref m, .int v] h (fun u h1 => u = some (.int (-1)) ∧ h1 = zSi h 321 m v) := by
  refine zM.of (by decide) (Nat.le_of_ble_eq_true rfl) ?_
  refine g_aload_n 0 dX10_refuse_0 rfl rfl ?_
  refine g_iload_n 1 dX10_refuse_1 rfl rfl ?_
  refine g_puti (f := 321) dX10_refuse_2 fl_X10_37 (Or.inl rfl) hk rfl ?_
  refine g_iconst (v := (-1)) dX10_refuse_5 (by decide) ?_
  refine g_ireturn dX10_refuse_6 rfl ?_
  exact ⟨rfl, rfl⟩
theorem c_refC {v : Int32} (hk : zk h x = 9) : zM l w mX9_refuse [.ref x, .int v] h (fun u h1 => u = some (.int (-1)) ∧ h1 = zSi h 290 x v) := by
  refine zM.of (by decide) (Nat.le_of_ble_eq_true rfl) ?_
  refine g_aload_n 0 dX9_refuse_0 rfl rfl ?_
  refine g_iload_n 1 dX9_refuse_1 rfl rfl ?_
  refine g_puti (f := 290) dX9_refuse_2 fl_X9_48 (Or.inl rfl) hk rfl ?_
  refine g_iconst (v := (-1)) dX9_refuse_5 (by decide) ?_
  refine g_ireturn dX9_refuse_6 rfl ?_
  exact ⟨rfl, rfl⟩
theorem c_ans {v : Int32} (hk : zk h x = 9) : zM l w mX9_answer [.ref x, .int v] h (fun u h1 => u = some (.int v) ∧ h1 = zSi h 290 x (nI 0)) := by
  refine zM.of (by decide) (Nat.le_of_ble_eq_true rfl) ?_
  refine g_aload_n 0 dX9_answer_0 rfl rfl ?_
  refine g_iconst (v := nI 0) dX9_answer_1 (by decide) ?_
  refine g_puti (f := 290) dX9_answer_2 fl_X9_48 (Or.inl rfl) hk rfl ?_
  refine g_iload_n 1 dX9_answer_5 rfl rfl ?_
  refine g_ireturn dX9_answer_6 rfl ?_
  exact ⟨rfl, rfl⟩
theorem c_gives {z : Int} (hk : zk h m = 10) : zM l w mX10_gives [.ref m, .long (jL z)] h (fun u h1 => u = some (.int (jI z)) ∧ h1 = zSi h 321 m (nI 0)) := by
  refine zM.of (by decide) (Nat.le_of_ble_eq_true rfl) ?_
  refine g_aload_n 0 dX10_gives_0 rfl rfl ?_
  refine g_iconst (v := nI 0) dX10_gives_1 (by decide) ?_
  refine g_puti (f := 321) dX10_gives_2 fl_X10_37 (Or.inl rfl) hk rfl ?_
  refine g_lload_n 1 dX10_gives_5 rfl rfl ?_
  refine g_l2i dX10_gives_6 ?_
  rw [jL_i]
  refine g_ireturn dX10_gives_7 rfl ?_
  exact ⟨rfl, rfl⟩
theorem c_isFrom {v p q : Int} (hv : -2 ^ 63 ≤ v ∧ v < 2 ^ 63) (hp : -2 ^ 63 ≤ p ∧ p < 2 ^ 63) (hq : -2 ^ 63 ≤ q ∧ q < 2 ^ 63) : zM l w mX10_isFrom [.long (jL v), .long (jL p), .long (jL q)] h (fun u h1 => u = some (.int (bI (decide (p ≤ v ∧ v ≤ q)))) ∧ h1 = h) := by
  refine zM.of (by decide) (Nat.le_of_ble_eq_true rfl) ?_
  refine g_lload_n 0 dX10_isFrom_0 rfl rfl ?_
  refine g_lload_n 1 dX10_isFrom_1 rfl rfl ?_
  refine g_lif_lt (a := v) (b := p) (tgt := 17) dX10_isFrom_2 rfl dX10_isFrom_3 (by decide) (by omega) (by omega) (fun c => ?_) (fun c => ?_)
  · refine g_iconst (v := bI false) dX10_isFrom_17 (by decide) ?_
    refine g_zreturn dX10_isFrom_18 rfl (bI_nar _) ?_
    exact ⟨by rw [decide_eq_false (by omega)], rfl⟩
  · refine g_lload_n 0 dX10_isFrom_6 rfl rfl ?_
    refine g_lload 2 dX10_isFrom_7 rfl ?_
    refine g_lif_gt (a := v) (b := q) (tgt := 17) dX10_isFrom_9 rfl dX10_isFrom_10 (by decide) (by omega) (by omega) (fun d => ?_) (fun d => ?_)
    · refine g_iconst (v := bI false) dX10_isFrom_17 (by decide) ?_
      refine g_zreturn dX10_isFrom_18 rfl (bI_nar _) ?_
      exact ⟨by rw [decide_eq_false (by omega)], rfl⟩
    · refine g_iconst (v := bI true) dX10_isFrom_13 (by decide) ?_
      refine g_goto (tgt := 18) dX10_isFrom_14 (by decide) ?_
      refine g_zreturn dX10_isFrom_18 rfl (bI_nar _) ?_
      exact ⟨by rw [decide_eq_true (by omega)], rfl⟩
theorem c_isLink (r : MoN h m N) (H : 0 ≤ nA N 0 ∧ nA N 0 ≤ 6) {z : Int} (zb : -2147483648 ≤ z ∧ z < 2147483648) : zM l w mX10_isLink [.ref m, .int (jI z)] h (fun u h1 => u = some (.int (bI (decide (0 ≤ z ∧ z < nA N 0)))) ∧ h1 = h) := by
  refine zM.of (by decide) (Nat.le_of_ble_eq_true rfl) ?_
  refine g_iload_n 1 dX10_isLink_0 rfl rfl ?_
  refine g_zif_lt (a := z) (tgt := 19) rfl dX10_isLink_1 (by decide) (by omega) (fun c => ?_) (fun c => ?_)
  · refine g_iconst (v := bI false) dX10_isLink_19 (by decide) ?_
    refine g_zreturn dX10_isLink_20 rfl (bI_nar _) ?_
    exact ⟨by rw [decide_eq_false (by omega)], rfl⟩
  · refine g_iload_n 1 dX10_isLink_4 rfl rfl ?_
    refine g_i2l dX10_isLink_5 ?_
    rw [jI_l (by omega) (by omega)]
    refine g_aload_n 0 dX10_isLink_6 rfl rfl ?_
    refine g_iconst (v := nI 0) dX10_isLink_7 (by decide) ?_
    refine g_invv (M' := mX10_of) (As := [.int (nI 0)]) (rest := [.long (jL z)]) dX10_isLink_8 ml_X10_48 okX10_of imX10_of seX10_of ⟨(Nat.le_of_ble_eq_true rfl), (Nat.le_of_ble_eq_true rfl)⟩ (ci := 10) rfl rfl r.1.1 rfl rfl (Nat.le_of_ble_eq_true rfl) (c_ofN r (by omega) (by unfold nSp; omega)) ?_
    rintro _ q1 ⟨rfl, eq1⟩
    subst q1
    show zG l w mX10_isLink 11 [(0, .ref m), (1, .int (jI z))] [.long (jL (nA N 0)), .long (jL z)] h _
    refine g_lif_ge (a := z) (b := (nA N 0)) (tgt := 19) dX10_isLink_11 rfl dX10_isLink_12 (by decide) (by omega) (by omega) (fun d => ?_) (fun d => ?_)
    · refine g_iconst (v := bI false) dX10_isLink_19 (by decide) ?_
      refine g_zreturn dX10_isLink_20 rfl (bI_nar _) ?_
      exact ⟨by rw [decide_eq_false (by omega)], rfl⟩
    · refine g_iconst (v := bI true) dX10_isLink_15 (by decide) ?_
      refine g_goto (tgt := 20) dX10_isLink_16 (by decide) ?_
      refine g_zreturn dX10_isLink_20 rfl (bI_nar _) ?_
      exact ⟨by rw [decide_eq_true (by omega)], rfl⟩
theorem c_isFlow (r : MoN h m N) (H : 0 ≤ nA N 1 ∧ nA N 1 ≤ 6) {z : Int} (zb : -2147483648 ≤ z ∧ z < 2147483648) : zM l w mX10_isFlow [.ref m, .int (jI z)] h (fun u h1 => u = some (.int (bI (decide (0 ≤ z ∧ z < nA N 1)))) ∧ h1 = h) := by
  refine zM.of (by decide) (Nat.le_of_ble_eq_true rfl) ?_
  refine g_iload_n 1 dX10_isFlow_0 rfl rfl ?_
  refine g_zif_lt (a := z) (tgt := 19) rfl dX10_isFlow_1 (by decide) (by omega) (fun c => ?_) (fun c => ?_)
  · refine g_iconst (v := bI false) dX10_isFlow_19 (by decide) ?_
    refine g_zreturn dX10_isFlow_20 rfl (bI_nar _) ?_
    exact ⟨by rw [decide_eq_false (by omega)], rfl⟩
  · refine g_iload_n 1 dX10_isFlow_4 rfl rfl ?_
    refine g_i2l dX10_isFlow_5 ?_
    rw [jI_l (by omega) (by omega)]
    refine g_aload_n 0 dX10_isFlow_6 rfl rfl ?_
    refine g_iconst (v := nI 1) dX10_isFlow_7 (by decide) ?_
    refine g_invv (M' := mX10_of) (As := [.int (nI 1)]) (rest := [.long (jL z)]) dX10_isFlow_8 ml_X10_48 okX10_of imX10_of seX10_of ⟨(Nat.le_of_ble_eq_true rfl), (Nat.le_of_ble_eq_true rfl)⟩ (ci := 10) rfl rfl r.1.1 rfl rfl (Nat.le_of_ble_eq_true rfl) (c_ofN r (by omega) (by unfold nSp; omega)) ?_
    rintro _ q1 ⟨rfl, eq1⟩
    subst q1
    show zG l w mX10_isFlow 11 [(0, .ref m), (1, .int (jI z))] [.long (jL (nA N 1)), .long (jL z)] h _
    refine g_lif_ge (a := z) (b := (nA N 1)) (tgt := 19) dX10_isFlow_11 rfl dX10_isFlow_12 (by decide) (by omega) (by omega) (fun d => ?_) (fun d => ?_)
    · refine g_iconst (v := bI false) dX10_isFlow_19 (by decide) ?_
      refine g_zreturn dX10_isFlow_20 rfl (bI_nar _) ?_
      exact ⟨by rw [decide_eq_false (by omega)], rfl⟩
    · refine g_iconst (v := bI true) dX10_isFlow_15 (by decide) ?_
      refine g_goto (tgt := 20) dX10_isFlow_16 (by decide) ?_
      refine g_zreturn dX10_isFlow_20 rfl (bI_nar _) ?_
      exact ⟨by rw [decide_eq_true (by omega)], rfl⟩
def lkv (N : nT) (a k : Nat) : Int := if k = 4 then ((nR N a).length : Int) else if k = 5 then ((nW N a).length : Int) else nA N (8 + 40 * a + k)
theorem c_ofLinkQ (r : MoN h m N) {a k : Nat} (ha : a < 6) (hk : k < 40) : zM l w mX10_ofLink [.ref m, .int (nI a), .int (nI k)] h (fun v h1 => v = some (.long (jL (lkv N a k))) ∧ h1 = h) := by
  unfold lkv
  by_cases c4 : k = 4
  · rw [c4, if_pos rfl, jL_nat]; exact c_ofStood r ha
  · rw [if_neg c4]
    by_cases c5 : k = 5
    · rw [c5, if_pos rfl, jL_nat]; exact c_ofWired r ha
    · rw [if_neg c5]; exact c_ofLinkN r (by omega) (by unfold nSp; omega)
/-- what link answers: the status, the number -/
def qLink (N : nT) (z k : Int) : Int × Int := if 0 ≤ k ∧ k ≤ 17 then (if 0 ≤ z ∧ z < nA N 0 then (0, lkv N z.toNat k.toNat) else (2, -1)) else (1, -1)
theorem c_linkM (r : MoN h m N) (H0 : 0 ≤ nA N 0 ∧ nA N 0 ≤ 6) {z k : Int} (zb : -2147483648 ≤ z ∧ z < 2147483648) (kb : -2147483648 ≤ k ∧ k < 2147483648) : zM l w mX10_link [.ref m, .int (jI z), .int (jI k)] h (fun u h1 => u = some (.int (jI (qLink N z k).2)) ∧ h1 = zSi h 321 m (jI (qLink N z k).1)) := by
  refine zM.of (by decide) (Nat.le_of_ble_eq_true rfl) ?_
  refine g_iload_n 2 dX10_link_0 rfl rfl ?_
  refine g_i2l dX10_link_1 ?_
  rw [jI_l (by omega) (by omega)]
  refine g_lconst (v := jL 0) dX10_link_2 (by decide) ?_
  refine g_ldc2J (z := 17) dX10_link_3 kl_X10_314 (by decide) ?_
  refine g_invs (M' := mX10_isFrom) (As := [.long (jL k), .long (jL 0), .long (jL 17)]) (rest := []) dX10_link_6 ml_X10_252 okX10_isFrom stX10_isFrom ⟨(Nat.le_of_ble_eq_true rfl), (Nat.le_of_ble_eq_true rfl)⟩ rfl rfl (Nat.le_of_ble_eq_true rfl) (c_isFrom (by omega) (by omega) (by omega)) ?_
  rintro _ q1 ⟨rfl, eq1⟩
  subst q1
  show zG l w mX10_link 9 [(0, .ref m), (1, .int (jI z)), (2, .int (jI k))] [.int (bI (decide (0 ≤ k ∧ k ≤ 17)))] h _
  refine g_bif_ne (tgt := 18) dX10_link_9 (by decide) (fun c => ?_) (fun c => ?_)
  · have c := of_decide_eq_true c
    refine g_aload_n 0 dX10_link_18 rfl rfl ?_
    refine g_iload_n 1 dX10_link_19 rfl rfl ?_
    refine g_invv (M' := mX10_isLink) (As := [.int (jI z)]) (rest := []) dX10_link_20 ml_X10_316 okX10_isLink imX10_isLink seX10_isLink ⟨(Nat.le_of_ble_eq_true rfl), (Nat.le_of_ble_eq_true rfl)⟩ (ci := 10) rfl rfl r.1.1 rfl rfl (Nat.le_of_ble_eq_true rfl) (c_isLink r H0 (by omega)) ?_
    rintro _ q3 ⟨rfl, eq3⟩
    subst q3
    show zG l w mX10_link 23 [(0, .ref m), (1, .int (jI z)), (2, .int (jI k))] [.int (bI (decide (0 ≤ z ∧ z < nA N 0)))] h _
    refine g_bif_eq (tgt := 39) dX10_link_23 (by decide) (fun d => ?_) (fun d => ?_)
    · have d := of_decide_eq_false d
      refine g_aload_n 0 dX10_link_39 rfl rfl ?_
      refine g_iconst (v := nI 2) dX10_link_40 (by decide) ?_
      refine g_invv (M' := mX10_refuse) (As := [.int (nI 2)]) (rest := []) dX10_link_41 ml_X10_289 okX10_refuse imX10_refuse seX10_refuse ⟨(Nat.le_of_ble_eq_true rfl), (Nat.le_of_ble_eq_true rfl)⟩ (ci := 10) rfl rfl r.1.1 rfl rfl (Nat.le_of_ble_eq_true rfl) (c_refuse r.1.1) ?_
      rintro _ q4 ⟨rfl, eq4⟩
      subst q4
      show zG l w mX10_link 44 [(0, .ref m), (1, .int (jI z)), (2, .int (jI k))] [.int (-1)] (zSi h 321 m (nI 2)) _
      refine g_ireturn dX10_link_44 rfl ?_
      rw [show qLink N z k = (2, -1) by unfold qLink; rw [if_pos c, if_neg d]]
      exact ⟨rfl, rfl⟩
    · have d := of_decide_eq_true d
      have eq : qLink N z k = (0, lkv N z.toNat k.toNat) := by unfold qLink; rw [if_pos c, if_pos d]
      rw [eq]
      obtain ⟨a, ea⟩ : ∃ a : Nat, z = (a : Int) := ⟨_, (Int.toNat_of_nonneg d.1).symm⟩
      subst ea
      obtain ⟨j, ej⟩ : ∃ j : Nat, k = (j : Int) := ⟨_, (Int.toNat_of_nonneg c.1).symm⟩
      subst ej
      simp only [jI_nat]
      refine g_aload_n 0 dX10_link_26 rfl rfl ?_
      refine g_aload_n 0 dX10_link_27 rfl rfl ?_
      refine g_iload_n 1 dX10_link_28 rfl rfl ?_
      refine g_iload_n 2 dX10_link_29 rfl rfl ?_
      refine g_invv (M' := mX10_ofLink) (As := [.int (nI a), .int (nI j)]) (rest := [.ref m]) dX10_link_30 ml_X10_69 okX10_ofLink imX10_ofLink seX10_ofLink ⟨(Nat.le_of_ble_eq_true rfl), (Nat.le_of_ble_eq_true rfl)⟩ (ci := 10) rfl rfl r.1.1 rfl rfl (Nat.le_of_ble_eq_true rfl) (c_ofLinkQ r (by omega) (by omega)) ?_
      rintro _ q5 ⟨rfl, eq5⟩
      subst q5
      show zG l w mX10_link 33 [(0, .ref m), (1, .int (nI a)), (2, .int (nI j))] [.long (jL (lkv N a j)), .ref m] h _
      refine g_invv (M' := mX10_gives) (As := [.long (jL (lkv N a j))]) (rest := []) dX10_link_33 ml_X10_298 okX10_gives imX10_gives seX10_gives ⟨(Nat.le_of_ble_eq_true rfl), (Nat.le_of_ble_eq_true rfl)⟩ (ci := 10) rfl rfl r.1.1 rfl rfl (Nat.le_of_ble_eq_true rfl) (c_gives r.1.1) ?_
      rintro _ q6 ⟨rfl, eq6⟩
      subst q6
      show zG l w mX10_link 36 [(0, .ref m), (1, .int (nI a)), (2, .int (nI j))] [.int (jI (lkv N a j))] (zSi h 321 m (nI 0)) _
      refine g_goto (tgt := 44) dX10_link_36 (by decide) ?_
      refine g_ireturn dX10_link_44 rfl ?_
      exact ⟨rfl, rfl⟩
  · have c := of_decide_eq_false c
    refine g_aload_n 0 dX10_link_12 rfl rfl ?_
    refine g_iconst (v := nI 1) dX10_link_13 (by decide) ?_
    refine g_invv (M' := mX10_refuse) (As := [.int (nI 1)]) (rest := []) dX10_link_14 ml_X10_289 okX10_refuse imX10_refuse seX10_refuse ⟨(Nat.le_of_ble_eq_true rfl), (Nat.le_of_ble_eq_true rfl)⟩ (ci := 10) rfl rfl r.1.1 rfl rfl (Nat.le_of_ble_eq_true rfl) (c_refuse r.1.1) ?_
    rintro _ q2 ⟨rfl, eq2⟩
    subst q2
    show zG l w mX10_link 17 [(0, .ref m), (1, .int (jI z)), (2, .int (jI k))] [.int (-1)] (zSi h 321 m (nI 1)) _
    refine g_ireturn dX10_link_17 rfl ?_
    rw [show qLink N z k = (1, -1) by unfold qLink; rw [if_neg c]]
    exact ⟨rfl, rfl⟩
theorem c_tellS (c : CX h b π ls N X t) {a : Nat} (ha : (a : Int) < nA N 0) (a6 : a < 6) {k : Nat} (k8 : 8 ≤ k ∧ k < 14) : zM l w mX4_tellSurplus [.ref (b + 11 + 7 * a), .int (nI k)] h (fun u h1 => u = some (.int (jI (nA N (8 + 40 * a + k)))) ∧ h1 = h) := by
  refine zM.of (by decide) (Nat.le_of_ble_eq_true rfl) ?_
  rcases (show k = 8 ∨ k = 9 ∨ k = 10 ∨ k = 11 ∨ k = 12 ∨ k = 13 by omega) with rfl | rfl | rfl | rfl | rfl | rfl
  · refine g_iload_n 1 dX4_tellSurplus_0 rfl rfl ?_
    refine g_tableIn (off := 35) (tgt := 36) dX4_tellSurplus_1 (by decide) (by decide) (by decide) (by decide) ?_
    refine g_aload_n 0 dX4_tellSurplus_36 rfl rfl ?_
    refine g_getr (f := 140) (b := b + 11 + 7 * a + 6) dX4_tellSurplus_37 fl_X4_34 (c.1.2.2.2.2.2.2.2.2.1 a a6).2.1 rfl (c.1.2.2.2.2.2.2.2.2.1 a a6).2.2.2.2.2.1 ?_
    refine g_getl (f := 224) dX4_tellSurplus_40 fl_X4_157 (c.1.2.2.2.2.2.2.2.2.1 a a6).2.2.2.2.2.2 rfl ?_
    rw [show zl h 224 (b + 11 + 7 * a + 6) = jL (nA N (8 + 40 * a + 8)) from (c.2.2.2.1 a ha a6).2.2.1 8 (by omega) (by omega)]
    refine g_l2i dX4_tellSurplus_43 ?_
    rw [jL_i]
    refine g_ireturn dX4_tellSurplus_44 rfl ?_
    exact ⟨rfl, rfl⟩
  · refine g_iload_n 1 dX4_tellSurplus_0 rfl rfl ?_
    refine g_tableIn (off := 44) (tgt := 45) dX4_tellSurplus_1 (by decide) (by decide) (by decide) (by decide) ?_
    refine g_aload_n 0 dX4_tellSurplus_45 rfl rfl ?_
    refine g_getr (f := 140) (b := b + 11 + 7 * a + 6) dX4_tellSurplus_46 fl_X4_34 (c.1.2.2.2.2.2.2.2.2.1 a a6).2.1 rfl (c.1.2.2.2.2.2.2.2.2.1 a a6).2.2.2.2.2.1 ?_
    refine g_getl (f := 225) dX4_tellSurplus_49 fl_X4_160 (c.1.2.2.2.2.2.2.2.2.1 a a6).2.2.2.2.2.2 rfl ?_
    rw [show zl h 225 (b + 11 + 7 * a + 6) = jL (nA N (8 + 40 * a + 9)) from (c.2.2.2.1 a ha a6).2.2.1 9 (by omega) (by omega)]
    refine g_l2i dX4_tellSurplus_52 ?_
    rw [jL_i]
    refine g_ireturn dX4_tellSurplus_53 rfl ?_
    exact ⟨rfl, rfl⟩
  · refine g_iload_n 1 dX4_tellSurplus_0 rfl rfl ?_
    refine g_tableIn (off := 53) (tgt := 54) dX4_tellSurplus_1 (by decide) (by decide) (by decide) (by decide) ?_
    refine g_aload_n 0 dX4_tellSurplus_54 rfl rfl ?_
    refine g_getr (f := 140) (b := b + 11 + 7 * a + 6) dX4_tellSurplus_55 fl_X4_34 (c.1.2.2.2.2.2.2.2.2.1 a a6).2.1 rfl (c.1.2.2.2.2.2.2.2.2.1 a a6).2.2.2.2.2.1 ?_
    refine g_getl (f := 226) dX4_tellSurplus_58 fl_X4_163 (c.1.2.2.2.2.2.2.2.2.1 a a6).2.2.2.2.2.2 rfl ?_
    rw [show zl h 226 (b + 11 + 7 * a + 6) = jL (nA N (8 + 40 * a + 10)) from (c.2.2.2.1 a ha a6).2.2.1 10 (by omega) (by omega)]
    refine g_l2i dX4_tellSurplus_61 ?_
    rw [jL_i]
    refine g_ireturn dX4_tellSurplus_62 rfl ?_
    exact ⟨rfl, rfl⟩
  · refine g_iload_n 1 dX4_tellSurplus_0 rfl rfl ?_
    refine g_tableIn (off := 62) (tgt := 63) dX4_tellSurplus_1 (by decide) (by decide) (by decide) (by decide) ?_
    refine g_aload_n 0 dX4_tellSurplus_63 rfl rfl ?_
    refine g_getr (f := 140) (b := b + 11 + 7 * a + 6) dX4_tellSurplus_64 fl_X4_34 (c.1.2.2.2.2.2.2.2.2.1 a a6).2.1 rfl (c.1.2.2.2.2.2.2.2.2.1 a a6).2.2.2.2.2.1 ?_
    refine g_getl (f := 227) dX4_tellSurplus_67 fl_X4_166 (c.1.2.2.2.2.2.2.2.2.1 a a6).2.2.2.2.2.2 rfl ?_
    rw [show zl h 227 (b + 11 + 7 * a + 6) = jL (nA N (8 + 40 * a + 11)) from (c.2.2.2.1 a ha a6).2.2.1 11 (by omega) (by omega)]
    refine g_l2i dX4_tellSurplus_70 ?_
    rw [jL_i]
    refine g_ireturn dX4_tellSurplus_71 rfl ?_
    exact ⟨rfl, rfl⟩
  · refine g_iload_n 1 dX4_tellSurplus_0 rfl rfl ?_
    refine g_tableIn (off := 71) (tgt := 72) dX4_tellSurplus_1 (by decide) (by decide) (by decide) (by decide) ?_
    refine g_aload_n 0 dX4_tellSurplus_72 rfl rfl ?_
    refine g_getr (f := 140) (b := b + 11 + 7 * a + 6) dX4_tellSurplus_73 fl_X4_34 (c.1.2.2.2.2.2.2.2.2.1 a a6).2.1 rfl (c.1.2.2.2.2.2.2.2.2.1 a a6).2.2.2.2.2.1 ?_
    refine g_getl (f := 228) dX4_tellSurplus_76 fl_X4_169 (c.1.2.2.2.2.2.2.2.2.1 a a6).2.2.2.2.2.2 rfl ?_
    rw [show zl h 228 (b + 11 + 7 * a + 6) = jL (nA N (8 + 40 * a + 12)) from (c.2.2.2.1 a ha a6).2.2.1 12 (by omega) (by omega)]
    refine g_l2i dX4_tellSurplus_79 ?_
    rw [jL_i]
    refine g_ireturn dX4_tellSurplus_80 rfl ?_
    exact ⟨rfl, rfl⟩
  · refine g_iload_n 1 dX4_tellSurplus_0 rfl rfl ?_
    refine g_tableOut (tgt := 81) dX4_tellSurplus_1 (by decide) (by decide) ?_
    refine g_aload_n 0 dX4_tellSurplus_81 rfl rfl ?_
    refine g_getr (f := 140) (b := b + 11 + 7 * a + 6) dX4_tellSurplus_82 fl_X4_34 (c.1.2.2.2.2.2.2.2.2.1 a a6).2.1 rfl (c.1.2.2.2.2.2.2.2.2.1 a a6).2.2.2.2.2.1 ?_
    refine g_getl (f := 229) dX4_tellSurplus_85 fl_X4_172 (c.1.2.2.2.2.2.2.2.2.1 a a6).2.2.2.2.2.2 rfl ?_
    rw [show zl h 229 (b + 11 + 7 * a + 6) = jL (nA N (8 + 40 * a + 13)) from (c.2.2.2.1 a ha a6).2.2.1 13 (by omega) (by omega)]
    refine g_l2i dX4_tellSurplus_88 ?_
    rw [jL_i]
    refine g_ireturn dX4_tellSurplus_89 rfl ?_
    exact ⟨rfl, rfl⟩
theorem c_tellL (c : CX h b π ls N X t) {a : Nat} (ha : (a : Int) < nA N 0) (a6 : a < 6) {k : Nat} (k17 : k ≤ 17) : zM l w mX4_tell [.ref (b + 11 + 7 * a), .int (nI k)] h (fun u h1 => u = some (.int (jI (lkv N a k))) ∧ h1 = h) := by
  refine zM.of (by decide) (Nat.le_of_ble_eq_true rfl) ?_
  have eR : (ls (b + 11 + 7 * a + 1)).length = (nR N a).length := by rw [(c.2.2.2.2.2.1.2.2.2.1 a a6).1, List.length_map]
  have eW : (ls (b + 11 + 7 * a + 2)).length = (nW N a).length := by rw [(c.2.2.2.2.2.1.2.2.2.1 a a6).2.1, List.length_map]
  rcases (show k = 0 ∨ k = 1 ∨ k = 2 ∨ k = 3 ∨ k = 4 ∨ k = 5 ∨ k = 6 ∨ k = 7 ∨ k = 8 ∨ k = 9 ∨ k = 10 ∨ k = 11 ∨ k = 12 ∨ k = 13 ∨ k = 14 ∨ k = 15 ∨ k = 16 ∨ k = 17 by omega) with rfl | rfl | rfl | rfl | rfl | rfl | rfl | rfl | rfl | rfl | rfl | rfl | rfl | rfl | rfl | rfl | rfl | rfl
  · refine g_iload_n 1 dX4_tell_0 rfl rfl ?_
    refine g_tableIn (off := 87) (tgt := 88) dX4_tell_1 (by decide) (by decide) (by decide) (by decide) ?_
    refine g_aload_n 0 dX4_tell_88 rfl rfl ?_
    refine g_geti (f := 128) dX4_tell_89 fl_X4_38 (c.1.2.2.2.2.2.2.2.2.1 a a6).2.1 (by decide) rfl ?_
    rw [show zi h 128 (b + 11 + 7 * a) = jI (nA N (8 + 40 * a + 0)) from (c.2.2.2.1 a ha a6).1 0 (by unfold lkJ; omega)]
    refine g_ireturn dX4_tell_92 rfl ?_
    exact ⟨rfl, rfl⟩
  · refine g_iload_n 1 dX4_tell_0 rfl rfl ?_
    refine g_tableIn (off := 92) (tgt := 93) dX4_tell_1 (by decide) (by decide) (by decide) (by decide) ?_
    refine g_aload_n 0 dX4_tell_93 rfl rfl ?_
    refine g_geti (f := 129) dX4_tell_94 fl_X4_63 (c.1.2.2.2.2.2.2.2.2.1 a a6).2.1 (by decide) rfl ?_
    rw [show zi h 129 (b + 11 + 7 * a) = jI (nA N (8 + 40 * a + 1)) from (c.2.2.2.1 a ha a6).1 1 (by unfold lkJ; omega)]
    refine g_ireturn dX4_tell_97 rfl ?_
    exact ⟨rfl, rfl⟩
  · refine g_iload_n 1 dX4_tell_0 rfl rfl ?_
    refine g_tableIn (off := 97) (tgt := 98) dX4_tell_1 (by decide) (by decide) (by decide) (by decide) ?_
    refine g_aload_n 0 dX4_tell_98 rfl rfl ?_
    refine g_geti (f := 130) dX4_tell_99 fl_X4_42 (c.1.2.2.2.2.2.2.2.2.1 a a6).2.1 (by decide) rfl ?_
    rw [show zi h 130 (b + 11 + 7 * a) = jI (nA N (8 + 40 * a + 2)) from (c.2.2.2.1 a ha a6).1 2 (by unfold lkJ; omega)]
    refine g_ireturn dX4_tell_102 rfl ?_
    exact ⟨rfl, rfl⟩
  · refine g_iload_n 1 dX4_tell_0 rfl rfl ?_
    refine g_tableIn (off := 102) (tgt := 103) dX4_tell_1 (by decide) (by decide) (by decide) (by decide) ?_
    refine g_aload_n 0 dX4_tell_103 rfl rfl ?_
    refine g_geti (f := 131) dX4_tell_104 fl_X4_45 (c.1.2.2.2.2.2.2.2.2.1 a a6).2.1 (by decide) rfl ?_
    rw [show zi h 131 (b + 11 + 7 * a) = jI (nA N (8 + 40 * a + 3)) from (c.2.2.2.1 a ha a6).1 3 (by unfold lkJ; omega)]
    refine g_ireturn dX4_tell_107 rfl ?_
    exact ⟨rfl, rfl⟩
  · refine g_iload_n 1 dX4_tell_0 rfl rfl ?_
    refine g_tableIn (off := 107) (tgt := 108) dX4_tell_1 (by decide) (by decide) (by decide) (by decide) ?_
    refine g_aload_n 0 dX4_tell_108 rfl rfl ?_
    refine g_getr (f := 132) (b := b + 11 + 7 * a + 1) dX4_tell_109 fl_X4_12 (c.1.2.2.2.2.2.2.2.2.1 a a6).2.1 rfl (c.1.2.2.2.2.2.2.2.2.1 a a6).2.2.1.1 ?_
    refine g_geti (f := 98) dX4_tell_112 fl_X4_89 (c.1.2.2.2.2.2.2.2.2.1 a a6).2.2.1.2 (by decide) rfl ?_
    rw [show zi h 98 (b + 11 + 7 * a + 1) = nI (ls (b + 11 + 7 * a + 1)).length from (c.2.1.1 _ (c.1.iR a6)).2.2.1]
    refine g_ireturn dX4_tell_115 rfl ?_
    exact ⟨by rw [eR, ← jI_nat]; rfl, rfl⟩
  · refine g_iload_n 1 dX4_tell_0 rfl rfl ?_
    refine g_tableIn (off := 115) (tgt := 116) dX4_tell_1 (by decide) (by decide) (by decide) (by decide) ?_
    refine g_aload_n 0 dX4_tell_116 rfl rfl ?_
    refine g_getr (f := 133) (b := b + 11 + 7 * a + 2) dX4_tell_117 fl_X4_18 (c.1.2.2.2.2.2.2.2.2.1 a a6).2.1 rfl (c.1.2.2.2.2.2.2.2.2.1 a a6).2.2.2.1.1 ?_
    refine g_geti (f := 98) dX4_tell_120 fl_X4_89 (c.1.2.2.2.2.2.2.2.2.1 a a6).2.2.2.1.2 (by decide) rfl ?_
    rw [show zi h 98 (b + 11 + 7 * a + 2) = nI (ls (b + 11 + 7 * a + 2)).length from (c.2.1.1 _ (c.1.iW a6)).2.2.1]
    refine g_ireturn dX4_tell_123 rfl ?_
    exact ⟨by rw [eW, ← jI_nat]; rfl, rfl⟩
  · refine g_iload_n 1 dX4_tell_0 rfl rfl ?_
    refine g_tableIn (off := 123) (tgt := 124) dX4_tell_1 (by decide) (by decide) (by decide) (by decide) ?_
    refine g_aload_n 0 dX4_tell_124 rfl rfl ?_
    refine g_geti (f := 134) dX4_tell_125 fl_X4_66 (c.1.2.2.2.2.2.2.2.2.1 a a6).2.1 (by decide) rfl ?_
    rw [show zi h 134 (b + 11 + 7 * a) = jI (nA N (8 + 40 * a + 6)) from (c.2.2.2.1 a ha a6).1 6 (by unfold lkJ; omega)]
    refine g_ireturn dX4_tell_128 rfl ?_
    exact ⟨rfl, rfl⟩
  · refine g_iload_n 1 dX4_tell_0 rfl rfl ?_
    refine g_tableIn (off := 128) (tgt := 129) dX4_tell_1 (by decide) (by decide) (by decide) (by decide) ?_
    refine g_aload_n 0 dX4_tell_129 rfl rfl ?_
    refine g_geti (f := 135) dX4_tell_130 fl_X4_69 (c.1.2.2.2.2.2.2.2.2.1 a a6).2.1 (by decide) rfl ?_
    rw [show zi h 135 (b + 11 + 7 * a) = jI (nA N (8 + 40 * a + 7)) from (c.2.2.2.1 a ha a6).1 7 (by unfold lkJ; omega)]
    refine g_ireturn dX4_tell_133 rfl ?_
    exact ⟨rfl, rfl⟩
  · refine g_iload_n 1 dX4_tell_0 rfl rfl ?_
    refine g_tableIn (off := 153) (tgt := 154) dX4_tell_1 (by decide) (by decide) (by decide) (by decide) ?_
    refine g_aload_n 0 dX4_tell_154 rfl rfl ?_
    refine g_iload_n 1 dX4_tell_155 rfl rfl ?_
    refine g_invv (M' := mX4_tellSurplus) (As := [.int (nI 8)]) (rest := []) dX4_tell_156 ml_X4_154 okX4_tellSurplus imX4_tellSurplus seX4_tellSurplus ⟨(Nat.le_of_ble_eq_true rfl), (Nat.le_of_ble_eq_true rfl)⟩ (ci := 4) rfl rfl (c.1.2.2.2.2.2.2.2.2.1 a a6).2.1 rfl rfl (Nat.le_of_ble_eq_true rfl) (c_tellS c ha a6 (by omega)) ?_
    rintro _ q1 ⟨rfl, eq1⟩
    subst q1
    show zG l w mX4_tell 159 [(0, .ref (b + 11 + 7 * a)), (1, .int (nI 8))] [.int (jI (nA N (8 + 40 * a + 8)))] h _
    refine g_ireturn dX4_tell_159 rfl ?_
    exact ⟨rfl, rfl⟩
  · refine g_iload_n 1 dX4_tell_0 rfl rfl ?_
    refine g_tableIn (off := 153) (tgt := 154) dX4_tell_1 (by decide) (by decide) (by decide) (by decide) ?_
    refine g_aload_n 0 dX4_tell_154 rfl rfl ?_
    refine g_iload_n 1 dX4_tell_155 rfl rfl ?_
    refine g_invv (M' := mX4_tellSurplus) (As := [.int (nI 9)]) (rest := []) dX4_tell_156 ml_X4_154 okX4_tellSurplus imX4_tellSurplus seX4_tellSurplus ⟨(Nat.le_of_ble_eq_true rfl), (Nat.le_of_ble_eq_true rfl)⟩ (ci := 4) rfl rfl (c.1.2.2.2.2.2.2.2.2.1 a a6).2.1 rfl rfl (Nat.le_of_ble_eq_true rfl) (c_tellS c ha a6 (by omega)) ?_
    rintro _ q1 ⟨rfl, eq1⟩
    subst q1
    show zG l w mX4_tell 159 [(0, .ref (b + 11 + 7 * a)), (1, .int (nI 9))] [.int (jI (nA N (8 + 40 * a + 9)))] h _
    refine g_ireturn dX4_tell_159 rfl ?_
    exact ⟨rfl, rfl⟩
  · refine g_iload_n 1 dX4_tell_0 rfl rfl ?_
    refine g_tableIn (off := 153) (tgt := 154) dX4_tell_1 (by decide) (by decide) (by decide) (by decide) ?_
    refine g_aload_n 0 dX4_tell_154 rfl rfl ?_
    refine g_iload_n 1 dX4_tell_155 rfl rfl ?_
    refine g_invv (M' := mX4_tellSurplus) (As := [.int (nI 10)]) (rest := []) dX4_tell_156 ml_X4_154 okX4_tellSurplus imX4_tellSurplus seX4_tellSurplus ⟨(Nat.le_of_ble_eq_true rfl), (Nat.le_of_ble_eq_true rfl)⟩ (ci := 4) rfl rfl (c.1.2.2.2.2.2.2.2.2.1 a a6).2.1 rfl rfl (Nat.le_of_ble_eq_true rfl) (c_tellS c ha a6 (by omega)) ?_
    rintro _ q1 ⟨rfl, eq1⟩
    subst q1
    show zG l w mX4_tell 159 [(0, .ref (b + 11 + 7 * a)), (1, .int (nI 10))] [.int (jI (nA N (8 + 40 * a + 10)))] h _
    refine g_ireturn dX4_tell_159 rfl ?_
    exact ⟨rfl, rfl⟩
  · refine g_iload_n 1 dX4_tell_0 rfl rfl ?_
    refine g_tableIn (off := 153) (tgt := 154) dX4_tell_1 (by decide) (by decide) (by decide) (by decide) ?_
    refine g_aload_n 0 dX4_tell_154 rfl rfl ?_
    refine g_iload_n 1 dX4_tell_155 rfl rfl ?_
    refine g_invv (M' := mX4_tellSurplus) (As := [.int (nI 11)]) (rest := []) dX4_tell_156 ml_X4_154 okX4_tellSurplus imX4_tellSurplus seX4_tellSurplus ⟨(Nat.le_of_ble_eq_true rfl), (Nat.le_of_ble_eq_true rfl)⟩ (ci := 4) rfl rfl (c.1.2.2.2.2.2.2.2.2.1 a a6).2.1 rfl rfl (Nat.le_of_ble_eq_true rfl) (c_tellS c ha a6 (by omega)) ?_
    rintro _ q1 ⟨rfl, eq1⟩
    subst q1
    show zG l w mX4_tell 159 [(0, .ref (b + 11 + 7 * a)), (1, .int (nI 11))] [.int (jI (nA N (8 + 40 * a + 11)))] h _
    refine g_ireturn dX4_tell_159 rfl ?_
    exact ⟨rfl, rfl⟩
  · refine g_iload_n 1 dX4_tell_0 rfl rfl ?_
    refine g_tableIn (off := 153) (tgt := 154) dX4_tell_1 (by decide) (by decide) (by decide) (by decide) ?_
    refine g_aload_n 0 dX4_tell_154 rfl rfl ?_
    refine g_iload_n 1 dX4_tell_155 rfl rfl ?_
    refine g_invv (M' := mX4_tellSurplus) (As := [.int (nI 12)]) (rest := []) dX4_tell_156 ml_X4_154 okX4_tellSurplus imX4_tellSurplus seX4_tellSurplus ⟨(Nat.le_of_ble_eq_true rfl), (Nat.le_of_ble_eq_true rfl)⟩ (ci := 4) rfl rfl (c.1.2.2.2.2.2.2.2.2.1 a a6).2.1 rfl rfl (Nat.le_of_ble_eq_true rfl) (c_tellS c ha a6 (by omega)) ?_
    rintro _ q1 ⟨rfl, eq1⟩
    subst q1
    show zG l w mX4_tell 159 [(0, .ref (b + 11 + 7 * a)), (1, .int (nI 12))] [.int (jI (nA N (8 + 40 * a + 12)))] h _
    refine g_ireturn dX4_tell_159 rfl ?_
    exact ⟨rfl, rfl⟩
  · refine g_iload_n 1 dX4_tell_0 rfl rfl ?_
    refine g_tableIn (off := 153) (tgt := 154) dX4_tell_1 (by decide) (by decide) (by decide) (by decide) ?_
    refine g_aload_n 0 dX4_tell_154 rfl rfl ?_
    refine g_iload_n 1 dX4_tell_155 rfl rfl ?_
    refine g_invv (M' := mX4_tellSurplus) (As := [.int (nI 13)]) (rest := []) dX4_tell_156 ml_X4_154 okX4_tellSurplus imX4_tellSurplus seX4_tellSurplus ⟨(Nat.le_of_ble_eq_true rfl), (Nat.le_of_ble_eq_true rfl)⟩ (ci := 4) rfl rfl (c.1.2.2.2.2.2.2.2.2.1 a a6).2.1 rfl rfl (Nat.le_of_ble_eq_true rfl) (c_tellS c ha a6 (by omega)) ?_
    rintro _ q1 ⟨rfl, eq1⟩
    subst q1
    show zG l w mX4_tell 159 [(0, .ref (b + 11 + 7 * a)), (1, .int (nI 13))] [.int (jI (nA N (8 + 40 * a + 13)))] h _
    refine g_ireturn dX4_tell_159 rfl ?_
    exact ⟨rfl, rfl⟩
  · refine g_iload_n 1 dX4_tell_0 rfl rfl ?_
    refine g_tableIn (off := 133) (tgt := 134) dX4_tell_1 (by decide) (by decide) (by decide) (by decide) ?_
    refine g_aload_n 0 dX4_tell_134 rfl rfl ?_
    refine g_geti (f := 141) dX4_tell_135 fl_X4_51 (c.1.2.2.2.2.2.2.2.2.1 a a6).2.1 (by decide) rfl ?_
    rw [show zi h 141 (b + 11 + 7 * a) = jI (nA N (8 + 40 * a + 14)) from (c.2.2.2.1 a ha a6).1 14 (by unfold lkJ; omega)]
    refine g_ireturn dX4_tell_138 rfl ?_
    exact ⟨rfl, rfl⟩
  · refine g_iload_n 1 dX4_tell_0 rfl rfl ?_
    refine g_tableIn (off := 138) (tgt := 139) dX4_tell_1 (by decide) (by decide) (by decide) (by decide) ?_
    refine g_aload_n 0 dX4_tell_139 rfl rfl ?_
    refine g_geti (f := 142) dX4_tell_140 fl_X4_54 (c.1.2.2.2.2.2.2.2.2.1 a a6).2.1 (by decide) rfl ?_
    rw [show zi h 142 (b + 11 + 7 * a) = jI (nA N (8 + 40 * a + 15)) from (c.2.2.2.1 a ha a6).1 15 (by unfold lkJ; omega)]
    refine g_ireturn dX4_tell_143 rfl ?_
    exact ⟨rfl, rfl⟩
  · refine g_iload_n 1 dX4_tell_0 rfl rfl ?_
    refine g_tableIn (off := 143) (tgt := 144) dX4_tell_1 (by decide) (by decide) (by decide) (by decide) ?_
    refine g_aload_n 0 dX4_tell_144 rfl rfl ?_
    refine g_geti (f := 143) dX4_tell_145 fl_X4_86 (c.1.2.2.2.2.2.2.2.2.1 a a6).2.1 (by decide) rfl ?_
    rw [show zi h 143 (b + 11 + 7 * a) = jI (nA N (8 + 40 * a + 16)) from (c.2.2.2.1 a ha a6).1 16 (by unfold lkJ; omega)]
    refine g_ireturn dX4_tell_148 rfl ?_
    exact ⟨rfl, rfl⟩
  · refine g_iload_n 1 dX4_tell_0 rfl rfl ?_
    refine g_tableIn (off := 148) (tgt := 149) dX4_tell_1 (by decide) (by decide) (by decide) (by decide) ?_
    refine g_aload_n 0 dX4_tell_149 rfl rfl ?_
    refine g_geti (f := 144) dX4_tell_150 fl_X4_57 (c.1.2.2.2.2.2.2.2.2.1 a a6).2.1 (by decide) rfl ?_
    rw [show zi h 144 (b + 11 + 7 * a) = jI (nA N (8 + 40 * a + 17)) from (c.2.2.2.1 a ha a6).1 17 (by unfold lkJ; omega)]
    refine g_ireturn dX4_tell_153 rfl ?_
    exact ⟨rfl, rfl⟩
theorem c_linkC (c : CX h b π ls N [] t) (xo : XO h x b) (H0 : 0 ≤ nA N 0 ∧ nA N 0 ≤ 6) {z k : Int} (zb : -2147483648 ≤ z ∧ z < 2147483648) (kb : -2147483648 ≤ k ∧ k < 2147483648) : zM l w mX9_link [.ref x, .int (jI z), .int (jI k)] h (fun u h1 => u = some (.int (jI (qLink N z k).2)) ∧ h1 = zSi h 290 x (jI (qLink N z k).1)) := by
  refine zM.of (by decide) (Nat.le_of_ble_eq_true rfl) ?_
  refine g_iload_n 2 dX9_link_0 rfl rfl ?_
  refine g_zif_lt (a := k) (tgt := 10) rfl dX9_link_1 (by decide) (by omega) (fun g => ?_) (fun g => ?_)
  · refine g_aload_n 0 dX9_link_10 rfl rfl ?_
    refine g_iconst (v := nI 1) dX9_link_11 (by decide) ?_
    refine g_invv (M' := mX9_refuse) (As := [.int (nI 1)]) (rest := []) dX9_link_12 ml_X9_58 okX9_refuse imX9_refuse seX9_refuse ⟨(Nat.le_of_ble_eq_true rfl), (Nat.le_of_ble_eq_true rfl)⟩ (ci := 9) rfl rfl xo.1 rfl rfl (Nat.le_of_ble_eq_true rfl) (c_refC xo.1) ?_
    rintro _ q1 ⟨rfl, eq1⟩
    subst q1
    show zG l w mX9_link 15 [(0, .ref x), (1, .int (jI z)), (2, .int (jI k))] [.int (-1)] (zSi h 290 x (nI 1)) _
    refine g_ireturn dX9_link_15 rfl ?_
    rw [show qLink N z k = (1, -1) by unfold qLink; rw [if_neg (by omega)]]
    exact ⟨rfl, rfl⟩
  · refine g_iload_n 2 dX9_link_4 rfl rfl ?_
    refine g_bipush (v := nI 17) dX9_link_5 (by decide) ?_
    refine g_zcmp_le (a := k) (b := 17) (tgt := 16) rfl (by decide) dX9_link_7 (by decide) (by omega) (by omega) (fun g2 => ?_) (fun g2 => ?_)
    · refine g_aload_n 0 dX9_link_16 rfl rfl ?_
      refine g_getr (f := 293) (b := b) dX9_link_17 fl_X9_23 xo.1 rfl xo.2 ?_
      refine g_iload_n 1 dX9_link_20 rfl rfl ?_
      by_cases d : 0 ≤ z ∧ z < nA N 0
      · have eq : qLink N z k = (0, lkv N z.toNat k.toNat) := by unfold qLink; rw [if_pos (by omega), if_pos d]
        rw [eq]
        obtain ⟨a, ea⟩ : ∃ a : Nat, z = (a : Int) := ⟨_, (Int.toNat_of_nonneg d.1).symm⟩
        subst ea
        obtain ⟨j, ej⟩ : ∃ j : Nat, k = (j : Int) := ⟨_, (Int.toNat_of_nonneg (by omega)).symm⟩
        subst ej
        simp only [jI_nat]
        refine g_invv (M' := mX5_linkAt) (As := [.int (nI a)]) (rest := []) dX9_link_21 ml_X9_118 okX5_linkAt imX5_linkAt seX5_linkAt ⟨(Nat.le_of_ble_eq_true rfl), (Nat.le_of_ble_eq_true rfl)⟩ (ci := 5) rfl rfl c.1.1.2 rfl rfl (Nat.le_of_ble_eq_true rfl) (c_linkIn c H0 d.2) ?_
        rintro _ q3 ⟨rfl, eq3⟩
        subst q3
        show zG l w mX9_link 24 [(0, .ref x), (1, .int (nI a)), (2, .int (nI j))] [.ref (b + 11 + 7 * a)] h _
        refine g_astore_n (lv2 := [(3, .ref (b + 11 + 7 * a)), (0, .ref x), (1, .int (nI a)), (2, .int (nI j))]) dX9_link_24 rfl (by decide) rfl ?_
        refine g_aload_n 0 dX9_link_25 rfl rfl ?_
        refine g_ifnonnull (tgt := 35) dX9_link_26 (by decide) ?_
        refine g_aload_n 1 dX9_link_35 rfl rfl ?_
        refine g_aload_n 0 dX9_link_36 rfl rfl ?_
        refine g_iload_n 3 dX9_link_37 rfl rfl ?_
        refine g_invv (M' := mX4_tell) (As := [.int (nI j)]) (rest := [.ref x]) dX9_link_38 ml_X9_122 okX4_tell imX4_tell seX4_tell ⟨(Nat.le_of_ble_eq_true rfl), (Nat.le_of_ble_eq_true rfl)⟩ (ci := 4) rfl rfl (c.1.2.2.2.2.2.2.2.2.1 a (by omega)).2.1 rfl rfl (Nat.le_of_ble_eq_true rfl) (c_tellL c d.2 (by omega) (by omega)) ?_
        rintro _ q4 ⟨rfl, eq4⟩
        subst q4
        show zG l w mX9_link 41 [(3, .ref (b + 11 + 7 * a)), (0, .ref x), (1, .int (nI a)), (2, .int (nI j))] [.int (jI (lkv N a j)), .ref x] h _
        refine g_invv (M' := mX9_answer) (As := [.int (jI (lkv N a j))]) (rest := []) dX9_link_41 ml_X9_75 okX9_answer imX9_answer seX9_answer ⟨(Nat.le_of_ble_eq_true rfl), (Nat.le_of_ble_eq_true rfl)⟩ (ci := 9) rfl rfl xo.1 rfl rfl (Nat.le_of_ble_eq_true rfl) (c_ans xo.1) ?_
        rintro _ q5 ⟨rfl, eq5⟩
        subst q5
        show zG l w mX9_link 44 [(3, .ref (b + 11 + 7 * a)), (0, .ref x), (1, .int (nI a)), (2, .int (nI j))] [.int (jI (lkv N a j))] (zSi h 290 x (nI 0)) _
        refine g_ireturn dX9_link_44 rfl ?_
        exact ⟨rfl, rfl⟩
      · refine g_invv (M' := mX5_linkAt) (As := [.int (jI z)]) (rest := []) dX9_link_21 ml_X9_118 okX5_linkAt imX5_linkAt seX5_linkAt ⟨(Nat.le_of_ble_eq_true rfl), (Nat.le_of_ble_eq_true rfl)⟩ (ci := 5) rfl rfl c.1.1.2 rfl rfl (Nat.le_of_ble_eq_true rfl) (c_linkOut c H0 zb d) ?_
        rintro _ q6 ⟨rfl, eq6⟩
        subst q6
        show zG l w mX9_link 24 [(0, .ref x), (1, .int (jI z)), (2, .int (jI k))] [.null] h _
        refine g_astore_nN (lv2 := [(3, .null), (0, .ref x), (1, .int (jI z)), (2, .int (jI k))]) dX9_link_24 rfl (by decide) rfl ?_
        refine g_aload_nN 0 dX9_link_25 rfl rfl ?_
        refine g_ifnonnullN dX9_link_26 ?_
        refine g_aload_n 1 dX9_link_29 rfl rfl ?_
        refine g_iconst (v := nI 2) dX9_link_30 (by decide) ?_
        refine g_invv (M' := mX9_refuse) (As := [.int (nI 2)]) (rest := []) dX9_link_31 ml_X9_58 okX9_refuse imX9_refuse seX9_refuse ⟨(Nat.le_of_ble_eq_true rfl), (Nat.le_of_ble_eq_true rfl)⟩ (ci := 9) rfl rfl xo.1 rfl rfl (Nat.le_of_ble_eq_true rfl) (c_refC xo.1) ?_
        rintro _ q7 ⟨rfl, eq7⟩
        subst q7
        show zG l w mX9_link 34 [(3, .null), (0, .ref x), (1, .int (jI z)), (2, .int (jI k))] [.int (-1)] (zSi h 290 x (nI 2)) _
        refine g_ireturn dX9_link_34 rfl ?_
        rw [show qLink N z k = (2, -1) by unfold qLink; rw [if_pos (by omega), if_neg d]]
        exact ⟨rfl, rfl⟩
    · refine g_aload_n 0 dX9_link_10 rfl rfl ?_
      refine g_iconst (v := nI 1) dX9_link_11 (by decide) ?_
      refine g_invv (M' := mX9_refuse) (As := [.int (nI 1)]) (rest := []) dX9_link_12 ml_X9_58 okX9_refuse imX9_refuse seX9_refuse ⟨(Nat.le_of_ble_eq_true rfl), (Nat.le_of_ble_eq_true rfl)⟩ (ci := 9) rfl rfl xo.1 rfl rfl (Nat.le_of_ble_eq_true rfl) (c_refC xo.1) ?_
      rintro _ q2 ⟨rfl, eq2⟩
      subst q2
      show zG l w mX9_link 15 [(0, .ref x), (1, .int (jI z)), (2, .int (jI k))] [.int (-1)] (zSi h 290 x (nI 1)) _
      refine g_ireturn dX9_link_15 rfl ?_
      rw [show qLink N z k = (1, -1) by unfold qLink; rw [if_neg (by omega)]]
      exact ⟨rfl, rfl⟩
end QA
