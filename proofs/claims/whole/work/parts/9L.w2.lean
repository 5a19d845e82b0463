section QM2
variable {l : Launch} {w : zW} {h : zH} {m x b : Nat} {π : Nat → Nat} {ls : Nat → List Nat} {N : nT} {X : List Nat} {t : Nat}
theorem c_isOnI (r : MoN h m N) (hI : iN X N) {f : Nat} (hf : (f : Int) < nA N 1) : zM l w mX10_isOn [.ref m, .int (nI f)] h (fun v h1 => v = some (.int (jI (nA N (248 + 20 * f + 3)))) ∧ h1 = h) := by
  have H1 := hI.H.2.1
  have q := c_isOn (l := l) (w := w) r hI.B (f := f) (by omega)
  have e : bI (decide (nA N (248 + 20 * f + 3) = 1)) = jI (nA N (248 + 20 * f + 3)) := by
    rcases (hI.F f hf).2.2.2.2.1 with e | e <;> rw [e] <;> rfl
  rw [e] at q
  exact q
theorem c_isSo0 (hk : zk h m = 10) : zM l w mX10_isSo [.ref m, .int (nI 0)] h (fun u h1 => u = some (.int (nI 1)) ∧ h1 = zSi h 321 m (nI 0)) := by
  refine zM.of (by decide) (Nat.le_of_ble_eq_true rfl) ?_
  refine g_aload_n 0 dX10_isSo_0 rfl rfl ?_
  refine g_iload_n 1 dX10_isSo_1 rfl rfl ?_
  refine g_puti (f := 321) dX10_isSo_2 fl_X10_37 (Or.inl rfl) hk rfl ?_
  refine g_iload_n 1 dX10_isSo_5 rfl rfl ?_
  refine g_if_ne (tgt := 13) dX10_isSo_6 (by decide) (fun c => absurd (by decide : nI 0 = 0) c) (fun _ => ?_)
  refine g_iconst (v := nI 1) dX10_isSo_9 (by decide) ?_
  refine g_goto (tgt := 14) dX10_isSo_10 (by decide) ?_
  refine g_zreturn dX10_isSo_14 rfl (by first | rfl | assumption) ?_
  exact ⟨rfl, rfl⟩
theorem c_isSo2 (hk : zk h m = 10) : zM l w mX10_isSo [.ref m, .int (nI 2)] h (fun u h1 => u = some (.int (nI 0)) ∧ h1 = zSi h 321 m (nI 2)) := by
  refine zM.of (by decide) (Nat.le_of_ble_eq_true rfl) ?_
  refine g_aload_n 0 dX10_isSo_0 rfl rfl ?_
  refine g_iload_n 1 dX10_isSo_1 rfl rfl ?_
  refine g_puti (f := 321) dX10_isSo_2 fl_X10_37 (Or.inl rfl) hk rfl ?_
  refine g_iload_n 1 dX10_isSo_5 rfl rfl ?_
  refine g_if_ne (tgt := 13) dX10_isSo_6 (by decide) (fun _ => ?_) (fun c => absurd c (by decide : ¬ nI 2 = 0))
  refine g_iconst (v := nI 0) dX10_isSo_13 (by decide) ?_
  refine g_zreturn dX10_isSo_14 rfl (by first | rfl | assumption) ?_
  exact ⟨rfl, rfl⟩
theorem c_isSo4 (hk : zk h m = 10) : zM l w mX10_isSo [.ref m, .int (nI 4)] h (fun u h1 => u = some (.int (nI 0)) ∧ h1 = zSi h 321 m (nI 4)) := by
  refine zM.of (by decide) (Nat.le_of_ble_eq_true rfl) ?_
  refine g_aload_n 0 dX10_isSo_0 rfl rfl ?_
  refine g_iload_n 1 dX10_isSo_1 rfl rfl ?_
  refine g_puti (f := 321) dX10_isSo_2 fl_X10_37 (Or.inl rfl) hk rfl ?_
  refine g_iload_n 1 dX10_isSo_5 rfl rfl ?_
  refine g_if_ne (tgt := 13) dX10_isSo_6 (by decide) (fun _ => ?_) (fun c => absurd c (by decide : ¬ nI 4 = 0))
  refine g_iconst (v := nI 0) dX10_isSo_13 (by decide) ?_
  refine g_zreturn dX10_isSo_14 rfl (by first | rfl | assumption) ?_
  exact ⟨rfl, rfl⟩
theorem c_turnM (r : MoN h m N) (hI : iN [] N) {z k : Int} (zb : -2147483648 ≤ z ∧ z < 2147483648) (kb : k = 0 ∨ k = 1) : zM l w mX10_turn [.ref m, .int (jI z), .int (jI k)] h (PM h m (uTurn N z k)) := by
  refine zM.of (by decide) (Nat.le_of_ble_eq_true rfl) ?_
  have H1 := hI.H.2.1
  refine g_aload_n 0 dX10_turn_0 rfl rfl ?_
  refine g_iload_n 1 dX10_turn_1 rfl rfl ?_
  refine g_invv (M' := mX10_isFlow) (As := [.int (jI z)]) (rest := []) dX10_turn_2 ml_X10_321 okX10_isFlow imX10_isFlow seX10_isFlow ⟨(Nat.le_of_ble_eq_true rfl), (Nat.le_of_ble_eq_true rfl)⟩ (ci := 10) rfl rfl r.1.1 rfl rfl (Nat.le_of_ble_eq_true rfl) (c_isFlow r H1 (by omega)) ?_
  rintro _ q1 ⟨rfl, eq1⟩
  subst q1
  show zG l w mX10_turn 5 [(0, .ref m), (1, .int (jI z)), (2, .int (jI k))] [.int (bI (decide (0 ≤ z ∧ z < nA N 1)))] h _
  refine g_bif_ne (tgt := 14) dX10_turn_5 (by decide) (fun d => ?_) (fun d => ?_)
  · have d := of_decide_eq_true d
    have hq : uTurn N z k = (if nA N (248 + 20 * z.toNat + 3) = k then (N, 4, 0) else (uA N (248 + 20 * z.toNat + 3) k, 0, 1)) := by unfold uTurn; rw [if_pos d]
    rw [hq]
    clear hq
    obtain ⟨f, ef⟩ : ∃ f : Nat, z = (f : Int) := ⟨_, (Int.toNat_of_nonneg d.1).symm⟩
    subst ef
    simp only [jI_nat]
    rw [show (f : Int).toNat = f from rfl]
    have F3 := (hI.F f d.2).2.2.2.2.1
    have f6 : f < 6 := by omega
    refine g_aload_n 0 dX10_turn_14 rfl rfl ?_
    refine g_iload_n 1 dX10_turn_15 rfl rfl ?_
    refine g_invv (M' := mX10_isOn) (As := [.int (nI f)]) (rest := []) dX10_turn_16 ml_X10_181 okX10_isOn imX10_isOn seX10_isOn ⟨(Nat.le_of_ble_eq_true rfl), (Nat.le_of_ble_eq_true rfl)⟩ (ci := 10) rfl rfl r.1.1 rfl rfl (Nat.le_of_ble_eq_true rfl) (c_isOnI r hI d.2) ?_
    rintro _ q3 ⟨rfl, eq3⟩
    subst q3
    show zG l w mX10_turn 19 [(0, .ref m), (1, .int (nI f)), (2, .int (jI k))] [.int (jI (nA N (248 + 20 * f + 3)))] h _
    refine g_iload_n 2 dX10_turn_19 rfl rfl ?_
    refine g_zcmp_ne (a := (nA N (248 + 20 * f + 3))) (b := k) (tgt := 29) rfl rfl dX10_turn_20 (by decide) (by omega) (by omega) (fun e => ?_) (fun e => ?_)
    · rw [if_neg e]
      refine g_aload_n 0 dX10_turn_29 rfl rfl ?_
      refine g_iload_n 1 dX10_turn_30 rfl rfl ?_
      refine g_iconst (v := nI 3) dX10_turn_31 (by decide) ?_
      refine g_invs (M' := mX10_flow0) (As := [.int (nI f), .int (nI 3)]) (rest := [.ref m]) dX10_turn_32 ml_X10_52 okX10_flow0 stX10_flow0 ⟨(Nat.le_of_ble_eq_true rfl), (Nat.le_of_ble_eq_true rfl)⟩ rfl rfl (Nat.le_of_ble_eq_true rfl) c_flow0 ?_
      rintro _ q5 ⟨rfl, eq5⟩
      subst q5
      show zG l w mX10_turn 35 [(0, .ref m), (1, .int (nI f)), (2, .int (jI k))] [.int (nI (248 + 20 * f + 3)), .ref m] h _
      refine g_iload_n 2 dX10_turn_35 rfl rfl ?_
      refine g_zif_eq (a := k) (tgt := 43) rfl dX10_turn_36 (by decide) (by omega) (fun g => ?_) (fun g => ?_)
      · have ek : k = 0 := by omega
        refine g_lconst (v := jL 0) dX10_turn_43 (by decide) ?_
        refine g_invv (M' := mX10_puts) (As := [.int (nI (248 + 20 * f + 3)), .long (jL 0)]) (rest := []) dX10_turn_44 ml_X10_40 okX10_puts imX10_puts seX10_puts ⟨(Nat.le_of_ble_eq_true rfl), (Nat.le_of_ble_eq_true rfl)⟩ (ci := 10) rfl rfl r.1.1 rfl rfl (Nat.le_of_ble_eq_true rfl) (c_putsN r (z := 0) (by omega) (by unfold nSp; omega)) ?_
        rintro _ y6 ⟨rfl, r6, f6⟩
        show zG l w mX10_turn 47 [(0, .ref m), (1, .int (nI f)), (2, .int (jI k))] [] y6 _
        refine g_aload_n 0 dX10_turn_47 rfl rfl ?_
        refine g_iconst (v := nI 0) dX10_turn_48 (by decide) ?_
        refine g_invv (M' := mX10_isSo) (As := [.int (nI 0)]) (rest := []) dX10_turn_49 ml_X10_346 okX10_isSo imX10_isSo seX10_isSo ⟨(Nat.le_of_ble_eq_true rfl), (Nat.le_of_ble_eq_true rfl)⟩ (ci := 10) rfl rfl r6.1.1 rfl rfl (Nat.le_of_ble_eq_true rfl) (c_isSo0 r6.1.1) ?_
        rintro _ q7 ⟨rfl, eq7⟩
        subst q7
        show zG l w mX10_turn 52 [(0, .ref m), (1, .int (nI f)), (2, .int (jI k))] [.int (nI 1)] (zSi y6 321 m (nI 0)) _
        refine g_zreturn dX10_turn_52 rfl (by first | rfl | assumption) ?_
        rw [ek]
        exact ⟨rfl, y6, r6, (FrM.rf.tr f6), rfl⟩
      · have ek : k = 1 := by omega
        refine g_lconst (v := jL 1) dX10_turn_39 (by decide) ?_
        refine g_goto (tgt := 44) dX10_turn_40 (by decide) ?_
        refine g_invv (M' := mX10_puts) (As := [.int (nI (248 + 20 * f + 3)), .long (jL 1)]) (rest := []) dX10_turn_44 ml_X10_40 okX10_puts imX10_puts seX10_puts ⟨(Nat.le_of_ble_eq_true rfl), (Nat.le_of_ble_eq_true rfl)⟩ (ci := 10) rfl rfl r.1.1 rfl rfl (Nat.le_of_ble_eq_true rfl) (c_putsN r (z := 1) (by omega) (by unfold nSp; omega)) ?_
        rintro _ y8 ⟨rfl, r8, f8⟩
        show zG l w mX10_turn 47 [(0, .ref m), (1, .int (nI f)), (2, .int (jI k))] [] y8 _
        refine g_aload_n 0 dX10_turn_47 rfl rfl ?_
        refine g_iconst (v := nI 0) dX10_turn_48 (by decide) ?_
        refine g_invv (M' := mX10_isSo) (As := [.int (nI 0)]) (rest := []) dX10_turn_49 ml_X10_346 okX10_isSo imX10_isSo seX10_isSo ⟨(Nat.le_of_ble_eq_true rfl), (Nat.le_of_ble_eq_true rfl)⟩ (ci := 10) rfl rfl r8.1.1 rfl rfl (Nat.le_of_ble_eq_true rfl) (c_isSo0 r8.1.1) ?_
        rintro _ q9 ⟨rfl, eq9⟩
        subst q9
        show zG l w mX10_turn 52 [(0, .ref m), (1, .int (nI f)), (2, .int (jI k))] [.int (nI 1)] (zSi y8 321 m (nI 0)) _
        refine g_zreturn dX10_turn_52 rfl (by first | rfl | assumption) ?_
        rw [ek]
        exact ⟨rfl, y8, r8, (FrM.rf.tr f8), rfl⟩
    · refine g_aload_n 0 dX10_turn_23 rfl rfl ?_
      refine g_iconst (v := nI 4) dX10_turn_24 (by decide) ?_
      refine g_invv (M' := mX10_isSo) (As := [.int (nI 4)]) (rest := []) dX10_turn_25 ml_X10_346 okX10_isSo imX10_isSo seX10_isSo ⟨(Nat.le_of_ble_eq_true rfl), (Nat.le_of_ble_eq_true rfl)⟩ (ci := 10) rfl rfl r.1.1 rfl rfl (Nat.le_of_ble_eq_true rfl) (c_isSo4 r.1.1) ?_
      rintro _ q4 ⟨rfl, eq4⟩
      subst q4
      show zG l w mX10_turn 28 [(0, .ref m), (1, .int (nI f)), (2, .int (jI k))] [.int (nI 0)] (zSi h 321 m (nI 4)) _
      refine g_zreturn dX10_turn_28 rfl (by first | rfl | assumption) ?_
      rw [if_pos e]
      exact ⟨rfl, h, r, FrM.rf, rfl⟩
  · have d := of_decide_eq_false d
    refine g_aload_n 0 dX10_turn_8 rfl rfl ?_
    refine g_iconst (v := nI 2) dX10_turn_9 (by decide) ?_
    refine g_invv (M' := mX10_isSo) (As := [.int (nI 2)]) (rest := []) dX10_turn_10 ml_X10_346 okX10_isSo imX10_isSo seX10_isSo ⟨(Nat.le_of_ble_eq_true rfl), (Nat.le_of_ble_eq_true rfl)⟩ (ci := 10) rfl rfl r.1.1 rfl rfl (Nat.le_of_ble_eq_true rfl) (c_isSo2 r.1.1) ?_
    rintro _ q2 ⟨rfl, eq2⟩
    subst q2
    show zG l w mX10_turn 13 [(0, .ref m), (1, .int (jI z)), (2, .int (jI k))] [.int (nI 0)] (zSi h 321 m (nI 2)) _
    refine g_zreturn dX10_turn_13 rfl (by first | rfl | assumption) ?_
    rw [show uTurn N z k = (N, 2, 0) by unfold uTurn; rw [if_neg d]]
    exact ⟨rfl, h, r, FrM.rf, rfl⟩
theorem c_turnC (c : CX h b π ls N [] t) (xo : XO h x b) (hx : x < zx h) (hb : x < b ∨ b + 65 ≤ x) (hI : iN [] N) {z k : Int} (zb : -2147483648 ≤ z ∧ z < 2147483648) (kb : k = 0 ∨ k = 1) : zM l w mX9_turn [.ref x, .int (jI z), .int (jI k)] h (PC h x b π ls t (uTurn N z k)) := by
  refine zM.of (by decide) (Nat.le_of_ble_eq_true rfl) ?_
  have H1 := hI.H.2.1
  refine g_aload_n 0 dX9_turn_0 rfl rfl ?_
  refine g_getr (f := 293) (b := b) dX9_turn_1 fl_X9_23 xo.1 rfl xo.2 ?_
  refine g_iload_n 1 dX9_turn_4 rfl rfl ?_
  by_cases d : 0 ≤ z ∧ z < nA N 1
  · have hq : uTurn N z k = (if nA N (248 + 20 * z.toNat + 3) = k then (N, 4, 0) else (uA N (248 + 20 * z.toNat + 3) k, 0, 1)) := by unfold uTurn; rw [if_pos d]
    rw [hq]
    clear hq
    obtain ⟨f, ef⟩ : ∃ f : Nat, z = (f : Int) := ⟨_, (Int.toNat_of_nonneg d.1).symm⟩
    subst ef
    simp only [jI_nat]
    rw [show (f : Int).toNat = f from rfl]
    have f6 : f < 6 := by omega
    have F3 := (hI.F f d.2).2.2.2.2.1
    refine g_invv (M' := mX5_flowAt) (As := [.int (nI f)]) (rest := []) dX9_turn_5 ml_X9_127 okX5_flowAt imX5_flowAt seX5_flowAt ⟨(Nat.le_of_ble_eq_true rfl), (Nat.le_of_ble_eq_true rfl)⟩ (ci := 5) rfl rfl c.1.1.2 rfl rfl (Nat.le_of_ble_eq_true rfl) (c_flowIn c H1 d.2) ?_
    rintro _ q2 ⟨rfl, eq2⟩
    subst q2
    show zG l w mX9_turn 8 [(0, .ref x), (1, .int (nI f)), (2, .int (jI k))] [.ref (b + 53 + 2 * f)] h _
    refine g_astore_n (lv2 := [(3, .ref (b + 53 + 2 * f)), (0, .ref x), (1, .int (nI f)), (2, .int (jI k))]) dX9_turn_8 rfl (by decide) rfl ?_
    refine g_aload_n 0 dX9_turn_9 rfl rfl ?_
    refine g_ifnonnull (tgt := 20) dX9_turn_10 (by decide) ?_
    refine g_aload_n 0 dX9_turn_20 rfl rfl ?_
    refine g_geti (f := 68) dX9_turn_21 fl_X9_222 (c.1.2.2.2.2.2.2.2.2.2 f f6).2.1 (by decide) rfl ?_
    rw [show zi h 68 (b + 53 + 2 * f) = jI (nA N (248 + 20 * f + 3)) from (c.2.2.2.2.1 f d.2 f6).1 3 (by omega) (by omega)]
    refine g_iload_n 3 dX9_turn_24 rfl rfl ?_
    refine g_zcmp_ne (a := (nA N (248 + 20 * f + 3))) (b := k) (tgt := 35) rfl rfl dX9_turn_25 (by decide) (by omega) (by omega) (fun e => ?_) (fun e => ?_)
    · rw [if_neg e]
      refine g_aload_n 0 dX9_turn_35 rfl rfl ?_
      refine g_iload_n 3 dX9_turn_36 rfl rfl ?_
      refine g_putz (f := 68) dX9_turn_37 fl_X9_222 (Or.inl rfl) (c.1.2.2.2.2.2.2.2.2.2 f f6).2.1 rfl (by rcases kb with e | e <;> rw [e] <;> decide) ?_
      have cx3 : CX (zSi h 68 (b + 53 + 2 * f) (jI k)) b π ls (uA N (248 + 20 * f + 3) k) [] t ∧ CSt b ls h ls (zSi h 68 (b + 53 + 2 * f) (jI k)) := c.setF (j := 3) f6 (by omega) (by omega) (by omega)
      generalize zSi h 68 (b + 53 + 2 * f) (jI k) = y3 at cx3 ⊢
      refine g_aload_n 1 dX9_turn_40 rfl rfl ?_
      refine g_iconst (v := nI 0) dX9_turn_41 (by decide) ?_
      refine g_puti (f := 290) dX9_turn_42 fl_X9_48 (Or.inl rfl) (XO.st xo hx hb (CSt.rf.tr cx3.2)).1 rfl ?_
      refine g_iconst (v := nI 1) dX9_turn_45 (by decide) ?_
      refine g_zreturn dX9_turn_46 rfl (by first | rfl | assumption) ?_
      exact ⟨rfl, y3, cx3.1, (CSt.rf.tr cx3.2), rfl⟩
    · rw [if_pos e]
      refine g_aload_n 1 dX9_turn_28 rfl rfl ?_
      refine g_iconst (v := nI 4) dX9_turn_29 (by decide) ?_
      refine g_puti (f := 290) dX9_turn_30 fl_X9_48 (Or.inl rfl) xo.1 rfl ?_
      refine g_iconst (v := nI 0) dX9_turn_33 (by decide) ?_
      refine g_zreturn dX9_turn_34 rfl (by first | rfl | assumption) ?_
      exact ⟨rfl, h, c, CSt.rf, rfl⟩
  · refine g_invv (M' := mX5_flowAt) (As := [.int (jI z)]) (rest := []) dX9_turn_5 ml_X9_127 okX5_flowAt imX5_flowAt seX5_flowAt ⟨(Nat.le_of_ble_eq_true rfl), (Nat.le_of_ble_eq_true rfl)⟩ (ci := 5) rfl rfl c.1.1.2 rfl rfl (Nat.le_of_ble_eq_true rfl) (c_flowOut c H1 zb d) ?_
    rintro _ q1 ⟨rfl, eq1⟩
    subst q1
    show zG l w mX9_turn 8 [(0, .ref x), (1, .int (jI z)), (2, .int (jI k))] [.null] h _
    refine g_astore_nN (lv2 := [(3, .null), (0, .ref x), (1, .int (jI z)), (2, .int (jI k))]) dX9_turn_8 rfl (by decide) rfl ?_
    refine g_aload_nN 0 dX9_turn_9 rfl rfl ?_
    refine g_ifnonnullN dX9_turn_10 ?_
    refine g_aload_n 1 dX9_turn_13 rfl rfl ?_
    refine g_iconst (v := nI 2) dX9_turn_14 (by decide) ?_
    refine g_puti (f := 290) dX9_turn_15 fl_X9_48 (Or.inl rfl) xo.1 rfl ?_
    refine g_iconst (v := nI 0) dX9_turn_18 (by decide) ?_
    refine g_zreturn dX9_turn_19 rfl (by first | rfl | assumption) ?_
    rw [show uTurn N z k = (N, 2, 0) by unfold uTurn; rw [if_neg d]]
    exact ⟨rfl, h, c, CSt.rf, rfl⟩
end QM2
