section QB
variable {l : Launch} {w : zW} {h : zH} {m x b : Nat} {π : Nat → Nat} {ls : Nat → List Nat} {N : nT} {X : List Nat} {t : Nat}
/-- the links that have caught a flow -/
def caL (N : nT) (f : Nat) : Nat → Nat
  | 0 => 0
  | n + 1 => if hasN (nA N (8 + 40 * n + 14)) f then caL N f n + 2 ^ n else caL N f n
theorem caL_bd {f : Nat} : ∀ n, caL N f n < 2 ^ n := by
  intro n
  induction n with
  | zero => exact Nat.lt_succ_self 0
  | succ n ih =>
    unfold caL
    rw [Nat.pow_succ]
    split <;> omega
def caN (N : nT) (f : Nat) : Int := (caL N f (nA N 0).toNat : Int)
theorem caN_bd {f : Nat} (H0 : 0 ≤ nA N 0 ∧ nA N 0 ≤ 6) : 0 ≤ caN N f ∧ caN N f < 64 := by
  have b := @caL_bd N f (nA N 0).toNat
  have p : (2 : Nat) ^ (nA N 0).toNat ≤ 2 ^ 6 := Nat.pow_le_pow_right (by decide) (by omega)
  unfold caN
  have e : (2 : Nat) ^ 6 = 64 := by decide
  omega
def flv (N : nT) (f k : Nat) : Int := if k = 4 then backN N f else if k = 11 then caN N f else nA N (248 + 20 * f + k)
def qFlow (N : nT) (z k : Int) : Int × Int := if 0 ≤ k ∧ k ≤ 11 then (if 0 ≤ z ∧ z < nA N 1 then (0, flv N z.toNat k.toNat) else (2, -1)) else (1, -1)
def qPath (N : nT) (z i : Int) : Int × Int := if i < 0 then (1, -1) else if 0 ≤ z ∧ z < nA N 1 then (if i < nA N (248 + 20 * z.toNat + 0) then (0, (hopN N z.toNat i.toNat : Int)) else (5, -1)) else (2, -1)
def qGiven (N : nT) (z k : Int) : Int × Int := if 0 ≤ k ∧ k ≤ 1 then (if 0 ≤ z ∧ z < nA N 0 then (0, if k = 0 then plusN N z.toNat (nA N (8 + 40 * z.toNat + 12)) else minusN N z.toNat (nA N (8 + 40 * z.toNat + 13))) else (2, -1)) else (1, -1)
theorem or_0 : ∀ s, s < 64 → nI s ||| nI 0 = nI s := by decide +kernel
theorem c_caughtAt (r : MoN h m N) (hI : iN X N) {f : Nat} (f6 : f < 6) : zM l w mX10_caughtAt [.ref m, .int (nI f)] h (fun u h1 => u = some (.int (jI (caN N f))) ∧ h1 = h) := by
  refine zM.of (by decide) (Nat.le_of_ble_eq_true rfl) ?_
  have H0 := hI.H.1
  have loop : ∀ n i : Nat, ((i + n : Nat) : Int) = nA N 0 → zG l w mX10_caughtAt 4 [(3, .int (nI i)), (2, .int (nI (caL N f i))), (0, .ref m), (1, .int (nI f))] [] h (fun u h1 => u = some (.int (jI (caN N f))) ∧ h1 = h) := by
    intro n
    induction n with
    | zero =>
      intro i hi
      refine g_iload_n 0 dX10_caughtAt_4 rfl rfl ?_
      refine g_i2l dX10_caughtAt_5 ?_
      rw [nI_l (by omega), ← jL_nat]
      refine g_aload_n 2 dX10_caughtAt_6 rfl rfl ?_
      refine g_iconst (v := nI 0) dX10_caughtAt_7 (by decide) ?_
      refine g_invv (M' := mX10_of) (As := [.int (nI 0)]) (rest := [.long (jL ((i : Nat) : Int))]) dX10_caughtAt_8 ml_X10_48 okX10_of imX10_of seX10_of ⟨(Nat.le_of_ble_eq_true rfl), (Nat.le_of_ble_eq_true rfl)⟩ (ci := 10) rfl rfl r.1.1 rfl rfl (Nat.le_of_ble_eq_true rfl) (c_ofN r (by omega) (by unfold nSp; omega)) ?_
      rintro _ q1 ⟨rfl, eq1⟩
      subst q1
      show zG l w mX10_caughtAt 11 [(3, .int (nI i)), (2, .int (nI (caL N f i))), (0, .ref m), (1, .int (nI f))] [.long (jL (nA N 0)), .long (jL ((i : Nat) : Int))] h _
      refine g_lif_ge (a := ((i : Nat) : Int)) (b := (nA N 0)) (tgt := 45) dX10_caughtAt_11 rfl dX10_caughtAt_12 (by decide) (by omega) (by omega) (fun c => ?_) (fun c => ?_)
      · refine g_iload_n 1 dX10_caughtAt_45 rfl rfl ?_
        refine g_ireturn dX10_caughtAt_46 rfl ?_
        exact ⟨by unfold caN; rw [jI_nat, ← show i = (nA N 0).toNat by omega], rfl⟩
      · exact absurd c (by omega)
    | succ n ih =>
      intro i hi
      refine g_iload_n 0 dX10_caughtAt_4 rfl rfl ?_
      refine g_i2l dX10_caughtAt_5 ?_
      rw [nI_l (by omega), ← jL_nat]
      refine g_aload_n 2 dX10_caughtAt_6 rfl rfl ?_
      refine g_iconst (v := nI 0) dX10_caughtAt_7 (by decide) ?_
      refine g_invv (M' := mX10_of) (As := [.int (nI 0)]) (rest := [.long (jL ((i : Nat) : Int))]) dX10_caughtAt_8 ml_X10_48 okX10_of imX10_of seX10_of ⟨(Nat.le_of_ble_eq_true rfl), (Nat.le_of_ble_eq_true rfl)⟩ (ci := 10) rfl rfl r.1.1 rfl rfl (Nat.le_of_ble_eq_true rfl) (c_ofN r (by omega) (by unfold nSp; omega)) ?_
      rintro _ q2 ⟨rfl, eq2⟩
      subst q2
      show zG l w mX10_caughtAt 11 [(3, .int (nI i)), (2, .int (nI (caL N f i))), (0, .ref m), (1, .int (nI f))] [.long (jL (nA N 0)), .long (jL ((i : Nat) : Int))] h _
      refine g_lif_ge (a := ((i : Nat) : Int)) (b := (nA N 0)) (tgt := 45) dX10_caughtAt_11 rfl dX10_caughtAt_12 (by decide) (by omega) (by omega) (fun c => ?_) (fun c => ?_)
      · exact absurd c (by omega)
      · have ha : (i : Int) < nA N 0 := by omega
        have L14 := (hI.L i ha).2.2.2.1.1
        obtain ⟨s, es⟩ : ∃ s : Nat, nA N (8 + 40 * i + 14) = (s : Int) := ⟨_, (Int.toNat_of_nonneg L14.1).symm⟩
        have bd := @caL_bd N f i
        have p6 : (2 : Nat) ^ i ≤ 2 ^ 6 := Nat.pow_le_pow_right (by decide) (by omega)
        have e64 : (2 : Nat) ^ 6 = 64 := by decide
        refine g_iload_n 1 dX10_caughtAt_15 rfl rfl ?_
        refine g_aload_n 2 dX10_caughtAt_16 rfl rfl ?_
        refine g_iload_n 0 dX10_caughtAt_17 rfl rfl ?_
        refine g_bipush (v := nI 14) dX10_caughtAt_18 (by decide) ?_
        refine g_invv (M' := mX10_ofLink) (As := [.int (nI i), .int (nI 14)]) (rest := [.int (nI (caL N f i))]) dX10_caughtAt_20 ml_X10_69 okX10_ofLink imX10_ofLink seX10_ofLink ⟨(Nat.le_of_ble_eq_true rfl), (Nat.le_of_ble_eq_true rfl)⟩ (ci := 10) rfl rfl r.1.1 rfl rfl (Nat.le_of_ble_eq_true rfl) (c_ofLinkN r (by omega) (by unfold nSp; omega)) ?_
        rintro _ q3 ⟨rfl, eq3⟩
        subst q3
        show zG l w mX10_caughtAt 23 [(3, .int (nI i)), (2, .int (nI (caL N f i))), (0, .ref m), (1, .int (nI f))] [.long (jL (nA N (8 + 40 * i + 14))), .int (nI (caL N f i))] h _
        refine g_iload_n 3 dX10_caughtAt_23 rfl rfl ?_
        rw [es, jL_nat]
        refine g_invs (M' := mX10_has) (As := [.long (lN s), .int (nI f)]) (rest := [.int (nI (caL N f i))]) dX10_caughtAt_24 ml_X10_93 okX10_has stX10_has ⟨(Nat.le_of_ble_eq_true rfl), (Nat.le_of_ble_eq_true rfl)⟩ rfl rfl (Nat.le_of_ble_eq_true rfl) (c_has (by omega) f6) ?_
        rintro _ q4 ⟨rfl, eq4⟩
        subst q4
        show zG l w mX10_caughtAt 27 [(3, .int (nI i)), (2, .int (nI (caL N f i))), (0, .ref m), (1, .int (nI f))] [.int (bI (hasN s f)), .int (nI (caL N f i))] h _
        refine g_bif_eq (tgt := 36) dX10_caughtAt_27 (by decide) (fun d => ?_) (fun d => ?_)
        · refine g_iconst (v := nI 0) dX10_caughtAt_36 (by decide) ?_
          refine g_ior dX10_caughtAt_37 ?_
          refine zG.top (show nI (caL N f i) ||| nI 0 = nI (caL N f i) from or_0 _ (by omega)) ?_
          refine g_istore_n (lv2 := [(2, .int (nI (caL N f i))), (3, .int (nI i)), (0, .ref m), (1, .int (nI f))]) dX10_caughtAt_38 rfl (by decide) rfl ?_
          refine g_inc (v := nI (i + 1)) (lv2 := [(3, .int (nI (i + 1))), (2, .int (nI (caL N f i))), (0, .ref m), (1, .int (nI f))]) 1 dX10_caughtAt_39 rfl (nI_add _ 1) (by decide) rfl ?_
          refine g_goto (tgt := 4) dX10_caughtAt_42 (by decide) ?_
          refine zG.sub [0, 1, 2, 3] ?_ (ih (i + 1) (by omega))
          rw [show caL N f (i + 1) = caL N f i by rw [caL, es, d]; rfl]; rfl
        · refine g_iconst (v := nI 1) dX10_caughtAt_30 (by decide) ?_
          refine g_iload_n 0 dX10_caughtAt_31 rfl rfl ?_
          refine g_ishl dX10_caughtAt_32 ?_
          refine g_goto (tgt := 37) dX10_caughtAt_33 (by decide) ?_
          refine g_ior dX10_caughtAt_37 ?_
          refine zG.top (or_cal _ (by omega) i (by omega) bd) ?_
          refine g_istore_n (lv2 := [(2, .int (nI (caL N f i + 2 ^ i))), (3, .int (nI i)), (0, .ref m), (1, .int (nI f))]) dX10_caughtAt_38 rfl (by decide) rfl ?_
          refine g_inc (v := nI (i + 1)) (lv2 := [(3, .int (nI (i + 1))), (2, .int (nI (caL N f i + 2 ^ i))), (0, .ref m), (1, .int (nI f))]) 1 dX10_caughtAt_39 rfl (nI_add _ 1) (by decide) rfl ?_
          refine g_goto (tgt := 4) dX10_caughtAt_42 (by decide) ?_
          refine zG.sub [0, 1, 2, 3] ?_ (ih (i + 1) (by omega))
          rw [show caL N f (i + 1) = caL N f i + 2 ^ i by rw [caL, es, d]; rfl]; rfl
  refine g_iconst (v := nI 0) dX10_caughtAt_0 (by decide) ?_
  refine g_istore_n (lv2 := [(2, .int (nI 0)), (0, .ref m), (1, .int (nI f))]) dX10_caughtAt_1 rfl (by decide) rfl ?_
  refine g_iconst (v := nI 0) dX10_caughtAt_2 (by decide) ?_
  refine g_istore_n (lv2 := [(3, .int (nI 0)), (2, .int (nI 0)), (0, .ref m), (1, .int (nI f))]) dX10_caughtAt_3 rfl (by decide) rfl ?_
  exact zG.sub [0, 1, 2, 3] rfl (loop (nA N 0).toNat 0 (by omega))
theorem c_linksCaught (c : CX h b π ls N X t) (hI : iN [] N) {f : Nat} (f6 : f < 6) : zM l w mX5_linksThatCaught [.ref b, .int (nI f)] h (fun u h1 => u = some (.int (jI (caN N f))) ∧ h1 = h) := by
  refine zM.of (by decide) (Nat.le_of_ble_eq_true rfl) ?_
  have H0 := hI.H.1
  have loop : ∀ n i : Nat, ((i + n : Nat) : Int) = nA N 0 → zG l w mX5_linksThatCaught 4 [(3, .int (nI i)), (2, .int (nI (caL N f i))), (0, .ref b), (1, .int (nI f))] [] h (fun u h1 => u = some (.int (jI (caN N f))) ∧ h1 = h) := by
    intro n
    induction n with
    | zero =>
      intro i hi
      refine g_iload_n 0 dX5_linksThatCaught_4 rfl rfl ?_
      refine g_aload_n 2 dX5_linksThatCaught_5 rfl rfl ?_
      refine g_geti (f := 161) dX5_linksThatCaught_6 fl_X5_49 c.1.1.2 (by decide) rfl ?_
      rw [show zi h 161 b = jI (nA N 0) from c.2.2.1.1]
      refine g_zcmp_ge (a := ((i : Nat) : Int)) (b := (nA N 0)) (tgt := 37) (jI_nat i).symm rfl dX5_linksThatCaught_9 (by decide) (by omega) (by omega) (fun g => ?_) (fun g => ?_)
      · refine g_iload_n 1 dX5_linksThatCaught_37 rfl rfl ?_
        refine g_ireturn dX5_linksThatCaught_38 rfl ?_
        exact ⟨by unfold caN; rw [jI_nat, ← show i = (nA N 0).toNat by omega], rfl⟩
      · exact absurd g (by omega)
    | succ n ih =>
      intro i hi
      refine g_iload_n 0 dX5_linksThatCaught_4 rfl rfl ?_
      refine g_aload_n 2 dX5_linksThatCaught_5 rfl rfl ?_
      refine g_geti (f := 161) dX5_linksThatCaught_6 fl_X5_49 c.1.1.2 (by decide) rfl ?_
      rw [show zi h 161 b = jI (nA N 0) from c.2.2.1.1]
      refine g_zcmp_ge (a := ((i : Nat) : Int)) (b := (nA N 0)) (tgt := 37) (jI_nat i).symm rfl dX5_linksThatCaught_9 (by decide) (by omega) (by omega) (fun g => ?_) (fun g => ?_)
      · exact absurd g (by omega)
      · have ha : (i : Int) < nA N 0 := by omega
        have L14 := (hI.L i ha).2.2.2.1.1
        obtain ⟨s, es⟩ : ∃ s : Nat, nA N (8 + 40 * i + 14) = (s : Int) := ⟨_, (Int.toNat_of_nonneg L14.1).symm⟩
        have bd := @caL_bd N f i
        have p6 : (2 : Nat) ^ i ≤ 2 ^ 6 := Nat.pow_le_pow_right (by decide) (by omega)
        have e64 : (2 : Nat) ^ 6 = 64 := by decide
        have i6 : i < 6 := by omega
        refine g_aload_n 2 dX5_linksThatCaught_12 rfl rfl ?_
        refine g_getr (f := 160) (b := b + 1) dX5_linksThatCaught_13 fl_X5_11 c.1.1.2 rfl c.1.2.1.1 ?_
        refine g_iload_n 0 dX5_linksThatCaught_16 rfl rfl ?_
        refine g_aald (t := 5) (b := b + 11 + 7 * i) dX5_linksThatCaught_17 c.1.2.1.2.1 rfl (fun _ => rfl) (by decide) (by rw [show zn h (b + 1) = 6 from c.1.2.1.2.2]; exact vp_in_nI (by omega) (by omega)) (by rw [nI_clamp (by omega)]; exact (c.1.2.2.2.2.2.2.2.2.1 i i6).1) ?_
        refine g_iload_n 3 dX5_linksThatCaught_18 rfl rfl ?_
        refine g_invv (M' := mX4_hasCaught) (As := [.int (nI f)]) (rest := []) dX5_linksThatCaught_19 ml_X5_246 okX4_hasCaught imX4_hasCaught seX4_hasCaught ⟨(Nat.le_of_ble_eq_true rfl), (Nat.le_of_ble_eq_true rfl)⟩ (ci := 4) rfl rfl (c.1.2.2.2.2.2.2.2.2.1 i i6).2.1 rfl rfl (Nat.le_of_ble_eq_true rfl) (c_hasCaught c ha i6 f6 L14) ?_
        rintro _ q1 ⟨rfl, eq1⟩
        subst q1
        show zG l w mX5_linksThatCaught 22 [(3, .int (nI i)), (2, .int (nI (caL N f i))), (0, .ref b), (1, .int (nI f))] [.int (bI (hasN (nA N (8 + 40 * i + 14)) f))] h _
        refine g_bif_eq (tgt := 31) dX5_linksThatCaught_22 (by decide) (fun d => ?_) (fun d => ?_)
        · refine g_inc (v := nI (i + 1)) (lv2 := [(3, .int (nI (i + 1))), (2, .int (nI (caL N f i))), (0, .ref b), (1, .int (nI f))]) 0 dX5_linksThatCaught_31 rfl (nI_add _ 1) (by decide) rfl ?_
          refine g_goto (tgt := 4) dX5_linksThatCaught_34 (by decide) ?_
          refine zG.sub [0, 1, 2, 3] ?_ (ih (i + 1) (by omega))
          rw [show caL N f (i + 1) = caL N f i by rw [caL, d]; rfl]; rfl
        · refine g_iload_n 1 dX5_linksThatCaught_25 rfl rfl ?_
          refine g_iconst (v := nI 1) dX5_linksThatCaught_26 (by decide) ?_
          refine g_iload_n 0 dX5_linksThatCaught_27 rfl rfl ?_
          refine g_ishl dX5_linksThatCaught_28 ?_
          refine g_ior dX5_linksThatCaught_29 ?_
          refine zG.top (or_cal _ (by omega) i (by omega) bd) ?_
          refine g_istore_n (lv2 := [(2, .int (nI (caL N f i + 2 ^ i))), (3, .int (nI i)), (0, .ref b), (1, .int (nI f))]) dX5_linksThatCaught_30 rfl (by decide) rfl ?_
          refine g_inc (v := nI (i + 1)) (lv2 := [(3, .int (nI (i + 1))), (2, .int (nI (caL N f i + 2 ^ i))), (0, .ref b), (1, .int (nI f))]) 1 dX5_linksThatCaught_31 rfl (nI_add _ 1) (by decide) rfl ?_
          refine g_goto (tgt := 4) dX5_linksThatCaught_34 (by decide) ?_
          refine zG.sub [0, 1, 2, 3] ?_ (ih (i + 1) (by omega))
          rw [show caL N f (i + 1) = caL N f i + 2 ^ i by rw [caL, d]; rfl]; rfl
  refine g_iconst (v := nI 0) dX5_linksThatCaught_0 (by decide) ?_
  refine g_istore_n (lv2 := [(2, .int (nI 0)), (0, .ref b), (1, .int (nI f))]) dX5_linksThatCaught_1 rfl (by decide) rfl ?_
  refine g_iconst (v := nI 0) dX5_linksThatCaught_2 (by decide) ?_
  refine g_istore_n (lv2 := [(3, .int (nI 0)), (2, .int (nI 0)), (0, .ref b), (1, .int (nI f))]) dX5_linksThatCaught_3 rfl (by decide) rfl ?_
  exact zG.sub [0, 1, 2, 3] rfl (loop (nA N 0).toNat 0 (by omega))
theorem c_flowM (r : MoN h m N) (hI : iN [] N) {z k : Int} (zb : -2147483648 ≤ z ∧ z < 2147483648) (kb : -2147483648 ≤ k ∧ k < 2147483648) : zM l w mX10_flow [.ref m, .int (jI z), .int (jI k)] h (fun u h1 => u = some (.int (jI (qFlow N z k).2)) ∧ h1 = zSi h 321 m (jI (qFlow N z k).1)) := by
  refine zM.of (by decide) (Nat.le_of_ble_eq_true rfl) ?_
  have H0 := hI.H.1
  have H1 := hI.H.2.1
  refine g_iload_n 2 dX10_flow_0 rfl rfl ?_
  refine g_i2l dX10_flow_1 ?_
  rw [jI_l (by omega) (by omega)]
  refine g_lconst (v := jL 0) dX10_flow_2 (by decide) ?_
  refine g_ldc2J (z := 11) dX10_flow_3 kl_X10_319 (by decide) ?_
  refine g_invs (M' := mX10_isFrom) (As := [.long (jL k), .long (jL 0), .long (jL 11)]) (rest := []) dX10_flow_6 ml_X10_252 okX10_isFrom stX10_isFrom ⟨(Nat.le_of_ble_eq_true rfl), (Nat.le_of_ble_eq_true rfl)⟩ rfl rfl (Nat.le_of_ble_eq_true rfl) (c_isFrom (by omega) (by omega) (by omega)) ?_
  rintro _ q1 ⟨rfl, eq1⟩
  subst q1
  show zG l w mX10_flow 9 [(0, .ref m), (1, .int (jI z)), (2, .int (jI k))] [.int (bI (decide (0 ≤ k ∧ k ≤ 11)))] h _
  refine g_bif_ne (tgt := 18) dX10_flow_9 (by decide) (fun c => ?_) (fun c => ?_)
  · have c := of_decide_eq_true c
    refine g_aload_n 0 dX10_flow_18 rfl rfl ?_
    refine g_iload_n 1 dX10_flow_19 rfl rfl ?_
    refine g_invv (M' := mX10_isFlow) (As := [.int (jI z)]) (rest := []) dX10_flow_20 ml_X10_321 okX10_isFlow imX10_isFlow seX10_isFlow ⟨(Nat.le_of_ble_eq_true rfl), (Nat.le_of_ble_eq_true rfl)⟩ (ci := 10) rfl rfl r.1.1 rfl rfl (Nat.le_of_ble_eq_true rfl) (c_isFlow r H1 (by omega)) ?_
    rintro _ q3 ⟨rfl, eq3⟩
    subst q3
    show zG l w mX10_flow 23 [(0, .ref m), (1, .int (jI z)), (2, .int (jI k))] [.int (bI (decide (0 ≤ z ∧ z < nA N 1)))] h _
    refine g_bif_ne (tgt := 32) dX10_flow_23 (by decide) (fun d => ?_) (fun d => ?_)
    · have d := of_decide_eq_true d
      rw [show qFlow N z k = (0, flv N z.toNat k.toNat) by unfold qFlow; rw [if_pos c, if_pos d]]
      obtain ⟨f, ef⟩ : ∃ f : Nat, z = (f : Int) := ⟨_, (Int.toNat_of_nonneg d.1).symm⟩
      subst ef
      obtain ⟨j, ej⟩ : ∃ j : Nat, k = (j : Int) := ⟨_, (Int.toNat_of_nonneg c.1).symm⟩
      subst ej
      simp only [jI_nat]
      have F := hI.F f d.2
      have pa := hI.pa d.2
      refine g_aload_n 0 dX10_flow_32 rfl rfl ?_
      refine g_iload_n 2 dX10_flow_33 rfl rfl ?_
      refine g_iconst (v := nI 4) dX10_flow_34 (by decide) ?_
      refine g_zcmp_ne (a := ((j : Nat) : Int)) (b := 4) (tgt := 47) (jI_nat j).symm (by decide) dX10_flow_35 (by decide) (by omega) (by omega) (fun e4 => ?_) (fun e4 => ?_)
      · refine g_iload_n 2 dX10_flow_47 rfl rfl ?_
        refine g_bipush (v := nI 11) dX10_flow_48 (by decide) ?_
        refine g_zcmp_ne (a := ((j : Nat) : Int)) (b := 11) (tgt := 62) (jI_nat j).symm (by decide) dX10_flow_50 (by decide) (by omega) (by omega) (fun e11 => ?_) (fun e11 => ?_)
        · refine g_aload_n 0 dX10_flow_62 rfl rfl ?_
          refine g_iload_n 1 dX10_flow_63 rfl rfl ?_
          refine g_iload_n 2 dX10_flow_64 rfl rfl ?_
          refine g_invv (M' := mX10_ofFlow) (As := [.int (nI f), .int (nI j)]) (rest := [.ref m]) dX10_flow_65 ml_X10_62 okX10_ofFlow imX10_ofFlow seX10_ofFlow ⟨(Nat.le_of_ble_eq_true rfl), (Nat.le_of_ble_eq_true rfl)⟩ (ci := 10) rfl rfl r.1.1 rfl rfl (Nat.le_of_ble_eq_true rfl) (c_ofFlowN r (by omega)) ?_
          rintro _ q9 ⟨rfl, eq9⟩
          subst q9
          show zG l w mX10_flow 68 [(0, .ref m), (1, .int (nI f)), (2, .int (nI j))] [.long (jL (nA N (248 + 20 * f + j))), .ref m] h _
          refine g_invv (M' := mX10_gives) (As := [.long (jL (nA N (248 + 20 * f + j)))]) (rest := []) dX10_flow_68 ml_X10_298 okX10_gives imX10_gives seX10_gives ⟨(Nat.le_of_ble_eq_true rfl), (Nat.le_of_ble_eq_true rfl)⟩ (ci := 10) rfl rfl r.1.1 rfl rfl (Nat.le_of_ble_eq_true rfl) (c_gives r.1.1) ?_
          rintro _ q10 ⟨rfl, eq10⟩
          subst q10
          show zG l w mX10_flow 71 [(0, .ref m), (1, .int (nI f)), (2, .int (nI j))] [.int (jI (nA N (248 + 20 * f + j)))] (zSi h 321 m (nI 0)) _
          refine g_ireturn dX10_flow_71 rfl ?_
          exact ⟨by unfold flv; rw [show (j : Int).toNat = j from rfl, if_neg (by omega), if_neg (by omega)]; rfl, rfl⟩
        · have e : j = 11 := by omega
          subst e
          refine g_aload_n 0 dX10_flow_53 rfl rfl ?_
          refine g_iload_n 1 dX10_flow_54 rfl rfl ?_
          refine g_invv (M' := mX10_caughtAt) (As := [.int (nI f)]) (rest := [.ref m]) dX10_flow_55 ml_X10_324 okX10_caughtAt imX10_caughtAt seX10_caughtAt ⟨(Nat.le_of_ble_eq_true rfl), (Nat.le_of_ble_eq_true rfl)⟩ (ci := 10) rfl rfl r.1.1 rfl rfl (Nat.le_of_ble_eq_true rfl) (c_caughtAt r hI (by omega)) ?_
          rintro _ q7 ⟨rfl, eq7⟩
          subst q7
          show zG l w mX10_flow 58 [(0, .ref m), (1, .int (nI f)), (2, .int (nI 11))] [.int (jI (caN N f)), .ref m] h _
          have cb := caN_bd (N := N) (f := f) H0
          refine g_i2l dX10_flow_58 ?_
          rw [jI_l (by omega) (by omega)]
          refine g_goto (tgt := 68) dX10_flow_59 (by decide) ?_
          refine g_invv (M' := mX10_gives) (As := [.long (jL (caN N f))]) (rest := []) dX10_flow_68 ml_X10_298 okX10_gives imX10_gives seX10_gives ⟨(Nat.le_of_ble_eq_true rfl), (Nat.le_of_ble_eq_true rfl)⟩ (ci := 10) rfl rfl r.1.1 rfl rfl (Nat.le_of_ble_eq_true rfl) (c_gives r.1.1) ?_
          rintro _ q8 ⟨rfl, eq8⟩
          subst q8
          show zG l w mX10_flow 71 [(0, .ref m), (1, .int (nI f)), (2, .int (nI 11))] [.int (jI (caN N f))] (zSi h 321 m (nI 0)) _
          refine g_ireturn dX10_flow_71 rfl ?_
          exact ⟨rfl, rfl⟩
      · have e : j = 4 := by omega
        subst e
        refine g_aload_n 0 dX10_flow_38 rfl rfl ?_
        refine g_iload_n 1 dX10_flow_39 rfl rfl ?_
        refine g_invv (M' := mX10_backOf) (As := [.int (nI f)]) (rest := [.ref m]) dX10_flow_40 ml_X10_82 okX10_backOf imX10_backOf seX10_backOf ⟨(Nat.le_of_ble_eq_true rfl), (Nat.le_of_ble_eq_true rfl)⟩ (ci := 10) rfl rfl r.1.1 rfl rfl (Nat.le_of_ble_eq_true rfl) (c_backOf r (by omega) pa.1 pa.2.1) ?_
        rintro _ q5 ⟨rfl, eq5⟩
        subst q5
        show zG l w mX10_flow 43 [(0, .ref m), (1, .int (nI f)), (2, .int (nI 4))] [.int (jI (backN N f)), .ref m] h _
        have pb := pa.2.2
        refine g_i2l dX10_flow_43 ?_
        rw [jI_l (by omega) (by omega)]
        refine g_goto (tgt := 68) dX10_flow_44 (by decide) ?_
        refine g_invv (M' := mX10_gives) (As := [.long (jL (backN N f))]) (rest := []) dX10_flow_68 ml_X10_298 okX10_gives imX10_gives seX10_gives ⟨(Nat.le_of_ble_eq_true rfl), (Nat.le_of_ble_eq_true rfl)⟩ (ci := 10) rfl rfl r.1.1 rfl rfl (Nat.le_of_ble_eq_true rfl) (c_gives r.1.1) ?_
        rintro _ q6 ⟨rfl, eq6⟩
        subst q6
        show zG l w mX10_flow 71 [(0, .ref m), (1, .int (nI f)), (2, .int (nI 4))] [.int (jI (backN N f))] (zSi h 321 m (nI 0)) _
        refine g_ireturn dX10_flow_71 rfl ?_
        exact ⟨rfl, rfl⟩
    · have d := of_decide_eq_false d
      refine g_aload_n 0 dX10_flow_26 rfl rfl ?_
      refine g_iconst (v := nI 2) dX10_flow_27 (by decide) ?_
      refine g_invv (M' := mX10_refuse) (As := [.int (nI 2)]) (rest := []) dX10_flow_28 ml_X10_289 okX10_refuse imX10_refuse seX10_refuse ⟨(Nat.le_of_ble_eq_true rfl), (Nat.le_of_ble_eq_true rfl)⟩ (ci := 10) rfl rfl r.1.1 rfl rfl (Nat.le_of_ble_eq_true rfl) (c_refuse r.1.1) ?_
      rintro _ q4 ⟨rfl, eq4⟩
      subst q4
      show zG l w mX10_flow 31 [(0, .ref m), (1, .int (jI z)), (2, .int (jI k))] [.int (-1)] (zSi h 321 m (nI 2)) _
      refine g_ireturn dX10_flow_31 rfl ?_
      rw [show qFlow N z k = (2, -1) by unfold qFlow; rw [if_pos c, if_neg d]]
      exact ⟨rfl, rfl⟩
  · have c := of_decide_eq_false c
    refine g_aload_n 0 dX10_flow_12 rfl rfl ?_
    refine g_iconst (v := nI 1) dX10_flow_13 (by decide) ?_
    refine g_invv (M' := mX10_refuse) (As := [.int (nI 1)]) (rest := []) dX10_flow_14 ml_X10_289 okX10_refuse imX10_refuse seX10_refuse ⟨(Nat.le_of_ble_eq_true rfl), (Nat.le_of_ble_eq_true rfl)⟩ (ci := 10) rfl rfl r.1.1 rfl rfl (Nat.le_of_ble_eq_true rfl) (c_refuse r.1.1) ?_
    rintro _ q2 ⟨rfl, eq2⟩
    subst q2
    show zG l w mX10_flow 17 [(0, .ref m), (1, .int (jI z)), (2, .int (jI k))] [.int (-1)] (zSi h 321 m (nI 1)) _
    refine g_ireturn dX10_flow_17 rfl ?_
    rw [show qFlow N z k = (1, -1) by unfold qFlow; rw [if_neg c]]
    exact ⟨rfl, rfl⟩
theorem c_tellF (c : CX h b π ls N X t) {f : Nat} (hf : (f : Int) < nA N 1) (f6 : f < 6) (h3 : nA N (248 + 20 * f + 3) = 0 ∨ nA N (248 + 20 * f + 3) = 1) {k : Nat} (k10 : k ≤ 10) : zM l w mX2_tell [.ref (b + 53 + 2 * f), .int (nI k)] h (fun u h1 => u = some (.int (jI (flv N f k))) ∧ h1 = h) := by
  refine zM.of (by decide) (Nat.le_of_ble_eq_true rfl) ?_
  rcases (show k = 0 ∨ k = 1 ∨ k = 2 ∨ k = 3 ∨ k = 4 ∨ k = 5 ∨ k = 6 ∨ k = 7 ∨ k = 8 ∨ k = 9 ∨ k = 10 by omega) with rfl | rfl | rfl | rfl | rfl | rfl | rfl | rfl | rfl | rfl | rfl
  · refine g_iload_n 1 dX2_tell_0 rfl rfl ?_
    refine g_tableIn (off := 55) (tgt := 56) dX2_tell_1 (by decide) (by decide) (by decide) (by decide) ?_
    refine g_aload_n 0 dX2_tell_56 rfl rfl ?_
    refine g_geti (f := 65) dX2_tell_57 fl_X2_15 (c.1.2.2.2.2.2.2.2.2.2 f f6).2.1 (by decide) rfl ?_
    rw [show zi h 65 (b + 53 + 2 * f) = jI (nA N (248 + 20 * f + 0)) from (c.2.2.2.2.1 f hf f6).1 0 (by omega) (by omega)]
    refine g_ireturn dX2_tell_60 rfl ?_
    exact ⟨rfl, rfl⟩
  · refine g_iload_n 1 dX2_tell_0 rfl rfl ?_
    refine g_tableIn (off := 60) (tgt := 61) dX2_tell_1 (by decide) (by decide) (by decide) (by decide) ?_
    refine g_aload_n 0 dX2_tell_61 rfl rfl ?_
    refine g_geti (f := 66) dX2_tell_62 fl_X2_19 (c.1.2.2.2.2.2.2.2.2.2 f f6).2.1 (by decide) rfl ?_
    rw [show zi h 66 (b + 53 + 2 * f) = jI (nA N (248 + 20 * f + 1)) from (c.2.2.2.2.1 f hf f6).1 1 (by omega) (by omega)]
    refine g_ireturn dX2_tell_65 rfl ?_
    exact ⟨rfl, rfl⟩
  · refine g_iload_n 1 dX2_tell_0 rfl rfl ?_
    refine g_tableIn (off := 65) (tgt := 66) dX2_tell_1 (by decide) (by decide) (by decide) (by decide) ?_
    refine g_aload_n 0 dX2_tell_66 rfl rfl ?_
    refine g_geti (f := 67) dX2_tell_67 fl_X2_22 (c.1.2.2.2.2.2.2.2.2.2 f f6).2.1 (by decide) rfl ?_
    rw [show zi h 67 (b + 53 + 2 * f) = jI (nA N (248 + 20 * f + 2)) from (c.2.2.2.2.1 f hf f6).1 2 (by omega) (by omega)]
    refine g_ireturn dX2_tell_70 rfl ?_
    exact ⟨rfl, rfl⟩
  · refine g_iload_n 1 dX2_tell_0 rfl rfl ?_
    refine g_tableIn (off := 70) (tgt := 71) dX2_tell_1 (by decide) (by decide) (by decide) (by decide) ?_
    refine g_aload_n 0 dX2_tell_71 rfl rfl ?_
    refine g_geti (f := 68) dX2_tell_72 fl_X2_25 (c.1.2.2.2.2.2.2.2.2.2 f f6).2.1 (by decide) rfl ?_
    rw [show zi h 68 (b + 53 + 2 * f) = jI (nA N (248 + 20 * f + 3)) from (c.2.2.2.2.1 f hf f6).1 3 (by omega) (by omega)]
    refine g_zif_eq (a := (nA N (248 + 20 * f + 3))) (tgt := 82) rfl dX2_tell_75 (by decide) (by omega) (fun g => ?_) (fun g => ?_)
    · refine g_iconst (v := nI 0) dX2_tell_82 (by decide) ?_
      refine g_ireturn dX2_tell_83 rfl ?_
      exact ⟨by unfold flv; rw [if_neg (by omega), if_neg (by omega), g]; decide, rfl⟩
    · refine g_iconst (v := nI 1) dX2_tell_78 (by decide) ?_
      refine g_goto (tgt := 83) dX2_tell_79 (by decide) ?_
      refine g_ireturn dX2_tell_83 rfl ?_
      have e : nA N (248 + 20 * f + 3) = 1 := by omega
      exact ⟨by unfold flv; rw [if_neg (by omega), if_neg (by omega), e]; decide, rfl⟩
  · refine g_iload_n 1 dX2_tell_0 rfl rfl ?_
    refine g_tableIn (off := 83) (tgt := 84) dX2_tell_1 (by decide) (by decide) (by decide) (by decide) ?_
    refine g_aload_n 0 dX2_tell_84 rfl rfl ?_
    refine g_geti (f := 69) dX2_tell_85 fl_X2_29 (c.1.2.2.2.2.2.2.2.2.2 f f6).2.1 (by decide) rfl ?_
    rw [show zi h 69 (b + 53 + 2 * f) = jI (backN N f) from (c.2.2.2.2.1 f hf f6).2.1]
    refine g_ireturn dX2_tell_88 rfl ?_
    exact ⟨rfl, rfl⟩
  · refine g_iload_n 1 dX2_tell_0 rfl rfl ?_
    refine g_tableIn (off := 88) (tgt := 89) dX2_tell_1 (by decide) (by decide) (by decide) (by decide) ?_
    refine g_aload_n 0 dX2_tell_89 rfl rfl ?_
    refine g_geti (f := 70) dX2_tell_90 fl_X2_32 (c.1.2.2.2.2.2.2.2.2.2 f f6).2.1 (by decide) rfl ?_
    rw [show zi h 70 (b + 53 + 2 * f) = jI (nA N (248 + 20 * f + 5)) from (c.2.2.2.2.1 f hf f6).1 5 (by omega) (by omega)]
    refine g_ireturn dX2_tell_93 rfl ?_
    exact ⟨rfl, rfl⟩
  · refine g_iload_n 1 dX2_tell_0 rfl rfl ?_
    refine g_tableIn (off := 93) (tgt := 94) dX2_tell_1 (by decide) (by decide) (by decide) (by decide) ?_
    refine g_aload_n 0 dX2_tell_94 rfl rfl ?_
    refine g_geti (f := 71) dX2_tell_95 fl_X2_35 (c.1.2.2.2.2.2.2.2.2.2 f f6).2.1 (by decide) rfl ?_
    rw [show zi h 71 (b + 53 + 2 * f) = jI (nA N (248 + 20 * f + 6)) from (c.2.2.2.2.1 f hf f6).1 6 (by omega) (by omega)]
    refine g_ireturn dX2_tell_98 rfl ?_
    exact ⟨rfl, rfl⟩
  · refine g_iload_n 1 dX2_tell_0 rfl rfl ?_
    refine g_tableIn (off := 98) (tgt := 99) dX2_tell_1 (by decide) (by decide) (by decide) (by decide) ?_
    refine g_aload_n 0 dX2_tell_99 rfl rfl ?_
    refine g_geti (f := 72) dX2_tell_100 fl_X2_38 (c.1.2.2.2.2.2.2.2.2.2 f f6).2.1 (by decide) rfl ?_
    rw [show zi h 72 (b + 53 + 2 * f) = jI (nA N (248 + 20 * f + 7)) from (c.2.2.2.2.1 f hf f6).1 7 (by omega) (by omega)]
    refine g_ireturn dX2_tell_103 rfl ?_
    exact ⟨rfl, rfl⟩
  · refine g_iload_n 1 dX2_tell_0 rfl rfl ?_
    refine g_tableIn (off := 103) (tgt := 104) dX2_tell_1 (by decide) (by decide) (by decide) (by decide) ?_
    refine g_aload_n 0 dX2_tell_104 rfl rfl ?_
    refine g_geti (f := 73) dX2_tell_105 fl_X2_41 (c.1.2.2.2.2.2.2.2.2.2 f f6).2.1 (by decide) rfl ?_
    rw [show zi h 73 (b + 53 + 2 * f) = jI (nA N (248 + 20 * f + 8)) from (c.2.2.2.2.1 f hf f6).1 8 (by omega) (by omega)]
    refine g_ireturn dX2_tell_108 rfl ?_
    exact ⟨rfl, rfl⟩
  · refine g_iload_n 1 dX2_tell_0 rfl rfl ?_
    refine g_tableIn (off := 108) (tgt := 109) dX2_tell_1 (by decide) (by decide) (by decide) (by decide) ?_
    refine g_aload_n 0 dX2_tell_109 rfl rfl ?_
    refine g_geti (f := 74) dX2_tell_110 fl_X2_44 (c.1.2.2.2.2.2.2.2.2.2 f f6).2.1 (by decide) rfl ?_
    rw [show zi h 74 (b + 53 + 2 * f) = jI (nA N (248 + 20 * f + 9)) from (c.2.2.2.2.1 f hf f6).1 9 (by omega) (by omega)]
    refine g_ireturn dX2_tell_113 rfl ?_
    exact ⟨rfl, rfl⟩
  · refine g_iload_n 1 dX2_tell_0 rfl rfl ?_
    refine g_tableOut (tgt := 114) dX2_tell_1 (by decide) (by decide) ?_
    refine g_aload_n 0 dX2_tell_114 rfl rfl ?_
    refine g_geti (f := 75) dX2_tell_115 fl_X2_47 (c.1.2.2.2.2.2.2.2.2.2 f f6).2.1 (by decide) rfl ?_
    rw [show zi h 75 (b + 53 + 2 * f) = jI (nA N (248 + 20 * f + 10)) from (c.2.2.2.2.1 f hf f6).1 10 (by omega) (by omega)]
    refine g_ireturn dX2_tell_118 rfl ?_
    exact ⟨rfl, rfl⟩
theorem c_flowC (c : CX h b π ls N [] t) (xo : XO h x b) (hI : iN [] N) {z k : Int} (zb : -2147483648 ≤ z ∧ z < 2147483648) (kb : -2147483648 ≤ k ∧ k < 2147483648) : zM l w mX9_flow [.ref x, .int (jI z), .int (jI k)] h (fun u h1 => u = some (.int (jI (qFlow N z k).2)) ∧ h1 = zSi h 290 x (jI (qFlow N z k).1)) := by
  refine zM.of (by decide) (Nat.le_of_ble_eq_true rfl) ?_
  have H0 := hI.H.1
  have H1 := hI.H.2.1
  refine g_iload_n 2 dX9_flow_0 rfl rfl ?_
  refine g_zif_lt (a := k) (tgt := 10) rfl dX9_flow_1 (by decide) (by omega) (fun g => ?_) (fun g => ?_)
  · refine g_aload_n 0 dX9_flow_10 rfl rfl ?_
    refine g_iconst (v := nI 1) dX9_flow_11 (by decide) ?_
    refine g_invv (M' := mX9_refuse) (As := [.int (nI 1)]) (rest := []) dX9_flow_12 ml_X9_58 okX9_refuse imX9_refuse seX9_refuse ⟨(Nat.le_of_ble_eq_true rfl), (Nat.le_of_ble_eq_true rfl)⟩ (ci := 9) rfl rfl xo.1 rfl rfl (Nat.le_of_ble_eq_true rfl) (c_refC xo.1) ?_
    rintro _ q1 ⟨rfl, eq1⟩
    subst q1
    show zG l w mX9_flow 15 [(0, .ref x), (1, .int (jI z)), (2, .int (jI k))] [.int (-1)] (zSi h 290 x (nI 1)) _
    refine g_ireturn dX9_flow_15 rfl ?_
    rw [show qFlow N z k = (1, -1) by unfold qFlow; rw [if_neg (by omega)]]
    exact ⟨rfl, rfl⟩
  · refine g_iload_n 2 dX9_flow_4 rfl rfl ?_
    refine g_bipush (v := nI 11) dX9_flow_5 (by decide) ?_
    refine g_zcmp_le (a := k) (b := 11) (tgt := 16) rfl (by decide) dX9_flow_7 (by decide) (by omega) (by omega) (fun g2 => ?_) (fun g2 => ?_)
    · refine g_aload_n 0 dX9_flow_16 rfl rfl ?_
      refine g_getr (f := 293) (b := b) dX9_flow_17 fl_X9_23 xo.1 rfl xo.2 ?_
      refine g_iload_n 1 dX9_flow_20 rfl rfl ?_
      by_cases d : 0 ≤ z ∧ z < nA N 1
      · rw [show qFlow N z k = (0, flv N z.toNat k.toNat) by unfold qFlow; rw [if_pos (by omega), if_pos d]]
        obtain ⟨f, ef⟩ : ∃ f : Nat, z = (f : Int) := ⟨_, (Int.toNat_of_nonneg d.1).symm⟩
        subst ef
        obtain ⟨j, ej⟩ : ∃ j : Nat, k = (j : Int) := ⟨_, (Int.toNat_of_nonneg (by omega)).symm⟩
        subst ej
        simp only [jI_nat]
        have f6 : f < 6 := by omega
        have F3 := (hI.F f d.2).2.2.2.2.1
        refine g_invv (M' := mX5_flowAt) (As := [.int (nI f)]) (rest := []) dX9_flow_21 ml_X9_127 okX5_flowAt imX5_flowAt seX5_flowAt ⟨(Nat.le_of_ble_eq_true rfl), (Nat.le_of_ble_eq_true rfl)⟩ (ci := 5) rfl rfl c.1.1.2 rfl rfl (Nat.le_of_ble_eq_true rfl) (c_flowIn c H1 d.2) ?_
        rintro _ q3 ⟨rfl, eq3⟩
        subst q3
        show zG l w mX9_flow 24 [(0, .ref x), (1, .int (nI f)), (2, .int (nI j))] [.ref (b + 53 + 2 * f)] h _
        refine g_astore_n (lv2 := [(3, .ref (b + 53 + 2 * f)), (0, .ref x), (1, .int (nI f)), (2, .int (nI j))]) dX9_flow_24 rfl (by decide) rfl ?_
        refine g_aload_n 0 dX9_flow_25 rfl rfl ?_
        refine g_ifnonnull (tgt := 35) dX9_flow_26 (by decide) ?_
        refine g_aload_n 1 dX9_flow_35 rfl rfl ?_
        refine g_iload_n 3 dX9_flow_36 rfl rfl ?_
        refine g_bipush (v := nI 11) dX9_flow_37 (by decide) ?_
        refine g_zcmp_ne (a := ((j : Nat) : Int)) (b := 11) (tgt := 53) (jI_nat j).symm (by decide) dX9_flow_39 (by decide) (by omega) (by omega) (fun e11 => ?_) (fun e11 => ?_)
        · refine g_aload_n 0 dX9_flow_53 rfl rfl ?_
          refine g_iload_n 3 dX9_flow_54 rfl rfl ?_
          refine g_invv (M' := mX2_tell) (As := [.int (nI j)]) (rest := [.ref x]) dX9_flow_55 ml_X9_134 okX2_tell imX2_tell seX2_tell ⟨(Nat.le_of_ble_eq_true rfl), (Nat.le_of_ble_eq_true rfl)⟩ (ci := 2) rfl rfl (c.1.2.2.2.2.2.2.2.2.2 f f6).2.1 rfl rfl (Nat.le_of_ble_eq_true rfl) (c_tellF c d.2 f6 F3 (by omega)) ?_
          rintro _ q4 ⟨rfl, eq4⟩
          subst q4
          show zG l w mX9_flow 58 [(3, .ref (b + 53 + 2 * f)), (0, .ref x), (1, .int (nI f)), (2, .int (nI j))] [.int (jI (flv N f j)), .ref x] h _
          refine g_invv (M' := mX9_answer) (As := [.int (jI (flv N f j))]) (rest := []) dX9_flow_58 ml_X9_75 okX9_answer imX9_answer seX9_answer ⟨(Nat.le_of_ble_eq_true rfl), (Nat.le_of_ble_eq_true rfl)⟩ (ci := 9) rfl rfl xo.1 rfl rfl (Nat.le_of_ble_eq_true rfl) (c_ans xo.1) ?_
          rintro _ q5 ⟨rfl, eq5⟩
          subst q5
          show zG l w mX9_flow 61 [(3, .ref (b + 53 + 2 * f)), (0, .ref x), (1, .int (nI f)), (2, .int (nI j))] [.int (jI (flv N f j))] (zSi h 290 x (nI 0)) _
          refine g_ireturn dX9_flow_61 rfl ?_
          exact ⟨rfl, rfl⟩
        · have e : j = 11 := by omega
          subst e
          refine g_aload_n 1 dX9_flow_42 rfl rfl ?_
          refine g_getr (f := 293) (b := b) dX9_flow_43 fl_X9_23 xo.1 rfl xo.2 ?_
          refine g_iload_n 2 dX9_flow_46 rfl rfl ?_
          refine g_invv (M' := mX5_linksThatCaught) (As := [.int (nI f)]) (rest := [.ref x]) dX9_flow_47 ml_X9_131 okX5_linksThatCaught imX5_linksThatCaught seX5_linksThatCaught ⟨(Nat.le_of_ble_eq_true rfl), (Nat.le_of_ble_eq_true rfl)⟩ (ci := 5) rfl rfl c.1.1.2 rfl rfl (Nat.le_of_ble_eq_true rfl) (c_linksCaught c hI f6) ?_
          rintro _ q6 ⟨rfl, eq6⟩
          subst q6
          show zG l w mX9_flow 50 [(3, .ref (b + 53 + 2 * f)), (0, .ref x), (1, .int (nI f)), (2, .int (nI 11))] [.int (jI (caN N f)), .ref x] h _
          refine g_goto (tgt := 58) dX9_flow_50 (by decide) ?_
          refine g_invv (M' := mX9_answer) (As := [.int (jI (caN N f))]) (rest := []) dX9_flow_58 ml_X9_75 okX9_answer imX9_answer seX9_answer ⟨(Nat.le_of_ble_eq_true rfl), (Nat.le_of_ble_eq_true rfl)⟩ (ci := 9) rfl rfl xo.1 rfl rfl (Nat.le_of_ble_eq_true rfl) (c_ans xo.1) ?_
          rintro _ q7 ⟨rfl, eq7⟩
          subst q7
          show zG l w mX9_flow 61 [(3, .ref (b + 53 + 2 * f)), (0, .ref x), (1, .int (nI f)), (2, .int (nI 11))] [.int (jI (caN N f))] (zSi h 290 x (nI 0)) _
          refine g_ireturn dX9_flow_61 rfl ?_
          exact ⟨rfl, rfl⟩
      · refine g_invv (M' := mX5_flowAt) (As := [.int (jI z)]) (rest := []) dX9_flow_21 ml_X9_127 okX5_flowAt imX5_flowAt seX5_flowAt ⟨(Nat.le_of_ble_eq_true rfl), (Nat.le_of_ble_eq_true rfl)⟩ (ci := 5) rfl rfl c.1.1.2 rfl rfl (Nat.le_of_ble_eq_true rfl) (c_flowOut c H1 zb d) ?_
        rintro _ q8 ⟨rfl, eq8⟩
        subst q8
        show zG l w mX9_flow 24 [(0, .ref x), (1, .int (jI z)), (2, .int (jI k))] [.null] h _
        refine g_astore_nN (lv2 := [(3, .null), (0, .ref x), (1, .int (jI z)), (2, .int (jI k))]) dX9_flow_24 rfl (by decide) rfl ?_
        refine g_aload_nN 0 dX9_flow_25 rfl rfl ?_
        refine g_ifnonnullN dX9_flow_26 ?_
        refine g_aload_n 1 dX9_flow_29 rfl rfl ?_
        refine g_iconst (v := nI 2) dX9_flow_30 (by decide) ?_
        refine g_invv (M' := mX9_refuse) (As := [.int (nI 2)]) (rest := []) dX9_flow_31 ml_X9_58 okX9_refuse imX9_refuse seX9_refuse ⟨(Nat.le_of_ble_eq_true rfl), (Nat.le_of_ble_eq_true rfl)⟩ (ci := 9) rfl rfl xo.1 rfl rfl (Nat.le_of_ble_eq_true rfl) (c_refC xo.1) ?_
        rintro _ q9 ⟨rfl, eq9⟩
        subst q9
        show zG l w mX9_flow 34 [(3, .null), (0, .ref x), (1, .int (jI z)), (2, .int (jI k))] [.int (-1)] (zSi h 290 x (nI 2)) _
        refine g_ireturn dX9_flow_34 rfl ?_
        rw [show qFlow N z k = (2, -1) by unfold qFlow; rw [if_pos (by omega), if_neg d]]
        exact ⟨rfl, rfl⟩
    · refine g_aload_n 0 dX9_flow_10 rfl rfl ?_
      refine g_iconst (v := nI 1) dX9_flow_11 (by decide) ?_
      refine g_invv (M' := mX9_refuse) (As := [.int (nI 1)]) (rest := []) dX9_flow_12 ml_X9_58 okX9_refuse imX9_refuse seX9_refuse ⟨(Nat.le_of_ble_eq_true rfl), (Nat.le_of_ble_eq_true rfl)⟩ (ci := 9) rfl rfl xo.1 rfl rfl (Nat.le_of_ble_eq_true rfl) (c_refC xo.1) ?_
      rintro _ q2 ⟨rfl, eq2⟩
      subst q2
      show zG l w mX9_flow 15 [(0, .ref x), (1, .int (jI z)), (2, .int (jI k))] [.int (-1)] (zSi h 290 x (nI 1)) _
      refine g_ireturn dX9_flow_15 rfl ?_
      rw [show qFlow N z k = (1, -1) by unfold qFlow; rw [if_neg (by omega)]]
      exact ⟨rfl, rfl⟩
end QB
