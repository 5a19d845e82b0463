section QM1
variable {l : Launch} {w : zW} {h : zH} {m x b : Nat} {π : Nat → Nat} {ls : Nat → List Nat} {N : nT} {X : List Nat} {t : Nat}
/-- how a call that changes the net ends: the model, the class -/
def PM (h : zH) (m : Nat) (r : nT × Int × Int) : Option Value → zH → Prop := fun u h1 => u = some (.int (jI r.2.2)) ∧ ∃ h0, MoN h0 m r.1 ∧ FrM m h h0 ∧ h1 = zSi h0 321 m (jI r.2.1)
def PC (h : zH) (x b : Nat) (π : Nat → Nat) (ls : Nat → List Nat) (t : Nat) (r : nT × Int × Int) : Option Value → zH → Prop := fun u h1 => u = some (.int (jI r.2.2)) ∧ ∃ h0, CX h0 b π ls r.1 [] t ∧ CSt b ls h ls h0 ∧ h1 = zSi h0 290 x (jI r.2.1)
theorem XO.st {ls1 : Nat → List Nat} {h1 : zH} (xo : XO h x b) (hx : x < zx h) (hb : x < b ∨ b + 65 ≤ x) (s : CSt b ls h ls1 h1) : XO h1 x b := ⟨(s.1.2.1 x hx).1.trans xo.1, ((s.1.2.2 x hx hb (Or.inl (by rw [xo.1]; decide))).1 293).2.2.trans xo.2⟩
def toN (N : nT) (k : Nat) (z : Int) : nT × Int × Int := if nA N k = z then (N, 4, -1) else (uA N k z, 0, nA N k)
def uKind (N : nT) (z k : Int) : nT × Int × Int := if 0 ≤ k ∧ k ≤ 3 then (if 0 ≤ z ∧ z < nA N 1 then toN N (248 + 20 * z.toNat + 2) k else (N, 2, -1)) else (N, 1, -1)
def uMore (N : nT) (z k : Int) : nT × Int × Int := if 1 ≤ k ∧ k ≤ 9999 then (if 0 ≤ z ∧ z < nA N 1 then (if nA N (248 + 20 * z.toNat + 1) + k > 9999 then (N, 3, -1) else (uA N (248 + 20 * z.toNat + 1) (nA N (248 + 20 * z.toNat + 1) + k), 0, nA N (248 + 20 * z.toNat + 1) + k)) else (N, 2, -1)) else (N, 1, -1)
def uTurn (N : nT) (z k : Int) : nT × Int × Int := if 0 ≤ z ∧ z < nA N 1 then (if nA N (248 + 20 * z.toNat + 3) = k then (N, 4, 0) else (uA N (248 + 20 * z.toNat + 3) k, 0, 1)) else (N, 2, 0)
def setK (k : Int) : Nat := if k = 0 then 0 else if k = 1 then 2 else 3
def setOk (k v : Int) : Bool := (decide (k = 0) && decide (1 ≤ v ∧ v ≤ 9)) || (decide (k = 1) && decide (1 ≤ v ∧ v ≤ 60)) || (decide (k = 2) && decide (2 ≤ v ∧ v ≤ 30))
def uSet (N : nT) (z k v : Int) : nT × Int × Int := if setOk k v then (if 0 ≤ z ∧ z < nA N 0 then toN N (8 + 40 * z.toNat + setK k) v else (N, 2, -1)) else (N, 1, -1)
def uTick (N : nT) (k : Int) : nT × Int × Int := if 1 ≤ k ∧ k ≤ 60 then (ticksN N k.toNat, 0, nA (ticksN N k.toNat) 2) else (N, 1, -1)
theorem c_turned (r : MoN h m N) {q : Nat} (hq : q < 4208) (hs : ¬ nSp q) (qb : -17592186044416 ≤ nA N q ∧ nA N q < 17592186044416) {v : Int} (vb : -2147483648 ≤ v ∧ v < 2147483648) : zM l w mX10_turned [.ref m, .int (nI q), .int (jI v)] h (PM h m (toN N q v)) := by
  refine zM.of (by decide) (Nat.le_of_ble_eq_true rfl) ?_
  refine g_aload_n 0 dX10_turned_0 rfl rfl ?_
  refine g_iload_n 1 dX10_turned_1 rfl rfl ?_
  refine g_invv (M' := mX10_of) (As := [.int (nI q)]) (rest := []) dX10_turned_2 ml_X10_48 okX10_of imX10_of seX10_of ⟨(Nat.le_of_ble_eq_true rfl), (Nat.le_of_ble_eq_true rfl)⟩ (ci := 10) rfl rfl r.1.1 rfl rfl (Nat.le_of_ble_eq_true rfl) (c_ofN r hq hs) ?_
  rintro _ q1 ⟨rfl, eq1⟩
  subst q1
  show zG l w mX10_turned 5 [(0, .ref m), (1, .int (nI q)), (2, .int (jI v))] [.long (jL (nA N q))] h _
  refine g_lstore_n (lv2 := [(3, .long (jL (nA N q))), (0, .ref m), (1, .int (nI q)), (2, .int (jI v))]) dX10_turned_5 rfl (by decide) rfl ?_
  refine g_lload_n 0 dX10_turned_6 rfl rfl ?_
  refine g_iload_n 3 dX10_turned_7 rfl rfl ?_
  refine g_i2l dX10_turned_8 ?_
  rw [jI_l (by omega) (by omega)]
  refine g_lif_ne (a := (nA N q)) (b := v) (tgt := 19) dX10_turned_9 rfl dX10_turned_10 (by decide) (by omega) (by omega) (fun c => ?_) (fun c => ?_)
  · refine g_aload_n 1 dX10_turned_19 rfl rfl ?_
    refine g_iload_n 2 dX10_turned_20 rfl rfl ?_
    refine g_iload_n 3 dX10_turned_21 rfl rfl ?_
    refine g_i2l dX10_turned_22 ?_
    rw [jI_l (by omega) (by omega)]
    refine g_invv (M' := mX10_puts) (As := [.int (nI q), .long (jL v)]) (rest := []) dX10_turned_23 ml_X10_40 okX10_puts imX10_puts seX10_puts ⟨(Nat.le_of_ble_eq_true rfl), (Nat.le_of_ble_eq_true rfl)⟩ (ci := 10) rfl rfl r.1.1 rfl rfl (Nat.le_of_ble_eq_true rfl) (c_putsN r hq hs) ?_
    rintro _ y3 ⟨rfl, r3, f3⟩
    show zG l w mX10_turned 26 [(3, .long (jL (nA N q))), (0, .ref m), (1, .int (nI q)), (2, .int (jI v))] [] y3 _
    refine g_aload_n 1 dX10_turned_26 rfl rfl ?_
    refine g_lload_n 0 dX10_turned_27 rfl rfl ?_
    refine g_invv (M' := mX10_gives) (As := [.long (jL (nA N q))]) (rest := []) dX10_turned_28 ml_X10_298 okX10_gives imX10_gives seX10_gives ⟨(Nat.le_of_ble_eq_true rfl), (Nat.le_of_ble_eq_true rfl)⟩ (ci := 10) rfl rfl r3.1.1 rfl rfl (Nat.le_of_ble_eq_true rfl) (c_gives r3.1.1) ?_
    rintro _ q4 ⟨rfl, eq4⟩
    subst q4
    show zG l w mX10_turned 31 [(3, .long (jL (nA N q))), (0, .ref m), (1, .int (nI q)), (2, .int (jI v))] [.int (jI (nA N q))] (zSi y3 321 m (nI 0)) _
    refine g_ireturn dX10_turned_31 rfl ?_
    rw [show toN N q v = (uA N q v, 0, nA N q) by unfold toN; rw [if_neg c]]
    exact ⟨rfl, y3, r3, (FrM.rf.tr f3), rfl⟩
  · refine g_aload_n 1 dX10_turned_13 rfl rfl ?_
    refine g_iconst (v := nI 4) dX10_turned_14 (by decide) ?_
    refine g_invv (M' := mX10_refuse) (As := [.int (nI 4)]) (rest := []) dX10_turned_15 ml_X10_289 okX10_refuse imX10_refuse seX10_refuse ⟨(Nat.le_of_ble_eq_true rfl), (Nat.le_of_ble_eq_true rfl)⟩ (ci := 10) rfl rfl r.1.1 rfl rfl (Nat.le_of_ble_eq_true rfl) (c_refuse r.1.1) ?_
    rintro _ q2 ⟨rfl, eq2⟩
    subst q2
    show zG l w mX10_turned 18 [(3, .long (jL (nA N q))), (0, .ref m), (1, .int (nI q)), (2, .int (jI v))] [.int (-1)] (zSi h 321 m (nI 4)) _
    refine g_ireturn dX10_turned_18 rfl ?_
    rw [show toN N q v = (N, 4, -1) by unfold toN; rw [if_pos c]]
    exact ⟨rfl, h, r, FrM.rf, rfl⟩
theorem c_kindM (r : MoN h m N) (hI : iN [] N) {z k : Int} (zb : -2147483648 ≤ z ∧ z < 2147483648) (kb : -2147483648 ≤ k ∧ k < 2147483648) : zM l w mX10_kind [.ref m, .int (jI z), .int (jI k)] h (PM h m (uKind N z k)) := by
  refine zM.of (by decide) (Nat.le_of_ble_eq_true rfl) ?_
  have H1 := hI.H.2.1
  refine g_iload_n 2 dX10_kind_0 rfl rfl ?_
  refine g_i2l dX10_kind_1 ?_
  rw [jI_l (by omega) (by omega)]
  refine g_lconst (v := jL 0) dX10_kind_2 (by decide) ?_
  refine g_ldc2J (z := 3) dX10_kind_3 kl_X10_134 (by decide) ?_
  refine g_invs (M' := mX10_isFrom) (As := [.long (jL k), .long (jL 0), .long (jL 3)]) (rest := []) dX10_kind_6 ml_X10_252 okX10_isFrom stX10_isFrom ⟨(Nat.le_of_ble_eq_true rfl), (Nat.le_of_ble_eq_true rfl)⟩ rfl rfl (Nat.le_of_ble_eq_true rfl) (c_isFrom (by omega) (by omega) (by omega)) ?_
  rintro _ q1 ⟨rfl, eq1⟩
  subst q1
  show zG l w mX10_kind 9 [(0, .ref m), (1, .int (jI z)), (2, .int (jI k))] [.int (bI (decide (0 ≤ k ∧ k ≤ 3)))] h _
  refine g_bif_ne (tgt := 18) dX10_kind_9 (by decide) (fun c => ?_) (fun c => ?_)
  · have c := of_decide_eq_true c
    refine g_aload_n 0 dX10_kind_18 rfl rfl ?_
    refine g_iload_n 1 dX10_kind_19 rfl rfl ?_
    refine g_invv (M' := mX10_isFlow) (As := [.int (jI z)]) (rest := []) dX10_kind_20 ml_X10_321 okX10_isFlow imX10_isFlow seX10_isFlow ⟨(Nat.le_of_ble_eq_true rfl), (Nat.le_of_ble_eq_true rfl)⟩ (ci := 10) rfl rfl r.1.1 rfl rfl (Nat.le_of_ble_eq_true rfl) (c_isFlow r H1 (by omega)) ?_
    rintro _ q3 ⟨rfl, eq3⟩
    subst q3
    show zG l w mX10_kind 23 [(0, .ref m), (1, .int (jI z)), (2, .int (jI k))] [.int (bI (decide (0 ≤ z ∧ z < nA N 1)))] h _
    refine g_bif_eq (tgt := 39) dX10_kind_23 (by decide) (fun d => ?_) (fun d => ?_)
    · have d := of_decide_eq_false d
      refine g_aload_n 0 dX10_kind_39 rfl rfl ?_
      refine g_iconst (v := nI 2) dX10_kind_40 (by decide) ?_
      refine g_invv (M' := mX10_refuse) (As := [.int (nI 2)]) (rest := []) dX10_kind_41 ml_X10_289 okX10_refuse imX10_refuse seX10_refuse ⟨(Nat.le_of_ble_eq_true rfl), (Nat.le_of_ble_eq_true rfl)⟩ (ci := 10) rfl rfl r.1.1 rfl rfl (Nat.le_of_ble_eq_true rfl) (c_refuse r.1.1) ?_
      rintro _ q4 ⟨rfl, eq4⟩
      subst q4
      show zG l w mX10_kind 44 [(0, .ref m), (1, .int (jI z)), (2, .int (jI k))] [.int (-1)] (zSi h 321 m (nI 2)) _
      refine g_ireturn dX10_kind_44 rfl ?_
      rw [show uKind N z k = (N, 2, -1) by unfold uKind; rw [if_pos c, if_neg d]]
      exact ⟨rfl, h, r, FrM.rf, rfl⟩
    · have d := of_decide_eq_true d
      rw [show uKind N z k = toN N (248 + 20 * z.toNat + 2) k by unfold uKind; rw [if_pos c, if_pos d]]
      obtain ⟨f, ef⟩ : ∃ f : Nat, z = (f : Int) := ⟨_, (Int.toNat_of_nonneg d.1).symm⟩
      subst ef
      simp only [jI_nat]
      rw [show (f : Int).toNat = f from rfl]
      have F2 := (hI.F f d.2).2.2.2.1
      refine g_aload_n 0 dX10_kind_26 rfl rfl ?_
      refine g_iload_n 1 dX10_kind_27 rfl rfl ?_
      refine g_iconst (v := nI 2) dX10_kind_28 (by decide) ?_
      refine g_invs (M' := mX10_flow0) (As := [.int (nI f), .int (nI 2)]) (rest := [.ref m]) dX10_kind_29 ml_X10_52 okX10_flow0 stX10_flow0 ⟨(Nat.le_of_ble_eq_true rfl), (Nat.le_of_ble_eq_true rfl)⟩ rfl rfl (Nat.le_of_ble_eq_true rfl) c_flow0 ?_
      rintro _ q5 ⟨rfl, eq5⟩
      subst q5
      show zG l w mX10_kind 32 [(0, .ref m), (1, .int (nI f)), (2, .int (jI k))] [.int (nI (248 + 20 * f + 2)), .ref m] h _
      refine g_iload_n 2 dX10_kind_32 rfl rfl ?_
      have T := c_turned (l := l) (w := w) r (q := 248 + 20 * f + 2) (by omega) (by unfold nSp; omega) (by omega) (v := k) (by omega)
      refine g_invv (M' := mX10_turned) (As := [.int (nI (248 + 20 * f + 2)), .int (jI k)]) (rest := []) dX10_kind_33 ml_X10_343 okX10_turned imX10_turned seX10_turned ⟨(Nat.le_of_ble_eq_true rfl), (Nat.le_of_ble_eq_true rfl)⟩ (ci := 10) rfl rfl r.1.1 rfl rfl (Nat.le_of_ble_eq_true rfl) T ?_
      rintro _ h9 ⟨rfl, t2⟩
      show zG l w mX10_kind 36 [(0, .ref m), (1, .int (nI f)), (2, .int (jI k))] [.int (jI (toN N (248 + 20 * f + 2) k).2.2)] h9 _
      refine g_goto (tgt := 44) dX10_kind_36 (by decide) ?_
      refine g_ireturn dX10_kind_44 rfl ?_
      exact ⟨rfl, t2⟩
  · have c := of_decide_eq_false c
    refine g_aload_n 0 dX10_kind_12 rfl rfl ?_
    refine g_iconst (v := nI 1) dX10_kind_13 (by decide) ?_
    refine g_invv (M' := mX10_refuse) (As := [.int (nI 1)]) (rest := []) dX10_kind_14 ml_X10_289 okX10_refuse imX10_refuse seX10_refuse ⟨(Nat.le_of_ble_eq_true rfl), (Nat.le_of_ble_eq_true rfl)⟩ (ci := 10) rfl rfl r.1.1 rfl rfl (Nat.le_of_ble_eq_true rfl) (c_refuse r.1.1) ?_
    rintro _ q2 ⟨rfl, eq2⟩
    subst q2
    show zG l w mX10_kind 17 [(0, .ref m), (1, .int (jI z)), (2, .int (jI k))] [.int (-1)] (zSi h 321 m (nI 1)) _
    refine g_ireturn dX10_kind_17 rfl ?_
    rw [show uKind N z k = (N, 1, -1) by unfold uKind; rw [if_neg c]]
    exact ⟨rfl, h, r, FrM.rf, rfl⟩
theorem c_kindC (c : CX h b π ls N [] t) (xo : XO h x b) (hx : x < zx h) (hb : x < b ∨ b + 65 ≤ x) (hI : iN [] N) {z k : Int} (zb : -2147483648 ≤ z ∧ z < 2147483648) (kb : -2147483648 ≤ k ∧ k < 2147483648) : zM l w mX9_kind [.ref x, .int (jI z), .int (jI k)] h (PC h x b π ls t (uKind N z k)) := by
  refine zM.of (by decide) (Nat.le_of_ble_eq_true rfl) ?_
  have H1 := hI.H.2.1
  refine g_iload_n 2 dX9_kind_0 rfl rfl ?_
  refine g_zif_lt (a := k) (tgt := 9) rfl dX9_kind_1 (by decide) (by omega) (fun g => ?_) (fun g => ?_)
  · refine g_aload_n 0 dX9_kind_9 rfl rfl ?_
    refine g_iconst (v := nI 1) dX9_kind_10 (by decide) ?_
    refine g_invv (M' := mX9_refuse) (As := [.int (nI 1)]) (rest := []) dX9_kind_11 ml_X9_58 okX9_refuse imX9_refuse seX9_refuse ⟨(Nat.le_of_ble_eq_true rfl), (Nat.le_of_ble_eq_true rfl)⟩ (ci := 9) rfl rfl xo.1 rfl rfl (Nat.le_of_ble_eq_true rfl) (c_refC xo.1) ?_
    rintro _ q1 ⟨rfl, eq1⟩
    subst q1
    show zG l w mX9_kind 14 [(0, .ref x), (1, .int (jI z)), (2, .int (jI k))] [.int (-1)] (zSi h 290 x (nI 1)) _
    refine g_ireturn dX9_kind_14 rfl ?_
    rw [show uKind N z k = (N, 1, -1) by unfold uKind; rw [if_neg (by omega)]]
    exact ⟨rfl, h, c, CSt.rf, rfl⟩
  · refine g_iload_n 2 dX9_kind_4 rfl rfl ?_
    refine g_iconst (v := nI 3) dX9_kind_5 (by decide) ?_
    refine g_zcmp_le (a := k) (b := 3) (tgt := 15) rfl (by decide) dX9_kind_6 (by decide) (by omega) (by omega) (fun g2 => ?_) (fun g2 => ?_)
    · refine g_aload_n 0 dX9_kind_15 rfl rfl ?_
      refine g_getr (f := 293) (b := b) dX9_kind_16 fl_X9_23 xo.1 rfl xo.2 ?_
      refine g_iload_n 1 dX9_kind_19 rfl rfl ?_
      by_cases d : 0 ≤ z ∧ z < nA N 1
      · rw [show uKind N z k = toN N (248 + 20 * z.toNat + 2) k by unfold uKind; rw [if_pos (by omega), if_pos d]]
        obtain ⟨f, ef⟩ : ∃ f : Nat, z = (f : Int) := ⟨_, (Int.toNat_of_nonneg d.1).symm⟩
        subst ef
        simp only [jI_nat]
        rw [show (f : Int).toNat = f from rfl]
        have f6 : f < 6 := by omega
        have F2 := (hI.F f d.2).2.2.2.1
        refine g_invv (M' := mX5_flowAt) (As := [.int (nI f)]) (rest := []) dX9_kind_20 ml_X9_127 okX5_flowAt imX5_flowAt seX5_flowAt ⟨(Nat.le_of_ble_eq_true rfl), (Nat.le_of_ble_eq_true rfl)⟩ (ci := 5) rfl rfl c.1.1.2 rfl rfl (Nat.le_of_ble_eq_true rfl) (c_flowIn c H1 d.2) ?_
        rintro _ q5 ⟨rfl, eq5⟩
        subst q5
        show zG l w mX9_kind 23 [(0, .ref x), (1, .int (nI f)), (2, .int (jI k))] [.ref (b + 53 + 2 * f)] h _
        refine g_astore_n (lv2 := [(3, .ref (b + 53 + 2 * f)), (0, .ref x), (1, .int (nI f)), (2, .int (jI k))]) dX9_kind_23 rfl (by decide) rfl ?_
        refine g_aload_n 0 dX9_kind_24 rfl rfl ?_
        refine g_ifnonnull (tgt := 34) dX9_kind_25 (by decide) ?_
        refine g_aload_n 0 dX9_kind_34 rfl rfl ?_
        refine g_geti (f := 67) dX9_kind_35 fl_X9_229 (c.1.2.2.2.2.2.2.2.2.2 f f6).2.1 (by decide) rfl ?_
        rw [show zi h 67 (b + 53 + 2 * f) = jI (nA N (248 + 20 * f + 2)) from (c.2.2.2.2.1 f d.2 f6).1 2 (by omega) (by omega)]
        refine g_istore (lv2 := [(4, .int (jI (nA N (248 + 20 * f + 2)))), (3, .ref (b + 53 + 2 * f)), (0, .ref x), (1, .int (nI f)), (2, .int (jI k))]) dX9_kind_38 (by decide) rfl ?_
        refine g_iload 0 dX9_kind_40 rfl ?_
        refine g_iload_n 4 dX9_kind_42 rfl rfl ?_
        refine g_zcmp_ne (a := (nA N (248 + 20 * f + 2))) (b := k) (tgt := 52) rfl rfl dX9_kind_43 (by decide) (by omega) (by omega) (fun e => ?_) (fun e => ?_)
        · refine g_aload_n 1 dX9_kind_52 rfl rfl ?_
          refine g_iload_n 4 dX9_kind_53 rfl rfl ?_
          refine g_puti (f := 67) dX9_kind_54 fl_X9_229 (Or.inl rfl) (c.1.2.2.2.2.2.2.2.2.2 f f6).2.1 rfl ?_
          have cx7 : CX (zSi h 67 (b + 53 + 2 * f) (jI k)) b π ls (uA N (248 + 20 * f + 2) k) [] t ∧ CSt b ls h ls (zSi h 67 (b + 53 + 2 * f) (jI k)) := c.setF (j := 2) f6 (by omega) (by omega) (by omega)
          generalize zSi h 67 (b + 53 + 2 * f) (jI k) = y7 at cx7 ⊢
          refine g_aload_n 2 dX9_kind_57 rfl rfl ?_
          refine g_iload 0 dX9_kind_58 rfl ?_
          refine g_invv (M' := mX9_answer) (As := [.int (jI (nA N (248 + 20 * f + 2)))]) (rest := []) dX9_kind_60 ml_X9_75 okX9_answer imX9_answer seX9_answer ⟨(Nat.le_of_ble_eq_true rfl), (Nat.le_of_ble_eq_true rfl)⟩ (ci := 9) rfl rfl (XO.st xo hx hb (CSt.rf.tr cx7.2)).1 rfl rfl (Nat.le_of_ble_eq_true rfl) (c_ans (XO.st xo hx hb (CSt.rf.tr cx7.2)).1) ?_
          rintro _ q8 ⟨rfl, eq8⟩
          subst q8
          show zG l w mX9_kind 63 [(4, .int (jI (nA N (248 + 20 * f + 2)))), (3, .ref (b + 53 + 2 * f)), (0, .ref x), (1, .int (nI f)), (2, .int (jI k))] [.int (jI (nA N (248 + 20 * f + 2)))] (zSi y7 290 x (nI 0)) _
          refine g_ireturn dX9_kind_63 rfl ?_
          rw [show toN N (248 + 20 * f + 2) k = (uA N (248 + 20 * f + 2) k, 0, nA N (248 + 20 * f + 2)) by unfold toN; rw [if_neg e]]
          exact ⟨rfl, y7, cx7.1, (CSt.rf.tr cx7.2), rfl⟩
        · refine g_aload_n 2 dX9_kind_46 rfl rfl ?_
          refine g_iconst (v := nI 4) dX9_kind_47 (by decide) ?_
          refine g_invv (M' := mX9_refuse) (As := [.int (nI 4)]) (rest := []) dX9_kind_48 ml_X9_58 okX9_refuse imX9_refuse seX9_refuse ⟨(Nat.le_of_ble_eq_true rfl), (Nat.le_of_ble_eq_true rfl)⟩ (ci := 9) rfl rfl xo.1 rfl rfl (Nat.le_of_ble_eq_true rfl) (c_refC xo.1) ?_
          rintro _ q6 ⟨rfl, eq6⟩
          subst q6
          show zG l w mX9_kind 51 [(4, .int (jI (nA N (248 + 20 * f + 2)))), (3, .ref (b + 53 + 2 * f)), (0, .ref x), (1, .int (nI f)), (2, .int (jI k))] [.int (-1)] (zSi h 290 x (nI 4)) _
          refine g_ireturn dX9_kind_51 rfl ?_
          rw [show toN N (248 + 20 * f + 2) k = (N, 4, -1) by unfold toN; rw [if_pos e]]
          exact ⟨rfl, h, c, CSt.rf, rfl⟩
      · refine g_invv (M' := mX5_flowAt) (As := [.int (jI z)]) (rest := []) dX9_kind_20 ml_X9_127 okX5_flowAt imX5_flowAt seX5_flowAt ⟨(Nat.le_of_ble_eq_true rfl), (Nat.le_of_ble_eq_true rfl)⟩ (ci := 5) rfl rfl c.1.1.2 rfl rfl (Nat.le_of_ble_eq_true rfl) (c_flowOut c H1 zb d) ?_
        rintro _ q3 ⟨rfl, eq3⟩
        subst q3
        show zG l w mX9_kind 23 [(0, .ref x), (1, .int (jI z)), (2, .int (jI k))] [.null] h _
        refine g_astore_nN (lv2 := [(3, .null), (0, .ref x), (1, .int (jI z)), (2, .int (jI k))]) dX9_kind_23 rfl (by decide) rfl ?_
        refine g_aload_nN 0 dX9_kind_24 rfl rfl ?_
        refine g_ifnonnullN dX9_kind_25 ?_
        refine g_aload_n 1 dX9_kind_28 rfl rfl ?_
        refine g_iconst (v := nI 2) dX9_kind_29 (by decide) ?_
        refine g_invv (M' := mX9_refuse) (As := [.int (nI 2)]) (rest := []) dX9_kind_30 ml_X9_58 okX9_refuse imX9_refuse seX9_refuse ⟨(Nat.le_of_ble_eq_true rfl), (Nat.le_of_ble_eq_true rfl)⟩ (ci := 9) rfl rfl xo.1 rfl rfl (Nat.le_of_ble_eq_true rfl) (c_refC xo.1) ?_
        rintro _ q4 ⟨rfl, eq4⟩
        subst q4
        show zG l w mX9_kind 33 [(3, .null), (0, .ref x), (1, .int (jI z)), (2, .int (jI k))] [.int (-1)] (zSi h 290 x (nI 2)) _
        refine g_ireturn dX9_kind_33 rfl ?_
        rw [show uKind N z k = (N, 2, -1) by unfold uKind; rw [if_pos (by omega), if_neg d]]
        exact ⟨rfl, h, c, CSt.rf, rfl⟩
    · refine g_aload_n 0 dX9_kind_9 rfl rfl ?_
      refine g_iconst (v := nI 1) dX9_kind_10 (by decide) ?_
      refine g_invv (M' := mX9_refuse) (As := [.int (nI 1)]) (rest := []) dX9_kind_11 ml_X9_58 okX9_refuse imX9_refuse seX9_refuse ⟨(Nat.le_of_ble_eq_true rfl), (Nat.le_of_ble_eq_true rfl)⟩ (ci := 9) rfl rfl xo.1 rfl rfl (Nat.le_of_ble_eq_true rfl) (c_refC xo.1) ?_
      rintro _ q2 ⟨rfl, eq2⟩
      subst q2
      show zG l w mX9_kind 14 [(0, .ref x), (1, .int (jI z)), (2, .int (jI k))] [.int (-1)] (zSi h 290 x (nI 1)) _
      refine g_ireturn dX9_kind_14 rfl ?_
      rw [show uKind N z k = (N, 1, -1) by unfold uKind; rw [if_neg (by omega)]]
      exact ⟨rfl, h, c, CSt.rf, rfl⟩
theorem c_moreM (r : MoN h m N) (hI : iN [] N) {z k : Int} (zb : -2147483648 ≤ z ∧ z < 2147483648) (kb : -2147483648 ≤ k ∧ k < 2147483648) : zM l w mX10_more [.ref m, .int (jI z), .int (jI k)] h (PM h m (uMore N z k)) := by
  refine zM.of (by decide) (Nat.le_of_ble_eq_true rfl) ?_
  have H1 := hI.H.2.1
  refine g_iload_n 2 dX10_more_0 rfl rfl ?_
  refine g_i2l dX10_more_1 ?_
  rw [jI_l (by omega) (by omega)]
  refine g_lconst (v := jL 1) dX10_more_2 (by decide) ?_
  refine g_ldc2J (z := 9999) dX10_more_3 kl_X10_111 (by decide) ?_
  refine g_invs (M' := mX10_isFrom) (As := [.long (jL k), .long (jL 1), .long (jL 9999)]) (rest := []) dX10_more_6 ml_X10_252 okX10_isFrom stX10_isFrom ⟨(Nat.le_of_ble_eq_true rfl), (Nat.le_of_ble_eq_true rfl)⟩ rfl rfl (Nat.le_of_ble_eq_true rfl) (c_isFrom (by omega) (by omega) (by omega)) ?_
  rintro _ q1 ⟨rfl, eq1⟩
  subst q1
  show zG l w mX10_more 9 [(0, .ref m), (1, .int (jI z)), (2, .int (jI k))] [.int (bI (decide (1 ≤ k ∧ k ≤ 9999)))] h _
  refine g_bif_ne (tgt := 18) dX10_more_9 (by decide) (fun c => ?_) (fun c => ?_)
  · have c := of_decide_eq_true c
    refine g_aload_n 0 dX10_more_18 rfl rfl ?_
    refine g_iload_n 1 dX10_more_19 rfl rfl ?_
    refine g_invv (M' := mX10_isFlow) (As := [.int (jI z)]) (rest := []) dX10_more_20 ml_X10_321 okX10_isFlow imX10_isFlow seX10_isFlow ⟨(Nat.le_of_ble_eq_true rfl), (Nat.le_of_ble_eq_true rfl)⟩ (ci := 10) rfl rfl r.1.1 rfl rfl (Nat.le_of_ble_eq_true rfl) (c_isFlow r H1 (by omega)) ?_
    rintro _ q3 ⟨rfl, eq3⟩
    subst q3
    show zG l w mX10_more 23 [(0, .ref m), (1, .int (jI z)), (2, .int (jI k))] [.int (bI (decide (0 ≤ z ∧ z < nA N 1)))] h _
    refine g_bif_ne (tgt := 32) dX10_more_23 (by decide) (fun d => ?_) (fun d => ?_)
    · have d := of_decide_eq_true d
      have hq : uMore N z k = (if nA N (248 + 20 * z.toNat + 1) + k > 9999 then (N, 3, -1) else (uA N (248 + 20 * z.toNat + 1) (nA N (248 + 20 * z.toNat + 1) + k), 0, nA N (248 + 20 * z.toNat + 1) + k)) := by unfold uMore; rw [if_pos c, if_pos d]
      rw [hq]
      clear hq
      obtain ⟨f, ef⟩ : ∃ f : Nat, z = (f : Int) := ⟨_, (Int.toNat_of_nonneg d.1).symm⟩
      subst ef
      simp only [jI_nat]
      rw [show (f : Int).toNat = f from rfl]
      have F1 := (hI.F f d.2).2.2.1
      have f6 : f < 6 := by omega
      refine g_aload_n 0 dX10_more_32 rfl rfl ?_
      refine g_iload_n 1 dX10_more_33 rfl rfl ?_
      refine g_iconst (v := nI 1) dX10_more_34 (by decide) ?_
      refine g_invv (M' := mX10_ofFlow) (As := [.int (nI f), .int (nI 1)]) (rest := []) dX10_more_35 ml_X10_62 okX10_ofFlow imX10_ofFlow seX10_ofFlow ⟨(Nat.le_of_ble_eq_true rfl), (Nat.le_of_ble_eq_true rfl)⟩ (ci := 10) rfl rfl r.1.1 rfl rfl (Nat.le_of_ble_eq_true rfl) (c_ofFlowN r (by omega)) ?_
      rintro _ q5 ⟨rfl, eq5⟩
      subst q5
      show zG l w mX10_more 38 [(0, .ref m), (1, .int (nI f)), (2, .int (jI k))] [.long (jL (nA N (248 + 20 * f + 1)))] h _
      refine g_iload_n 2 dX10_more_38 rfl rfl ?_
      refine g_i2l dX10_more_39 ?_
      rw [jI_l (by omega) (by omega)]
      refine g_ladd dX10_more_40 ?_
      rw [jL_add]
      refine g_ldc2J (z := 9999) dX10_more_41 kl_X10_111 (by decide) ?_
      refine g_lif_le (a := ((nA N (248 + 20 * f + 1)) + k)) (b := 9999) (tgt := 54) dX10_more_44 rfl dX10_more_45 (by decide) (by omega) (by omega) (fun e => ?_) (fun e => ?_)
      · refine g_aload_n 0 dX10_more_54 rfl rfl ?_
        refine g_iload_n 1 dX10_more_55 rfl rfl ?_
        refine g_iconst (v := nI 1) dX10_more_56 (by decide) ?_
        refine g_invs (M' := mX10_flow0) (As := [.int (nI f), .int (nI 1)]) (rest := [.ref m]) dX10_more_57 ml_X10_52 okX10_flow0 stX10_flow0 ⟨(Nat.le_of_ble_eq_true rfl), (Nat.le_of_ble_eq_true rfl)⟩ rfl rfl (Nat.le_of_ble_eq_true rfl) c_flow0 ?_
        rintro _ q7 ⟨rfl, eq7⟩
        subst q7
        show zG l w mX10_more 60 [(0, .ref m), (1, .int (nI f)), (2, .int (jI k))] [.int (nI (248 + 20 * f + 1)), .ref m] h _
        refine g_iload_n 2 dX10_more_60 rfl rfl ?_
        refine g_i2l dX10_more_61 ?_
        rw [jI_l (by omega) (by omega)]
        refine g_invv (M' := mX10_adds) (As := [.int (nI (248 + 20 * f + 1)), .long (jL k)]) (rest := []) dX10_more_62 ml_X10_76 okX10_adds imX10_adds seX10_adds ⟨(Nat.le_of_ble_eq_true rfl), (Nat.le_of_ble_eq_true rfl)⟩ (ci := 10) rfl rfl r.1.1 rfl rfl (Nat.le_of_ble_eq_true rfl) (c_addsN r (by omega) (by unfold nSp; omega)) ?_
        rintro _ y8 ⟨rfl, r8, f8⟩
        show zG l w mX10_more 65 [(0, .ref m), (1, .int (nI f)), (2, .int (jI k))] [] y8 _
        refine g_aload_n 0 dX10_more_65 rfl rfl ?_
        refine g_aload_n 0 dX10_more_66 rfl rfl ?_
        refine g_iload_n 1 dX10_more_67 rfl rfl ?_
        refine g_iconst (v := nI 1) dX10_more_68 (by decide) ?_
        refine g_invv (M' := mX10_ofFlow) (As := [.int (nI f), .int (nI 1)]) (rest := [.ref m]) dX10_more_69 ml_X10_62 okX10_ofFlow imX10_ofFlow seX10_ofFlow ⟨(Nat.le_of_ble_eq_true rfl), (Nat.le_of_ble_eq_true rfl)⟩ (ci := 10) rfl rfl r8.1.1 rfl rfl (Nat.le_of_ble_eq_true rfl) (c_ofFlowN r8 (by omega)) ?_
        rintro _ q9 ⟨rfl, eq9⟩
        subst q9
        show zG l w mX10_more 72 [(0, .ref m), (1, .int (nI f)), (2, .int (jI k))] [.long (jL (nA (uA N (248 + 20 * f + 1) (nA N (248 + 20 * f + 1) + k)) (248 + 20 * f + 1))), .ref m] y8 _
        rw [show nA (uA N (248 + 20 * f + 1) (nA N (248 + 20 * f + 1) + k)) (248 + 20 * f + 1) = nA N (248 + 20 * f + 1) + k by rw [nA_eq]]
        refine g_invv (M' := mX10_gives) (As := [.long (jL (nA N (248 + 20 * f + 1) + k))]) (rest := []) dX10_more_72 ml_X10_298 okX10_gives imX10_gives seX10_gives ⟨(Nat.le_of_ble_eq_true rfl), (Nat.le_of_ble_eq_true rfl)⟩ (ci := 10) rfl rfl r8.1.1 rfl rfl (Nat.le_of_ble_eq_true rfl) (c_gives r8.1.1) ?_
        rintro _ q10 ⟨rfl, eq10⟩
        subst q10
        show zG l w mX10_more 75 [(0, .ref m), (1, .int (nI f)), (2, .int (jI k))] [.int (jI (nA N (248 + 20 * f + 1) + k))] (zSi y8 321 m (nI 0)) _
        refine g_ireturn dX10_more_75 rfl ?_
        rw [if_neg (by omega)]
        exact ⟨rfl, y8, r8, (FrM.rf.tr f8), rfl⟩
      · refine g_aload_n 0 dX10_more_48 rfl rfl ?_
        refine g_iconst (v := nI 3) dX10_more_49 (by decide) ?_
        refine g_invv (M' := mX10_refuse) (As := [.int (nI 3)]) (rest := []) dX10_more_50 ml_X10_289 okX10_refuse imX10_refuse seX10_refuse ⟨(Nat.le_of_ble_eq_true rfl), (Nat.le_of_ble_eq_true rfl)⟩ (ci := 10) rfl rfl r.1.1 rfl rfl (Nat.le_of_ble_eq_true rfl) (c_refuse r.1.1) ?_
        rintro _ q6 ⟨rfl, eq6⟩
        subst q6
        show zG l w mX10_more 53 [(0, .ref m), (1, .int (nI f)), (2, .int (jI k))] [.int (-1)] (zSi h 321 m (nI 3)) _
        refine g_ireturn dX10_more_53 rfl ?_
        rw [if_pos (by omega)]
        exact ⟨rfl, h, r, FrM.rf, rfl⟩
    · have d := of_decide_eq_false d
      refine g_aload_n 0 dX10_more_26 rfl rfl ?_
      refine g_iconst (v := nI 2) dX10_more_27 (by decide) ?_
      refine g_invv (M' := mX10_refuse) (As := [.int (nI 2)]) (rest := []) dX10_more_28 ml_X10_289 okX10_refuse imX10_refuse seX10_refuse ⟨(Nat.le_of_ble_eq_true rfl), (Nat.le_of_ble_eq_true rfl)⟩ (ci := 10) rfl rfl r.1.1 rfl rfl (Nat.le_of_ble_eq_true rfl) (c_refuse r.1.1) ?_
      rintro _ q4 ⟨rfl, eq4⟩
      subst q4
      show zG l w mX10_more 31 [(0, .ref m), (1, .int (jI z)), (2, .int (jI k))] [.int (-1)] (zSi h 321 m (nI 2)) _
      refine g_ireturn dX10_more_31 rfl ?_
      rw [show uMore N z k = (N, 2, -1) by unfold uMore; rw [if_pos c, if_neg d]]
      exact ⟨rfl, h, r, FrM.rf, rfl⟩
  · have c := of_decide_eq_false c
    refine g_aload_n 0 dX10_more_12 rfl rfl ?_
    refine g_iconst (v := nI 1) dX10_more_13 (by decide) ?_
    refine g_invv (M' := mX10_refuse) (As := [.int (nI 1)]) (rest := []) dX10_more_14 ml_X10_289 okX10_refuse imX10_refuse seX10_refuse ⟨(Nat.le_of_ble_eq_true rfl), (Nat.le_of_ble_eq_true rfl)⟩ (ci := 10) rfl rfl r.1.1 rfl rfl (Nat.le_of_ble_eq_true rfl) (c_refuse r.1.1) ?_
    rintro _ q2 ⟨rfl, eq2⟩
    subst q2
    show zG l w mX10_more 17 [(0, .ref m), (1, .int (jI z)), (2, .int (jI k))] [.int (-1)] (zSi h 321 m (nI 1)) _
    refine g_ireturn dX10_more_17 rfl ?_
    rw [show uMore N z k = (N, 1, -1) by unfold uMore; rw [if_neg c]]
    exact ⟨rfl, h, r, FrM.rf, rfl⟩
theorem c_moreC (c : CX h b π ls N [] t) (xo : XO h x b) (hx : x < zx h) (hb : x < b ∨ b + 65 ≤ x) (hI : iN [] N) {z k : Int} (zb : -2147483648 ≤ z ∧ z < 2147483648) (kb : -2147483648 ≤ k ∧ k < 2147483648) : zM l w mX9_more [.ref x, .int (jI z), .int (jI k)] h (PC h x b π ls t (uMore N z k)) := by
  refine zM.of (by decide) (Nat.le_of_ble_eq_true rfl) ?_
  have H1 := hI.H.2.1
  refine g_iload_n 2 dX9_more_0 rfl rfl ?_
  refine g_iconst (v := nI 1) dX9_more_1 (by decide) ?_
  refine g_zcmp_lt (a := k) (b := 1) (tgt := 12) rfl (by decide) dX9_more_2 (by decide) (by omega) (by omega) (fun g => ?_) (fun g => ?_)
  · refine g_aload_n 0 dX9_more_12 rfl rfl ?_
    refine g_iconst (v := nI 1) dX9_more_13 (by decide) ?_
    refine g_invv (M' := mX9_refuse) (As := [.int (nI 1)]) (rest := []) dX9_more_14 ml_X9_58 okX9_refuse imX9_refuse seX9_refuse ⟨(Nat.le_of_ble_eq_true rfl), (Nat.le_of_ble_eq_true rfl)⟩ (ci := 9) rfl rfl xo.1 rfl rfl (Nat.le_of_ble_eq_true rfl) (c_refC xo.1) ?_
    rintro _ q1 ⟨rfl, eq1⟩
    subst q1
    show zG l w mX9_more 17 [(0, .ref x), (1, .int (jI z)), (2, .int (jI k))] [.int (-1)] (zSi h 290 x (nI 1)) _
    refine g_ireturn dX9_more_17 rfl ?_
    rw [show uMore N z k = (N, 1, -1) by unfold uMore; rw [if_neg (by omega)]]
    exact ⟨rfl, h, c, CSt.rf, rfl⟩
  · refine g_iload_n 2 dX9_more_5 rfl rfl ?_
    refine g_sipush (v := nI 9999) dX9_more_6 (by decide) ?_
    refine g_zcmp_le (a := k) (b := 9999) (tgt := 18) rfl (by decide) dX9_more_9 (by decide) (by omega) (by omega) (fun g2 => ?_) (fun g2 => ?_)
    · refine g_aload_n 0 dX9_more_18 rfl rfl ?_
      refine g_getr (f := 293) (b := b) dX9_more_19 fl_X9_23 xo.1 rfl xo.2 ?_
      refine g_iload_n 1 dX9_more_22 rfl rfl ?_
      by_cases d : 0 ≤ z ∧ z < nA N 1
      · have hq : uMore N z k = (if nA N (248 + 20 * z.toNat + 1) + k > 9999 then (N, 3, -1) else (uA N (248 + 20 * z.toNat + 1) (nA N (248 + 20 * z.toNat + 1) + k), 0, nA N (248 + 20 * z.toNat + 1) + k)) := by unfold uMore; rw [if_pos (by omega), if_pos d]
        rw [hq]
        clear hq
        obtain ⟨f, ef⟩ : ∃ f : Nat, z = (f : Int) := ⟨_, (Int.toNat_of_nonneg d.1).symm⟩
        subst ef
        simp only [jI_nat]
        rw [show (f : Int).toNat = f from rfl]
        have f6 : f < 6 := by omega
        have F1 := (hI.F f d.2).2.2.1
        refine g_invv (M' := mX5_flowAt) (As := [.int (nI f)]) (rest := []) dX9_more_23 ml_X9_127 okX5_flowAt imX5_flowAt seX5_flowAt ⟨(Nat.le_of_ble_eq_true rfl), (Nat.le_of_ble_eq_true rfl)⟩ (ci := 5) rfl rfl c.1.1.2 rfl rfl (Nat.le_of_ble_eq_true rfl) (c_flowIn c H1 d.2) ?_
        rintro _ q5 ⟨rfl, eq5⟩
        subst q5
        show zG l w mX9_more 26 [(0, .ref x), (1, .int (nI f)), (2, .int (jI k))] [.ref (b + 53 + 2 * f)] h _
        refine g_astore_n (lv2 := [(3, .ref (b + 53 + 2 * f)), (0, .ref x), (1, .int (nI f)), (2, .int (jI k))]) dX9_more_26 rfl (by decide) rfl ?_
        refine g_aload_n 0 dX9_more_27 rfl rfl ?_
        refine g_ifnonnull (tgt := 37) dX9_more_28 (by decide) ?_
        refine g_aload_n 0 dX9_more_37 rfl rfl ?_
        refine g_geti (f := 66) dX9_more_38 fl_X9_226 (c.1.2.2.2.2.2.2.2.2.2 f f6).2.1 (by decide) rfl ?_
        rw [show zi h 66 (b + 53 + 2 * f) = jI (nA N (248 + 20 * f + 1)) from (c.2.2.2.2.1 f d.2 f6).1 1 (by omega) (by omega)]
        refine g_iload_n 3 dX9_more_41 rfl rfl ?_
        refine g_iadd dX9_more_42 ?_
        refine zG.top (show (jI (nA N (248 + 20 * f + 1))) + (jI k) = jI ((nA N (248 + 20 * f + 1)) + k) by rw [jI_add]) ?_
        refine g_sipush (v := nI 9999) dX9_more_43 (by decide) ?_
        refine g_zcmp_le (a := ((nA N (248 + 20 * f + 1)) + k)) (b := 9999) (tgt := 55) rfl (by decide) dX9_more_46 (by decide) (by omega) (by omega) (fun e => ?_) (fun e => ?_)
        · refine g_aload_n 0 dX9_more_55 rfl rfl ?_
          refine g_dup dX9_more_56 rfl ?_
          refine g_geti (f := 66) dX9_more_57 fl_X9_226 (c.1.2.2.2.2.2.2.2.2.2 f f6).2.1 (by decide) rfl ?_
          rw [show zi h 66 (b + 53 + 2 * f) = jI (nA N (248 + 20 * f + 1)) from (c.2.2.2.2.1 f d.2 f6).1 1 (by omega) (by omega)]
          refine g_iload_n 3 dX9_more_60 rfl rfl ?_
          refine g_iadd dX9_more_61 ?_
          refine zG.top (show (jI (nA N (248 + 20 * f + 1))) + (jI k) = jI ((nA N (248 + 20 * f + 1)) + k) by rw [jI_add]) ?_
          refine g_puti (f := 66) dX9_more_62 fl_X9_226 (Or.inl rfl) (c.1.2.2.2.2.2.2.2.2.2 f f6).2.1 rfl ?_
          have cx7 : CX (zSi h 66 (b + 53 + 2 * f) (jI ((nA N (248 + 20 * f + 1)) + k))) b π ls (uA N (248 + 20 * f + 1) ((nA N (248 + 20 * f + 1)) + k)) [] t ∧ CSt b ls h ls (zSi h 66 (b + 53 + 2 * f) (jI ((nA N (248 + 20 * f + 1)) + k))) := c.setF (j := 1) f6 (by omega) (by omega) (by omega)
          generalize zSi h 66 (b + 53 + 2 * f) (jI ((nA N (248 + 20 * f + 1)) + k)) = y7 at cx7 ⊢
          refine g_aload_n 1 dX9_more_65 rfl rfl ?_
          refine g_aload_n 0 dX9_more_66 rfl rfl ?_
          refine g_geti (f := 66) dX9_more_67 fl_X9_226 (cx7.1.1.2.2.2.2.2.2.2.2.2 f f6).2.1 (by decide) rfl ?_
          rw [show zi y7 66 (b + 53 + 2 * f) = jI (nA (uA N (248 + 20 * f + 1) ((nA N (248 + 20 * f + 1)) + k)) (248 + 20 * f + 1)) from (cx7.1.2.2.2.2.1 f (by rw [nA_ne (by omega)]; exact d.2) f6).1 1 (by omega) (by omega)]
          rw [show nA (uA N (248 + 20 * f + 1) ((nA N (248 + 20 * f + 1)) + k)) (248 + 20 * f + 1) = (nA N (248 + 20 * f + 1)) + k by rw [nA_eq]]
          refine g_invv (M' := mX9_answer) (As := [.int (jI ((nA N (248 + 20 * f + 1)) + k))]) (rest := []) dX9_more_70 ml_X9_75 okX9_answer imX9_answer seX9_answer ⟨(Nat.le_of_ble_eq_true rfl), (Nat.le_of_ble_eq_true rfl)⟩ (ci := 9) rfl rfl (XO.st xo hx hb (CSt.rf.tr cx7.2)).1 rfl rfl (Nat.le_of_ble_eq_true rfl) (c_ans (XO.st xo hx hb (CSt.rf.tr cx7.2)).1) ?_
          rintro _ q8 ⟨rfl, eq8⟩
          subst q8
          show zG l w mX9_more 73 [(3, .ref (b + 53 + 2 * f)), (0, .ref x), (1, .int (nI f)), (2, .int (jI k))] [.int (jI ((nA N (248 + 20 * f + 1)) + k))] (zSi y7 290 x (nI 0)) _
          refine g_ireturn dX9_more_73 rfl ?_
          rw [if_neg (by omega)]
          exact ⟨rfl, y7, cx7.1, (CSt.rf.tr cx7.2), rfl⟩
        · refine g_aload_n 1 dX9_more_49 rfl rfl ?_
          refine g_iconst (v := nI 3) dX9_more_50 (by decide) ?_
          refine g_invv (M' := mX9_refuse) (As := [.int (nI 3)]) (rest := []) dX9_more_51 ml_X9_58 okX9_refuse imX9_refuse seX9_refuse ⟨(Nat.le_of_ble_eq_true rfl), (Nat.le_of_ble_eq_true rfl)⟩ (ci := 9) rfl rfl xo.1 rfl rfl (Nat.le_of_ble_eq_true rfl) (c_refC xo.1) ?_
          rintro _ q6 ⟨rfl, eq6⟩
          subst q6
          show zG l w mX9_more 54 [(3, .ref (b + 53 + 2 * f)), (0, .ref x), (1, .int (nI f)), (2, .int (jI k))] [.int (-1)] (zSi h 290 x (nI 3)) _
          refine g_ireturn dX9_more_54 rfl ?_
          rw [if_pos (by omega)]
          exact ⟨rfl, h, c, CSt.rf, rfl⟩
      · refine g_invv (M' := mX5_flowAt) (As := [.int (jI z)]) (rest := []) dX9_more_23 ml_X9_127 okX5_flowAt imX5_flowAt seX5_flowAt ⟨(Nat.le_of_ble_eq_true rfl), (Nat.le_of_ble_eq_true rfl)⟩ (ci := 5) rfl rfl c.1.1.2 rfl rfl (Nat.le_of_ble_eq_true rfl) (c_flowOut c H1 zb d) ?_
        rintro _ q3 ⟨rfl, eq3⟩
        subst q3
        show zG l w mX9_more 26 [(0, .ref x), (1, .int (jI z)), (2, .int (jI k))] [.null] h _
        refine g_astore_nN (lv2 := [(3, .null), (0, .ref x), (1, .int (jI z)), (2, .int (jI k))]) dX9_more_26 rfl (by decide) rfl ?_
        refine g_aload_nN 0 dX9_more_27 rfl rfl ?_
        refine g_ifnonnullN dX9_more_28 ?_
        refine g_aload_n 1 dX9_more_31 rfl rfl ?_
        refine g_iconst (v := nI 2) dX9_more_32 (by decide) ?_
        refine g_invv (M' := mX9_refuse) (As := [.int (nI 2)]) (rest := []) dX9_more_33 ml_X9_58 okX9_refuse imX9_refuse seX9_refuse ⟨(Nat.le_of_ble_eq_true rfl), (Nat.le_of_ble_eq_true rfl)⟩ (ci := 9) rfl rfl xo.1 rfl rfl (Nat.le_of_ble_eq_true rfl) (c_refC xo.1) ?_
        rintro _ q4 ⟨rfl, eq4⟩
        subst q4
        show zG l w mX9_more 36 [(3, .null), (0, .ref x), (1, .int (jI z)), (2, .int (jI k))] [.int (-1)] (zSi h 290 x (nI 2)) _
        refine g_ireturn dX9_more_36 rfl ?_
        rw [show uMore N z k = (N, 2, -1) by unfold uMore; rw [if_pos (by omega), if_neg d]]
        exact ⟨rfl, h, c, CSt.rf, rfl⟩
    · refine g_aload_n 0 dX9_more_12 rfl rfl ?_
      refine g_iconst (v := nI 1) dX9_more_13 (by decide) ?_
      refine g_invv (M' := mX9_refuse) (As := [.int (nI 1)]) (rest := []) dX9_more_14 ml_X9_58 okX9_refuse imX9_refuse seX9_refuse ⟨(Nat.le_of_ble_eq_true rfl), (Nat.le_of_ble_eq_true rfl)⟩ (ci := 9) rfl rfl xo.1 rfl rfl (Nat.le_of_ble_eq_true rfl) (c_refC xo.1) ?_
      rintro _ q2 ⟨rfl, eq2⟩
      subst q2
      show zG l w mX9_more 17 [(0, .ref x), (1, .int (jI z)), (2, .int (jI k))] [.int (-1)] (zSi h 290 x (nI 1)) _
      refine g_ireturn dX9_more_17 rfl ?_
      rw [show uMore N z k = (N, 1, -1) by unfold uMore; rw [if_neg (by omega)]]
      exact ⟨rfl, h, c, CSt.rf, rfl⟩
theorem c_tickM (r : MoN h m N) (h0 : iT N) (ht : nA N 2 ≤ 39000) {k : Int} (kb : -2147483648 ≤ k ∧ k < 2147483648) : zM l w mX10_tick [.ref m, .int (jI k)] h (PM h m (uTick N k)) := by
  refine zM.of (by decide) (Nat.le_of_ble_eq_true rfl) ?_
  refine g_iload_n 1 dX10_tick_0 rfl rfl ?_
  refine g_i2l dX10_tick_1 ?_
  rw [jI_l (by omega) (by omega)]
  refine g_lconst (v := jL 1) dX10_tick_2 (by decide) ?_
  refine g_ldc2J (z := 60) dX10_tick_3 kl_X10_339 (by decide) ?_
  refine g_invs (M' := mX10_isFrom) (As := [.long (jL k), .long (jL 1), .long (jL 60)]) (rest := []) dX10_tick_6 ml_X10_252 okX10_isFrom stX10_isFrom ⟨(Nat.le_of_ble_eq_true rfl), (Nat.le_of_ble_eq_true rfl)⟩ rfl rfl (Nat.le_of_ble_eq_true rfl) (c_isFrom (by omega) (by omega) (by omega)) ?_
  rintro _ q1 ⟨rfl, eq1⟩
  subst q1
  show zG l w mX10_tick 9 [(0, .ref m), (1, .int (jI k))] [.int (bI (decide (1 ≤ k ∧ k ≤ 60)))] h _
  refine g_bif_ne (tgt := 18) dX10_tick_9 (by decide) (fun c => ?_) (fun c => ?_)
  · have c := of_decide_eq_true c
    rw [show uTick N k = (ticksN N k.toNat, 0, nA (ticksN N k.toNat) 2) by unfold uTick; rw [if_pos c]]
    obtain ⟨j, ej⟩ : ∃ j : Nat, k = (j : Int) := ⟨_, (Int.toNat_of_nonneg (by omega)).symm⟩
    subst ej
    simp only [jI_nat]
    rw [show (j : Int).toNat = j from rfl]
    refine g_aload_n 0 dX10_tick_18 rfl rfl ?_
    refine g_iload_n 1 dX10_tick_19 rfl rfl ?_
    refine g_invv (M' := mX10_ticks_) (As := [.int (nI j)]) (rest := []) dX10_tick_20 ml_X10_349 okX10_ticks_ imX10_ticks_ seX10_ticks_ ⟨(Nat.le_of_ble_eq_true rfl), (Nat.le_of_ble_eq_true rfl)⟩ (ci := 10) rfl rfl r.1.1 rfl rfl (Nat.le_of_ble_eq_true rfl) (c_ticksI r h0 (n := j) (by omega)) ?_
    rintro _ y3 ⟨rfl, r3, f3⟩
    show zG l w mX10_tick 23 [(0, .ref m), (1, .int (nI j))] [] y3 _
    refine g_aload_n 0 dX10_tick_23 rfl rfl ?_
    refine g_aload_n 0 dX10_tick_24 rfl rfl ?_
    refine g_iconst (v := nI 2) dX10_tick_25 (by decide) ?_
    refine g_invv (M' := mX10_of) (As := [.int (nI 2)]) (rest := [.ref m]) dX10_tick_26 ml_X10_48 okX10_of imX10_of seX10_of ⟨(Nat.le_of_ble_eq_true rfl), (Nat.le_of_ble_eq_true rfl)⟩ (ci := 10) rfl rfl r3.1.1 rfl rfl (Nat.le_of_ble_eq_true rfl) (c_ofN r3 (by omega) (by unfold nSp; omega)) ?_
    rintro _ q4 ⟨rfl, eq4⟩
    subst q4
    show zG l w mX10_tick 29 [(0, .ref m), (1, .int (nI j))] [.long (jL (nA (ticksN N j) 2)), .ref m] y3 _
    refine g_invv (M' := mX10_gives) (As := [.long (jL (nA (ticksN N j) 2))]) (rest := []) dX10_tick_29 ml_X10_298 okX10_gives imX10_gives seX10_gives ⟨(Nat.le_of_ble_eq_true rfl), (Nat.le_of_ble_eq_true rfl)⟩ (ci := 10) rfl rfl r3.1.1 rfl rfl (Nat.le_of_ble_eq_true rfl) (c_gives r3.1.1) ?_
    rintro _ q5 ⟨rfl, eq5⟩
    subst q5
    show zG l w mX10_tick 32 [(0, .ref m), (1, .int (nI j))] [.int (jI (nA (ticksN N j) 2))] (zSi y3 321 m (nI 0)) _
    refine g_ireturn dX10_tick_32 rfl ?_
    exact ⟨rfl, y3, r3, (FrM.rf.tr f3), rfl⟩
  · have c := of_decide_eq_false c
    refine g_aload_n 0 dX10_tick_12 rfl rfl ?_
    refine g_iconst (v := nI 1) dX10_tick_13 (by decide) ?_
    refine g_invv (M' := mX10_refuse) (As := [.int (nI 1)]) (rest := []) dX10_tick_14 ml_X10_289 okX10_refuse imX10_refuse seX10_refuse ⟨(Nat.le_of_ble_eq_true rfl), (Nat.le_of_ble_eq_true rfl)⟩ (ci := 10) rfl rfl r.1.1 rfl rfl (Nat.le_of_ble_eq_true rfl) (c_refuse r.1.1) ?_
    rintro _ q2 ⟨rfl, eq2⟩
    subst q2
    show zG l w mX10_tick 17 [(0, .ref m), (1, .int (jI k))] [.int (-1)] (zSi h 321 m (nI 1)) _
    refine g_ireturn dX10_tick_17 rfl ?_
    rw [show uTick N k = (N, 1, -1) by unfold uTick; rw [if_neg c]]
    exact ⟨rfl, h, r, FrM.rf, rfl⟩
theorem c_tickC (c : CX h b π ls N [] t) (xo : XO h x b) (hx : x < zx h) (hb : x < b ∨ b + 65 ≤ x) (h0 : iT N) (h2 : nA N 2 = ((t : Nat) : Int)) (ht : nA N 2 ≤ 39000) {k : Int} (kb : -2147483648 ≤ k ∧ k < 2147483648) : zM l w mX9_tick [.ref x, .int (jI k)] h (fun u h1 => u = some (.int (jI (uTick N k).2.2)) ∧ ∃ h0 π1 ls1 t1, CX h0 b π1 ls1 (uTick N k).1 [] t1 ∧ nA (uTick N k).1 2 = ((t1 : Nat) : Int) ∧ CSt b ls h ls1 h0 ∧ h1 = zSi h0 290 x (jI (uTick N k).2.1)) := by
  refine zM.of (by decide) (Nat.le_of_ble_eq_true rfl) ?_
  have H2 := h0.1.H.2.2.1
  refine g_iload_n 1 dX9_tick_0 rfl rfl ?_
  refine g_iconst (v := nI 1) dX9_tick_1 (by decide) ?_
  refine g_zcmp_lt (a := k) (b := 1) (tgt := 11) rfl (by decide) dX9_tick_2 (by decide) (by omega) (by omega) (fun g => ?_) (fun g => ?_)
  · refine g_aload_n 0 dX9_tick_11 rfl rfl ?_
    refine g_iconst (v := nI 1) dX9_tick_12 (by decide) ?_
    refine g_invv (M' := mX9_refuse) (As := [.int (nI 1)]) (rest := []) dX9_tick_13 ml_X9_58 okX9_refuse imX9_refuse seX9_refuse ⟨(Nat.le_of_ble_eq_true rfl), (Nat.le_of_ble_eq_true rfl)⟩ (ci := 9) rfl rfl xo.1 rfl rfl (Nat.le_of_ble_eq_true rfl) (c_refC xo.1) ?_
    rintro _ q1 ⟨rfl, eq1⟩
    subst q1
    show zG l w mX9_tick 16 [(0, .ref x), (1, .int (jI k))] [.int (-1)] (zSi h 290 x (nI 1)) _
    refine g_ireturn dX9_tick_16 rfl ?_
    rw [show uTick N k = (N, 1, -1) by unfold uTick; rw [if_neg (by omega)]]
    exact ⟨rfl, h, π, ls, t, c, h2, CSt.rf, rfl⟩
  · refine g_iload_n 1 dX9_tick_5 rfl rfl ?_
    refine g_bipush (v := nI 60) dX9_tick_6 (by decide) ?_
    refine g_zcmp_le (a := k) (b := 60) (tgt := 17) rfl (by decide) dX9_tick_8 (by decide) (by omega) (by omega) (fun g2 => ?_) (fun g2 => ?_)
    · rw [show uTick N k = (ticksN N k.toNat, 0, nA (ticksN N k.toNat) 2) by unfold uTick; rw [if_pos (by omega)]]
      obtain ⟨j, ej⟩ : ∃ j : Nat, k = (j : Int) := ⟨_, (Int.toNat_of_nonneg (by omega)).symm⟩
      subst ej
      simp only [jI_nat]
      rw [show (j : Int).toNat = j from rfl]
      have T := ticks_in h0 j (by omega)
      refine g_aload_n 0 dX9_tick_17 rfl rfl ?_
      refine g_getr (f := 293) (b := b) dX9_tick_18 fl_X9_23 xo.1 rfl xo.2 ?_
      refine g_iload_n 1 dX9_tick_21 rfl rfl ?_
      refine g_invv (M' := mX5_passTicks) (As := [.int (nI j)]) (rest := []) dX9_tick_22 ml_X9_243 okX5_passTicks imX5_passTicks seX5_passTicks ⟨(Nat.le_of_ble_eq_true rfl), (Nat.le_of_ble_eq_true rfl)⟩ (ci := 5) rfl rfl c.1.1.2 rfl rfl (Nat.le_of_ble_eq_true rfl) (c_passTicks c h0 h2 (m := j) (by omega)) ?_
      rintro _ y1 ⟨rfl, π1, ls1, c1, s1⟩
      show zG l w mX9_tick 25 [(0, .ref x), (1, .int (nI j))] [] y1 _
      refine g_aload_n 0 dX9_tick_25 rfl rfl ?_
      refine g_aload_n 0 dX9_tick_26 rfl rfl ?_
      refine g_getr (f := 293) (b := b) dX9_tick_27 fl_X9_23 (XO.st xo hx hb s1).1 rfl (XO.st xo hx hb s1).2 ?_
      refine g_geti (f := 164) dX9_tick_30 fl_X9_81 c1.1.1.2 (by decide) rfl ?_
      rw [show zi y1 164 b = jI (nA (ticksN N j) 2) from c1.2.2.1.2.2.1]
      refine g_invv (M' := mX9_answer) (As := [.int (jI (nA (ticksN N j) 2))]) (rest := []) dX9_tick_33 ml_X9_75 okX9_answer imX9_answer seX9_answer ⟨(Nat.le_of_ble_eq_true rfl), (Nat.le_of_ble_eq_true rfl)⟩ (ci := 9) rfl rfl (XO.st xo hx hb s1).1 rfl rfl (Nat.le_of_ble_eq_true rfl) (c_ans (XO.st xo hx hb s1).1) ?_
      rintro _ q3 ⟨rfl, eq3⟩
      subst q3
      show zG l w mX9_tick 36 [(0, .ref x), (1, .int (nI j))] [.int (jI (nA (ticksN N j) 2))] (zSi y1 290 x (nI 0)) _
      refine g_ireturn dX9_tick_36 rfl ?_
      exact ⟨rfl, y1, π1, ls1, t + j, c1, by show nA (ticksN N j) 2 = _; rw [T.2.1, h2]; rfl, s1, rfl⟩
    · refine g_aload_n 0 dX9_tick_11 rfl rfl ?_
      refine g_iconst (v := nI 1) dX9_tick_12 (by decide) ?_
      refine g_invv (M' := mX9_refuse) (As := [.int (nI 1)]) (rest := []) dX9_tick_13 ml_X9_58 okX9_refuse imX9_refuse seX9_refuse ⟨(Nat.le_of_ble_eq_true rfl), (Nat.le_of_ble_eq_true rfl)⟩ (ci := 9) rfl rfl xo.1 rfl rfl (Nat.le_of_ble_eq_true rfl) (c_refC xo.1) ?_
      rintro _ q2 ⟨rfl, eq2⟩
      subst q2
      show zG l w mX9_tick 16 [(0, .ref x), (1, .int (jI k))] [.int (-1)] (zSi h 290 x (nI 1)) _
      refine g_ireturn dX9_tick_16 rfl ?_
      rw [show uTick N k = (N, 1, -1) by unfold uTick; rw [if_neg (by omega)]]
      exact ⟨rfl, h, π, ls, t, c, h2, CSt.rf, rfl⟩
end QM1
