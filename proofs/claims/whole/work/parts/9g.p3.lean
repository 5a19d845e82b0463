section PE3
variable {l : Launch} {w : zW} {h h1 y : zH} {x n : Nat} {B : Nat → Nat} {ls lt : Nat → List Nat} {N M : nT} {Ms : Nat → nT}
/-- how a call on the class ends that leaves the net as it is -/
def PPc (h : zH) (x : Nat) (B : Nat → Nat) (N : nT) (Ms : Nat → nT) (n : Nat) (r : Int × Int) : Option Value → zH → Prop := fun u h1 => u = some (.int (jI r.2)) ∧ zi h1 290 x = jI r.1 ∧ (∃ lt, GC h1 x B lt N Ms n) ∧ OtX x (fun _ => False) h h1
theorem GC.px (g : GC h x B ls N Ms n) (s : CSt (B 1) ls h lt y) : zk y x = 9 ∧ zr y 294 x = some (B 1) ∧ zr y 293 x = some (B 0) := by
  have q := g.2.2.1 1 (by omega)
  unfold isBk at q
  have gx := g.1.1
  have sx := s.1.2.2 x (by omega) (by omega) (Or.inl (by rw [g.1.2.1]; omega))
  exact ⟨(s.1.2.1 x (by omega)).1.trans g.1.2.1, (sx.1 294).2.2.trans g.1.2.2.2.1, (sx.1 293).2.2.trans g.1.2.2.1⟩
theorem GC.dj (g : GC h x B ls N Ms n) : B 0 + 65 ≤ B 1 ∨ B 1 + 65 ≤ B 0 := by
  have q1 := g.2.2.1 0 (by omega)
  have q2 := g.2.2.1 1 (by omega)
  have q3 := g.2.2.2.1 0 1 (by omega) (by omega) (by omega)
  unfold isBk at q1 q2
  omega
theorem PPc.fin {r : Int × Int} {v : Int32} {u : Option Value} {π : Nat → Nat} {t : Nat} (g : GC h x B ls N Ms n) (s : CSt (B 1) ls h lt y) (c : CX y (B 1) π lt M [] t) (hM : iT M) (hu : u = some (.int (jI r.2))) (hv : v = jI r.1) : PPc h x B N Ms n r u (zSi y 290 x v) :=
  ⟨hu, by rw [zi_same]; exact hv, ⟨lt, (g.paper s c.2.1 (c.cw hM.1)).stat⟩, (OtX.cst g (by omega) s).tr (OtX.si (by omega))⟩
theorem PPc.ref {r : Int × Int} {v : Int32} {u : Option Value} (g : GC h x B ls N Ms n) (hu : u = some (.int (jI r.2))) (hv : v = jI r.1) : PPc h x B N Ms n r u (zSi h 290 x v) :=
  ⟨hu, by rw [zi_same]; exact hv, ⟨ls, g.stat⟩, OtX.si (by omega)⟩
theorem c_ticksUntil (g : GC h x B ls N Ms n) (ht : nA N 2 ≤ 39000) {v1 v2 : Int32} {p : nT → Bool} (hr : ∀ (y : zH) (π : Nat → Nat) (lt : Nat → List Nat) (M : nT) (t : Nat), zk y x = 9 → zr y 294 x = some (B 1) → CX y (B 1) π lt M [] t → iT M → nA M 1 = nA N 1 → zM l w mX9_isReached [.ref x, .int v1, .int v2] y (fun u h1 => u = some (.int (bI (p M))) ∧ h1 = y)) : zM l w mX9_ticksUntil [.ref x, .int v1, .int v2] h (PPc h x B N Ms n (rchN p 120 N 0)) := by
  refine zM.of (by decide) (Nat.le_of_ble_eq_true rfl) ?_
  obtain ⟨π, t, c1, c2, c3⟩ := g.2.2.2.2.2.2.1
  refine g_aload_n 0 dX9_ticksUntil_0 rfl rfl ?_
  refine g_getr (f := 294) (b := B 1) dX9_ticksUntil_1 fl_X9_27 g.1.2.1 rfl g.1.2.2.2.1 ?_
  refine g_aload_n 0 dX9_ticksUntil_4 rfl rfl ?_
  refine g_getr (f := 293) (b := B 0) dX9_ticksUntil_5 fl_X9_23 g.1.2.1 rfl g.1.2.2.1 ?_
  refine g_invv (M' := mX5_copyFrom) (As := [.ref (B 0)]) (rest := []) dX9_ticksUntil_8 ml_X9_246 okX5_copyFrom imX5_copyFrom seX5_copyFrom ⟨(Nat.le_of_ble_eq_true rfl), (Nat.le_of_ble_eq_true rfl)⟩ (ci := 5) rfl rfl (g.2.2.2.2.2.1 1 (by omega)).1.1.2 rfl rfl (Nat.le_of_ble_eq_true rfl) (c_netCopy c1 c2.1 (g.2.2.2.2.2.1 1 (by omega)) g.dj) ?_
  rintro _ y0 ⟨rfl, π0, lt0, cx0, s0⟩
  show zG l w mX9_ticksUntil 11 [(0, .ref x), (1, .int v1), (2, .int v2)] [] y0 _
  have loop : ∀ k i : Nat, i + k = 120 → ∀ (y : zH) (π1 : Nat → Nat) (lt1 : Nat → List Nat) (M : nT) (t1 : Nat), CX y (B 1) π1 lt1 M [] t1 → iT M → nA M 2 = ((t1 : Nat) : Int) → nA M 2 = nA N 2 + i → nA M 1 = nA N 1 → CSt (B 1) ls h lt1 y → zG l w mX9_ticksUntil 13 [(3, .int (nI i)), (0, .ref x), (1, .int v1), (2, .int v2)] [] y (PPc h x B N Ms n (rchN p k M i)) := by
    intro k
    induction k with
    | zero =>
      intro i hi y π1 lt1 M t1 cM hM e2 e3 e1 sM
      have X1 := g.px sM
      refine g_iload_n 0 dX9_ticksUntil_13 rfl rfl ?_
      refine g_bipush (v := nI 120) dX9_ticksUntil_14 (by decide) ?_
      refine g_ncmp_ge (tgt := 48) dX9_ticksUntil_16 (by decide) (by omega) (by omega) (fun g0 => ?_) (fun g0 => ?_)
      · refine g_aload_n 1 dX9_ticksUntil_48 rfl rfl ?_
        refine g_iload_n 2 dX9_ticksUntil_49 rfl rfl ?_
        refine g_iload_n 3 dX9_ticksUntil_50 rfl rfl ?_
        refine g_invv (M' := mX9_isReached) (As := [.int v1, .int v2]) (rest := []) dX9_ticksUntil_51 ml_X9_273 okX9_isReached imX9_isReached seX9_isReached ⟨(Nat.le_of_ble_eq_true rfl), (Nat.le_of_ble_eq_true rfl)⟩ (ci := 9) rfl rfl X1.1 rfl rfl (Nat.le_of_ble_eq_true rfl) (hr y π1 lt1 M t1 X1.1 X1.2.1 cM hM e1) ?_
        rintro _ q6 ⟨rfl, eq6⟩
        subst q6
        show zG l w mX9_ticksUntil 54 [(3, .int (nI i)), (0, .ref x), (1, .int v1), (2, .int v2)] [.int (bI (p M))] y _
        refine g_bif_eq (tgt := 66) dX9_ticksUntil_54 (by decide) (fun d => ?_) (fun d => ?_)
        · refine g_aload_n 1 dX9_ticksUntil_66 rfl rfl ?_
          refine g_bipush (v := nI 6) dX9_ticksUntil_67 (by decide) ?_
          refine g_invv (M' := mX9_refuse) (As := [.int (nI 6)]) (rest := []) dX9_ticksUntil_69 ml_X9_58 okX9_refuse imX9_refuse seX9_refuse ⟨(Nat.le_of_ble_eq_true rfl), (Nat.le_of_ble_eq_true rfl)⟩ (ci := 9) rfl rfl X1.1 rfl rfl (Nat.le_of_ble_eq_true rfl) (c_refC X1.1) ?_
          rintro _ q1 ⟨rfl, eq1⟩
          subst q1
          show zG l w mX9_ticksUntil 72 [(3, .int (nI i)), (0, .ref x), (1, .int v1), (2, .int v2)] [.int (-1)] (zSi y 290 x (nI 6)) _
          refine g_ireturn dX9_ticksUntil_72 rfl ?_
          refine PPc.fin g sM cM hM (by unfold rchN; rw [if_neg (by rw [d]; decide)]; rfl) (by unfold rchN; rw [if_neg (by rw [d]; decide)]; rfl)
        · refine g_aload_n 1 dX9_ticksUntil_57 rfl rfl ?_
          refine g_bipush (v := nI 120) dX9_ticksUntil_58 (by decide) ?_
          refine g_invv (M' := mX9_answer) (As := [.int (nI 120)]) (rest := []) dX9_ticksUntil_60 ml_X9_75 okX9_answer imX9_answer seX9_answer ⟨(Nat.le_of_ble_eq_true rfl), (Nat.le_of_ble_eq_true rfl)⟩ (ci := 9) rfl rfl X1.1 rfl rfl (Nat.le_of_ble_eq_true rfl) (c_ans X1.1) ?_
          rintro _ q2 ⟨rfl, eq2⟩
          subst q2
          show zG l w mX9_ticksUntil 63 [(3, .int (nI i)), (0, .ref x), (1, .int v1), (2, .int v2)] [.int (nI 120)] (zSi y 290 x (nI 0)) _
          refine g_goto (tgt := 72) dX9_ticksUntil_63 (by decide) ?_
          refine g_ireturn dX9_ticksUntil_72 rfl ?_
          refine PPc.fin g sM cM hM (by unfold rchN; rw [if_pos d, show i = 120 by omega]; rfl) (by unfold rchN; rw [if_pos d]; rfl)
      · exact absurd g0 (by omega)
    | succ k ih =>
      intro i hi y π1 lt1 M t1 cM hM e2 e3 e1 sM
      have X1 := g.px sM
      refine g_iload_n 0 dX9_ticksUntil_13 rfl rfl ?_
      refine g_bipush (v := nI 120) dX9_ticksUntil_14 (by decide) ?_
      refine g_ncmp_ge (tgt := 48) dX9_ticksUntil_16 (by decide) (by omega) (by omega) (fun g0 => ?_) (fun g0 => ?_)
      · exact absurd g0 (by omega)
      · refine g_aload_n 1 dX9_ticksUntil_19 rfl rfl ?_
        refine g_iload_n 2 dX9_ticksUntil_20 rfl rfl ?_
        refine g_iload_n 3 dX9_ticksUntil_21 rfl rfl ?_
        refine g_invv (M' := mX9_isReached) (As := [.int v1, .int v2]) (rest := []) dX9_ticksUntil_22 ml_X9_273 okX9_isReached imX9_isReached seX9_isReached ⟨(Nat.le_of_ble_eq_true rfl), (Nat.le_of_ble_eq_true rfl)⟩ (ci := 9) rfl rfl X1.1 rfl rfl (Nat.le_of_ble_eq_true rfl) (hr y π1 lt1 M t1 X1.1 X1.2.1 cM hM e1) ?_
        rintro _ q6 ⟨rfl, eq6⟩
        subst q6
        show zG l w mX9_ticksUntil 25 [(3, .int (nI i)), (0, .ref x), (1, .int v1), (2, .int v2)] [.int (bI (p M))] y _
        refine g_bif_eq (tgt := 34) dX9_ticksUntil_25 (by decide) (fun d => ?_) (fun d => ?_)
        · refine g_aload_n 1 dX9_ticksUntil_34 rfl rfl ?_
          refine g_getr (f := 294) (b := B 1) dX9_ticksUntil_35 fl_X9_27 X1.1 rfl X1.2.1 ?_
          refine g_iconst (v := nI 1) dX9_ticksUntil_38 (by decide) ?_
          refine g_invv (M' := mX5_passTicks) (As := [.int (nI 1)]) (rest := []) dX9_ticksUntil_39 ml_X9_243 okX5_passTicks imX5_passTicks seX5_passTicks ⟨(Nat.le_of_ble_eq_true rfl), (Nat.le_of_ble_eq_true rfl)⟩ (ci := 5) rfl rfl cM.1.1.2 rfl rfl (Nat.le_of_ble_eq_true rfl) (c_passTicks (m := 1) cM hM e2 (by omega)) ?_
          rintro _ y3 ⟨rfl, π3, lt3, c3, s3⟩
          show zG l w mX9_ticksUntil 42 [(3, .int (nI i)), (0, .ref x), (1, .int v1), (2, .int v2)] [] y3 _
          refine g_inc (v := nI (i + 1)) (lv2 := [(3, .int (nI (i + 1))), (0, .ref x), (1, .int v1), (2, .int v2)]) 0 dX9_ticksUntil_42 rfl (nI_add _ 1) (by decide) rfl ?_
          refine g_goto (tgt := 13) dX9_ticksUntil_45 (by decide) ?_
          obtain ⟨t1, t2, t3⟩ := hM.tick (by omega)
          rw [show rchN p (k + 1) M i = rchN p k (tickN M) (i + 1) by rw [rchN]; rw [if_neg (by rw [d]; decide)]]
          exact zG.sub [0, 1, 2, 3] rfl (ih (i + 1) (by omega) y3 π3 lt3 (tickN M) _ c3 t1 (by omega) (by omega) ((t3 1 (by unfold stK; omega)).trans e1) (sM.tr s3))
        · refine g_aload_n 1 dX9_ticksUntil_28 rfl rfl ?_
          refine g_iload_n 0 dX9_ticksUntil_29 rfl rfl ?_
          refine g_invv (M' := mX9_answer) (As := [.int (nI i)]) (rest := []) dX9_ticksUntil_30 ml_X9_75 okX9_answer imX9_answer seX9_answer ⟨(Nat.le_of_ble_eq_true rfl), (Nat.le_of_ble_eq_true rfl)⟩ (ci := 9) rfl rfl X1.1 rfl rfl (Nat.le_of_ble_eq_true rfl) (c_ans X1.1) ?_
          rintro _ q3 ⟨rfl, eq3⟩
          subst q3
          show zG l w mX9_ticksUntil 33 [(3, .int (nI i)), (0, .ref x), (1, .int v1), (2, .int v2)] [.int (nI i)] (zSi y 290 x (nI 0)) _
          refine g_ireturn dX9_ticksUntil_33 rfl ?_
          refine PPc.fin g sM cM hM (by unfold rchN; rw [if_pos d, ← jI_nat]) (by unfold rchN; rw [if_pos d]; rfl)
  refine g_iconst (v := nI 0) dX9_ticksUntil_11 (by decide) ?_
  refine g_istore_n (lv2 := [(3, .int (nI 0)), (0, .ref x), (1, .int v1), (2, .int v2)]) dX9_ticksUntil_12 rfl (by decide) rfl ?_
  exact zG.sub [0, 1, 2, 3] rfl (loop 120 0 rfl y0 π0 lt0 N t cx0 c2 c3 (by omega) rfl s0)
theorem c_whenC (g : GC h x B ls N Ms n) (ht : nA N 2 ≤ 39000) {z : Int} (zb : -2147483648 ≤ z ∧ z < 2147483648) : zM l w mX9_when [.ref x, .int (jI z)] h (PPc h x B N Ms n (qWhen N z)) := by
  refine zM.of (by decide) (Nat.le_of_ble_eq_true rfl) ?_
  obtain ⟨π0, t0, c1, c2, c3⟩ := g.2.2.2.2.2.2.1
  by_cases d : 0 ≤ z ∧ z < nA N 1
  · obtain ⟨f, ef⟩ : ∃ f : Nat, z = (f : Int) := ⟨_, (Int.toNat_of_nonneg d.1).symm⟩
    subst ef
    rw [jI_nat]
    refine g_aload_n 0 dX9_when_0 rfl rfl ?_
    refine g_getr (f := 293) (b := B 0) dX9_when_1 fl_X9_23 g.1.2.1 rfl g.1.2.2.1 ?_
    refine g_iload_n 1 dX9_when_4 rfl rfl ?_
    refine g_invv (M' := mX5_flowAt) (As := [.int (nI f)]) (rest := []) dX9_when_5 ml_X9_127 okX5_flowAt imX5_flowAt seX5_flowAt ⟨(Nat.le_of_ble_eq_true rfl), (Nat.le_of_ble_eq_true rfl)⟩ (ci := 5) rfl rfl (g.2.2.2.2.2.1 0 (by omega)).1.1.2 rfl rfl (Nat.le_of_ble_eq_true rfl) (c_flowIn c1 c2.1.H.2.1 d.2) ?_
    rintro _ q1 ⟨rfl, eq1⟩
    subst q1
    show zG l w mX9_when 8 [(0, .ref x), (1, .int (nI f))] [.ref (B 0 + 53 + 2 * f)] h _
    refine g_ifnonnull (tgt := 19) dX9_when_8 (by decide) ?_
    refine g_aload_n 0 dX9_when_19 rfl rfl ?_
    refine g_iconst (v := nI 0) dX9_when_20 (by decide) ?_
    refine g_iload_n 1 dX9_when_21 rfl rfl ?_
    refine g_invv (M' := mX9_ticksUntil) (As := [.int (nI 0), .int (nI f)]) (rest := []) dX9_when_22 ml_X9_259 okX9_ticksUntil imX9_ticksUntil seX9_ticksUntil ⟨(Nat.le_of_ble_eq_true rfl), (Nat.le_of_ble_eq_true rfl)⟩ (ci := 9) rfl rfl g.1.2.1 rfl rfl (Nat.le_of_ble_eq_true rfl) (c_ticksUntil g ht (p := fun M => rchB M 0 (f : Int)) (fun y π lt M t hk hp c hM e1 => c_reachC0 hk hp c hM.1 (by rw [e1]; exact d.2))) ?_
    rintro _ y1 ⟨rfl, s1, R1, F1⟩
    show zG l w mX9_when 25 [(0, .ref x), (1, .int (nI f))] [.int (jI (rchN (fun M => rchB M 0 (f : Int)) 120 N 0).2)] y1 _
    refine g_ireturn dX9_when_25 rfl ?_
    have e : qWhen N (f : Int) = rchN (fun M => rchB M 0 (f : Int)) 120 N 0 := by unfold qWhen; rw [if_pos d]
    exact ⟨by rw [e], by rw [e]; exact s1, R1, F1⟩
  · refine g_aload_n 0 dX9_when_0 rfl rfl ?_
    refine g_getr (f := 293) (b := B 0) dX9_when_1 fl_X9_23 g.1.2.1 rfl g.1.2.2.1 ?_
    refine g_iload_n 1 dX9_when_4 rfl rfl ?_
    refine g_invv (M' := mX5_flowAt) (As := [.int (jI z)]) (rest := []) dX9_when_5 ml_X9_127 okX5_flowAt imX5_flowAt seX5_flowAt ⟨(Nat.le_of_ble_eq_true rfl), (Nat.le_of_ble_eq_true rfl)⟩ (ci := 5) rfl rfl (g.2.2.2.2.2.1 0 (by omega)).1.1.2 rfl rfl (Nat.le_of_ble_eq_true rfl) (c_flowOut c1 c2.1.H.2.1 zb d) ?_
    rintro _ q1 ⟨rfl, eq1⟩
    subst q1
    show zG l w mX9_when 8 [(0, .ref x), (1, .int (jI z))] [.null] h _
    refine g_ifnonnullN dX9_when_8 ?_
    refine g_aload_n 0 dX9_when_11 rfl rfl ?_
    refine g_iconst (v := nI 2) dX9_when_12 (by decide) ?_
    refine g_invv (M' := mX9_refuse) (As := [.int (nI 2)]) (rest := []) dX9_when_13 ml_X9_58 okX9_refuse imX9_refuse seX9_refuse ⟨(Nat.le_of_ble_eq_true rfl), (Nat.le_of_ble_eq_true rfl)⟩ (ci := 9) rfl rfl g.1.2.1 rfl rfl (Nat.le_of_ble_eq_true rfl) (c_refC g.1.2.1) ?_
    rintro _ q1 ⟨rfl, eq1⟩
    subst q1
    show zG l w mX9_when 16 [(0, .ref x), (1, .int (jI z))] [.int (-1)] (zSi h 290 x (nI 2)) _
    refine g_goto (tgt := 25) dX9_when_16 (by decide) ?_
    refine g_ireturn dX9_when_25 rfl ?_
    exact PPc.ref g (by unfold qWhen; rw [if_neg d]; rfl) (by unfold qWhen; rw [if_neg d]; rfl)
theorem c_caughtC (g : GC h x B ls N Ms n) (ht : nA N 2 ≤ 39000) {z : Int} (zb : -2147483648 ≤ z ∧ z < 2147483648) : zM l w mX9_caught [.ref x, .int (jI z)] h (PPc h x B N Ms n (qCaught N z)) := by
  refine zM.of (by decide) (Nat.le_of_ble_eq_true rfl) ?_
  obtain ⟨π0, t0, c1, c2, c3⟩ := g.2.2.2.2.2.2.1
  by_cases d : 0 ≤ z ∧ z < nA N 1
  · obtain ⟨f, ef⟩ : ∃ f : Nat, z = (f : Int) := ⟨_, (Int.toNat_of_nonneg d.1).symm⟩
    subst ef
    rw [jI_nat]
    refine g_aload_n 0 dX9_caught_0 rfl rfl ?_
    refine g_getr (f := 293) (b := B 0) dX9_caught_1 fl_X9_23 g.1.2.1 rfl g.1.2.2.1 ?_
    refine g_iload_n 1 dX9_caught_4 rfl rfl ?_
    refine g_invv (M' := mX5_flowAt) (As := [.int (nI f)]) (rest := []) dX9_caught_5 ml_X9_127 okX5_flowAt imX5_flowAt seX5_flowAt ⟨(Nat.le_of_ble_eq_true rfl), (Nat.le_of_ble_eq_true rfl)⟩ (ci := 5) rfl rfl (g.2.2.2.2.2.1 0 (by omega)).1.1.2 rfl rfl (Nat.le_of_ble_eq_true rfl) (c_flowIn c1 c2.1.H.2.1 d.2) ?_
    rintro _ q1 ⟨rfl, eq1⟩
    subst q1
    show zG l w mX9_caught 8 [(0, .ref x), (1, .int (nI f))] [.ref (B 0 + 53 + 2 * f)] h _
    refine g_ifnonnull (tgt := 19) dX9_caught_8 (by decide) ?_
    refine g_aload_n 0 dX9_caught_19 rfl rfl ?_
    refine g_iconst (v := nI 2) dX9_caught_20 (by decide) ?_
    refine g_iload_n 1 dX9_caught_21 rfl rfl ?_
    refine g_invv (M' := mX9_ticksUntil) (As := [.int (nI 2), .int (nI f)]) (rest := []) dX9_caught_22 ml_X9_259 okX9_ticksUntil imX9_ticksUntil seX9_ticksUntil ⟨(Nat.le_of_ble_eq_true rfl), (Nat.le_of_ble_eq_true rfl)⟩ (ci := 9) rfl rfl g.1.2.1 rfl rfl (Nat.le_of_ble_eq_true rfl) (c_ticksUntil g ht (p := fun M => rchB M 2 (f : Int)) (fun y π lt M t hk hp c hM e1 => c_reachC2 hk hp c hM.1 (by rw [e1]; exact d.2))) ?_
    rintro _ y1 ⟨rfl, s1, R1, F1⟩
    show zG l w mX9_caught 25 [(0, .ref x), (1, .int (nI f))] [.int (jI (rchN (fun M => rchB M 2 (f : Int)) 120 N 0).2)] y1 _
    refine g_ireturn dX9_caught_25 rfl ?_
    have e : qCaught N (f : Int) = rchN (fun M => rchB M 2 (f : Int)) 120 N 0 := by unfold qCaught; rw [if_pos d]
    exact ⟨by rw [e], by rw [e]; exact s1, R1, F1⟩
  · refine g_aload_n 0 dX9_caught_0 rfl rfl ?_
    refine g_getr (f := 293) (b := B 0) dX9_caught_1 fl_X9_23 g.1.2.1 rfl g.1.2.2.1 ?_
    refine g_iload_n 1 dX9_caught_4 rfl rfl ?_
    refine g_invv (M' := mX5_flowAt) (As := [.int (jI z)]) (rest := []) dX9_caught_5 ml_X9_127 okX5_flowAt imX5_flowAt seX5_flowAt ⟨(Nat.le_of_ble_eq_true rfl), (Nat.le_of_ble_eq_true rfl)⟩ (ci := 5) rfl rfl (g.2.2.2.2.2.1 0 (by omega)).1.1.2 rfl rfl (Nat.le_of_ble_eq_true rfl) (c_flowOut c1 c2.1.H.2.1 zb d) ?_
    rintro _ q1 ⟨rfl, eq1⟩
    subst q1
    show zG l w mX9_caught 8 [(0, .ref x), (1, .int (jI z))] [.null] h _
    refine g_ifnonnullN dX9_caught_8 ?_
    refine g_aload_n 0 dX9_caught_11 rfl rfl ?_
    refine g_iconst (v := nI 2) dX9_caught_12 (by decide) ?_
    refine g_invv (M' := mX9_refuse) (As := [.int (nI 2)]) (rest := []) dX9_caught_13 ml_X9_58 okX9_refuse imX9_refuse seX9_refuse ⟨(Nat.le_of_ble_eq_true rfl), (Nat.le_of_ble_eq_true rfl)⟩ (ci := 9) rfl rfl g.1.2.1 rfl rfl (Nat.le_of_ble_eq_true rfl) (c_refC g.1.2.1) ?_
    rintro _ q1 ⟨rfl, eq1⟩
    subst q1
    show zG l w mX9_caught 16 [(0, .ref x), (1, .int (jI z))] [.int (-1)] (zSi h 290 x (nI 2)) _
    refine g_goto (tgt := 25) dX9_caught_16 (by decide) ?_
    refine g_ireturn dX9_caught_25 rfl ?_
    exact PPc.ref g (by unfold qCaught; rw [if_neg d]; rfl) (by unfold qCaught; rw [if_neg d]; rfl)
theorem c_closesC (g : GC h x B ls N Ms n) (ht : nA N 2 ≤ 39000) {z : Int} (zb : -2147483648 ≤ z ∧ z < 2147483648) : zM l w mX9_closes [.ref x, .int (jI z)] h (PPc h x B N Ms n (qCloses N z)) := by
  refine zM.of (by decide) (Nat.le_of_ble_eq_true rfl) ?_
  refine g_iload_n 1 dX9_closes_0 rfl rfl ?_
  refine g_zif_ge (a := z) (tgt := 12) rfl dX9_closes_1 (by decide) (by omega) (fun d => ?_) (fun d => ?_)
  · refine g_aload_n 0 dX9_closes_12 rfl rfl ?_
    refine g_iconst (v := nI 1) dX9_closes_13 (by decide) ?_
    refine g_iload_n 1 dX9_closes_14 rfl rfl ?_
    refine g_invv (M' := mX9_ticksUntil) (As := [.int (nI 1), .int (jI z)]) (rest := []) dX9_closes_15 ml_X9_259 okX9_ticksUntil imX9_ticksUntil seX9_ticksUntil ⟨(Nat.le_of_ble_eq_true rfl), (Nat.le_of_ble_eq_true rfl)⟩ (ci := 9) rfl rfl g.1.2.1 rfl rfl (Nat.le_of_ble_eq_true rfl) (c_ticksUntil g ht (p := fun M => rchB M 1 z) (fun y π lt M t hk hp c hM e1 => c_reachC1 hk hp c hM.1 zb)) ?_
    rintro _ y1 ⟨rfl, s1, R1, F1⟩
    show zG l w mX9_closes 18 [(0, .ref x), (1, .int (jI z))] [.int (jI (rchN (fun M => rchB M 1 z) 120 N 0).2)] y1 _
    refine g_ireturn dX9_closes_18 rfl ?_
    have e : qCloses N z = rchN (fun M => rchB M 1 z) 120 N 0 := by unfold qCloses; rw [if_neg (by omega)]
    exact ⟨by rw [e], by rw [e]; exact s1, R1, F1⟩
  · refine g_aload_n 0 dX9_closes_4 rfl rfl ?_
    refine g_iconst (v := nI 1) dX9_closes_5 (by decide) ?_
    refine g_invv (M' := mX9_refuse) (As := [.int (nI 1)]) (rest := []) dX9_closes_6 ml_X9_58 okX9_refuse imX9_refuse seX9_refuse ⟨(Nat.le_of_ble_eq_true rfl), (Nat.le_of_ble_eq_true rfl)⟩ (ci := 9) rfl rfl g.1.2.1 rfl rfl (Nat.le_of_ble_eq_true rfl) (c_refC g.1.2.1) ?_
    rintro _ q1 ⟨rfl, eq1⟩
    subst q1
    show zG l w mX9_closes 9 [(0, .ref x), (1, .int (jI z))] [.int (-1)] (zSi h 290 x (nI 1)) _
    refine g_goto (tgt := 18) dX9_closes_9 (by decide) ?_
    refine g_ireturn dX9_closes_18 rfl ?_
    exact PPc.ref g (by unfold qCloses; rw [if_pos (by omega)]; rfl) (by unfold qCloses; rw [if_pos (by omega)]; rfl)
end PE3
