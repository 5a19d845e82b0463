section PE2
variable {l : Launch} {w : zW} {h h1 h2 y : zH} {m : Nat} {N M : nT} {g : Nat → Int64}
theorem iT.fit (h : iT N) : nFit N := by
  refine h.1.fit (fun a ha => ?_)
  by_cases c : (a : Int) < nA N 0
  · have l1 := (h.1.L a c).1.2.1
    have q := (h.2.2.2 a ha).len (n := 9) (by omega)
    omega
  · rw [(h.1.Z a ha (by omega)).2]; exact Nat.zero_le _
/-- what a call on the model leaves as it is -/
def FrQ (m : Nat) (h h' : zH) : Prop := (zx h' = zx h ∧ zt h' = zt h) ∧ (∀ a, zk h' a = zk h a ∧ zn h' a = zn h a) ∧ (∀ f a, zr h' f a = zr h f a ∧ zl h' f a = zl h f a) ∧ (∀ a i, zR h' a i = zR h a i) ∧ (∀ f a, (f ≠ 321 ∧ f ≠ 323 ∧ f ≠ 324) ∨ a ≠ m → zi h' f a = zi h f a) ∧ (∀ a i, a ≠ m + 5 → zI h' a i = zI h a i) ∧ (∀ a i, a ≠ m + 1 → a ≠ m + 4 → zL h' a i = zL h a i) ∧ ∀ i, 11608 ≤ i → zL h' (m + 1) i = zL h (m + 1) i
theorem FrQ.rf : FrQ m h h := ⟨⟨rfl, rfl⟩, fun _ => ⟨rfl, rfl⟩, fun _ _ => ⟨rfl, rfl⟩, fun _ _ => rfl, fun _ _ _ => rfl, fun _ _ _ => rfl, fun _ _ _ _ => rfl, fun _ _ => rfl⟩
theorem FrQ.tr (p : FrQ m h y) (q : FrQ m y h1) : FrQ m h h1 := by
  obtain ⟨p1, p2, p3, p4, p5, p6, p7, p8⟩ := p
  obtain ⟨q1, q2, q3, q4, q5, q6, q7, q8⟩ := q
  exact ⟨⟨q1.1.trans p1.1, q1.2.trans p1.2⟩, fun a => ⟨(q2 a).1.trans (p2 a).1, (q2 a).2.trans (p2 a).2⟩, fun f a => ⟨(q3 f a).1.trans (p3 f a).1, (q3 f a).2.trans (p3 f a).2⟩, fun a i => (q4 a i).trans (p4 a i), fun f a e => (q5 f a e).trans (p5 f a e), fun a i e => (q6 a i e).trans (p6 a i e), fun a i e e' => (q7 a i e e').trans (p7 a i e e'), fun i e => (q8 i e).trans (p8 i e)⟩
theorem FrM.q (p : FrM m h y) : FrQ m h y := by
  obtain ⟨a1, a2, a3, a4, a5, a6, a7, a8, a9, a10, a11⟩ := p
  exact ⟨⟨a1, a2⟩, fun a => ⟨a3 a, a4 a⟩, fun f a => ⟨a5 f a, a7 f a⟩, a6, fun f a e => a8 f a (by omega), fun a i _ => a9 a i, fun a i e _ => a10 a i e, fun i e => a11 i (by omega)⟩
theorem FrQ.si {f : Nat} {v : Int32} (hf : f = 321 ∨ f = 323 ∨ f = 324) : FrQ m h (zSi h f m v) := ⟨⟨rfl, rfl⟩, fun _ => ⟨rfl, rfl⟩, fun _ _ => ⟨rfl, rfl⟩, fun _ _ => rfl, fun g a e => by rw [zi_Si, if_neg (by omega)], fun _ _ _ => rfl, fun _ _ _ _ => rfl, fun _ _ => rfl⟩
theorem FrQ.cp {a c : Nat} (hc : c + 5804 ≤ 11608) : FrQ m h (zSG h (m + 1) (cpG (zL h (m + 1)) a c 5804)) := by
  refine ⟨⟨rfl, rfl⟩, fun _ => ⟨rfl, rfl⟩, fun _ _ => ⟨rfl, rfl⟩, fun _ _ => rfl, fun _ _ _ => rfl, fun _ _ _ => rfl, fun b i e _ => ?_, fun i hi => ?_⟩
  · show (if b = m + 1 then _ else zL h b i) = zL h b i
    rw [if_neg e]
  · rw [zL_SG]
    unfold cpG
    rw [if_neg (by omega)]
theorem MoN.s321 {v : Int32} (r : MoN h m N) : MoN (zSi h 321 m v) m N := ⟨r.1, r.2.1, by rw [zi_Si, if_neg (by omega)]; exact r.2.2.1, by rw [zi_Si, if_neg (by omega)]; exact r.2.2.2⟩
theorem MoN.u3 (r : MoN h m N) : MoN h m (uA N 3 (nA N 3)) := ⟨r.1, r.2.1.u37 (Or.inl rfl), by rw [nA_ne (by omega)]; exact r.2.2.1, by rw [nA_ne (by omega), nA_eq]; exact r.2.2.2⟩
/-- how a call on the model ends that leaves the net as it is -/
def PPm (h : zH) (m : Nat) (N : nT) (r : Int × Int) : Option Value → zH → Prop := fun u h1 => u = some (.int (jI r.2)) ∧ zi h1 321 m = jI r.1 ∧ (∃ v, MoN h1 m (uA N 3 v)) ∧ FrQ m h h1
/-- the net is laid aside, and comes back -/
theorem asd0 (r : MoN h m N) (f : nFit N) : MoN (zSG h (m + 1) (cpG (zL h (m + 1)) 0 5804 5804)) m N ∧ (∀ k, k < 5804 → zL (zSG h (m + 1) (cpG (zL h (m + 1)) 0 5804 5804)) (m + 1) (5804 + k) = zL h (m + 1) k) ∧ FrQ m h (zSG h (m + 1) (cpG (zL h (m + 1)) 0 5804 5804)) := by
  refine ⟨r.cp f (by omega), fun k hk => ?_, FrQ.cp (by omega)⟩
  rw [zL_SG]
  unfold cpG
  rw [if_pos (by omega), show 5804 + k - 5804 + 0 = k by omega]
theorem asd1 {z : Int} (e : ∀ k, k < 5804 → zL y (m + 1) (5804 + k) = zL h (m + 1) k) (r : MoN h m N) (f : nFit N) (hM : Mo y m) (e7 : zi y 323 m = jI (nA N 7)) (e4 : zi y 324 m = jI z) : MoN (zSG y (m + 1) (cpG (zL y (m + 1)) 5804 0 5804)) m (uA N 3 (z - nA N 6)) := by
  refine ⟨hM, ?_, by rw [nA_ne (by omega)]; exact e7, ?_⟩
  · rw [zL_SG]
    refine (r.2.1.cg f (fun k hk => ?_)).u37 (Or.inl rfl)
    unfold cpG
    rw [if_pos (by omega), show k - 0 + 5804 = 5804 + k by omega]
    exact e k hk
  · rw [nA_ne (by omega), nA_eq, show nA N 6 + (z - nA N 6) = z by omega]
    exact e4
/-- when p comes about -/
def rchN (p : nT → Bool) : Nat → nT → Nat → Int × Int
  | 0, M, n => if p M then (0, (n : Int)) else (6, -1)
  | k + 1, M, n => if p M then (0, (n : Int)) else rchN p k (tickN M) (n + 1)
def qWhen (N : nT) (z : Int) : Int × Int := if 0 ≤ z ∧ z < nA N 1 then rchN (fun M => rchB M 0 z) 120 N 0 else (2, -1)
def qCloses (N : nT) (z : Int) : Int × Int := if z < 0 then (1, -1) else rchN (fun M => rchB M 1 z) 120 N 0
def qCaught (N : nT) (z : Int) : Int × Int := if 0 ≤ z ∧ z < nA N 1 then rchN (fun M => rchB M 2 z) 120 N 0 else (2, -1)
theorem c_reaches (r : MoN h m N) (h0 : iT N) (ht : nA N 2 ≤ 39000) {v1 v2 : Int32} {p : nT → Bool} (hr : ∀ (h : zH) (M : nT), MoN h m M → iT M → nA M 1 = nA N 1 → zM l w mX10_isReached [.ref m, .int v1, .int v2] h (fun u h1 => u = some (.int (bI (p M))) ∧ h1 = h)) : zM l w mX10_reaches [.ref m, .int v1, .int v2] h (PPm h m N (rchN p 120 N 0)) := by
  refine zM.of (by decide) (Nat.le_of_ble_eq_true rfl) ?_
  refine g_iconst (v := nI 0) dX10_reaches_0 (by decide) ?_
  refine g_istore_n (lv2 := [(3, .int (nI 0)), (0, .ref m), (1, .int v1), (2, .int v2)]) dX10_reaches_1 rfl (by decide) rfl ?_
  refine g_aload_n 1 dX10_reaches_2 rfl rfl ?_
  refine g_iconst (v := nI 0) dX10_reaches_3 (by decide) ?_
  refine g_sipush (v := nI 5804) dX10_reaches_4 (by decide) ?_
  refine g_invv (M' := mX10_copies) (As := [.int (nI 0), .int (nI 5804)]) (rest := []) dX10_reaches_7 ml_X10_292 okX10_copies imX10_copies seX10_copies ⟨(Nat.le_of_ble_eq_true rfl), (Nat.le_of_ble_eq_true rfl)⟩ (ci := 10) rfl rfl r.1.1 rfl rfl (Nat.le_of_ble_eq_true rfl) (c_copies r.1 (a := 0) (c := 5804) (by omega) (by omega) (by omega)) ?_
  rintro _ q5 ⟨rfl, eq5⟩
  subst q5
  show zG l w mX10_reaches 10 [(3, .int (nI 0)), (0, .ref m), (1, .int v1), (2, .int v2)] [] (zSG h (m + 1) (cpG (zL h (m + 1)) 0 5804 5804)) _
  obtain ⟨r0, as0, fq0⟩ := asd0 r h0.fit
  generalize zSG h (m + 1) (cpG (zL h (m + 1)) 0 5804 5804) = y0 at r0 as0 fq0 ⊢
  have tail : ∀ (n : Nat) (y : zH) (M : nT), n ≤ 120 → MoN y m M → iT M → nA M 1 = nA N 1 → nA M 7 = nA N 7 → FrM m y0 y → zG l w mX10_reaches 35 [(3, .int (nI n)), (0, .ref m), (1, .int v1), (2, .int v2)] [] y (PPm h m N (if p M then (0, (n : Int)) else (6, -1))) := by
    intro n y M hn rM hM e1 e7 fM
    refine g_aload_n 1 dX10_reaches_35 rfl rfl ?_
    refine g_iload_n 2 dX10_reaches_36 rfl rfl ?_
    refine g_iload_n 3 dX10_reaches_37 rfl rfl ?_
    refine g_invv (M' := mX10_isReached) (As := [.int v1, .int v2]) (rest := []) dX10_reaches_38 ml_X10_360 okX10_isReached imX10_isReached seX10_isReached ⟨(Nat.le_of_ble_eq_true rfl), (Nat.le_of_ble_eq_true rfl)⟩ (ci := 10) rfl rfl rM.1.1 rfl rfl (Nat.le_of_ble_eq_true rfl) (hr y M rM hM e1) ?_
    rintro _ q6 ⟨rfl, eq6⟩
    subst q6
    show zG l w mX10_reaches 41 [(3, .int (nI n)), (0, .ref m), (1, .int v1), (2, .int v2)] [.int (bI (p M))] y _
    refine g_istore (lv2 := [(4, .int (bI (p M))), (3, .int (nI n)), (0, .ref m), (1, .int v1), (2, .int v2)]) dX10_reaches_41 (by decide) rfl ?_
    refine g_aload_n 2 dX10_reaches_43 rfl rfl ?_
    refine g_sipush (v := nI 5804) dX10_reaches_44 (by decide) ?_
    refine g_iconst (v := nI 0) dX10_reaches_47 (by decide) ?_
    refine g_invv (M' := mX10_copies) (As := [.int (nI 5804), .int (nI 0)]) (rest := []) dX10_reaches_48 ml_X10_292 okX10_copies imX10_copies seX10_copies ⟨(Nat.le_of_ble_eq_true rfl), (Nat.le_of_ble_eq_true rfl)⟩ (ci := 10) rfl rfl rM.1.1 rfl rfl (Nat.le_of_ble_eq_true rfl) (c_copies rM.1 (a := 5804) (c := 0) (by omega) (by omega) (by omega)) ?_
    rintro _ q7 ⟨rfl, eq7⟩
    subst q7
    show zG l w mX10_reaches 51 [(4, .int (bI (p M))), (3, .int (nI n)), (0, .ref m), (1, .int v1), (2, .int v2)] [] (zSG y (m + 1) (cpG (zL y (m + 1)) 5804 0 5804)) _
    have R2 := asd1 (fun k hk => (fM.2.2.2.2.2.2.2.2.2.2 (5804 + k) (by omega)).trans (as0 k hk)) r h0.fit rM.1 (by rw [← e7]; exact rM.2.2.1) rM.2.2.2
    have F2 : FrQ m h (zSG y (m + 1) (cpG (zL y (m + 1)) 5804 0 5804)) := fq0.tr (fM.q.tr (FrQ.cp (by omega)))
    generalize zSG y (m + 1) (cpG (zL y (m + 1)) 5804 0 5804) = y2 at R2 F2 ⊢
    refine g_iload 0 dX10_reaches_51 rfl ?_
    refine g_bif_eq (tgt := 65) dX10_reaches_53 (by decide) (fun d => ?_) (fun d => ?_)
    · refine g_aload_n 2 dX10_reaches_65 rfl rfl ?_
      refine g_bipush (v := nI 6) dX10_reaches_66 (by decide) ?_
      refine g_invv (M' := mX10_refuse) (As := [.int (nI 6)]) (rest := []) dX10_reaches_68 ml_X10_289 okX10_refuse imX10_refuse seX10_refuse ⟨(Nat.le_of_ble_eq_true rfl), (Nat.le_of_ble_eq_true rfl)⟩ (ci := 10) rfl rfl R2.1.1 rfl rfl (Nat.le_of_ble_eq_true rfl) (c_refuse R2.1.1) ?_
      rintro _ q1 ⟨rfl, eq1⟩
      subst q1
      show zG l w mX10_reaches 71 [(4, .int (bI (p M))), (3, .int (nI n)), (0, .ref m), (1, .int v1), (2, .int v2)] [.int (-1)] (zSi y2 321 m (nI 6)) _
      refine g_ireturn dX10_reaches_71 rfl ?_
      refine ⟨by rw [if_neg (by rw [d]; decide)]; rfl, by rw [if_neg (by rw [d]; decide), zi_same]; rfl, ⟨_, R2.s321⟩, F2.tr (FrQ.si (by omega))⟩
    · refine g_aload_n 2 dX10_reaches_56 rfl rfl ?_
      refine g_iload_n 1 dX10_reaches_57 rfl rfl ?_
      refine g_i2l dX10_reaches_58 ?_
      rw [nI_l (by omega), ← jL_nat]
      refine g_invv (M' := mX10_gives) (As := [.long (jL ((n : Nat) : Int))]) (rest := []) dX10_reaches_59 ml_X10_298 okX10_gives imX10_gives seX10_gives ⟨(Nat.le_of_ble_eq_true rfl), (Nat.le_of_ble_eq_true rfl)⟩ (ci := 10) rfl rfl R2.1.1 rfl rfl (Nat.le_of_ble_eq_true rfl) (c_gives R2.1.1) ?_
      rintro _ q2 ⟨rfl, eq2⟩
      subst q2
      show zG l w mX10_reaches 62 [(4, .int (bI (p M))), (3, .int (nI n)), (0, .ref m), (1, .int v1), (2, .int v2)] [.int (jI ((n : Nat) : Int))] (zSi y2 321 m (nI 0)) _
      refine g_goto (tgt := 71) dX10_reaches_62 (by decide) ?_
      refine g_ireturn dX10_reaches_71 rfl ?_
      refine ⟨by rw [if_pos d], by rw [if_pos d, zi_same]; rfl, ⟨_, R2.s321⟩, F2.tr (FrQ.si (by omega))⟩
  have loop : ∀ k n : Nat, n + k = 120 → ∀ (y : zH) (M : nT), MoN y m M → iT M → nA M 1 = nA N 1 → nA M 7 = nA N 7 → FrM m y0 y → nA M 2 = nA N 2 + n → zG l w mX10_reaches 10 [(3, .int (nI n)), (0, .ref m), (1, .int v1), (2, .int v2)] [] y (PPm h m N (rchN p k M n)) := by
    intro k
    induction k with
    | zero =>
      intro n hn y M rM hM e1 e7 fM e2
      refine g_iload_n 0 dX10_reaches_10 rfl rfl ?_
      refine g_bipush (v := nI 120) dX10_reaches_11 (by decide) ?_
      refine g_ncmp_ge (tgt := 35) dX10_reaches_13 (by decide) (by omega) (by omega) (fun g => ?_) (fun g => ?_)
      · exact zG.sub [0, 1, 2, 3] rfl (tail n y M (by omega) rM hM e1 e7 fM)
      · exact absurd g (by omega)
    | succ k ih =>
      intro n hn y M rM hM e1 e7 fM e2
      refine g_iload_n 0 dX10_reaches_10 rfl rfl ?_
      refine g_bipush (v := nI 120) dX10_reaches_11 (by decide) ?_
      refine g_ncmp_ge (tgt := 35) dX10_reaches_13 (by decide) (by omega) (by omega) (fun g => ?_) (fun g => ?_)
      · exact absurd g (by omega)
      · refine g_aload_n 1 dX10_reaches_16 rfl rfl ?_
        refine g_iload_n 2 dX10_reaches_17 rfl rfl ?_
        refine g_iload_n 3 dX10_reaches_18 rfl rfl ?_
        refine g_invv (M' := mX10_isReached) (As := [.int v1, .int v2]) (rest := []) dX10_reaches_19 ml_X10_360 okX10_isReached imX10_isReached seX10_isReached ⟨(Nat.le_of_ble_eq_true rfl), (Nat.le_of_ble_eq_true rfl)⟩ (ci := 10) rfl rfl rM.1.1 rfl rfl (Nat.le_of_ble_eq_true rfl) (hr y M rM hM e1) ?_
        rintro _ q6 ⟨rfl, eq6⟩
        subst q6
        show zG l w mX10_reaches 22 [(3, .int (nI n)), (0, .ref m), (1, .int v1), (2, .int v2)] [.int (bI (p M))] y _
        refine g_bif_ne (tgt := 35) dX10_reaches_22 (by decide) (fun d => ?_) (fun d => ?_)
        · have TT := tail n y M (by omega) rM hM e1 e7 fM
          rw [if_pos d] at TT
          rw [show rchN p (k + 1) M n = (0, (n : Int)) by unfold rchN; rw [if_pos d]]
          exact zG.sub [0, 1, 2, 3] rfl TT
        · refine g_aload_n 1 dX10_reaches_25 rfl rfl ?_
          refine g_invv (M' := mX10_ticks) (As := []) (rest := []) dX10_reaches_26 ml_X10_196 okX10_ticks imX10_ticks seX10_ticks ⟨(Nat.le_of_ble_eq_true rfl), (Nat.le_of_ble_eq_true rfl)⟩ (ci := 10) rfl rfl rM.1.1 rfl rfl (Nat.le_of_ble_eq_true rfl) (c_ticks rM hM (by omega)) ?_
          rintro _ y3 ⟨rfl, r3, f3⟩
          show zG l w mX10_reaches 29 [(3, .int (nI n)), (0, .ref m), (1, .int v1), (2, .int v2)] [] y3 _
          refine g_inc (v := nI (n + 1)) (lv2 := [(3, .int (nI (n + 1))), (0, .ref m), (1, .int v1), (2, .int v2)]) 0 dX10_reaches_29 rfl (nI_add _ 1) (by decide) rfl ?_
          refine g_goto (tgt := 10) dX10_reaches_32 (by decide) ?_
          obtain ⟨t1, t2, t3⟩ := hM.tick (by omega)
          rw [show rchN p (k + 1) M n = rchN p k (tickN M) (n + 1) by rw [rchN]; rw [if_neg (by rw [d]; decide)]]
          exact zG.sub [0, 1, 2, 3] rfl (ih (n + 1) (by omega) y3 (tickN M) r3 t1 ((t3 1 (by unfold stK; omega)).trans e1) ((t3 7 (by unfold stK; omega)).trans e7) (fM.tr f3) (by omega))
  exact zG.sub [0, 1, 2, 3] rfl (loop 120 0 rfl y0 N r0 h0 rfl rfl FrM.rf (by omega))
theorem c_whenM (r : MoN h m N) (h0 : iT N) (ht : nA N 2 ≤ 39000) {z : Int} (zb : -2147483648 ≤ z ∧ z < 2147483648) : zM l w mX10_when [.ref m, .int (jI z)] h (PPm h m N (qWhen N z)) := by
  refine zM.of (by decide) (Nat.le_of_ble_eq_true rfl) ?_
  refine g_aload_n 0 dX10_when_0 rfl rfl ?_
  refine g_iload_n 1 dX10_when_1 rfl rfl ?_
  refine g_invv (M' := mX10_isFlow) (As := [.int (jI z)]) (rest := []) dX10_when_2 ml_X10_321 okX10_isFlow imX10_isFlow seX10_isFlow ⟨(Nat.le_of_ble_eq_true rfl), (Nat.le_of_ble_eq_true rfl)⟩ (ci := 10) rfl rfl r.1.1 rfl rfl (Nat.le_of_ble_eq_true rfl) (c_isFlow r h0.1.H.2.1 zb) ?_
  rintro _ q1 ⟨rfl, eq1⟩
  subst q1
  show zG l w mX10_when 5 [(0, .ref m), (1, .int (jI z))] [.int (bI (decide (0 ≤ z ∧ z < nA N 1)))] h _
  refine g_bif_eq (tgt := 17) dX10_when_5 (by decide) (fun d => ?_) (fun d => ?_)
  · have d := of_decide_eq_false d
    refine g_aload_n 0 dX10_when_17 rfl rfl ?_
    refine g_iconst (v := nI 2) dX10_when_18 (by decide) ?_
    refine g_invv (M' := mX10_refuse) (As := [.int (nI 2)]) (rest := []) dX10_when_19 ml_X10_289 okX10_refuse imX10_refuse seX10_refuse ⟨(Nat.le_of_ble_eq_true rfl), (Nat.le_of_ble_eq_true rfl)⟩ (ci := 10) rfl rfl r.1.1 rfl rfl (Nat.le_of_ble_eq_true rfl) (c_refuse r.1.1) ?_
    rintro _ q1 ⟨rfl, eq1⟩
    subst q1
    show zG l w mX10_when 22 [(0, .ref m), (1, .int (jI z))] [.int (-1)] (zSi h 321 m (nI 2)) _
    refine g_ireturn dX10_when_22 rfl ?_
    refine ⟨by unfold qWhen; rw [if_neg d]; rfl, by unfold qWhen; rw [if_neg d, zi_same]; rfl, ⟨_, r.s321.u3⟩, FrQ.si (by omega)⟩
  · have d := of_decide_eq_true d
    obtain ⟨f, ef⟩ : ∃ f : Nat, z = (f : Int) := ⟨_, (Int.toNat_of_nonneg d.1).symm⟩
    subst ef
    rw [jI_nat]
    refine g_aload_n 0 dX10_when_8 rfl rfl ?_
    refine g_iconst (v := nI 0) dX10_when_9 (by decide) ?_
    refine g_iload_n 1 dX10_when_10 rfl rfl ?_
    refine g_invv (M' := mX10_reaches) (As := [.int (nI 0), .int (nI f)]) (rest := []) dX10_when_11 ml_X10_363 okX10_reaches imX10_reaches seX10_reaches ⟨(Nat.le_of_ble_eq_true rfl), (Nat.le_of_ble_eq_true rfl)⟩ (ci := 10) rfl rfl r.1.1 rfl rfl (Nat.le_of_ble_eq_true rfl) (c_reaches r h0 ht (p := fun M => rchB M 0 (f : Int)) (fun h M rM hM e1 => c_reachM0 rM hM.1 (by rw [e1]; exact d.2))) ?_
    rintro _ y1 ⟨rfl, s1, R1, F1⟩
    show zG l w mX10_when 14 [(0, .ref m), (1, .int (nI f))] [.int (jI (rchN (fun M => rchB M 0 (f : Int)) 120 N 0).2)] y1 _
    refine g_goto (tgt := 22) dX10_when_14 (by decide) ?_
    refine g_ireturn dX10_when_22 rfl ?_
    have e : qWhen N (f : Int) = rchN (fun M => rchB M 0 (f : Int)) 120 N 0 := by unfold qWhen; rw [if_pos d]
    exact ⟨by rw [e], by rw [e]; exact s1, R1, F1⟩
theorem c_caughtM (r : MoN h m N) (h0 : iT N) (ht : nA N 2 ≤ 39000) {z : Int} (zb : -2147483648 ≤ z ∧ z < 2147483648) : zM l w mX10_caught [.ref m, .int (jI z)] h (PPm h m N (qCaught N z)) := by
  refine zM.of (by decide) (Nat.le_of_ble_eq_true rfl) ?_
  refine g_aload_n 0 dX10_caught_0 rfl rfl ?_
  refine g_iload_n 1 dX10_caught_1 rfl rfl ?_
  refine g_invv (M' := mX10_isFlow) (As := [.int (jI z)]) (rest := []) dX10_caught_2 ml_X10_321 okX10_isFlow imX10_isFlow seX10_isFlow ⟨(Nat.le_of_ble_eq_true rfl), (Nat.le_of_ble_eq_true rfl)⟩ (ci := 10) rfl rfl r.1.1 rfl rfl (Nat.le_of_ble_eq_true rfl) (c_isFlow r h0.1.H.2.1 zb) ?_
  rintro _ q1 ⟨rfl, eq1⟩
  subst q1
  show zG l w mX10_caught 5 [(0, .ref m), (1, .int (jI z))] [.int (bI (decide (0 ≤ z ∧ z < nA N 1)))] h _
  refine g_bif_eq (tgt := 17) dX10_caught_5 (by decide) (fun d => ?_) (fun d => ?_)
  · have d := of_decide_eq_false d
    refine g_aload_n 0 dX10_caught_17 rfl rfl ?_
    refine g_iconst (v := nI 2) dX10_caught_18 (by decide) ?_
    refine g_invv (M' := mX10_refuse) (As := [.int (nI 2)]) (rest := []) dX10_caught_19 ml_X10_289 okX10_refuse imX10_refuse seX10_refuse ⟨(Nat.le_of_ble_eq_true rfl), (Nat.le_of_ble_eq_true rfl)⟩ (ci := 10) rfl rfl r.1.1 rfl rfl (Nat.le_of_ble_eq_true rfl) (c_refuse r.1.1) ?_
    rintro _ q1 ⟨rfl, eq1⟩
    subst q1
    show zG l w mX10_caught 22 [(0, .ref m), (1, .int (jI z))] [.int (-1)] (zSi h 321 m (nI 2)) _
    refine g_ireturn dX10_caught_22 rfl ?_
    refine ⟨by unfold qCaught; rw [if_neg d]; rfl, by unfold qCaught; rw [if_neg d, zi_same]; rfl, ⟨_, r.s321.u3⟩, FrQ.si (by omega)⟩
  · have d := of_decide_eq_true d
    obtain ⟨f, ef⟩ : ∃ f : Nat, z = (f : Int) := ⟨_, (Int.toNat_of_nonneg d.1).symm⟩
    subst ef
    rw [jI_nat]
    refine g_aload_n 0 dX10_caught_8 rfl rfl ?_
    refine g_iconst (v := nI 2) dX10_caught_9 (by decide) ?_
    refine g_iload_n 1 dX10_caught_10 rfl rfl ?_
    refine g_invv (M' := mX10_reaches) (As := [.int (nI 2), .int (nI f)]) (rest := []) dX10_caught_11 ml_X10_363 okX10_reaches imX10_reaches seX10_reaches ⟨(Nat.le_of_ble_eq_true rfl), (Nat.le_of_ble_eq_true rfl)⟩ (ci := 10) rfl rfl r.1.1 rfl rfl (Nat.le_of_ble_eq_true rfl) (c_reaches r h0 ht (p := fun M => rchB M 2 (f : Int)) (fun h M rM hM e1 => c_reachM2 rM hM.1 (by rw [e1]; exact d.2))) ?_
    rintro _ y1 ⟨rfl, s1, R1, F1⟩
    show zG l w mX10_caught 14 [(0, .ref m), (1, .int (nI f))] [.int (jI (rchN (fun M => rchB M 2 (f : Int)) 120 N 0).2)] y1 _
    refine g_goto (tgt := 22) dX10_caught_14 (by decide) ?_
    refine g_ireturn dX10_caught_22 rfl ?_
    have e : qCaught N (f : Int) = rchN (fun M => rchB M 2 (f : Int)) 120 N 0 := by unfold qCaught; rw [if_pos d]
    exact ⟨by rw [e], by rw [e]; exact s1, R1, F1⟩
theorem c_closesM (r : MoN h m N) (h0 : iT N) (ht : nA N 2 ≤ 39000) {z : Int} (zb : -2147483648 ≤ z ∧ z < 2147483648) : zM l w mX10_closes [.ref m, .int (jI z)] h (PPm h m N (qCloses N z)) := by
  refine zM.of (by decide) (Nat.le_of_ble_eq_true rfl) ?_
  refine g_iload_n 1 dX10_closes_0 rfl rfl ?_
  refine g_zif_ge (a := z) (tgt := 12) rfl dX10_closes_1 (by decide) (by omega) (fun d => ?_) (fun d => ?_)
  · refine g_aload_n 0 dX10_closes_12 rfl rfl ?_
    refine g_iconst (v := nI 1) dX10_closes_13 (by decide) ?_
    refine g_iload_n 1 dX10_closes_14 rfl rfl ?_
    refine g_invv (M' := mX10_reaches) (As := [.int (nI 1), .int (jI z)]) (rest := []) dX10_closes_15 ml_X10_363 okX10_reaches imX10_reaches seX10_reaches ⟨(Nat.le_of_ble_eq_true rfl), (Nat.le_of_ble_eq_true rfl)⟩ (ci := 10) rfl rfl r.1.1 rfl rfl (Nat.le_of_ble_eq_true rfl) (c_reaches r h0 ht (p := fun M => rchB M 1 z) (fun h M rM hM e1 => c_reachM1 rM hM.1 zb)) ?_
    rintro _ y1 ⟨rfl, s1, R1, F1⟩
    show zG l w mX10_closes 18 [(0, .ref m), (1, .int (jI z))] [.int (jI (rchN (fun M => rchB M 1 z) 120 N 0).2)] y1 _
    refine g_ireturn dX10_closes_18 rfl ?_
    have e : qCloses N z = rchN (fun M => rchB M 1 z) 120 N 0 := by unfold qCloses; rw [if_neg (by omega)]
    exact ⟨by rw [e], by rw [e]; exact s1, R1, F1⟩
  · refine g_aload_n 0 dX10_closes_4 rfl rfl ?_
    refine g_iconst (v := nI 1) dX10_closes_5 (by decide) ?_
    refine g_invv (M' := mX10_refuse) (As := [.int (nI 1)]) (rest := []) dX10_closes_6 ml_X10_289 okX10_refuse imX10_refuse seX10_refuse ⟨(Nat.le_of_ble_eq_true rfl), (Nat.le_of_ble_eq_true rfl)⟩ (ci := 10) rfl rfl r.1.1 rfl rfl (Nat.le_of_ble_eq_true rfl) (c_refuse r.1.1) ?_
    rintro _ q1 ⟨rfl, eq1⟩
    subst q1
    show zG l w mX10_closes 9 [(0, .ref m), (1, .int (jI z))] [.int (-1)] (zSi h 321 m (nI 1)) _
    refine g_goto (tgt := 18) dX10_closes_9 (by decide) ?_
    refine g_ireturn dX10_closes_18 rfl ?_
    refine ⟨by unfold qCloses; rw [if_pos (by omega)]; rfl, by unfold qCloses; rw [if_pos (by omega), zi_same]; rfl, ⟨_, r.s321.u3⟩, FrQ.si (by omega)⟩
end PE2
