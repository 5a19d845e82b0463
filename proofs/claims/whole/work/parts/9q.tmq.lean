section TMQ
variable {l : Launch} {w : zW} {h y z : zH} {m : Nat} {t : Nat → Nat} {n : Nat} {T T' : tkT} {N M : nT}
/-- what reading leaves as it is -/
def FrX (m : Nat) (h y : zH) : Prop := (zx y = zx h ∧ zt y = zt h) ∧ (∀ a, zk y a = zk h a ∧ zn y a = zn h a) ∧ (∀ f a, zr y f a = zr h f a ∧ zl y f a = zl h f a) ∧ (∀ a i, zR y a i = zR h a i ∧ zI y a i = zI h a i) ∧ (∀ f a, (a ≠ m ∨ (f ≠ 324 ∧ (f < 329 ∨ 334 < f))) → zi y f a = zi h f a) ∧ (∀ a i, a ≠ m + 1 → zL y a i = zL h a i) ∧ ∀ i, 5804 ≤ i → zL y (m + 1) i = zL h (m + 1) i
theorem FrX.rf : FrX m h h := ⟨⟨rfl, rfl⟩, fun _ => ⟨rfl, rfl⟩, fun _ _ => ⟨rfl, rfl⟩, fun _ _ => ⟨rfl, rfl⟩, fun _ _ _ => rfl, fun _ _ _ => rfl, fun _ _ => rfl⟩
theorem FrX.tr (p : FrX m h y) (q : FrX m y z) : FrX m h z := ⟨⟨q.1.1.trans p.1.1, q.1.2.trans p.1.2⟩, fun a => ⟨(q.2.1 a).1.trans (p.2.1 a).1, (q.2.1 a).2.trans (p.2.1 a).2⟩, fun f a => ⟨(q.2.2.1 f a).1.trans (p.2.2.1 f a).1, (q.2.2.1 f a).2.trans (p.2.2.1 f a).2⟩, fun a i => ⟨(q.2.2.2.1 a i).1.trans (p.2.2.2.1 a i).1, (q.2.2.2.1 a i).2.trans (p.2.2.2.1 a i).2⟩, fun f a e => (q.2.2.2.2.1 f a e).trans (p.2.2.2.2.1 f a e), fun a i e => (q.2.2.2.2.2.1 a i e).trans (p.2.2.2.2.2.1 a i e), fun i e => (q.2.2.2.2.2.2 i e).trans (p.2.2.2.2.2.2 i e)⟩
theorem FrX.fm (p : FrM m h y) : FrX m h y := by
  obtain ⟨p1, p2, p3, p4, p5, p6, p7, p8, p9, p10, p11⟩ := p
  exact ⟨⟨p1, p2⟩, fun a => ⟨p3 a, p4 a⟩, fun f a => ⟨p5 f a, p7 f a⟩, fun a i => ⟨p6 a i, p9 a i⟩, fun f a e => p8 f a (by omega), p10, p11⟩
theorem FrX.f (p : FrF m 329 332 h y) : FrX m h y := ⟨p.1, p.2.1, p.2.2.1, fun a i => ⟨(p.2.2.2.1 a i).2.2, (p.2.2.2.1 a i).1⟩, fun f a e => p.2.2.2.2 f a (by omega), fun a i _ => (p.2.2.2.1 a i).2.1, fun i _ => (p.2.2.2.1 _ i).2.1⟩
theorem FrX.f2 (p : FrF m 333 334 h y) : FrX m h y := ⟨p.1, p.2.1, p.2.2.1, fun a i => ⟨(p.2.2.2.1 a i).2.2, (p.2.2.2.1 a i).1⟩, fun f a e => p.2.2.2.2 f a (by omega), fun a i _ => (p.2.2.2.1 a i).2.1, fun i _ => (p.2.2.2.1 _ i).2.1⟩
/-- the model while it reads: its net, its text, its token, no fault yet -/
def PmT (h : zH) (m n : Nat) (t : Nat → Nat) (N : nT) (T : tkT) : Prop := MoN h m N ∧ TxM h m n t ∧ TkM h m T ∧ tkOk n T ∧ zi h 333 m = nI 0 ∧ zi h 334 m = -1
def PeT (h : zH) (m : Nat) (e : Int × Int) : Prop := zi h 333 m = jI e.1 ∧ zi h 334 m = jI e.2
def OM (m n : Nat) (t : Nat → Nat) (h : zH) (r : rR) : Option Value → zH → Prop := fun u h1 => match r with
  | .inl e => u = some (.int (bI false)) ∧ PeT h1 m e ∧ FrX m h h1
  | .inr (T, N) => u = some (.int (bI true)) ∧ PmT h1 m n t N T ∧ FrX m h h1
theorem PmT.up (P : PmT h m n t N T) (r : MoN y m M) (f : FrM m h y) : PmT y m n t M T := by
  obtain ⟨p1, p2, p3, p4, p5, p6, p7, p8, p9, p10, p11⟩ := f
  obtain ⟨a1, ⟨a2, a3, a4, a5⟩, ⟨b1, b2, b3, b4⟩, c, d⟩ := P
  exact ⟨r, ⟨r.1, by rw [p8 _ _ (by omega)]; exact a3, a4, fun i hi => by rw [p9]; exact a5 i hi⟩, ⟨by rw [p8 _ _ (by omega)]; exact b1, by rw [p8 _ _ (by omega)]; exact b2, by rw [p8 _ _ (by omega)]; exact b3, fun q => by rw [p8 _ _ (by omega)]; exact b4 q⟩, c, by rw [p8 _ _ (by omega)]; exact d.1, by rw [p8 _ _ (by omega)]; exact d.2⟩
theorem PmT.tk (P : PmT h m n t N T) (k : TkM y m T') (ok : tkOk n T') (f : FrF m 329 332 h y) : PmT y m n t N T' := ⟨P.1.frF f (by omega), P.2.1.frF f (by omega), k, ok, by rw [f.2.2.2.2 _ _ (by omega)]; exact P.2.2.2.2.1, by rw [f.2.2.2.2 _ _ (by omega)]; exact P.2.2.2.2.2⟩
theorem c_tnT {k lo hi : Nat} (P : PmT h m n t N T) (hk : k < 4208) (hs : ¬ nSp k) (hl : lo < 100000) (hh : hi < 100000) (o : okB T (lo : Int) (hi : Int) = true) : zM l w mX10_takesNumber [.ref m, .int (nI k), .int (nI lo), .int (nI hi)] h (fun u h1 => u = some (.int (bI true)) ∧ PmT h1 m n t (uA N k T.2.2.2) (nxT t n T) ∧ FrX m h h1) := by
  refine zM.of (by decide) (Nat.le_of_ble_eq_true rfl) ?_
  have mb := mdK_bd T.1
  unfold nSp at hs
  obtain ⟨t2, o1, o2⟩ := okB_t o
  have vb := P.2.2.2.1.2.2.2.2.2 t2
  refine g_aload_n 0 dX10_takesNumber_0 rfl rfl ?_
  refine g_geti (f := 329) dX10_takesNumber_1 fl_X10_217 P.1.1.1 (by decide) rfl ?_
  rw [show zi h 329 m = nI (mdK T.1) from P.2.2.1.1]
  refine g_iconst (v := nI 3) dX10_takesNumber_4 (by decide) ?_
  refine g_ncmp_eq (tgt := 14) dX10_takesNumber_5 (by decide) (by omega) (by omega) (fun c => ?_) (fun c => ?_)
  · refine g_aload_n 0 dX10_takesNumber_14 rfl rfl ?_
    refine g_geti (f := 332) dX10_takesNumber_15 fl_X10_226 P.1.1.1 (by decide) rfl ?_
    rw [show zi h 332 m = jI T.2.2.2 from P.2.2.1.2.2.2 t2]
    refine g_i2l dX10_takesNumber_18 ?_
    rw [jI_l (by omega) (by omega)]
    refine g_iload_n 2 dX10_takesNumber_19 rfl rfl ?_
    refine g_i2l dX10_takesNumber_20 ?_
    rw [nI_l (by omega), ← jL_nat]
    refine g_iload_n 3 dX10_takesNumber_21 rfl rfl ?_
    refine g_i2l dX10_takesNumber_22 ?_
    rw [nI_l (by omega), ← jL_nat]
    refine g_invs (M' := mX10_isFrom) (As := [.long (jL T.2.2.2), .long (jL ((lo : Nat) : Int)), .long (jL ((hi : Nat) : Int))]) (rest := []) dX10_takesNumber_23 ml_X10_252 okX10_isFrom stX10_isFrom ⟨(Nat.le_of_ble_eq_true rfl), (Nat.le_of_ble_eq_true rfl)⟩ rfl rfl (Nat.le_of_ble_eq_true rfl) (c_isFrom (by omega) (by omega) (by omega)) ?_
    rintro _ q1 ⟨rfl, eq1⟩
    subst q1
    show zG l w mX10_takesNumber 26 [(0, .ref m), (1, .int (nI k)), (2, .int (nI lo)), (3, .int (nI hi))] [.int (bI (decide (((lo : Nat) : Int) ≤ T.2.2.2 ∧ T.2.2.2 ≤ ((hi : Nat) : Int))))] h _
    refine g_bif_ne (tgt := 35) dX10_takesNumber_26 (by decide) (fun d => ?_) (fun d => ?_)
    · refine g_aload_n 0 dX10_takesNumber_35 rfl rfl ?_
      refine g_iload_n 1 dX10_takesNumber_36 rfl rfl ?_
      refine g_aload_n 0 dX10_takesNumber_37 rfl rfl ?_
      refine g_geti (f := 332) dX10_takesNumber_38 fl_X10_226 P.1.1.1 (by decide) rfl ?_
      rw [show zi h 332 m = jI T.2.2.2 from P.2.2.1.2.2.2 t2]
      refine g_i2l dX10_takesNumber_41 ?_
      rw [jI_l (by omega) (by omega)]
      refine g_invv (M' := mX10_puts) (As := [.int (nI k), .long (jL T.2.2.2)]) (rest := []) dX10_takesNumber_42 ml_X10_40 okX10_puts imX10_puts seX10_puts ⟨(Nat.le_of_ble_eq_true rfl), (Nat.le_of_ble_eq_true rfl)⟩ (ci := 10) rfl rfl P.1.1.1 rfl rfl (Nat.le_of_ble_eq_true rfl) (c_putsN P.1 (by omega) (by unfold nSp; omega)) ?_
      rintro _ y2 ⟨rfl, r2, f2⟩
      show zG l w mX10_takesNumber 45 [(0, .ref m), (1, .int (nI k)), (2, .int (nI lo)), (3, .int (nI hi))] [] y2 _
      have P2 := P.up r2 f2
      refine g_aload_n 0 dX10_takesNumber_45 rfl rfl ?_
      refine g_invv (M' := mX10_takes) (As := []) (rest := []) dX10_takesNumber_46 ml_X10_256 okX10_takes imX10_takes seX10_takes ⟨(Nat.le_of_ble_eq_true rfl), (Nat.le_of_ble_eq_true rfl)⟩ (ci := 10) rfl rfl P2.1.1.1 rfl rfl (Nat.le_of_ble_eq_true rfl) (c_takesM P2.2.1 P2.2.2.1 P2.2.2.2.1) ?_
      rintro _ y9 ⟨rfl, k9, f9⟩
      show zG l w mX10_takesNumber 49 [(0, .ref m), (1, .int (nI k)), (2, .int (nI lo)), (3, .int (nI hi))] [.int (bI true)] y9 _
      refine g_zreturn dX10_takesNumber_49 rfl (bI_nar _) ?_
      exact ⟨rfl, P2.tk k9 (nxT_ok P2.2.2.2.1).1 f9, (FrX.rf.tr (FrX.fm f2)).tr (FrX.f f9)⟩
    · exact absurd ⟨o1, o2⟩ (of_decide_eq_false d)
  · exact absurd (mdK_3.mpr t2) c
theorem c_tnF {k lo hi : Nat} (P : PmT h m n t N T) (hk : k < 4208) (hs : ¬ nSp k) (hl : lo < 100000) (hh : hi < 100000) (o : okB T (lo : Int) (hi : Int) = false) : zM l w mX10_takesNumber [.ref m, .int (nI k), .int (nI lo), .int (nI hi)] h (fun u h1 => u = some (.int (bI false)) ∧ PeT h1 m (nuF T) ∧ FrX m h h1) := by
  refine zM.of (by decide) (Nat.le_of_ble_eq_true rfl) ?_
  have mb := mdK_bd T.1
  unfold nSp at hs
  refine g_aload_n 0 dX10_takesNumber_0 rfl rfl ?_
  refine g_geti (f := 329) dX10_takesNumber_1 fl_X10_217 P.1.1.1 (by decide) rfl ?_
  rw [show zi h 329 m = nI (mdK T.1) from P.2.2.1.1]
  refine g_iconst (v := nI 3) dX10_takesNumber_4 (by decide) ?_
  refine g_ncmp_eq (tgt := 14) dX10_takesNumber_5 (by decide) (by omega) (by omega) (fun c => ?_) (fun c => ?_)
  · have t2 := mdK_3.mp c
    have vb := P.2.2.2.1.2.2.2.2.2 t2
    refine g_aload_n 0 dX10_takesNumber_14 rfl rfl ?_
    refine g_geti (f := 332) dX10_takesNumber_15 fl_X10_226 P.1.1.1 (by decide) rfl ?_
    rw [show zi h 332 m = jI T.2.2.2 from P.2.2.1.2.2.2 t2]
    refine g_i2l dX10_takesNumber_18 ?_
    rw [jI_l (by omega) (by omega)]
    refine g_iload_n 2 dX10_takesNumber_19 rfl rfl ?_
    refine g_i2l dX10_takesNumber_20 ?_
    rw [nI_l (by omega), ← jL_nat]
    refine g_iload_n 3 dX10_takesNumber_21 rfl rfl ?_
    refine g_i2l dX10_takesNumber_22 ?_
    rw [nI_l (by omega), ← jL_nat]
    refine g_invs (M' := mX10_isFrom) (As := [.long (jL T.2.2.2), .long (jL ((lo : Nat) : Int)), .long (jL ((hi : Nat) : Int))]) (rest := []) dX10_takesNumber_23 ml_X10_252 okX10_isFrom stX10_isFrom ⟨(Nat.le_of_ble_eq_true rfl), (Nat.le_of_ble_eq_true rfl)⟩ rfl rfl (Nat.le_of_ble_eq_true rfl) (c_isFrom (by omega) (by omega) (by omega)) ?_
    rintro _ q2 ⟨rfl, eq2⟩
    subst q2
    show zG l w mX10_takesNumber 26 [(0, .ref m), (1, .int (nI k)), (2, .int (nI lo)), (3, .int (nI hi))] [.int (bI (decide (((lo : Nat) : Int) ≤ T.2.2.2 ∧ T.2.2.2 ≤ ((hi : Nat) : Int))))] h _
    refine g_bif_ne (tgt := 35) dX10_takesNumber_26 (by decide) (fun d => ?_) (fun d => ?_)
    · exact absurd (okB_3 t2 (of_decide_eq_true d)) (by rw [o]; decide)
    · refine g_aload_n 0 dX10_takesNumber_29 rfl rfl ?_
      refine g_iconst (v := nI 4) dX10_takesNumber_30 (by decide) ?_
      refine g_invv (M' := mX10_fails) (As := [.int (nI 4)]) (rest := []) dX10_takesNumber_31 ml_X10_249 okX10_fails imX10_fails seX10_fails ⟨(Nat.le_of_ble_eq_true rfl), (Nat.le_of_ble_eq_true rfl)⟩ (ci := 10) rfl rfl P.1.1.1 rfl rfl (Nat.le_of_ble_eq_true rfl) (c_failsM P.1.1 P.2.2.1 P.2.2.2.1 P.2.2.2.2.1) ?_
      rintro _ y3 ⟨rfl, fa3, fb3, f3⟩
      show zG l w mX10_takesNumber 34 [(0, .ref m), (1, .int (nI k)), (2, .int (nI lo)), (3, .int (nI hi))] [.int (bI false)] y3 _
      refine g_zreturn dX10_takesNumber_34 rfl (bI_nar _) ?_
      exact ⟨rfl, by rw [nuF_2 t2]; exact ⟨fa3, fb3⟩, FrX.rf.tr (FrX.f2 f3)⟩
  · have c2 : ¬ T.1 = 2 := fun z => c (mdK_3.mpr z)
    refine g_aload_n 0 dX10_takesNumber_8 rfl rfl ?_
    refine g_iconst (v := nI 2) dX10_takesNumber_9 (by decide) ?_
    refine g_invv (M' := mX10_fails) (As := [.int (nI 2)]) (rest := []) dX10_takesNumber_10 ml_X10_249 okX10_fails imX10_fails seX10_fails ⟨(Nat.le_of_ble_eq_true rfl), (Nat.le_of_ble_eq_true rfl)⟩ (ci := 10) rfl rfl P.1.1.1 rfl rfl (Nat.le_of_ble_eq_true rfl) (c_failsM P.1.1 P.2.2.1 P.2.2.2.1 P.2.2.2.2.1) ?_
    rintro _ y1 ⟨rfl, fa1, fb1, f1⟩
    show zG l w mX10_takesNumber 13 [(0, .ref m), (1, .int (nI k)), (2, .int (nI lo)), (3, .int (nI hi))] [.int (bI false)] y1 _
    refine g_zreturn dX10_takesNumber_13 rfl (bI_nar _) ?_
    exact ⟨rfl, by rw [nuF_1 c2]; exact ⟨fa1, fb1⟩, FrX.rf.tr (FrX.f2 f1)⟩
theorem c_aLink (P : PmT h m n t N T) (hz : pz N) : zM l w mX10_aLink [.ref m] h (OM m n t h (linkR t n T N)) := by
  refine zM.of (by decide) (Nat.le_of_ble_eq_true rfl) ?_
  have H0 := hz.1
  refine g_aload_n 0 dX10_aLink_0 rfl rfl ?_
  refine g_iconst (v := nI 0) dX10_aLink_1 (by decide) ?_
  refine g_invv (M' := mX10_of) (As := [.int (nI 0)]) (rest := []) dX10_aLink_2 ml_X10_48 okX10_of imX10_of seX10_of ⟨(Nat.le_of_ble_eq_true rfl), (Nat.le_of_ble_eq_true rfl)⟩ (ci := 10) rfl rfl P.1.1.1 rfl rfl (Nat.le_of_ble_eq_true rfl) (c_ofN P.1 (by omega) (by unfold nSp; omega)) ?_
  rintro _ q1 ⟨rfl, eq1⟩
  subst q1
  show zG l w mX10_aLink 5 [(0, .ref m)] [.long (jL (nA N 0))] h _
  refine g_ldc2J (z := 6) dX10_aLink_5 kl_X10_260 (by decide) ?_
  refine g_lif_ne (a := (nA N 0)) (b := 6) (tgt := 19) dX10_aLink_8 rfl dX10_aLink_9 (by decide) (by omega) (by omega) (fun c => ?_) (fun c => ?_)
  · obtain ⟨l6, lq⟩ := nLk_lt hz c
    refine g_aload_n 0 dX10_aLink_19 rfl rfl ?_
    refine g_iconst (v := nI 0) dX10_aLink_20 (by decide) ?_
    refine g_invv (M' := mX10_at) (As := [.int (nI 0)]) (rest := []) dX10_aLink_21 ml_X10_58 okX10_at imX10_at seX10_at ⟨(Nat.le_of_ble_eq_true rfl), (Nat.le_of_ble_eq_true rfl)⟩ (ci := 10) rfl rfl P.1.1.1 rfl rfl (Nat.le_of_ble_eq_true rfl) (c_atN P.1 (by omega) (by unfold nSp; omega)) ?_
    rintro _ q3 ⟨rfl, eq3⟩
    subst q3
    show zG l w mX10_aLink 24 [(0, .ref m)] [.int (jI (nA N 0))] h _
    refine g_istore_n (lv2 := [(1, .int (jI (nA N 0))), (0, .ref m)]) dX10_aLink_24 rfl (by decide) rfl ?_
    refine g_aload_n 1 dX10_aLink_25 rfl rfl ?_
    rw [show jI (nA N 0) = nI (nLk N) by rw [← lq, jI_nat]]
    show zG l w mX10_aLink 26 [(1, .int (nI (nLk N))), (0, .ref m)] [.ref m] h _
    refine g_invv (M' := mX10_ahead) (As := []) (rest := []) dX10_aLink_26 ml_X10_246 okX10_ahead imX10_ahead seX10_ahead ⟨(Nat.le_of_ble_eq_true rfl), (Nat.le_of_ble_eq_true rfl)⟩ (ci := 10) rfl rfl P.1.1.1 rfl rfl (Nat.le_of_ble_eq_true rfl) (c_ahead P.2.1 P.2.2.1.2.2.1 P.2.2.2.1.2.2.1) ?_
    rintro _ y4 ⟨rfl, k4, f4⟩
    show zG l w mX10_aLink 29 [(1, .int (nI (nLk N))), (0, .ref m)] [] y4 _
    have P4 := P.tk (T' := nxT t n T) k4 (nxT_ok P.2.2.2.1).1 f4
    refine g_aload_n 1 dX10_aLink_29 rfl rfl ?_
    refine g_iload_n 0 dX10_aLink_30 rfl rfl ?_
    refine g_iconst (v := nI 0) dX10_aLink_31 (by decide) ?_
    refine g_invs (M' := mX10_link0) (As := [.int (nI (nLk N)), .int (nI 0)]) (rest := [.ref m]) dX10_aLink_32 ml_X10_44 okX10_link0 stX10_link0 ⟨(Nat.le_of_ble_eq_true rfl), (Nat.le_of_ble_eq_true rfl)⟩ rfl rfl (Nat.le_of_ble_eq_true rfl) c_link0 ?_
    rintro _ q5 ⟨rfl, eq5⟩
    subst q5
    show zG l w mX10_aLink 35 [(1, .int (nI (nLk N))), (0, .ref m)] [.int (nI (8 + 40 * (nLk N) + 0)), .ref m] y4 _
    refine g_iconst (v := nI 1) dX10_aLink_35 (by decide) ?_
    refine g_bipush (v := nI 9) dX10_aLink_36 (by decide) ?_
    by_cases o1 : okB (nxT t n T) 1 9 = true
    · refine g_invv (M' := mX10_takesNumber) (As := [.int (nI (8 + 40 * (nLk N) + 0)), .int (nI 1), .int (nI 9)]) (rest := []) dX10_aLink_38 ml_X10_262 okX10_takesNumber imX10_takesNumber seX10_takesNumber ⟨(Nat.le_of_ble_eq_true rfl), (Nat.le_of_ble_eq_true rfl)⟩ (ci := 10) rfl rfl P4.1.1.1 rfl rfl (Nat.le_of_ble_eq_true rfl) (c_tnT P4 (by omega) (by unfold nSp; omega) (by omega) (by omega) o1) ?_
      rintro _ y6 ⟨rfl, P6, x6⟩
      show zG l w mX10_aLink 41 [(1, .int (nI (nLk N))), (0, .ref m)] [.int (bI true)] y6 _
      refine g_bif_eq (tgt := 74) dX10_aLink_41 (by decide) (fun dx => ?_) (fun dx => ?_)
      · cases dx
      · refine g_aload_n 1 dX10_aLink_44 rfl rfl ?_
        refine g_iload_n 0 dX10_aLink_45 rfl rfl ?_
        refine g_iconst (v := nI 1) dX10_aLink_46 (by decide) ?_
        refine g_invs (M' := mX10_link0) (As := [.int (nI (nLk N)), .int (nI 1)]) (rest := [.ref m]) dX10_aLink_47 ml_X10_44 okX10_link0 stX10_link0 ⟨(Nat.le_of_ble_eq_true rfl), (Nat.le_of_ble_eq_true rfl)⟩ rfl rfl (Nat.le_of_ble_eq_true rfl) c_link0 ?_
        rintro _ q8 ⟨rfl, eq8⟩
        subst q8
        show zG l w mX10_aLink 50 [(1, .int (nI (nLk N))), (0, .ref m)] [.int (nI (8 + 40 * (nLk N) + 1)), .ref m] y6 _
        refine g_iconst (v := nI 1) dX10_aLink_50 (by decide) ?_
        refine g_bipush (v := nI 9) dX10_aLink_51 (by decide) ?_
        by_cases o2 : okB (nxT t n (nxT t n T)) 1 9 = true
        · refine g_invv (M' := mX10_takesNumber) (As := [.int (nI (8 + 40 * (nLk N) + 1)), .int (nI 1), .int (nI 9)]) (rest := []) dX10_aLink_53 ml_X10_262 okX10_takesNumber imX10_takesNumber seX10_takesNumber ⟨(Nat.le_of_ble_eq_true rfl), (Nat.le_of_ble_eq_true rfl)⟩ (ci := 10) rfl rfl P6.1.1.1 rfl rfl (Nat.le_of_ble_eq_true rfl) (c_tnT P6 (by omega) (by unfold nSp; omega) (by omega) (by omega) o2) ?_
          rintro _ y9 ⟨rfl, P9, x9⟩
          show zG l w mX10_aLink 56 [(1, .int (nI (nLk N))), (0, .ref m)] [.int (bI true)] y9 _
          refine g_bif_eq (tgt := 74) dX10_aLink_56 (by decide) (fun dx => ?_) (fun dx => ?_)
          · cases dx
          · refine g_aload_n 1 dX10_aLink_59 rfl rfl ?_
            refine g_iload_n 0 dX10_aLink_60 rfl rfl ?_
            refine g_iconst (v := nI 2) dX10_aLink_61 (by decide) ?_
            refine g_invs (M' := mX10_link0) (As := [.int (nI (nLk N)), .int (nI 2)]) (rest := [.ref m]) dX10_aLink_62 ml_X10_44 okX10_link0 stX10_link0 ⟨(Nat.le_of_ble_eq_true rfl), (Nat.le_of_ble_eq_true rfl)⟩ rfl rfl (Nat.le_of_ble_eq_true rfl) c_link0 ?_
            rintro _ q11 ⟨rfl, eq11⟩
            subst q11
            show zG l w mX10_aLink 65 [(1, .int (nI (nLk N))), (0, .ref m)] [.int (nI (8 + 40 * (nLk N) + 2)), .ref m] y9 _
            refine g_iconst (v := nI 1) dX10_aLink_65 (by decide) ?_
            refine g_bipush (v := nI 60) dX10_aLink_66 (by decide) ?_
            by_cases o3 : okB (nxT t n (nxT t n (nxT t n T))) 1 60 = true
            · refine g_invv (M' := mX10_takesNumber) (As := [.int (nI (8 + 40 * (nLk N) + 2)), .int (nI 1), .int (nI 60)]) (rest := []) dX10_aLink_68 ml_X10_262 okX10_takesNumber imX10_takesNumber seX10_takesNumber ⟨(Nat.le_of_ble_eq_true rfl), (Nat.le_of_ble_eq_true rfl)⟩ (ci := 10) rfl rfl P9.1.1.1 rfl rfl (Nat.le_of_ble_eq_true rfl) (c_tnT P9 (by omega) (by unfold nSp; omega) (by omega) (by omega) o3) ?_
              rintro _ y12 ⟨rfl, P12, x12⟩
              show zG l w mX10_aLink 71 [(1, .int (nI (nLk N))), (0, .ref m)] [.int (bI true)] y12 _
              refine g_bif_ne (tgt := 76) dX10_aLink_71 (by decide) (fun dx => ?_) (fun dx => ?_)
              · have v3 := okB_t o3
                refine g_aload_n 1 dX10_aLink_76 rfl rfl ?_
                refine g_iload_n 0 dX10_aLink_77 rfl rfl ?_
                refine g_iconst (v := nI 3) dX10_aLink_78 (by decide) ?_
                refine g_invs (M' := mX10_link0) (As := [.int (nI (nLk N)), .int (nI 3)]) (rest := [.ref m]) dX10_aLink_79 ml_X10_44 okX10_link0 stX10_link0 ⟨(Nat.le_of_ble_eq_true rfl), (Nat.le_of_ble_eq_true rfl)⟩ rfl rfl (Nat.le_of_ble_eq_true rfl) c_link0 ?_
                rintro _ q14 ⟨rfl, eq14⟩
                subst q14
                show zG l w mX10_aLink 82 [(1, .int (nI (nLk N))), (0, .ref m)] [.int (nI (8 + 40 * (nLk N) + 3)), .ref m] y12 _
                refine g_ldc2J (z := 10) dX10_aLink_82 kl_X10_166 (by decide) ?_
                refine g_invv (M' := mX10_puts) (As := [.int (nI (8 + 40 * (nLk N) + 3)), .long (jL 10)]) (rest := []) dX10_aLink_85 ml_X10_40 okX10_puts imX10_puts seX10_puts ⟨(Nat.le_of_ble_eq_true rfl), (Nat.le_of_ble_eq_true rfl)⟩ (ci := 10) rfl rfl P12.1.1.1 rfl rfl (Nat.le_of_ble_eq_true rfl) (c_putsN P12.1 (by omega) (by unfold nSp; omega)) ?_
                rintro _ y15 ⟨rfl, r15, f15⟩
                show zG l w mX10_aLink 88 [(1, .int (nI (nLk N))), (0, .ref m)] [] y15 _
                have P15 := P12.up r15 f15
                refine g_aload_n 1 dX10_aLink_88 rfl rfl ?_
                refine g_iload_n 0 dX10_aLink_89 rfl rfl ?_
                refine g_bipush (v := nI 7) dX10_aLink_90 (by decide) ?_
                refine g_invs (M' := mX10_link0) (As := [.int (nI (nLk N)), .int (nI 7)]) (rest := [.ref m]) dX10_aLink_92 ml_X10_44 okX10_link0 stX10_link0 ⟨(Nat.le_of_ble_eq_true rfl), (Nat.le_of_ble_eq_true rfl)⟩ rfl rfl (Nat.le_of_ble_eq_true rfl) c_link0 ?_
                rintro _ q16 ⟨rfl, eq16⟩
                subst q16
                show zG l w mX10_aLink 95 [(1, .int (nI (nLk N))), (0, .ref m)] [.int (nI (8 + 40 * (nLk N) + 7)), .ref m] y15 _
                refine g_aload_n 1 dX10_aLink_95 rfl rfl ?_
                refine g_iload_n 0 dX10_aLink_96 rfl rfl ?_
                refine g_iconst (v := nI 2) dX10_aLink_97 (by decide) ?_
                refine g_invv (M' := mX10_ofLink) (As := [.int (nI (nLk N)), .int (nI 2)]) (rest := [.int (nI (8 + 40 * (nLk N) + 7)), .ref m]) dX10_aLink_98 ml_X10_69 okX10_ofLink imX10_ofLink seX10_ofLink ⟨(Nat.le_of_ble_eq_true rfl), (Nat.le_of_ble_eq_true rfl)⟩ (ci := 10) rfl rfl P15.1.1.1 rfl rfl (Nat.le_of_ble_eq_true rfl) (c_ofLinkN P15.1 (by omega) (by unfold nSp; omega)) ?_
                rintro _ q17 ⟨rfl, eq17⟩
                subst q17
                show zG l w mX10_aLink 101 [(1, .int (nI (nLk N))), (0, .ref m)] [.long (jL (nA (uA (uA (uA (uA N (8 + 40 * (nLk N) + 0) ((nxT t n T).2.2.2)) (8 + 40 * (nLk N) + 1) ((nxT t n (nxT t n T)).2.2.2)) (8 + 40 * (nLk N) + 2) ((nxT t n (nxT t n (nxT t n T))).2.2.2)) (8 + 40 * (nLk N) + 3) 10) (8 + 40 * (nLk N) + 2))), .int (nI (8 + 40 * (nLk N) + 7)), .ref m] y15 _
                rw [show nA (uA (uA (uA (uA N (8 + 40 * (nLk N) + 0) ((nxT t n T).2.2.2)) (8 + 40 * (nLk N) + 1) ((nxT t n (nxT t n T)).2.2.2)) (8 + 40 * (nLk N) + 2) ((nxT t n (nxT t n (nxT t n T))).2.2.2)) (8 + 40 * (nLk N) + 3) 10) (8 + 40 * (nLk N) + 2) = (nxT t n (nxT t n (nxT t n T))).2.2.2 by rw [nA_ne (by omega), nA_eq]]
                refine g_invv (M' := mX10_puts) (As := [.int (nI (8 + 40 * (nLk N) + 7)), .long (jL ((nxT t n (nxT t n (nxT t n T))).2.2.2))]) (rest := []) dX10_aLink_101 ml_X10_40 okX10_puts imX10_puts seX10_puts ⟨(Nat.le_of_ble_eq_true rfl), (Nat.le_of_ble_eq_true rfl)⟩ (ci := 10) rfl rfl P15.1.1.1 rfl rfl (Nat.le_of_ble_eq_true rfl) (c_putsN P15.1 (by omega) (by unfold nSp; omega)) ?_
                rintro _ y18 ⟨rfl, r18, f18⟩
                show zG l w mX10_aLink 104 [(1, .int (nI (nLk N))), (0, .ref m)] [] y18 _
                have P18 := P15.up r18 f18
                refine g_aload_n 1 dX10_aLink_104 rfl rfl ?_
                refine g_iload_n 0 dX10_aLink_105 rfl rfl ?_
                refine g_bipush (v := nI 10) dX10_aLink_106 (by decide) ?_
                refine g_invs (M' := mX10_link0) (As := [.int (nI (nLk N)), .int (nI 10)]) (rest := [.ref m]) dX10_aLink_108 ml_X10_44 okX10_link0 stX10_link0 ⟨(Nat.le_of_ble_eq_true rfl), (Nat.le_of_ble_eq_true rfl)⟩ rfl rfl (Nat.le_of_ble_eq_true rfl) c_link0 ?_
                rintro _ q19 ⟨rfl, eq19⟩
                subst q19
                show zG l w mX10_aLink 111 [(1, .int (nI (nLk N))), (0, .ref m)] [.int (nI (8 + 40 * (nLk N) + 10)), .ref m] y18 _
                refine g_lconst (v := jL 1) dX10_aLink_111 (by decide) ?_
                refine g_invv (M' := mX10_puts) (As := [.int (nI (8 + 40 * (nLk N) + 10)), .long (jL 1)]) (rest := []) dX10_aLink_112 ml_X10_40 okX10_puts imX10_puts seX10_puts ⟨(Nat.le_of_ble_eq_true rfl), (Nat.le_of_ble_eq_true rfl)⟩ (ci := 10) rfl rfl P18.1.1.1 rfl rfl (Nat.le_of_ble_eq_true rfl) (c_putsN P18.1 (by omega) (by unfold nSp; omega)) ?_
                rintro _ y20 ⟨rfl, r20, f20⟩
                show zG l w mX10_aLink 115 [(1, .int (nI (nLk N))), (0, .ref m)] [] y20 _
                have P20 := P18.up r20 f20
                refine g_aload_n 1 dX10_aLink_115 rfl rfl ?_
                refine g_iload_n 0 dX10_aLink_116 rfl rfl ?_
                refine g_bipush (v := nI 11) dX10_aLink_117 (by decide) ?_
                refine g_invs (M' := mX10_link0) (As := [.int (nI (nLk N)), .int (nI 11)]) (rest := [.ref m]) dX10_aLink_119 ml_X10_44 okX10_link0 stX10_link0 ⟨(Nat.le_of_ble_eq_true rfl), (Nat.le_of_ble_eq_true rfl)⟩ rfl rfl (Nat.le_of_ble_eq_true rfl) c_link0 ?_
                rintro _ q21 ⟨rfl, eq21⟩
                subst q21
                show zG l w mX10_aLink 122 [(1, .int (nI (nLk N))), (0, .ref m)] [.int (nI (8 + 40 * (nLk N) + 11)), .ref m] y20 _
                refine g_lconst (v := jL 1) dX10_aLink_122 (by decide) ?_
                refine g_invv (M' := mX10_puts) (As := [.int (nI (8 + 40 * (nLk N) + 11)), .long (jL 1)]) (rest := []) dX10_aLink_123 ml_X10_40 okX10_puts imX10_puts seX10_puts ⟨(Nat.le_of_ble_eq_true rfl), (Nat.le_of_ble_eq_true rfl)⟩ (ci := 10) rfl rfl P20.1.1.1 rfl rfl (Nat.le_of_ble_eq_true rfl) (c_putsN P20.1 (by omega) (by unfold nSp; omega)) ?_
                rintro _ y22 ⟨rfl, r22, f22⟩
                show zG l w mX10_aLink 126 [(1, .int (nI (nLk N))), (0, .ref m)] [] y22 _
                have P22 := P20.up r22 f22
                refine g_aload_n 1 dX10_aLink_126 rfl rfl ?_
                refine g_invv (M' := mX10_key) (As := []) (rest := []) dX10_aLink_127 ml_X10_266 okX10_key imX10_key seX10_key ⟨(Nat.le_of_ble_eq_true rfl), (Nat.le_of_ble_eq_true rfl)⟩ (ci := 10) rfl rfl P22.1.1.1 rfl rfl (Nat.le_of_ble_eq_true rfl) (c_keyM P22.2.1 P22.2.2.1 P22.2.2.2.1) ?_
                rintro _ q23 ⟨rfl, eq23⟩
                subst q23
                show zG l w mX10_aLink 130 [(1, .int (nI (nLk N))), (0, .ref m)] [.int (jI (keyN t (nxT t n (nxT t n (nxT t n (nxT t n T))))))] y22 _
                have kb23 := key_bd (t := t) (T := nxT t n (nxT t n (nxT t n (nxT t n T))))
                refine g_iconst (v := nI 2) dX10_aLink_130 (by decide) ?_
                refine g_zcmp_ne (a := (keyN t (nxT t n (nxT t n (nxT t n (nxT t n T)))))) (b := 2) (tgt := 155) rfl (by decide) dX10_aLink_131 (by decide) (by omega) (by omega) (fun ck => ?_) (fun ck => ?_)
                · refine g_aload_n 1 dX10_aLink_155 rfl rfl ?_
                  refine g_iconst (v := nI 0) dX10_aLink_156 (by decide) ?_
                  refine g_lconst (v := jL 1) dX10_aLink_157 (by decide) ?_
                  refine g_invv (M' := mX10_adds) (As := [.int (nI 0), .long (jL 1)]) (rest := []) dX10_aLink_158 ml_X10_76 okX10_adds imX10_adds seX10_adds ⟨(Nat.le_of_ble_eq_true rfl), (Nat.le_of_ble_eq_true rfl)⟩ (ci := 10) rfl rfl P22.1.1.1 rfl rfl (Nat.le_of_ble_eq_true rfl) (c_addsN P22.1 (by omega) (by unfold nSp; omega)) ?_
                  rintro _ y24 ⟨rfl, r24, f24⟩
                  rw [show nA (uA (uA (uA (uA (uA (uA (uA N (8 + 40 * (nLk N) + 0) ((nxT t n T).2.2.2)) (8 + 40 * (nLk N) + 1) ((nxT t n (nxT t n T)).2.2.2)) (8 + 40 * (nLk N) + 2) ((nxT t n (nxT t n (nxT t n T))).2.2.2)) (8 + 40 * (nLk N) + 3) 10) (8 + 40 * (nLk N) + 7) ((nxT t n (nxT t n (nxT t n T))).2.2.2)) (8 + 40 * (nLk N) + 10) 1) (8 + 40 * (nLk N) + 11) 1) 0 = nA N 0 by rw [nA_ne (by omega), nA_ne (by omega), nA_ne (by omega), nA_ne (by omega), nA_ne (by omega), nA_ne (by omega), nA_ne (by omega)]] at r24
                  show zG l w mX10_aLink 161 [(1, .int (nI (nLk N))), (0, .ref m)] [] y24 _
                  have P24 := P22.up r24 f24
                  refine g_iconst (v := bI true) dX10_aLink_161 (by decide) ?_
                  refine g_zreturn dX10_aLink_162 rfl (bI_nar _) ?_
                  rw [show linkR t n T N = .inr ((nxT t n (nxT t n (nxT t n (nxT t n T)))), lkE N (lk7 N (nLk N) (nxT t n T).2.2.2 (nxT t n (nxT t n T)).2.2.2 (nxT t n (nxT t n (nxT t n T))).2.2.2)) from by unfold linkR; rw [if_neg c, if_pos o1, if_pos o2, if_pos o3, if_neg ck]]
                  exact ⟨rfl, P24, (((((((((FrX.rf.tr (FrX.f f4)).tr x6).tr x9).tr x12).tr (FrX.fm f15)).tr (FrX.fm f18)).tr (FrX.fm f20)).tr (FrX.fm f22)).tr (FrX.fm f24))⟩
                · refine g_aload_n 1 dX10_aLink_134 rfl rfl ?_
                  refine g_invv (M' := mX10_ahead) (As := []) (rest := []) dX10_aLink_135 ml_X10_246 okX10_ahead imX10_ahead seX10_ahead ⟨(Nat.le_of_ble_eq_true rfl), (Nat.le_of_ble_eq_true rfl)⟩ (ci := 10) rfl rfl P22.1.1.1 rfl rfl (Nat.le_of_ble_eq_true rfl) (c_ahead P22.2.1 P22.2.2.1.2.2.1 P22.2.2.2.1.2.2.1) ?_
                  rintro _ y25 ⟨rfl, k25, f25⟩
                  show zG l w mX10_aLink 138 [(1, .int (nI (nLk N))), (0, .ref m)] [] y25 _
                  have P25 := P22.tk (T' := nxT t n (nxT t n (nxT t n (nxT t n (nxT t n T))))) k25 (nxT_ok P22.2.2.2.1).1 f25
                  refine g_aload_n 1 dX10_aLink_138 rfl rfl ?_
                  refine g_iload_n 0 dX10_aLink_139 rfl rfl ?_
                  refine g_iconst (v := nI 3) dX10_aLink_140 (by decide) ?_
                  refine g_invs (M' := mX10_link0) (As := [.int (nI (nLk N)), .int (nI 3)]) (rest := [.ref m]) dX10_aLink_141 ml_X10_44 okX10_link0 stX10_link0 ⟨(Nat.le_of_ble_eq_true rfl), (Nat.le_of_ble_eq_true rfl)⟩ rfl rfl (Nat.le_of_ble_eq_true rfl) c_link0 ?_
                  rintro _ q26 ⟨rfl, eq26⟩
                  subst q26
                  show zG l w mX10_aLink 144 [(1, .int (nI (nLk N))), (0, .ref m)] [.int (nI (8 + 40 * (nLk N) + 3)), .ref m] y25 _
                  refine g_iconst (v := nI 2) dX10_aLink_144 (by decide) ?_
                  refine g_bipush (v := nI 30) dX10_aLink_145 (by decide) ?_
                  by_cases o5 : okB (nxT t n (nxT t n (nxT t n (nxT t n (nxT t n T))))) 2 30 = true
                  · refine g_invv (M' := mX10_takesNumber) (As := [.int (nI (8 + 40 * (nLk N) + 3)), .int (nI 2), .int (nI 30)]) (rest := []) dX10_aLink_147 ml_X10_262 okX10_takesNumber imX10_takesNumber seX10_takesNumber ⟨(Nat.le_of_ble_eq_true rfl), (Nat.le_of_ble_eq_true rfl)⟩ (ci := 10) rfl rfl P25.1.1.1 rfl rfl (Nat.le_of_ble_eq_true rfl) (c_tnT P25 (by omega) (by unfold nSp; omega) (by omega) (by omega) o5) ?_
                    rintro _ y27 ⟨rfl, P27, x27⟩
                    show zG l w mX10_aLink 150 [(1, .int (nI (nLk N))), (0, .ref m)] [.int (bI true)] y27 _
                    refine g_bif_ne (tgt := 155) dX10_aLink_150 (by decide) (fun dx => ?_) (fun dx => ?_)
                    · refine g_aload_n 1 dX10_aLink_155 rfl rfl ?_
                      refine g_iconst (v := nI 0) dX10_aLink_156 (by decide) ?_
                      refine g_lconst (v := jL 1) dX10_aLink_157 (by decide) ?_
                      refine g_invv (M' := mX10_adds) (As := [.int (nI 0), .long (jL 1)]) (rest := []) dX10_aLink_158 ml_X10_76 okX10_adds imX10_adds seX10_adds ⟨(Nat.le_of_ble_eq_true rfl), (Nat.le_of_ble_eq_true rfl)⟩ (ci := 10) rfl rfl P27.1.1.1 rfl rfl (Nat.le_of_ble_eq_true rfl) (c_addsN P27.1 (by omega) (by unfold nSp; omega)) ?_
                      rintro _ y29 ⟨rfl, r29, f29⟩
                      rw [show nA (uA (uA (uA (uA (uA (uA (uA (uA N (8 + 40 * (nLk N) + 0) ((nxT t n T).2.2.2)) (8 + 40 * (nLk N) + 1) ((nxT t n (nxT t n T)).2.2.2)) (8 + 40 * (nLk N) + 2) ((nxT t n (nxT t n (nxT t n T))).2.2.2)) (8 + 40 * (nLk N) + 3) 10) (8 + 40 * (nLk N) + 7) ((nxT t n (nxT t n (nxT t n T))).2.2.2)) (8 + 40 * (nLk N) + 10) 1) (8 + 40 * (nLk N) + 11) 1) (8 + 40 * (nLk N) + 3) ((nxT t n (nxT t n (nxT t n (nxT t n (nxT t n T))))).2.2.2)) 0 = nA N 0 by rw [nA_ne (by omega), nA_ne (by omega), nA_ne (by omega), nA_ne (by omega), nA_ne (by omega), nA_ne (by omega), nA_ne (by omega), nA_ne (by omega)]] at r29
                      show zG l w mX10_aLink 161 [(1, .int (nI (nLk N))), (0, .ref m)] [] y29 _
                      have P29 := P27.up r29 f29
                      refine g_iconst (v := bI true) dX10_aLink_161 (by decide) ?_
                      refine g_zreturn dX10_aLink_162 rfl (bI_nar _) ?_
                      rw [show linkR t n T N = .inr (nxT t n (nxT t n (nxT t n (nxT t n (nxT t n (nxT t n T))))), lkE N (uA (lk7 N (nLk N) (nxT t n T).2.2.2 (nxT t n (nxT t n T)).2.2.2 (nxT t n (nxT t n (nxT t n T))).2.2.2) (8 + 40 * nLk N + 3) (nxT t n (nxT t n (nxT t n (nxT t n (nxT t n T))))).2.2.2)) from by unfold linkR; rw [if_neg c, if_pos o1, if_pos o2, if_pos o3, if_pos ck, if_pos o5]]
                      exact ⟨rfl, P29, (((((((((((FrX.rf.tr (FrX.f f4)).tr x6).tr x9).tr x12).tr (FrX.fm f15)).tr (FrX.fm f18)).tr (FrX.fm f20)).tr (FrX.fm f22)).tr (FrX.f f25)).tr x27).tr (FrX.fm f29))⟩
                    · cases dx
                  · refine g_invv (M' := mX10_takesNumber) (As := [.int (nI (8 + 40 * (nLk N) + 3)), .int (nI 2), .int (nI 30)]) (rest := []) dX10_aLink_147 ml_X10_262 okX10_takesNumber imX10_takesNumber seX10_takesNumber ⟨(Nat.le_of_ble_eq_true rfl), (Nat.le_of_ble_eq_true rfl)⟩ (ci := 10) rfl rfl P25.1.1.1 rfl rfl (Nat.le_of_ble_eq_true rfl) (c_tnF P25 (by omega) (by unfold nSp; omega) (by omega) (by omega) (Bool.eq_false_iff.mpr o5)) ?_
                    rintro _ y28 ⟨rfl, E28, x28⟩
                    show zG l w mX10_aLink 150 [(1, .int (nI (nLk N))), (0, .ref m)] [.int (bI false)] y28 _
                    refine g_bif_ne (tgt := 155) dX10_aLink_150 (by decide) (fun dx => ?_) (fun dx => ?_)
                    · cases dx
                    · refine g_iconst (v := bI false) dX10_aLink_153 (by decide) ?_
                      refine g_zreturn dX10_aLink_154 rfl (bI_nar _) ?_
                      rw [show linkR t n T N = .inl (nuF (nxT t n (nxT t n (nxT t n (nxT t n (nxT t n T)))))) from by unfold linkR; rw [if_neg c, if_pos o1, if_pos o2, if_pos o3, if_pos ck, if_neg o5]]
                      exact ⟨rfl, E28, ((((((((((FrX.rf.tr (FrX.f f4)).tr x6).tr x9).tr x12).tr (FrX.fm f15)).tr (FrX.fm f18)).tr (FrX.fm f20)).tr (FrX.fm f22)).tr (FrX.f f25)).tr x28)⟩
              · cases dx
            · refine g_invv (M' := mX10_takesNumber) (As := [.int (nI (8 + 40 * (nLk N) + 2)), .int (nI 1), .int (nI 60)]) (rest := []) dX10_aLink_68 ml_X10_262 okX10_takesNumber imX10_takesNumber seX10_takesNumber ⟨(Nat.le_of_ble_eq_true rfl), (Nat.le_of_ble_eq_true rfl)⟩ (ci := 10) rfl rfl P9.1.1.1 rfl rfl (Nat.le_of_ble_eq_true rfl) (c_tnF P9 (by omega) (by unfold nSp; omega) (by omega) (by omega) (Bool.eq_false_iff.mpr o3)) ?_
              rintro _ y13 ⟨rfl, E13, x13⟩
              show zG l w mX10_aLink 71 [(1, .int (nI (nLk N))), (0, .ref m)] [.int (bI false)] y13 _
              refine g_bif_ne (tgt := 76) dX10_aLink_71 (by decide) (fun dx => ?_) (fun dx => ?_)
              · cases dx
              · refine g_iconst (v := bI false) dX10_aLink_74 (by decide) ?_
                refine g_zreturn dX10_aLink_75 rfl (bI_nar _) ?_
                rw [show linkR t n T N = .inl (nuF (nxT t n (nxT t n (nxT t n T)))) from by unfold linkR; rw [if_neg c, if_pos o1, if_pos o2, if_neg o3]]
                exact ⟨rfl, E13, ((((FrX.rf.tr (FrX.f f4)).tr x6).tr x9).tr x13)⟩
        · refine g_invv (M' := mX10_takesNumber) (As := [.int (nI (8 + 40 * (nLk N) + 1)), .int (nI 1), .int (nI 9)]) (rest := []) dX10_aLink_53 ml_X10_262 okX10_takesNumber imX10_takesNumber seX10_takesNumber ⟨(Nat.le_of_ble_eq_true rfl), (Nat.le_of_ble_eq_true rfl)⟩ (ci := 10) rfl rfl P6.1.1.1 rfl rfl (Nat.le_of_ble_eq_true rfl) (c_tnF P6 (by omega) (by unfold nSp; omega) (by omega) (by omega) (Bool.eq_false_iff.mpr o2)) ?_
          rintro _ y10 ⟨rfl, E10, x10⟩
          show zG l w mX10_aLink 56 [(1, .int (nI (nLk N))), (0, .ref m)] [.int (bI false)] y10 _
          refine g_bif_eq (tgt := 74) dX10_aLink_56 (by decide) (fun dx => ?_) (fun dx => ?_)
          · refine g_iconst (v := bI false) dX10_aLink_74 (by decide) ?_
            refine g_zreturn dX10_aLink_75 rfl (bI_nar _) ?_
            rw [show linkR t n T N = .inl (nuF (nxT t n (nxT t n T))) from by unfold linkR; rw [if_neg c, if_pos o1, if_neg o2]]
            exact ⟨rfl, E10, (((FrX.rf.tr (FrX.f f4)).tr x6).tr x10)⟩
          · cases dx
    · refine g_invv (M' := mX10_takesNumber) (As := [.int (nI (8 + 40 * (nLk N) + 0)), .int (nI 1), .int (nI 9)]) (rest := []) dX10_aLink_38 ml_X10_262 okX10_takesNumber imX10_takesNumber seX10_takesNumber ⟨(Nat.le_of_ble_eq_true rfl), (Nat.le_of_ble_eq_true rfl)⟩ (ci := 10) rfl rfl P4.1.1.1 rfl rfl (Nat.le_of_ble_eq_true rfl) (c_tnF P4 (by omega) (by unfold nSp; omega) (by omega) (by omega) (Bool.eq_false_iff.mpr o1)) ?_
      rintro _ y7 ⟨rfl, E7, x7⟩
      show zG l w mX10_aLink 41 [(1, .int (nI (nLk N))), (0, .ref m)] [.int (bI false)] y7 _
      refine g_bif_eq (tgt := 74) dX10_aLink_41 (by decide) (fun dx => ?_) (fun dx => ?_)
      · refine g_iconst (v := bI false) dX10_aLink_74 (by decide) ?_
        refine g_zreturn dX10_aLink_75 rfl (bI_nar _) ?_
        rw [show linkR t n T N = .inl (nuF (nxT t n T)) from by unfold linkR; rw [if_neg c, if_neg o1]]
        exact ⟨rfl, E7, ((FrX.rf.tr (FrX.f f4)).tr x7)⟩
      · cases dx
  · refine g_aload_n 0 dX10_aLink_12 rfl rfl ?_
    refine g_bipush (v := nI 6) dX10_aLink_13 (by decide) ?_
    refine g_invv (M' := mX10_fails) (As := [.int (nI 6)]) (rest := []) dX10_aLink_15 ml_X10_249 okX10_fails imX10_fails seX10_fails ⟨(Nat.le_of_ble_eq_true rfl), (Nat.le_of_ble_eq_true rfl)⟩ (ci := 10) rfl rfl P.1.1.1 rfl rfl (Nat.le_of_ble_eq_true rfl) (c_failsM P.1.1 P.2.2.1 P.2.2.2.1 P.2.2.2.2.1) ?_
    rintro _ y2 ⟨rfl, fa2, fb2, f2⟩
    show zG l w mX10_aLink 18 [(0, .ref m)] [.int (bI false)] y2 _
    refine g_zreturn dX10_aLink_18 rfl (bI_nar _) ?_
    rw [show linkR t n T N = .inl (flt T 6) from by unfold linkR; rw [if_pos c]]
    exact ⟨rfl, ⟨fa2, fb2⟩, FrX.rf.tr (FrX.f2 f2)⟩
end TMQ
