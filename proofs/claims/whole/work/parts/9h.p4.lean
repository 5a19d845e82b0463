section PE4
variable {l : Launch} {w : zW} {h h1 h2 y : zH} {m : Nat} {N M : nT}
theorem MoN.s7 {z : Int} {v : Int32} (r : MoN h m N) (hv : v = jI z) : MoN (zSi h 323 m v) m (uA N 7 z) := ⟨r.1, r.2.1.u37 (Or.inr rfl), by rw [zi_same, nA_eq]; exact hv, by rw [zi_Si, if_neg (by omega), nA_ne (by omega), nA_ne (by omega)]; exact r.2.2.2⟩
theorem MoN.s4 (r : MoN h m N) : MoN (zSi h 324 m (nI 0)) m (uA N 3 (-(nA N 6))) := ⟨r.1, r.2.1.u37 (Or.inl rfl), by rw [zi_Si, if_neg (by omega), nA_ne (by omega)]; exact r.2.2.1, by rw [zi_same, nA_eq, nA_ne (by omega), show nA N 6 + -(nA N 6) = 0 by omega]; rfl⟩
theorem uA_33 {k : Nat} {a b c : Int} (hk : k ≠ 3) : uA (uA (uA N 3 a) k b) 3 c = uA (uA N k b) 3 c := by
  unfold uA
  refine congrArg (fun q => (q, N.2)) ?_
  funext j
  by_cases e : j = 3
  · simp only [if_pos e]
  · simp only [if_neg e]
def aft (M N : nT) (k : Nat) : Int := if k = 0 then evenN M else if k = 1 then gapN M else if k = 2 then sumN M 9 (nF M) - sumN N 9 (nF N) else if k = 3 then sumN M 10 (nF M) - sumN N 10 (nF N) else lonN M (nA M 0).toNat
def qAfter (N : nT) (bb : Nat) (n k : Int) : Int × Int := if (0 ≤ n ∧ n ≤ 120) ∧ 0 ≤ k ∧ k ≤ 4 then (0, aft (ticksN (uA N 7 (bb : Int)) n.toNat) N k.toNat) else (1, -1)
def wthN (N : nT) (f e : Nat) : nT := if f = e then N else uA N (248 + 20 * e + 3) 0
def qWithout (N : nT) (z y n : Int) : Int × Int := if 1 ≤ n ∧ n ≤ 120 then (if (0 ≤ z ∧ z < nA N 1) ∧ 0 ≤ y ∧ y < nA N 1 then (0, nA (ticksN (wthN N z.toNat y.toNat) n.toNat) (248 + 20 * z.toNat + 9) - nA N (248 + 20 * z.toNat + 9)) else (2, -1)) else (1, -1)
def lsM (N : nT) (a k mu : Nat) : nT := uA (uA N (8 + 40 * a + (if k = 0 then 0 else 2)) (mu : Int)) 3 (-(nA N 6))
def lstN (N : nT) (a k n st : Nat) : Nat → Nat → Int × Int
  | 0, _ => (6, -1)
  | s + 1, mu => if jI (nA (ticksN (lsM N a k mu) n) 6 - nA N 6) = 0 then (0, (mu : Int)) else lstN N a k n st s (mu + st)
def qLeast (N : nT) (z k n : Int) : Int × Int := if (0 ≤ k ∧ k ≤ 1) ∧ 1 ≤ n ∧ n ≤ 10 then (if 0 ≤ z ∧ z < nA N 0 then (if k = 0 then lstN N z.toNat 0 n.toNat 1 9 1 else lstN N z.toNat 1 n.toNat 10 6 10) else (2, -1)) else (1, -1)
theorem iT.ls {a k mu : Nat} (h : iT N) (ha : (a : Int) < nA N 0) (hm : (k = 0 ∧ 1 ≤ mu ∧ mu ≤ 9) ∨ (¬ k = 0 ∧ 1 ≤ mu ∧ mu ≤ 60)) : iT (lsM N a k mu) ∧ nA (lsM N a k mu) 2 = nA N 2 ∧ nA (lsM N a k mu) 7 = nA N 7 ∧ nA (lsM N a k mu) 3 = -(nA N 6) := by
  have H0 := h.1.H.1
  have q : iT (uA N (8 + 40 * a + (if k = 0 then 0 else 2)) (mu : Int)) := h.uL ha (by
    by_cases c : k = 0
    · rw [if_pos c]; omega
    · rw [if_neg c]; omega)
  refine ⟨q.u37 (Or.inl rfl), ?_, ?_, ?_⟩
  · unfold lsM; rw [nA_ne (by omega), nA_ne (by split <;> omega)]
  · unfold lsM; rw [nA_ne (by omega), nA_ne (by split <;> omega)]
  · unfold lsM; rw [nA_eq]
theorem iT.wth {f e : Nat} (h : iT N) (he : (e : Int) < nA N 1) : iT (wthN N f e) ∧ nA (wthN N f e) 2 = nA N 2 ∧ nA (wthN N f e) 7 = nA N 7 ∧ nA (wthN N f e) 1 = nA N 1 := by
  unfold wthN
  by_cases c : f = e
  · rw [if_pos c]; exact ⟨h, rfl, rfl, rfl⟩
  · rw [if_neg c]; exact ⟨h.uF he (by omega), nA_ne (by omega), nA_ne (by omega), nA_ne (by omega)⟩
theorem lon_u7 {T : nT} {z : Int} : ∀ n, lonN (uA T 7 z) n = lonN T n := by
  intro n
  induction n with
  | zero => rfl
  | succ n ih => unfold lonN; rw [ih]; rfl
theorem c_afterBy (r : MoN h m N) (h0 : iT N) (ht : nA N 2 ≤ 39000) (n7 : nA N 7 = 0) {bb : Nat} (hb : bb ≤ 1) {n k : Int} (nb : -2147483648 ≤ n ∧ n < 2147483648) (kb : -2147483648 ≤ k ∧ k < 2147483648) : zM l w mX10_afterBy [.ref m, .int (jI n), .int (jI k), .int (nI bb)] h (PPm h m N (qAfter N bb n k)) := by
  refine zM.of (by decide) (Nat.le_of_ble_eq_true rfl) ?_
  have hI := h0.1
  refine g_iload_n 1 dX10_afterBy_0 rfl rfl ?_
  refine g_i2l dX10_afterBy_1 ?_
  rw [jI_l (by omega) (by omega)]
  refine g_lconst (v := jL 0) dX10_afterBy_2 (by decide) ?_
  refine g_ldc2J (z := 120) dX10_afterBy_3 kl_X10_366 (by decide) ?_
  refine g_invs (M' := mX10_isFrom) (As := [.long (jL n), .long (jL 0), .long (jL 120)]) (rest := []) dX10_afterBy_6 ml_X10_252 okX10_isFrom stX10_isFrom ⟨(Nat.le_of_ble_eq_true rfl), (Nat.le_of_ble_eq_true rfl)⟩ rfl rfl (Nat.le_of_ble_eq_true rfl) (c_isFrom (by omega) (by omega) (by omega)) ?_
  rintro _ q1 ⟨rfl, eq1⟩
  subst q1
  show zG l w mX10_afterBy 9 [(0, .ref m), (1, .int (jI n)), (2, .int (jI k)), (3, .int (nI bb))] [.int (bI (decide (0 ≤ n ∧ n ≤ 120)))] h _
  refine g_bif_eq (tgt := 24) dX10_afterBy_9 (by decide) (fun c => ?_) (fun c => ?_)
  · have c := of_decide_eq_false c
    refine g_aload_n 0 dX10_afterBy_24 rfl rfl ?_
    refine g_iconst (v := nI 1) dX10_afterBy_25 (by decide) ?_
    refine g_invv (M' := mX10_refuse) (As := [.int (nI 1)]) (rest := []) dX10_afterBy_26 ml_X10_289 okX10_refuse imX10_refuse seX10_refuse ⟨(Nat.le_of_ble_eq_true rfl), (Nat.le_of_ble_eq_true rfl)⟩ (ci := 10) rfl rfl r.1.1 rfl rfl (Nat.le_of_ble_eq_true rfl) (c_refuse r.1.1) ?_
    rintro _ q2 ⟨rfl, eq2⟩
    subst q2
    show zG l w mX10_afterBy 29 [(0, .ref m), (1, .int (jI n)), (2, .int (jI k)), (3, .int (nI bb))] [.int (-1)] (zSi h 321 m (nI 1)) _
    refine g_ireturn dX10_afterBy_29 rfl ?_
    have e : qAfter N bb n k = (1, -1) := by unfold qAfter; rw [if_neg (by omega)]
    exact ⟨by rw [e]; rfl, by rw [e, zi_same]; rfl, ⟨_, r.s321.u3⟩, FrQ.si (by omega)⟩
  · have c := of_decide_eq_true c
    refine g_iload_n 2 dX10_afterBy_12 rfl rfl ?_
    refine g_i2l dX10_afterBy_13 ?_
    rw [jI_l (by omega) (by omega)]
    refine g_lconst (v := jL 0) dX10_afterBy_14 (by decide) ?_
    refine g_ldc2J (z := 4) dX10_afterBy_15 kl_X10_273 (by decide) ?_
    refine g_invs (M' := mX10_isFrom) (As := [.long (jL k), .long (jL 0), .long (jL 4)]) (rest := []) dX10_afterBy_18 ml_X10_252 okX10_isFrom stX10_isFrom ⟨(Nat.le_of_ble_eq_true rfl), (Nat.le_of_ble_eq_true rfl)⟩ rfl rfl (Nat.le_of_ble_eq_true rfl) (c_isFrom (by omega) (by omega) (by omega)) ?_
    rintro _ q3 ⟨rfl, eq3⟩
    subst q3
    show zG l w mX10_afterBy 21 [(0, .ref m), (1, .int (jI n)), (2, .int (jI k)), (3, .int (nI bb))] [.int (bI (decide (0 ≤ k ∧ k ≤ 4)))] h _
    refine g_bif_ne (tgt := 30) dX10_afterBy_21 (by decide) (fun c2 => ?_) (fun c2 => ?_)
    · have c2 := of_decide_eq_true c2
      obtain ⟨i, ei⟩ : ∃ i : Nat, n = (i : Int) := ⟨_, (Int.toNat_of_nonneg c.1).symm⟩
      subst ei
      obtain ⟨j, ej⟩ : ∃ j : Nat, k = (j : Int) := ⟨_, (Int.toNat_of_nonneg c2.1).symm⟩
      subst ej
      have e : qAfter N bb (i : Int) (j : Int) = (0, aft (ticksN (uA N 7 (bb : Int)) i) N j) := by unfold qAfter; rw [if_pos ⟨c, c2⟩, Int.toNat_natCast, Int.toNat_natCast]
      unfold PPm
      rw [e]
      clear e
      simp only [jI_nat]
      show zG l w mX10_afterBy 30 [(0, .ref m), (1, .int (nI i)), (2, .int (nI j)), (3, .int (nI bb))] [] h _
      refine g_aload_n 0 dX10_afterBy_30 rfl rfl ?_
      refine g_bipush (v := nI 9) dX10_afterBy_31 (by decide) ?_
      refine g_invv (M' := mX10_flowsSum) (As := [.int (nI 9)]) (rest := []) dX10_afterBy_33 ml_X10_368 okX10_flowsSum imX10_flowsSum seX10_flowsSum ⟨(Nat.le_of_ble_eq_true rfl), (Nat.le_of_ble_eq_true rfl)⟩ (ci := 10) rfl rfl r.1.1 rfl rfl (Nat.le_of_ble_eq_true rfl) (c_flowsSum9 r hI) ?_
      rintro _ q5 ⟨rfl, eq5⟩
      subst q5
      show zG l w mX10_afterBy 36 [(0, .ref m), (1, .int (nI i)), (2, .int (nI j)), (3, .int (nI bb))] [.long (jL (sumN N 9 (nF N)))] h _
      refine g_lstore (lv2 := [(4, .long (jL (sumN N 9 (nF N)))), (0, .ref m), (1, .int (nI i)), (2, .int (nI j)), (3, .int (nI bb))]) dX10_afterBy_36 (by decide) rfl ?_
      refine g_aload_n 1 dX10_afterBy_38 rfl rfl ?_
      refine g_bipush (v := nI 10) dX10_afterBy_39 (by decide) ?_
      refine g_invv (M' := mX10_flowsSum) (As := [.int (nI 10)]) (rest := []) dX10_afterBy_41 ml_X10_368 okX10_flowsSum imX10_flowsSum seX10_flowsSum ⟨(Nat.le_of_ble_eq_true rfl), (Nat.le_of_ble_eq_true rfl)⟩ (ci := 10) rfl rfl r.1.1 rfl rfl (Nat.le_of_ble_eq_true rfl) (c_flowsSum10 r hI) ?_
      rintro _ q6 ⟨rfl, eq6⟩
      subst q6
      show zG l w mX10_afterBy 44 [(4, .long (jL (sumN N 9 (nF N)))), (0, .ref m), (1, .int (nI i)), (2, .int (nI j)), (3, .int (nI bb))] [.long (jL (sumN N 10 (nF N)))] h _
      refine g_lstore (lv2 := [(6, .long (jL (sumN N 10 (nF N)))), (4, .long (jL (sumN N 9 (nF N)))), (0, .ref m), (1, .int (nI i)), (2, .int (nI j)), (3, .int (nI bb))]) dX10_afterBy_44 (by decide) rfl ?_
      refine g_aload_n 2 dX10_afterBy_46 rfl rfl ?_
      refine g_iconst (v := nI 0) dX10_afterBy_47 (by decide) ?_
      refine g_sipush (v := nI 5804) dX10_afterBy_48 (by decide) ?_
      refine g_invv (M' := mX10_copies) (As := [.int (nI 0), .int (nI 5804)]) (rest := []) dX10_afterBy_51 ml_X10_292 okX10_copies imX10_copies seX10_copies ⟨(Nat.le_of_ble_eq_true rfl), (Nat.le_of_ble_eq_true rfl)⟩ (ci := 10) rfl rfl r.1.1 rfl rfl (Nat.le_of_ble_eq_true rfl) (c_copies r.1 (a := 0) (c := 5804) (by omega) (by omega) (by omega)) ?_
      rintro _ q5 ⟨rfl, eq5⟩
      subst q5
      show zG l w mX10_afterBy 54 [(6, .long (jL (sumN N 10 (nF N)))), (4, .long (jL (sumN N 9 (nF N)))), (0, .ref m), (1, .int (nI i)), (2, .int (nI j)), (3, .int (nI bb))] [] (zSG h (m + 1) (cpG (zL h (m + 1)) 0 5804 5804)) _
      obtain ⟨r0, as0, fq0⟩ := asd0 r h0.fit
      generalize zSG h (m + 1) (cpG (zL h (m + 1)) 0 5804 5804) = y0 at r0 as0 fq0 ⊢
      refine g_aload_n 2 dX10_afterBy_54 rfl rfl ?_
      refine g_iload_n 5 dX10_afterBy_55 rfl rfl ?_
      refine g_putz (f := 323) dX10_afterBy_56 fl_X10_118 (Or.inl rfl) r0.1.1 rfl (by rcases (show bb = 0 ∨ bb = 1 by omega) with q | q <;> rw [q] <;> decide) ?_
      have r1 := r0.s7 (z := (bb : Int)) (v := nI bb) (jI_nat bb).symm
      have fq1 : FrQ m h (zSi y0 323 m (nI bb)) := fq0.tr (FrQ.si (by omega))
      have as1 : ∀ k, k < 5804 → zL (zSi y0 323 m (nI bb)) (m + 1) (5804 + k) = zL h (m + 1) k := as0
      have hb7 : (7 : Nat) = 3 ∨ (7 : Nat) = 7 ∧ ((bb : Int) = 0 ∨ (bb : Int) = 1) := by omega
      have h1 : iT (uA N 7 (bb : Int)) := h0.u37 hb7
      have e2 : nA (uA N 7 (bb : Int)) 2 = nA N 2 := nA_ne (by omega)
      generalize zSi y0 323 m (nI bb) = y1 at r1 fq1 as1 ⊢
      refine g_aload_n 2 dX10_afterBy_59 rfl rfl ?_
      refine g_iload_n 3 dX10_afterBy_60 rfl rfl ?_
      refine g_invv (M' := mX10_ticks_) (As := [.int (nI i)]) (rest := []) dX10_afterBy_61 ml_X10_349 okX10_ticks_ imX10_ticks_ seX10_ticks_ ⟨(Nat.le_of_ble_eq_true rfl), (Nat.le_of_ble_eq_true rfl)⟩ (ci := 10) rfl rfl r1.1.1 rfl rfl (Nat.le_of_ble_eq_true rfl) (c_ticksI r1 h1 (n := i) (by omega)) ?_
      rintro _ y2 ⟨rfl, r2, f2⟩
      show zG l w mX10_afterBy 64 [(6, .long (jL (sumN N 10 (nF N)))), (4, .long (jL (sumN N 9 (nF N)))), (0, .ref m), (1, .int (nI i)), (2, .int (nI j)), (3, .int (nI bb))] [] y2 _
      obtain ⟨t1, t2, t3⟩ := ticks_in h1 i (by omega)
      refine g_aload_n 2 dX10_afterBy_64 rfl rfl ?_
      refine g_iconst (v := nI 0) dX10_afterBy_65 (by decide) ?_
      refine g_putz (f := 323) dX10_afterBy_66 fl_X10_118 (Or.inl rfl) r2.1.1 rfl (by first | exact Or.inl rfl | exact Or.inr rfl | assumption) ?_
      have r3 := r2.s7 (z := 0) (v := nI 0) rfl
      have fq3 : FrQ m h (zSi y2 323 m (nI 0)) := fq1.tr (f2.q.tr (FrQ.si (by omega)))
      have as3 : ∀ k, k < 5804 → zL (zSi y2 323 m (nI 0)) (m + 1) (5804 + k) = zL h (m + 1) k := fun k hk => (f2.2.2.2.2.2.2.2.2.2.2 (5804 + k) (by omega)).trans (as1 k hk)
      have hV := t1.u37 (k := 7) (z := 0) (Or.inr ⟨rfl, Or.inl rfl⟩)
      generalize ticksN (uA N 7 (bb : Int)) i = T at r3 hV t3 ⊢
      have g8 : ∀ k, 8 ≤ k → nA (uA T 7 0) k = nA T k := fun k hk => nA_ne (by omega)
      have g1 : nA (uA T 7 0) 1 = nA T 1 := nA_ne (by omega)
      have g0 : nA (uA T 7 0) 0 = nA T 0 := nA_ne (by omega)
      have e7 : nA (uA T 7 0) 7 = nA N 7 := by rw [nA_eq, n7]
      have v0 := even_cg g8 g1
      have v1 := gap_cg g8 g1
      have v2 : ∀ j, sumN (uA T 7 0) j (nF (uA T 7 0)) = sumN T j (nF T) := fun j => by rw [show nF (uA T 7 0) = nF T by unfold nF; rw [g1]]; exact (sC_cg g8 _).2.2.2.2.2 j
      have v4 : lonN (uA T 7 0) (nA (uA T 7 0) 0).toNat = lonN T (nA T 0).toNat := by rw [g0]; exact lon_u7 _
      generalize uA T 7 0 = V at r3 hV e7 v0 v1 v2 v4 ⊢
      generalize zSi y2 323 m (nI 0) = y3 at r3 fq3 as3 ⊢
      rcases (show j = 0 ∨ j = 1 ∨ j = 2 ∨ j = 3 ∨ j = 4 by omega) with rfl | rfl | rfl | rfl | rfl
      · refine g_iload_n 4 dX10_afterBy_69 rfl rfl ?_
        refine g_zif_ne (a := 0) (tgt := 80) (by decide) dX10_afterBy_70 (by decide) (by omega) (fun sq => ?_) (fun sq => ?_)
        · exact absurd sq (by omega)
        · refine g_aload_n 2 dX10_afterBy_73 rfl rfl ?_
          refine g_invv (M' := mX10_even) (As := []) (rest := []) dX10_afterBy_74 ml_X10_307 okX10_even imX10_even seX10_even ⟨(Nat.le_of_ble_eq_true rfl), (Nat.le_of_ble_eq_true rfl)⟩ (ci := 10) rfl rfl r3.1.1 rfl rfl (Nat.le_of_ble_eq_true rfl) (c_even r3 hV.1) ?_
          rintro _ q7 ⟨rfl, eq7⟩
          subst q7
          show zG l w mX10_afterBy 77 [(6, .long (jL (sumN N 10 (nF N)))), (4, .long (jL (sumN N 9 (nF N)))), (0, .ref m), (1, .int (nI i)), (2, .int (nI 0)), (3, .int (nI bb))] [.long (jL (evenN V))] y3 _
          rw [v0]
          refine g_goto (tgt := 130) dX10_afterBy_77 (by decide) ?_
          refine g_lstore (lv2 := [(8, .long (jL (evenN T))), (6, .long (jL (sumN N 10 (nF N)))), (4, .long (jL (sumN N 9 (nF N)))), (0, .ref m), (1, .int (nI i)), (2, .int (nI 0)), (3, .int (nI bb))]) dX10_afterBy_130 (by decide) rfl ?_
          refine g_aload_n 3 dX10_afterBy_132 rfl rfl ?_
          refine g_sipush (v := nI 5804) dX10_afterBy_133 (by decide) ?_
          refine g_iconst (v := nI 0) dX10_afterBy_136 (by decide) ?_
          refine g_invv (M' := mX10_copies) (As := [.int (nI 5804), .int (nI 0)]) (rest := []) dX10_afterBy_137 ml_X10_292 okX10_copies imX10_copies seX10_copies ⟨(Nat.le_of_ble_eq_true rfl), (Nat.le_of_ble_eq_true rfl)⟩ (ci := 10) rfl rfl r3.1.1 rfl rfl (Nat.le_of_ble_eq_true rfl) (c_copies r3.1 (a := 5804) (c := 0) (by omega) (by omega) (by omega)) ?_
          rintro _ q7 ⟨rfl, eq7⟩
          subst q7
          show zG l w mX10_afterBy 140 [(8, .long (jL (evenN T))), (6, .long (jL (sumN N 10 (nF N)))), (4, .long (jL (sumN N 9 (nF N)))), (0, .ref m), (1, .int (nI i)), (2, .int (nI 0)), (3, .int (nI bb))] [] (zSG y3 (m + 1) (cpG (zL y3 (m + 1)) 5804 0 5804)) _
          have R9 := asd1 as3 r h0.fit r3.1 (by rw [← e7]; exact r3.2.2.1) r3.2.2.2
          have F9 : FrQ m h (zSG y3 (m + 1) (cpG (zL y3 (m + 1)) 5804 0 5804)) := fq3.tr (FrQ.cp (by omega))
          generalize zSG y3 (m + 1) (cpG (zL y3 (m + 1)) 5804 0 5804) = y9 at R9 F9 ⊢
          refine g_aload_n 3 dX10_afterBy_140 rfl rfl ?_
          refine g_lload 0 dX10_afterBy_141 rfl ?_
          refine g_invv (M' := mX10_gives) (As := [.long (jL (evenN T))]) (rest := []) dX10_afterBy_143 ml_X10_298 okX10_gives imX10_gives seX10_gives ⟨(Nat.le_of_ble_eq_true rfl), (Nat.le_of_ble_eq_true rfl)⟩ (ci := 10) rfl rfl R9.1.1 rfl rfl (Nat.le_of_ble_eq_true rfl) (c_gives R9.1.1) ?_
          rintro _ q8 ⟨rfl, eq8⟩
          subst q8
          show zG l w mX10_afterBy 146 [(8, .long (jL (evenN T))), (6, .long (jL (sumN N 10 (nF N)))), (4, .long (jL (sumN N 9 (nF N)))), (0, .ref m), (1, .int (nI i)), (2, .int (nI 0)), (3, .int (nI bb))] [.int (jI (evenN T))] (zSi y9 321 m (nI 0)) _
          refine g_ireturn dX10_afterBy_146 rfl ?_
          exact ⟨rfl, by rw [zi_same]; rfl, ⟨_, R9.s321⟩, F9.tr (FrQ.si (by omega))⟩
      · refine g_iload_n 4 dX10_afterBy_69 rfl rfl ?_
        refine g_zif_ne (a := 1) (tgt := 80) (by decide) dX10_afterBy_70 (by decide) (by omega) (fun sq => ?_) (fun sq => ?_)
        · refine g_iload_n 4 dX10_afterBy_80 rfl rfl ?_
          refine g_iconst (v := nI 1) dX10_afterBy_81 (by decide) ?_
          refine g_zcmp_ne (a := 1) (b := 1) (tgt := 92) (by decide) (by decide) dX10_afterBy_82 (by decide) (by omega) (by omega) (fun sq => ?_) (fun sq => ?_)
          · exact absurd sq (by omega)
          · refine g_aload_n 2 dX10_afterBy_85 rfl rfl ?_
            refine g_invv (M' := mX10_gap) (As := []) (rest := []) dX10_afterBy_86 ml_X10_311 okX10_gap imX10_gap seX10_gap ⟨(Nat.le_of_ble_eq_true rfl), (Nat.le_of_ble_eq_true rfl)⟩ (ci := 10) rfl rfl r3.1.1 rfl rfl (Nat.le_of_ble_eq_true rfl) (c_gap r3 hV.1) ?_
            rintro _ q9 ⟨rfl, eq9⟩
            subst q9
            show zG l w mX10_afterBy 89 [(6, .long (jL (sumN N 10 (nF N)))), (4, .long (jL (sumN N 9 (nF N)))), (0, .ref m), (1, .int (nI i)), (2, .int (nI 1)), (3, .int (nI bb))] [.long (jL (gapN V))] y3 _
            rw [v1]
            refine g_goto (tgt := 130) dX10_afterBy_89 (by decide) ?_
            refine g_lstore (lv2 := [(8, .long (jL (gapN T))), (6, .long (jL (sumN N 10 (nF N)))), (4, .long (jL (sumN N 9 (nF N)))), (0, .ref m), (1, .int (nI i)), (2, .int (nI 1)), (3, .int (nI bb))]) dX10_afterBy_130 (by decide) rfl ?_
            refine g_aload_n 3 dX10_afterBy_132 rfl rfl ?_
            refine g_sipush (v := nI 5804) dX10_afterBy_133 (by decide) ?_
            refine g_iconst (v := nI 0) dX10_afterBy_136 (by decide) ?_
            refine g_invv (M' := mX10_copies) (As := [.int (nI 5804), .int (nI 0)]) (rest := []) dX10_afterBy_137 ml_X10_292 okX10_copies imX10_copies seX10_copies ⟨(Nat.le_of_ble_eq_true rfl), (Nat.le_of_ble_eq_true rfl)⟩ (ci := 10) rfl rfl r3.1.1 rfl rfl (Nat.le_of_ble_eq_true rfl) (c_copies r3.1 (a := 5804) (c := 0) (by omega) (by omega) (by omega)) ?_
            rintro _ q7 ⟨rfl, eq7⟩
            subst q7
            show zG l w mX10_afterBy 140 [(8, .long (jL (gapN T))), (6, .long (jL (sumN N 10 (nF N)))), (4, .long (jL (sumN N 9 (nF N)))), (0, .ref m), (1, .int (nI i)), (2, .int (nI 1)), (3, .int (nI bb))] [] (zSG y3 (m + 1) (cpG (zL y3 (m + 1)) 5804 0 5804)) _
            have R9 := asd1 as3 r h0.fit r3.1 (by rw [← e7]; exact r3.2.2.1) r3.2.2.2
            have F9 : FrQ m h (zSG y3 (m + 1) (cpG (zL y3 (m + 1)) 5804 0 5804)) := fq3.tr (FrQ.cp (by omega))
            generalize zSG y3 (m + 1) (cpG (zL y3 (m + 1)) 5804 0 5804) = y9 at R9 F9 ⊢
            refine g_aload_n 3 dX10_afterBy_140 rfl rfl ?_
            refine g_lload 0 dX10_afterBy_141 rfl ?_
            refine g_invv (M' := mX10_gives) (As := [.long (jL (gapN T))]) (rest := []) dX10_afterBy_143 ml_X10_298 okX10_gives imX10_gives seX10_gives ⟨(Nat.le_of_ble_eq_true rfl), (Nat.le_of_ble_eq_true rfl)⟩ (ci := 10) rfl rfl R9.1.1 rfl rfl (Nat.le_of_ble_eq_true rfl) (c_gives R9.1.1) ?_
            rintro _ q10 ⟨rfl, eq10⟩
            subst q10
            show zG l w mX10_afterBy 146 [(8, .long (jL (gapN T))), (6, .long (jL (sumN N 10 (nF N)))), (4, .long (jL (sumN N 9 (nF N)))), (0, .ref m), (1, .int (nI i)), (2, .int (nI 1)), (3, .int (nI bb))] [.int (jI (gapN T))] (zSi y9 321 m (nI 0)) _
            refine g_ireturn dX10_afterBy_146 rfl ?_
            exact ⟨rfl, by rw [zi_same]; rfl, ⟨_, R9.s321⟩, F9.tr (FrQ.si (by omega))⟩
        · exact absurd sq (by omega)
      · refine g_iload_n 4 dX10_afterBy_69 rfl rfl ?_
        refine g_zif_ne (a := 2) (tgt := 80) (by decide) dX10_afterBy_70 (by decide) (by omega) (fun sq => ?_) (fun sq => ?_)
        · refine g_iload_n 4 dX10_afterBy_80 rfl rfl ?_
          refine g_iconst (v := nI 1) dX10_afterBy_81 (by decide) ?_
          refine g_zcmp_ne (a := 2) (b := 1) (tgt := 92) (by decide) (by decide) dX10_afterBy_82 (by decide) (by omega) (by omega) (fun sq => ?_) (fun sq => ?_)
          · refine g_iload_n 4 dX10_afterBy_92 rfl rfl ?_
            refine g_iconst (v := nI 2) dX10_afterBy_93 (by decide) ?_
            refine g_zcmp_ne (a := 2) (b := 2) (tgt := 109) (by decide) (by decide) dX10_afterBy_94 (by decide) (by omega) (by omega) (fun sq => ?_) (fun sq => ?_)
            · exact absurd sq (by omega)
            · refine g_aload_n 2 dX10_afterBy_97 rfl rfl ?_
              refine g_bipush (v := nI 9) dX10_afterBy_98 (by decide) ?_
              refine g_invv (M' := mX10_flowsSum) (As := [.int (nI 9)]) (rest := []) dX10_afterBy_100 ml_X10_368 okX10_flowsSum imX10_flowsSum seX10_flowsSum ⟨(Nat.le_of_ble_eq_true rfl), (Nat.le_of_ble_eq_true rfl)⟩ (ci := 10) rfl rfl r3.1.1 rfl rfl (Nat.le_of_ble_eq_true rfl) (c_flowsSum9 r3 hV.1) ?_
              rintro _ q11 ⟨rfl, eq11⟩
              subst q11
              show zG l w mX10_afterBy 103 [(6, .long (jL (sumN N 10 (nF N)))), (4, .long (jL (sumN N 9 (nF N)))), (0, .ref m), (1, .int (nI i)), (2, .int (nI 2)), (3, .int (nI bb))] [.long (jL (sumN V 9 (nF V)))] y3 _
              rw [v2]
              refine g_lload 1 dX10_afterBy_103 rfl ?_
              refine g_lsub dX10_afterBy_105 ?_
              rw [jL_sub]
              refine g_goto (tgt := 130) dX10_afterBy_106 (by decide) ?_
              refine g_lstore (lv2 := [(8, .long (jL ((sumN T 9 (nF T)) - (sumN N 9 (nF N))))), (6, .long (jL (sumN N 10 (nF N)))), (4, .long (jL (sumN N 9 (nF N)))), (0, .ref m), (1, .int (nI i)), (2, .int (nI 2)), (3, .int (nI bb))]) dX10_afterBy_130 (by decide) rfl ?_
              refine g_aload_n 3 dX10_afterBy_132 rfl rfl ?_
              refine g_sipush (v := nI 5804) dX10_afterBy_133 (by decide) ?_
              refine g_iconst (v := nI 0) dX10_afterBy_136 (by decide) ?_
              refine g_invv (M' := mX10_copies) (As := [.int (nI 5804), .int (nI 0)]) (rest := []) dX10_afterBy_137 ml_X10_292 okX10_copies imX10_copies seX10_copies ⟨(Nat.le_of_ble_eq_true rfl), (Nat.le_of_ble_eq_true rfl)⟩ (ci := 10) rfl rfl r3.1.1 rfl rfl (Nat.le_of_ble_eq_true rfl) (c_copies r3.1 (a := 5804) (c := 0) (by omega) (by omega) (by omega)) ?_
              rintro _ q7 ⟨rfl, eq7⟩
              subst q7
              show zG l w mX10_afterBy 140 [(8, .long (jL ((sumN T 9 (nF T)) - (sumN N 9 (nF N))))), (6, .long (jL (sumN N 10 (nF N)))), (4, .long (jL (sumN N 9 (nF N)))), (0, .ref m), (1, .int (nI i)), (2, .int (nI 2)), (3, .int (nI bb))] [] (zSG y3 (m + 1) (cpG (zL y3 (m + 1)) 5804 0 5804)) _
              have R9 := asd1 as3 r h0.fit r3.1 (by rw [← e7]; exact r3.2.2.1) r3.2.2.2
              have F9 : FrQ m h (zSG y3 (m + 1) (cpG (zL y3 (m + 1)) 5804 0 5804)) := fq3.tr (FrQ.cp (by omega))
              generalize zSG y3 (m + 1) (cpG (zL y3 (m + 1)) 5804 0 5804) = y9 at R9 F9 ⊢
              refine g_aload_n 3 dX10_afterBy_140 rfl rfl ?_
              refine g_lload 0 dX10_afterBy_141 rfl ?_
              refine g_invv (M' := mX10_gives) (As := [.long (jL ((sumN T 9 (nF T)) - (sumN N 9 (nF N))))]) (rest := []) dX10_afterBy_143 ml_X10_298 okX10_gives imX10_gives seX10_gives ⟨(Nat.le_of_ble_eq_true rfl), (Nat.le_of_ble_eq_true rfl)⟩ (ci := 10) rfl rfl R9.1.1 rfl rfl (Nat.le_of_ble_eq_true rfl) (c_gives R9.1.1) ?_
              rintro _ q12 ⟨rfl, eq12⟩
              subst q12
              show zG l w mX10_afterBy 146 [(8, .long (jL ((sumN T 9 (nF T)) - (sumN N 9 (nF N))))), (6, .long (jL (sumN N 10 (nF N)))), (4, .long (jL (sumN N 9 (nF N)))), (0, .ref m), (1, .int (nI i)), (2, .int (nI 2)), (3, .int (nI bb))] [.int (jI ((sumN T 9 (nF T)) - (sumN N 9 (nF N))))] (zSi y9 321 m (nI 0)) _
              refine g_ireturn dX10_afterBy_146 rfl ?_
              exact ⟨rfl, by rw [zi_same]; rfl, ⟨_, R9.s321⟩, F9.tr (FrQ.si (by omega))⟩
          · exact absurd sq (by omega)
        · exact absurd sq (by omega)
      · refine g_iload_n 4 dX10_afterBy_69 rfl rfl ?_
        refine g_zif_ne (a := 3) (tgt := 80) (by decide) dX10_afterBy_70 (by decide) (by omega) (fun sq => ?_) (fun sq => ?_)
        · refine g_iload_n 4 dX10_afterBy_80 rfl rfl ?_
          refine g_iconst (v := nI 1) dX10_afterBy_81 (by decide) ?_
          refine g_zcmp_ne (a := 3) (b := 1) (tgt := 92) (by decide) (by decide) dX10_afterBy_82 (by decide) (by omega) (by omega) (fun sq => ?_) (fun sq => ?_)
          · refine g_iload_n 4 dX10_afterBy_92 rfl rfl ?_
            refine g_iconst (v := nI 2) dX10_afterBy_93 (by decide) ?_
            refine g_zcmp_ne (a := 3) (b := 2) (tgt := 109) (by decide) (by decide) dX10_afterBy_94 (by decide) (by omega) (by omega) (fun sq => ?_) (fun sq => ?_)
            · refine g_iload_n 4 dX10_afterBy_109 rfl rfl ?_
              refine g_iconst (v := nI 3) dX10_afterBy_110 (by decide) ?_
              refine g_zcmp_ne (a := 3) (b := 3) (tgt := 126) (by decide) (by decide) dX10_afterBy_111 (by decide) (by omega) (by omega) (fun sq => ?_) (fun sq => ?_)
              · exact absurd sq (by omega)
              · refine g_aload_n 2 dX10_afterBy_114 rfl rfl ?_
                refine g_bipush (v := nI 10) dX10_afterBy_115 (by decide) ?_
                refine g_invv (M' := mX10_flowsSum) (As := [.int (nI 10)]) (rest := []) dX10_afterBy_117 ml_X10_368 okX10_flowsSum imX10_flowsSum seX10_flowsSum ⟨(Nat.le_of_ble_eq_true rfl), (Nat.le_of_ble_eq_true rfl)⟩ (ci := 10) rfl rfl r3.1.1 rfl rfl (Nat.le_of_ble_eq_true rfl) (c_flowsSum10 r3 hV.1) ?_
                rintro _ q13 ⟨rfl, eq13⟩
                subst q13
                show zG l w mX10_afterBy 120 [(6, .long (jL (sumN N 10 (nF N)))), (4, .long (jL (sumN N 9 (nF N)))), (0, .ref m), (1, .int (nI i)), (2, .int (nI 3)), (3, .int (nI bb))] [.long (jL (sumN V 10 (nF V)))] y3 _
                rw [v2]
                refine g_lload 0 dX10_afterBy_120 rfl ?_
                refine g_lsub dX10_afterBy_122 ?_
                rw [jL_sub]
                refine g_goto (tgt := 130) dX10_afterBy_123 (by decide) ?_
                refine g_lstore (lv2 := [(8, .long (jL ((sumN T 10 (nF T)) - (sumN N 10 (nF N))))), (6, .long (jL (sumN N 10 (nF N)))), (4, .long (jL (sumN N 9 (nF N)))), (0, .ref m), (1, .int (nI i)), (2, .int (nI 3)), (3, .int (nI bb))]) dX10_afterBy_130 (by decide) rfl ?_
                refine g_aload_n 3 dX10_afterBy_132 rfl rfl ?_
                refine g_sipush (v := nI 5804) dX10_afterBy_133 (by decide) ?_
                refine g_iconst (v := nI 0) dX10_afterBy_136 (by decide) ?_
                refine g_invv (M' := mX10_copies) (As := [.int (nI 5804), .int (nI 0)]) (rest := []) dX10_afterBy_137 ml_X10_292 okX10_copies imX10_copies seX10_copies ⟨(Nat.le_of_ble_eq_true rfl), (Nat.le_of_ble_eq_true rfl)⟩ (ci := 10) rfl rfl r3.1.1 rfl rfl (Nat.le_of_ble_eq_true rfl) (c_copies r3.1 (a := 5804) (c := 0) (by omega) (by omega) (by omega)) ?_
                rintro _ q7 ⟨rfl, eq7⟩
                subst q7
                show zG l w mX10_afterBy 140 [(8, .long (jL ((sumN T 10 (nF T)) - (sumN N 10 (nF N))))), (6, .long (jL (sumN N 10 (nF N)))), (4, .long (jL (sumN N 9 (nF N)))), (0, .ref m), (1, .int (nI i)), (2, .int (nI 3)), (3, .int (nI bb))] [] (zSG y3 (m + 1) (cpG (zL y3 (m + 1)) 5804 0 5804)) _
                have R9 := asd1 as3 r h0.fit r3.1 (by rw [← e7]; exact r3.2.2.1) r3.2.2.2
                have F9 : FrQ m h (zSG y3 (m + 1) (cpG (zL y3 (m + 1)) 5804 0 5804)) := fq3.tr (FrQ.cp (by omega))
                generalize zSG y3 (m + 1) (cpG (zL y3 (m + 1)) 5804 0 5804) = y9 at R9 F9 ⊢
                refine g_aload_n 3 dX10_afterBy_140 rfl rfl ?_
                refine g_lload 0 dX10_afterBy_141 rfl ?_
                refine g_invv (M' := mX10_gives) (As := [.long (jL ((sumN T 10 (nF T)) - (sumN N 10 (nF N))))]) (rest := []) dX10_afterBy_143 ml_X10_298 okX10_gives imX10_gives seX10_gives ⟨(Nat.le_of_ble_eq_true rfl), (Nat.le_of_ble_eq_true rfl)⟩ (ci := 10) rfl rfl R9.1.1 rfl rfl (Nat.le_of_ble_eq_true rfl) (c_gives R9.1.1) ?_
                rintro _ q14 ⟨rfl, eq14⟩
                subst q14
                show zG l w mX10_afterBy 146 [(8, .long (jL ((sumN T 10 (nF T)) - (sumN N 10 (nF N))))), (6, .long (jL (sumN N 10 (nF N)))), (4, .long (jL (sumN N 9 (nF N)))), (0, .ref m), (1, .int (nI i)), (2, .int (nI 3)), (3, .int (nI bb))] [.int (jI ((sumN T 10 (nF T)) - (sumN N 10 (nF N))))] (zSi y9 321 m (nI 0)) _
                refine g_ireturn dX10_afterBy_146 rfl ?_
                exact ⟨rfl, by rw [zi_same]; rfl, ⟨_, R9.s321⟩, F9.tr (FrQ.si (by omega))⟩
            · exact absurd sq (by omega)
          · exact absurd sq (by omega)
        · exact absurd sq (by omega)
      · refine g_iload_n 4 dX10_afterBy_69 rfl rfl ?_
        refine g_zif_ne (a := 4) (tgt := 80) (by decide) dX10_afterBy_70 (by decide) (by omega) (fun sq => ?_) (fun sq => ?_)
        · refine g_iload_n 4 dX10_afterBy_80 rfl rfl ?_
          refine g_iconst (v := nI 1) dX10_afterBy_81 (by decide) ?_
          refine g_zcmp_ne (a := 4) (b := 1) (tgt := 92) (by decide) (by decide) dX10_afterBy_82 (by decide) (by omega) (by omega) (fun sq => ?_) (fun sq => ?_)
          · refine g_iload_n 4 dX10_afterBy_92 rfl rfl ?_
            refine g_iconst (v := nI 2) dX10_afterBy_93 (by decide) ?_
            refine g_zcmp_ne (a := 4) (b := 2) (tgt := 109) (by decide) (by decide) dX10_afterBy_94 (by decide) (by omega) (by omega) (fun sq => ?_) (fun sq => ?_)
            · refine g_iload_n 4 dX10_afterBy_109 rfl rfl ?_
              refine g_iconst (v := nI 3) dX10_afterBy_110 (by decide) ?_
              refine g_zcmp_ne (a := 4) (b := 3) (tgt := 126) (by decide) (by decide) dX10_afterBy_111 (by decide) (by omega) (by omega) (fun sq => ?_) (fun sq => ?_)
              · refine g_aload_n 2 dX10_afterBy_126 rfl rfl ?_
                refine g_invv (M' := mX10_longestRow) (As := []) (rest := []) dX10_afterBy_127 ml_X10_371 okX10_longestRow imX10_longestRow seX10_longestRow ⟨(Nat.le_of_ble_eq_true rfl), (Nat.le_of_ble_eq_true rfl)⟩ (ci := 10) rfl rfl r3.1.1 rfl rfl (Nat.le_of_ble_eq_true rfl) (c_longestM r3 hV.1) ?_
                rintro _ q15 ⟨rfl, eq15⟩
                subst q15
                show zG l w mX10_afterBy 130 [(6, .long (jL (sumN N 10 (nF N)))), (4, .long (jL (sumN N 9 (nF N)))), (0, .ref m), (1, .int (nI i)), (2, .int (nI 4)), (3, .int (nI bb))] [.long (jL (lonN V (nA V 0).toNat))] y3 _
                rw [v4]
                refine g_lstore (lv2 := [(8, .long (jL (lonN T (nA T 0).toNat))), (6, .long (jL (sumN N 10 (nF N)))), (4, .long (jL (sumN N 9 (nF N)))), (0, .ref m), (1, .int (nI i)), (2, .int (nI 4)), (3, .int (nI bb))]) dX10_afterBy_130 (by decide) rfl ?_
                refine g_aload_n 3 dX10_afterBy_132 rfl rfl ?_
                refine g_sipush (v := nI 5804) dX10_afterBy_133 (by decide) ?_
                refine g_iconst (v := nI 0) dX10_afterBy_136 (by decide) ?_
                refine g_invv (M' := mX10_copies) (As := [.int (nI 5804), .int (nI 0)]) (rest := []) dX10_afterBy_137 ml_X10_292 okX10_copies imX10_copies seX10_copies ⟨(Nat.le_of_ble_eq_true rfl), (Nat.le_of_ble_eq_true rfl)⟩ (ci := 10) rfl rfl r3.1.1 rfl rfl (Nat.le_of_ble_eq_true rfl) (c_copies r3.1 (a := 5804) (c := 0) (by omega) (by omega) (by omega)) ?_
                rintro _ q7 ⟨rfl, eq7⟩
                subst q7
                show zG l w mX10_afterBy 140 [(8, .long (jL (lonN T (nA T 0).toNat))), (6, .long (jL (sumN N 10 (nF N)))), (4, .long (jL (sumN N 9 (nF N)))), (0, .ref m), (1, .int (nI i)), (2, .int (nI 4)), (3, .int (nI bb))] [] (zSG y3 (m + 1) (cpG (zL y3 (m + 1)) 5804 0 5804)) _
                have R9 := asd1 as3 r h0.fit r3.1 (by rw [← e7]; exact r3.2.2.1) r3.2.2.2
                have F9 : FrQ m h (zSG y3 (m + 1) (cpG (zL y3 (m + 1)) 5804 0 5804)) := fq3.tr (FrQ.cp (by omega))
                generalize zSG y3 (m + 1) (cpG (zL y3 (m + 1)) 5804 0 5804) = y9 at R9 F9 ⊢
                refine g_aload_n 3 dX10_afterBy_140 rfl rfl ?_
                refine g_lload 0 dX10_afterBy_141 rfl ?_
                refine g_invv (M' := mX10_gives) (As := [.long (jL (lonN T (nA T 0).toNat))]) (rest := []) dX10_afterBy_143 ml_X10_298 okX10_gives imX10_gives seX10_gives ⟨(Nat.le_of_ble_eq_true rfl), (Nat.le_of_ble_eq_true rfl)⟩ (ci := 10) rfl rfl R9.1.1 rfl rfl (Nat.le_of_ble_eq_true rfl) (c_gives R9.1.1) ?_
                rintro _ q16 ⟨rfl, eq16⟩
                subst q16
                show zG l w mX10_afterBy 146 [(8, .long (jL (lonN T (nA T 0).toNat))), (6, .long (jL (sumN N 10 (nF N)))), (4, .long (jL (sumN N 9 (nF N)))), (0, .ref m), (1, .int (nI i)), (2, .int (nI 4)), (3, .int (nI bb))] [.int (jI (lonN T (nA T 0).toNat))] (zSi y9 321 m (nI 0)) _
                refine g_ireturn dX10_afterBy_146 rfl ?_
                exact ⟨rfl, by rw [zi_same]; rfl, ⟨_, R9.s321⟩, F9.tr (FrQ.si (by omega))⟩
              · exact absurd sq (by omega)
            · exact absurd sq (by omega)
          · exact absurd sq (by omega)
        · exact absurd sq (by omega)
    · have c2 := of_decide_eq_false c2
      refine g_aload_n 0 dX10_afterBy_24 rfl rfl ?_
      refine g_iconst (v := nI 1) dX10_afterBy_25 (by decide) ?_
      refine g_invv (M' := mX10_refuse) (As := [.int (nI 1)]) (rest := []) dX10_afterBy_26 ml_X10_289 okX10_refuse imX10_refuse seX10_refuse ⟨(Nat.le_of_ble_eq_true rfl), (Nat.le_of_ble_eq_true rfl)⟩ (ci := 10) rfl rfl r.1.1 rfl rfl (Nat.le_of_ble_eq_true rfl) (c_refuse r.1.1) ?_
      rintro _ q4 ⟨rfl, eq4⟩
      subst q4
      show zG l w mX10_afterBy 29 [(0, .ref m), (1, .int (jI n)), (2, .int (jI k)), (3, .int (nI bb))] [.int (-1)] (zSi h 321 m (nI 1)) _
      refine g_ireturn dX10_afterBy_29 rfl ?_
      have e : qAfter N bb n k = (1, -1) := by unfold qAfter; rw [if_neg (by omega)]
      exact ⟨by rw [e]; rfl, by rw [e, zi_same]; rfl, ⟨_, r.s321.u3⟩, FrQ.si (by omega)⟩
theorem c_afterM (r : MoN h m N) (h0 : iT N) (ht : nA N 2 ≤ 39000) (n7 : nA N 7 = 0) {n k : Int} (nb : -2147483648 ≤ n ∧ n < 2147483648) (kb : -2147483648 ≤ k ∧ k < 2147483648) : zM l w mX10_after [.ref m, .int (jI n), .int (jI k)] h (PPm h m N (qAfter N 0 n k)) := by
  refine zM.of (by decide) (Nat.le_of_ble_eq_true rfl) ?_
  refine g_aload_n 0 dX10_after_0 rfl rfl ?_
  refine g_iload_n 1 dX10_after_1 rfl rfl ?_
  refine g_iload_n 2 dX10_after_2 rfl rfl ?_
  refine g_iconst (v := nI 0) dX10_after_3 (by decide) ?_
  refine g_invv (M' := mX10_afterBy) (As := [.int (jI n), .int (jI k), .int (nI 0)]) (rest := []) dX10_after_4 ml_X10_374 okX10_afterBy imX10_afterBy seX10_afterBy ⟨(Nat.le_of_ble_eq_true rfl), (Nat.le_of_ble_eq_true rfl)⟩ (ci := 10) rfl rfl r.1.1 rfl rfl (Nat.le_of_ble_eq_true rfl) (c_afterBy r h0 ht n7 (bb := 0) (by omega) nb kb) ?_
  rintro _ y1 ⟨rfl, s1, R1, F1⟩
  show zG l w mX10_after 7 [(0, .ref m), (1, .int (jI n)), (2, .int (jI k))] [.int (jI (qAfter N 0 n k).2)] y1 _
  refine g_ireturn dX10_after_7 rfl ?_
  exact ⟨rfl, s1, R1, F1⟩
theorem c_blindM (r : MoN h m N) (h0 : iT N) (ht : nA N 2 ≤ 39000) (n7 : nA N 7 = 0) {n k : Int} (nb : -2147483648 ≤ n ∧ n < 2147483648) (kb : -2147483648 ≤ k ∧ k < 2147483648) : zM l w mX10_blind [.ref m, .int (jI n), .int (jI k)] h (PPm h m N (qAfter N 1 n k)) := by
  refine zM.of (by decide) (Nat.le_of_ble_eq_true rfl) ?_
  refine g_aload_n 0 dX10_blind_0 rfl rfl ?_
  refine g_iload_n 1 dX10_blind_1 rfl rfl ?_
  refine g_iload_n 2 dX10_blind_2 rfl rfl ?_
  refine g_iconst (v := nI 1) dX10_blind_3 (by decide) ?_
  refine g_invv (M' := mX10_afterBy) (As := [.int (jI n), .int (jI k), .int (nI 1)]) (rest := []) dX10_blind_4 ml_X10_374 okX10_afterBy imX10_afterBy seX10_afterBy ⟨(Nat.le_of_ble_eq_true rfl), (Nat.le_of_ble_eq_true rfl)⟩ (ci := 10) rfl rfl r.1.1 rfl rfl (Nat.le_of_ble_eq_true rfl) (c_afterBy r h0 ht n7 (bb := 1) (by omega) nb kb) ?_
  rintro _ y1 ⟨rfl, s1, R1, F1⟩
  show zG l w mX10_blind 7 [(0, .ref m), (1, .int (jI n)), (2, .int (jI k))] [.int (jI (qAfter N 1 n k).2)] y1 _
  refine g_ireturn dX10_blind_7 rfl ?_
  exact ⟨rfl, s1, R1, F1⟩
theorem c_withoutM (r : MoN h m N) (h0 : iT N) (ht : nA N 2 ≤ 39000) {z v n : Int} (zb : -2147483648 ≤ z ∧ z < 2147483648) (vb : -2147483648 ≤ v ∧ v < 2147483648) (nb : -2147483648 ≤ n ∧ n < 2147483648) : zM l w mX10_without [.ref m, .int (jI z), .int (jI v), .int (jI n)] h (PPm h m N (qWithout N z v n)) := by
  refine zM.of (by decide) (Nat.le_of_ble_eq_true rfl) ?_
  have hI := h0.1
  have H1 := hI.H.2.1
  refine g_iload_n 3 dX10_without_0 rfl rfl ?_
  refine g_i2l dX10_without_1 ?_
  rw [jI_l (by omega) (by omega)]
  refine g_lconst (v := jL 1) dX10_without_2 (by decide) ?_
  refine g_ldc2J (z := 120) dX10_without_3 kl_X10_366 (by decide) ?_
  refine g_invs (M' := mX10_isFrom) (As := [.long (jL n), .long (jL 1), .long (jL 120)]) (rest := []) dX10_without_6 ml_X10_252 okX10_isFrom stX10_isFrom ⟨(Nat.le_of_ble_eq_true rfl), (Nat.le_of_ble_eq_true rfl)⟩ rfl rfl (Nat.le_of_ble_eq_true rfl) (c_isFrom (by omega) (by omega) (by omega)) ?_
  rintro _ q1 ⟨rfl, eq1⟩
  subst q1
  show zG l w mX10_without 9 [(0, .ref m), (1, .int (jI z)), (2, .int (jI v)), (3, .int (jI n))] [.int (bI (decide (1 ≤ n ∧ n ≤ 120)))] h _
  refine g_bif_ne (tgt := 18) dX10_without_9 (by decide) (fun c => ?_) (fun c => ?_)
  · have c := of_decide_eq_true c
    refine g_aload_n 0 dX10_without_18 rfl rfl ?_
    refine g_iload_n 1 dX10_without_19 rfl rfl ?_
    refine g_invv (M' := mX10_isFlow) (As := [.int (jI z)]) (rest := []) dX10_without_20 ml_X10_321 okX10_isFlow imX10_isFlow seX10_isFlow ⟨(Nat.le_of_ble_eq_true rfl), (Nat.le_of_ble_eq_true rfl)⟩ (ci := 10) rfl rfl r.1.1 rfl rfl (Nat.le_of_ble_eq_true rfl) (c_isFlow r H1 (by omega)) ?_
    rintro _ q3 ⟨rfl, eq3⟩
    subst q3
    show zG l w mX10_without 23 [(0, .ref m), (1, .int (jI z)), (2, .int (jI v)), (3, .int (jI n))] [.int (bI (decide (0 ≤ z ∧ z < nA N 1)))] h _
    refine g_bif_eq (tgt := 34) dX10_without_23 (by decide) (fun d => ?_) (fun d => ?_)
    · have d := of_decide_eq_false d
      refine g_aload_n 0 dX10_without_34 rfl rfl ?_
      refine g_iconst (v := nI 2) dX10_without_35 (by decide) ?_
      refine g_invv (M' := mX10_refuse) (As := [.int (nI 2)]) (rest := []) dX10_without_36 ml_X10_289 okX10_refuse imX10_refuse seX10_refuse ⟨(Nat.le_of_ble_eq_true rfl), (Nat.le_of_ble_eq_true rfl)⟩ (ci := 10) rfl rfl r.1.1 rfl rfl (Nat.le_of_ble_eq_true rfl) (c_refuse r.1.1) ?_
      rintro _ q4 ⟨rfl, eq4⟩
      subst q4
      show zG l w mX10_without 39 [(0, .ref m), (1, .int (jI z)), (2, .int (jI v)), (3, .int (jI n))] [.int (-1)] (zSi h 321 m (nI 2)) _
      refine g_ireturn dX10_without_39 rfl ?_
      have e : qWithout N z v n = (2, -1) := by unfold qWithout; rw [if_pos c, if_neg (by omega)]
      exact ⟨by rw [e]; rfl, by rw [e, zi_same]; rfl, ⟨_, r.s321.u3⟩, FrQ.si (by omega)⟩
    · have d := of_decide_eq_true d
      refine g_aload_n 0 dX10_without_26 rfl rfl ?_
      refine g_iload_n 2 dX10_without_27 rfl rfl ?_
      refine g_invv (M' := mX10_isFlow) (As := [.int (jI v)]) (rest := []) dX10_without_28 ml_X10_321 okX10_isFlow imX10_isFlow seX10_isFlow ⟨(Nat.le_of_ble_eq_true rfl), (Nat.le_of_ble_eq_true rfl)⟩ (ci := 10) rfl rfl r.1.1 rfl rfl (Nat.le_of_ble_eq_true rfl) (c_isFlow r H1 (by omega)) ?_
      rintro _ q5 ⟨rfl, eq5⟩
      subst q5
      show zG l w mX10_without 31 [(0, .ref m), (1, .int (jI z)), (2, .int (jI v)), (3, .int (jI n))] [.int (bI (decide (0 ≤ v ∧ v < nA N 1)))] h _
      refine g_bif_ne (tgt := 40) dX10_without_31 (by decide) (fun d2 => ?_) (fun d2 => ?_)
      · have d2 := of_decide_eq_true d2
        obtain ⟨f, ef⟩ : ∃ f : Nat, z = (f : Int) := ⟨_, (Int.toNat_of_nonneg d.1).symm⟩
        subst ef
        obtain ⟨e, ee⟩ : ∃ e : Nat, v = (e : Int) := ⟨_, (Int.toNat_of_nonneg d2.1).symm⟩
        subst ee
        obtain ⟨i, ei⟩ : ∃ i : Nat, n = (i : Int) := ⟨_, (Int.toNat_of_nonneg (by omega)).symm⟩
        subst ei
        have e0 : qWithout N (f : Int) (e : Int) (i : Int) = (0, nA (ticksN (wthN N f e) i) (248 + 20 * f + 9) - nA N (248 + 20 * f + 9)) := by unfold qWithout; rw [if_pos c, if_pos ⟨d, d2⟩, Int.toNat_natCast, Int.toNat_natCast, Int.toNat_natCast]
        unfold PPm
        rw [e0]
        clear e0
        simp only [jI_nat]
        have f6 : f < 6 := by omega
        have e6 : e < 6 := by omega
        have W := h0.wth (f := f) d2.2
        show zG l w mX10_without 40 [(0, .ref m), (1, .int (nI f)), (2, .int (nI e)), (3, .int (nI i))] [] h _
        refine g_aload_n 0 dX10_without_40 rfl rfl ?_
        refine g_iload_n 1 dX10_without_41 rfl rfl ?_
        refine g_bipush (v := nI 9) dX10_without_42 (by decide) ?_
        refine g_invv (M' := mX10_ofFlow) (As := [.int (nI f), .int (nI 9)]) (rest := []) dX10_without_44 ml_X10_62 okX10_ofFlow imX10_ofFlow seX10_ofFlow ⟨(Nat.le_of_ble_eq_true rfl), (Nat.le_of_ble_eq_true rfl)⟩ (ci := 10) rfl rfl r.1.1 rfl rfl (Nat.le_of_ble_eq_true rfl) (c_ofFlowN r (by omega)) ?_
        rintro _ q7 ⟨rfl, eq7⟩
        subst q7
        show zG l w mX10_without 47 [(0, .ref m), (1, .int (nI f)), (2, .int (nI e)), (3, .int (nI i))] [.long (jL (nA N (248 + 20 * f + 9)))] h _
        refine g_lstore (lv2 := [(4, .long (jL (nA N (248 + 20 * f + 9)))), (0, .ref m), (1, .int (nI f)), (2, .int (nI e)), (3, .int (nI i))]) dX10_without_47 (by decide) rfl ?_
        refine g_aload_n 1 dX10_without_49 rfl rfl ?_
        refine g_iconst (v := nI 0) dX10_without_50 (by decide) ?_
        refine g_sipush (v := nI 5804) dX10_without_51 (by decide) ?_
        refine g_invv (M' := mX10_copies) (As := [.int (nI 0), .int (nI 5804)]) (rest := []) dX10_without_54 ml_X10_292 okX10_copies imX10_copies seX10_copies ⟨(Nat.le_of_ble_eq_true rfl), (Nat.le_of_ble_eq_true rfl)⟩ (ci := 10) rfl rfl r.1.1 rfl rfl (Nat.le_of_ble_eq_true rfl) (c_copies r.1 (a := 0) (c := 5804) (by omega) (by omega) (by omega)) ?_
        rintro _ q5 ⟨rfl, eq5⟩
        subst q5
        show zG l w mX10_without 57 [(4, .long (jL (nA N (248 + 20 * f + 9)))), (0, .ref m), (1, .int (nI f)), (2, .int (nI e)), (3, .int (nI i))] [] (zSG h (m + 1) (cpG (zL h (m + 1)) 0 5804 5804)) _
        obtain ⟨r0, as0, fq0⟩ := asd0 r h0.fit
        generalize zSG h (m + 1) (cpG (zL h (m + 1)) 0 5804 5804) = y0 at r0 as0 fq0 ⊢
        refine g_iload_n 2 dX10_without_57 rfl rfl ?_
        refine g_iload_n 3 dX10_without_58 rfl rfl ?_
        refine g_ncmp_eq (tgt := 72) dX10_without_59 (by decide) (by omega) (by omega) (fun g => ?_) (fun g => ?_)
        · have rr : MoN y0 m (wthN N f e) := by unfold wthN; rw [if_pos (by omega)]; exact r0
          refine g_aload_n 1 dX10_without_72 rfl rfl ?_
          refine g_iload_n 4 dX10_without_73 rfl rfl ?_
          refine g_invv (M' := mX10_ticks_) (As := [.int (nI i)]) (rest := []) dX10_without_74 ml_X10_349 okX10_ticks_ imX10_ticks_ seX10_ticks_ ⟨(Nat.le_of_ble_eq_true rfl), (Nat.le_of_ble_eq_true rfl)⟩ (ci := 10) rfl rfl r0.1.1 rfl rfl (Nat.le_of_ble_eq_true rfl) (c_ticksI rr W.1 (n := i) (by omega)) ?_
          rintro _ y2 ⟨rfl, r2, f2⟩
          show zG l w mX10_without 77 [(4, .long (jL (nA N (248 + 20 * f + 9)))), (0, .ref m), (1, .int (nI f)), (2, .int (nI e)), (3, .int (nI i))] [] y2 _
          obtain ⟨t1, t2, t3⟩ := ticks_in W.1 i (by omega)
          have e7 := (t3 7 (by unfold stK; omega)).trans W.2.2.1
          have fq2 : FrQ m h y2 := fq0.tr f2.q
          have as2 : ∀ k, k < 5804 → zL y2 (m + 1) (5804 + k) = zL h (m + 1) k := fun k hk => (f2.2.2.2.2.2.2.2.2.2.2 (5804 + k) (by omega)).trans (as0 k hk)
          generalize ticksN (wthN N f e) i = T at r2 e7 ⊢
          refine g_aload_n 1 dX10_without_77 rfl rfl ?_
          refine g_iload_n 2 dX10_without_78 rfl rfl ?_
          refine g_bipush (v := nI 9) dX10_without_79 (by decide) ?_
          refine g_invv (M' := mX10_ofFlow) (As := [.int (nI f), .int (nI 9)]) (rest := []) dX10_without_81 ml_X10_62 okX10_ofFlow imX10_ofFlow seX10_ofFlow ⟨(Nat.le_of_ble_eq_true rfl), (Nat.le_of_ble_eq_true rfl)⟩ (ci := 10) rfl rfl r2.1.1 rfl rfl (Nat.le_of_ble_eq_true rfl) (c_ofFlowN r2 (by omega)) ?_
          rintro _ q8 ⟨rfl, eq8⟩
          subst q8
          show zG l w mX10_without 84 [(4, .long (jL (nA N (248 + 20 * f + 9)))), (0, .ref m), (1, .int (nI f)), (2, .int (nI e)), (3, .int (nI i))] [.long (jL (nA T (248 + 20 * f + 9)))] y2 _
          refine g_lload 0 dX10_without_84 rfl ?_
          refine g_lsub dX10_without_86 ?_
          rw [jL_sub]
          refine g_lstore (lv2 := [(4, .long (jL ((nA T (248 + 20 * f + 9)) - (nA N (248 + 20 * f + 9))))), (0, .ref m), (1, .int (nI f)), (2, .int (nI e)), (3, .int (nI i))]) dX10_without_87 (by decide) rfl ?_
          refine g_aload_n 1 dX10_without_89 rfl rfl ?_
          refine g_sipush (v := nI 5804) dX10_without_90 (by decide) ?_
          refine g_iconst (v := nI 0) dX10_without_93 (by decide) ?_
          refine g_invv (M' := mX10_copies) (As := [.int (nI 5804), .int (nI 0)]) (rest := []) dX10_without_94 ml_X10_292 okX10_copies imX10_copies seX10_copies ⟨(Nat.le_of_ble_eq_true rfl), (Nat.le_of_ble_eq_true rfl)⟩ (ci := 10) rfl rfl r2.1.1 rfl rfl (Nat.le_of_ble_eq_true rfl) (c_copies r2.1 (a := 5804) (c := 0) (by omega) (by omega) (by omega)) ?_
          rintro _ q7 ⟨rfl, eq7⟩
          subst q7
          show zG l w mX10_without 97 [(4, .long (jL ((nA T (248 + 20 * f + 9)) - (nA N (248 + 20 * f + 9))))), (0, .ref m), (1, .int (nI f)), (2, .int (nI e)), (3, .int (nI i))] [] (zSG y2 (m + 1) (cpG (zL y2 (m + 1)) 5804 0 5804)) _
          have R9 := asd1 as2 r h0.fit r2.1 (by rw [← e7]; exact r2.2.2.1) r2.2.2.2
          have F9 : FrQ m h (zSG y2 (m + 1) (cpG (zL y2 (m + 1)) 5804 0 5804)) := fq2.tr (FrQ.cp (by omega))
          generalize zSG y2 (m + 1) (cpG (zL y2 (m + 1)) 5804 0 5804) = y9 at R9 F9 ⊢
          refine g_aload_n 1 dX10_without_97 rfl rfl ?_
          refine g_lload 0 dX10_without_98 rfl ?_
          refine g_invv (M' := mX10_gives) (As := [.long (jL ((nA T (248 + 20 * f + 9)) - (nA N (248 + 20 * f + 9))))]) (rest := []) dX10_without_100 ml_X10_298 okX10_gives imX10_gives seX10_gives ⟨(Nat.le_of_ble_eq_true rfl), (Nat.le_of_ble_eq_true rfl)⟩ (ci := 10) rfl rfl R9.1.1 rfl rfl (Nat.le_of_ble_eq_true rfl) (c_gives R9.1.1) ?_
          rintro _ q9 ⟨rfl, eq9⟩
          subst q9
          show zG l w mX10_without 103 [(4, .long (jL ((nA T (248 + 20 * f + 9)) - (nA N (248 + 20 * f + 9))))), (0, .ref m), (1, .int (nI f)), (2, .int (nI e)), (3, .int (nI i))] [.int (jI ((nA T (248 + 20 * f + 9)) - (nA N (248 + 20 * f + 9))))] (zSi y9 321 m (nI 0)) _
          refine g_ireturn dX10_without_103 rfl ?_
          exact ⟨rfl, by rw [zi_same]; rfl, ⟨_, R9.s321⟩, F9.tr (FrQ.si (by omega))⟩
        · refine g_aload_n 1 dX10_without_62 rfl rfl ?_
          refine g_iload_n 3 dX10_without_63 rfl rfl ?_
          refine g_iconst (v := nI 3) dX10_without_64 (by decide) ?_
          refine g_invs (M' := mX10_flow0) (As := [.int (nI e), .int (nI 3)]) (rest := [.ref m]) dX10_without_65 ml_X10_52 okX10_flow0 stX10_flow0 ⟨(Nat.le_of_ble_eq_true rfl), (Nat.le_of_ble_eq_true rfl)⟩ rfl rfl (Nat.le_of_ble_eq_true rfl) c_flow0 ?_
          rintro _ q10 ⟨rfl, eq10⟩
          subst q10
          show zG l w mX10_without 68 [(4, .long (jL (nA N (248 + 20 * f + 9)))), (0, .ref m), (1, .int (nI f)), (2, .int (nI e)), (3, .int (nI i))] [.int (nI (248 + 20 * e + 3)), .ref m] y0 _
          refine g_lconst (v := jL 0) dX10_without_68 (by decide) ?_
          refine g_invv (M' := mX10_puts) (As := [.int (nI (248 + 20 * e + 3)), .long (jL 0)]) (rest := []) dX10_without_69 ml_X10_40 okX10_puts imX10_puts seX10_puts ⟨(Nat.le_of_ble_eq_true rfl), (Nat.le_of_ble_eq_true rfl)⟩ (ci := 10) rfl rfl r0.1.1 rfl rfl (Nat.le_of_ble_eq_true rfl) (c_putsN r0 (z := 0) (by omega) (by unfold nSp; omega)) ?_
          rintro _ y1 ⟨rfl, r1, f1⟩
          show zG l w mX10_without 72 [(4, .long (jL (nA N (248 + 20 * f + 9)))), (0, .ref m), (1, .int (nI f)), (2, .int (nI e)), (3, .int (nI i))] [] y1 _
          have rr : MoN y1 m (wthN N f e) := by unfold wthN; rw [if_neg (by omega)]; exact r1
          have as1 : ∀ k, k < 5804 → zL y1 (m + 1) (5804 + k) = zL h (m + 1) k := fun k hk => (f1.2.2.2.2.2.2.2.2.2.2 (5804 + k) (by omega)).trans (as0 k hk)
          refine g_aload_n 1 dX10_without_72 rfl rfl ?_
          refine g_iload_n 4 dX10_without_73 rfl rfl ?_
          refine g_invv (M' := mX10_ticks_) (As := [.int (nI i)]) (rest := []) dX10_without_74 ml_X10_349 okX10_ticks_ imX10_ticks_ seX10_ticks_ ⟨(Nat.le_of_ble_eq_true rfl), (Nat.le_of_ble_eq_true rfl)⟩ (ci := 10) rfl rfl rr.1.1 rfl rfl (Nat.le_of_ble_eq_true rfl) (c_ticksI rr W.1 (n := i) (by omega)) ?_
          rintro _ y2 ⟨rfl, r2, f2⟩
          show zG l w mX10_without 77 [(4, .long (jL (nA N (248 + 20 * f + 9)))), (0, .ref m), (1, .int (nI f)), (2, .int (nI e)), (3, .int (nI i))] [] y2 _
          obtain ⟨t1, t2, t3⟩ := ticks_in W.1 i (by omega)
          have e7 := (t3 7 (by unfold stK; omega)).trans W.2.2.1
          have fq2 : FrQ m h y2 := (fq0.tr f1.q).tr f2.q
          have as2 : ∀ k, k < 5804 → zL y2 (m + 1) (5804 + k) = zL h (m + 1) k := fun k hk => (f2.2.2.2.2.2.2.2.2.2.2 (5804 + k) (by omega)).trans (as1 k hk)
          generalize ticksN (wthN N f e) i = T at r2 e7 ⊢
          refine g_aload_n 1 dX10_without_77 rfl rfl ?_
          refine g_iload_n 2 dX10_without_78 rfl rfl ?_
          refine g_bipush (v := nI 9) dX10_without_79 (by decide) ?_
          refine g_invv (M' := mX10_ofFlow) (As := [.int (nI f), .int (nI 9)]) (rest := []) dX10_without_81 ml_X10_62 okX10_ofFlow imX10_ofFlow seX10_ofFlow ⟨(Nat.le_of_ble_eq_true rfl), (Nat.le_of_ble_eq_true rfl)⟩ (ci := 10) rfl rfl r2.1.1 rfl rfl (Nat.le_of_ble_eq_true rfl) (c_ofFlowN r2 (by omega)) ?_
          rintro _ q11 ⟨rfl, eq11⟩
          subst q11
          show zG l w mX10_without 84 [(4, .long (jL (nA N (248 + 20 * f + 9)))), (0, .ref m), (1, .int (nI f)), (2, .int (nI e)), (3, .int (nI i))] [.long (jL (nA T (248 + 20 * f + 9)))] y2 _
          refine g_lload 0 dX10_without_84 rfl ?_
          refine g_lsub dX10_without_86 ?_
          rw [jL_sub]
          refine g_lstore (lv2 := [(4, .long (jL ((nA T (248 + 20 * f + 9)) - (nA N (248 + 20 * f + 9))))), (0, .ref m), (1, .int (nI f)), (2, .int (nI e)), (3, .int (nI i))]) dX10_without_87 (by decide) rfl ?_
          refine g_aload_n 1 dX10_without_89 rfl rfl ?_
          refine g_sipush (v := nI 5804) dX10_without_90 (by decide) ?_
          refine g_iconst (v := nI 0) dX10_without_93 (by decide) ?_
          refine g_invv (M' := mX10_copies) (As := [.int (nI 5804), .int (nI 0)]) (rest := []) dX10_without_94 ml_X10_292 okX10_copies imX10_copies seX10_copies ⟨(Nat.le_of_ble_eq_true rfl), (Nat.le_of_ble_eq_true rfl)⟩ (ci := 10) rfl rfl r2.1.1 rfl rfl (Nat.le_of_ble_eq_true rfl) (c_copies r2.1 (a := 5804) (c := 0) (by omega) (by omega) (by omega)) ?_
          rintro _ q7 ⟨rfl, eq7⟩
          subst q7
          show zG l w mX10_without 97 [(4, .long (jL ((nA T (248 + 20 * f + 9)) - (nA N (248 + 20 * f + 9))))), (0, .ref m), (1, .int (nI f)), (2, .int (nI e)), (3, .int (nI i))] [] (zSG y2 (m + 1) (cpG (zL y2 (m + 1)) 5804 0 5804)) _
          have R9 := asd1 as2 r h0.fit r2.1 (by rw [← e7]; exact r2.2.2.1) r2.2.2.2
          have F9 : FrQ m h (zSG y2 (m + 1) (cpG (zL y2 (m + 1)) 5804 0 5804)) := fq2.tr (FrQ.cp (by omega))
          generalize zSG y2 (m + 1) (cpG (zL y2 (m + 1)) 5804 0 5804) = y9 at R9 F9 ⊢
          refine g_aload_n 1 dX10_without_97 rfl rfl ?_
          refine g_lload 0 dX10_without_98 rfl ?_
          refine g_invv (M' := mX10_gives) (As := [.long (jL ((nA T (248 + 20 * f + 9)) - (nA N (248 + 20 * f + 9))))]) (rest := []) dX10_without_100 ml_X10_298 okX10_gives imX10_gives seX10_gives ⟨(Nat.le_of_ble_eq_true rfl), (Nat.le_of_ble_eq_true rfl)⟩ (ci := 10) rfl rfl R9.1.1 rfl rfl (Nat.le_of_ble_eq_true rfl) (c_gives R9.1.1) ?_
          rintro _ q12 ⟨rfl, eq12⟩
          subst q12
          show zG l w mX10_without 103 [(4, .long (jL ((nA T (248 + 20 * f + 9)) - (nA N (248 + 20 * f + 9))))), (0, .ref m), (1, .int (nI f)), (2, .int (nI e)), (3, .int (nI i))] [.int (jI ((nA T (248 + 20 * f + 9)) - (nA N (248 + 20 * f + 9))))] (zSi y9 321 m (nI 0)) _
          refine g_ireturn dX10_without_103 rfl ?_
          exact ⟨rfl, by rw [zi_same]; rfl, ⟨_, R9.s321⟩, F9.tr (FrQ.si (by omega))⟩
      · have d2 := of_decide_eq_false d2
        refine g_aload_n 0 dX10_without_34 rfl rfl ?_
        refine g_iconst (v := nI 2) dX10_without_35 (by decide) ?_
        refine g_invv (M' := mX10_refuse) (As := [.int (nI 2)]) (rest := []) dX10_without_36 ml_X10_289 okX10_refuse imX10_refuse seX10_refuse ⟨(Nat.le_of_ble_eq_true rfl), (Nat.le_of_ble_eq_true rfl)⟩ (ci := 10) rfl rfl r.1.1 rfl rfl (Nat.le_of_ble_eq_true rfl) (c_refuse r.1.1) ?_
        rintro _ q6 ⟨rfl, eq6⟩
        subst q6
        show zG l w mX10_without 39 [(0, .ref m), (1, .int (jI z)), (2, .int (jI v)), (3, .int (jI n))] [.int (-1)] (zSi h 321 m (nI 2)) _
        refine g_ireturn dX10_without_39 rfl ?_
        have e : qWithout N z v n = (2, -1) := by unfold qWithout; rw [if_pos c, if_neg (by omega)]
        exact ⟨by rw [e]; rfl, by rw [e, zi_same]; rfl, ⟨_, r.s321.u3⟩, FrQ.si (by omega)⟩
  · have c := of_decide_eq_false c
    refine g_aload_n 0 dX10_without_12 rfl rfl ?_
    refine g_iconst (v := nI 1) dX10_without_13 (by decide) ?_
    refine g_invv (M' := mX10_refuse) (As := [.int (nI 1)]) (rest := []) dX10_without_14 ml_X10_289 okX10_refuse imX10_refuse seX10_refuse ⟨(Nat.le_of_ble_eq_true rfl), (Nat.le_of_ble_eq_true rfl)⟩ (ci := 10) rfl rfl r.1.1 rfl rfl (Nat.le_of_ble_eq_true rfl) (c_refuse r.1.1) ?_
    rintro _ q2 ⟨rfl, eq2⟩
    subst q2
    show zG l w mX10_without 17 [(0, .ref m), (1, .int (jI z)), (2, .int (jI v)), (3, .int (jI n))] [.int (-1)] (zSi h 321 m (nI 1)) _
    refine g_ireturn dX10_without_17 rfl ?_
    have e : qWithout N z v n = (1, -1) := by unfold qWithout; rw [if_neg c]
    exact ⟨by rw [e]; rfl, by rw [e, zi_same]; rfl, ⟨_, r.s321.u3⟩, FrQ.si (by omega)⟩
theorem c_leastM (r : MoN h m N) (h0 : iT N) (ht : nA N 2 ≤ 39000) {z k n : Int} (zb : -2147483648 ≤ z ∧ z < 2147483648) (kb : -2147483648 ≤ k ∧ k < 2147483648) (nb : -2147483648 ≤ n ∧ n < 2147483648) : zM l w mX10_least [.ref m, .int (jI z), .int (jI k), .int (jI n)] h (PPm h m N (qLeast N z k n)) := by
  refine zM.of (by decide) (Nat.le_of_ble_eq_true rfl) ?_
  have hI := h0.1
  have H0 := hI.H.1
  refine g_iload_n 2 dX10_least_0 rfl rfl ?_
  refine g_i2l dX10_least_1 ?_
  rw [jI_l (by omega) (by omega)]
  refine g_lconst (v := jL 0) dX10_least_2 (by decide) ?_
  refine g_lconst (v := jL 1) dX10_least_3 (by decide) ?_
  refine g_invs (M' := mX10_isFrom) (As := [.long (jL k), .long (jL 0), .long (jL 1)]) (rest := []) dX10_least_4 ml_X10_252 okX10_isFrom stX10_isFrom ⟨(Nat.le_of_ble_eq_true rfl), (Nat.le_of_ble_eq_true rfl)⟩ rfl rfl (Nat.le_of_ble_eq_true rfl) (c_isFrom (by omega) (by omega) (by omega)) ?_
  rintro _ q1 ⟨rfl, eq1⟩
  subst q1
  show zG l w mX10_least 7 [(0, .ref m), (1, .int (jI z)), (2, .int (jI k)), (3, .int (jI n))] [.int (bI (decide (0 ≤ k ∧ k ≤ 1)))] h _
  refine g_bif_eq (tgt := 22) dX10_least_7 (by decide) (fun c => ?_) (fun c => ?_)
  · have c := of_decide_eq_false c
    refine g_aload_n 0 dX10_least_22 rfl rfl ?_
    refine g_iconst (v := nI 1) dX10_least_23 (by decide) ?_
    refine g_invv (M' := mX10_refuse) (As := [.int (nI 1)]) (rest := []) dX10_least_24 ml_X10_289 okX10_refuse imX10_refuse seX10_refuse ⟨(Nat.le_of_ble_eq_true rfl), (Nat.le_of_ble_eq_true rfl)⟩ (ci := 10) rfl rfl r.1.1 rfl rfl (Nat.le_of_ble_eq_true rfl) (c_refuse r.1.1) ?_
    rintro _ q2 ⟨rfl, eq2⟩
    subst q2
    show zG l w mX10_least 27 [(0, .ref m), (1, .int (jI z)), (2, .int (jI k)), (3, .int (jI n))] [.int (-1)] (zSi h 321 m (nI 1)) _
    refine g_ireturn dX10_least_27 rfl ?_
    have e : qLeast N z k n = (1, -1) := by unfold qLeast; rw [if_neg (by omega)]
    exact ⟨by rw [e]; rfl, by rw [e, zi_same]; rfl, ⟨_, r.s321.u3⟩, FrQ.si (by omega)⟩
  · have c := of_decide_eq_true c
    refine g_iload_n 3 dX10_least_10 rfl rfl ?_
    refine g_i2l dX10_least_11 ?_
    rw [jI_l (by omega) (by omega)]
    refine g_lconst (v := jL 1) dX10_least_12 (by decide) ?_
    refine g_ldc2J (z := 10) dX10_least_13 kl_X10_166 (by decide) ?_
    refine g_invs (M' := mX10_isFrom) (As := [.long (jL n), .long (jL 1), .long (jL 10)]) (rest := []) dX10_least_16 ml_X10_252 okX10_isFrom stX10_isFrom ⟨(Nat.le_of_ble_eq_true rfl), (Nat.le_of_ble_eq_true rfl)⟩ rfl rfl (Nat.le_of_ble_eq_true rfl) (c_isFrom (by omega) (by omega) (by omega)) ?_
    rintro _ q3 ⟨rfl, eq3⟩
    subst q3
    show zG l w mX10_least 19 [(0, .ref m), (1, .int (jI z)), (2, .int (jI k)), (3, .int (jI n))] [.int (bI (decide (1 ≤ n ∧ n ≤ 10)))] h _
    refine g_bif_ne (tgt := 28) dX10_least_19 (by decide) (fun c2 => ?_) (fun c2 => ?_)
    · have c2 := of_decide_eq_true c2
      refine g_aload_n 0 dX10_least_28 rfl rfl ?_
      refine g_iload_n 1 dX10_least_29 rfl rfl ?_
      refine g_invv (M' := mX10_isLink) (As := [.int (jI z)]) (rest := []) dX10_least_30 ml_X10_316 okX10_isLink imX10_isLink seX10_isLink ⟨(Nat.le_of_ble_eq_true rfl), (Nat.le_of_ble_eq_true rfl)⟩ (ci := 10) rfl rfl r.1.1 rfl rfl (Nat.le_of_ble_eq_true rfl) (c_isLink r H0 (by omega)) ?_
      rintro _ q5 ⟨rfl, eq5⟩
      subst q5
      show zG l w mX10_least 33 [(0, .ref m), (1, .int (jI z)), (2, .int (jI k)), (3, .int (jI n))] [.int (bI (decide (0 ≤ z ∧ z < nA N 0)))] h _
      refine g_bif_ne (tgt := 42) dX10_least_33 (by decide) (fun d => ?_) (fun d => ?_)
      · have d := of_decide_eq_true d
        obtain ⟨a, ea⟩ : ∃ a : Nat, z = (a : Int) := ⟨_, (Int.toNat_of_nonneg d.1).symm⟩
        subst ea
        obtain ⟨i, ei⟩ : ∃ i : Nat, n = (i : Int) := ⟨_, (Int.toNat_of_nonneg (by omega)).symm⟩
        subst ei
        have a6 : a < 6 := by omega
        rcases (show k = 0 ∨ k = 1 by omega) with rfl | rfl
        · have e0 : qLeast N (a : Int) 0 (i : Int) = lstN N a 0 i 1 9 1 := by unfold qLeast; rw [if_pos ⟨c, c2⟩, if_pos d, if_pos rfl, Int.toNat_natCast, Int.toNat_natCast]
          unfold PPm
          rw [e0]
          clear e0
          simp only [jI_nat]
          rw [show jI 0 = nI 0 from rfl]
          show zG l w mX10_least 42 [(0, .ref m), (1, .int (nI a)), (2, .int (nI 0)), (3, .int (nI i))] [] h _
          refine g_aload_n 0 dX10_least_42 rfl rfl ?_
          refine g_iconst (v := nI 0) dX10_least_43 (by decide) ?_
          refine g_sipush (v := nI 5804) dX10_least_44 (by decide) ?_
          refine g_invv (M' := mX10_copies) (As := [.int (nI 0), .int (nI 5804)]) (rest := []) dX10_least_47 ml_X10_292 okX10_copies imX10_copies seX10_copies ⟨(Nat.le_of_ble_eq_true rfl), (Nat.le_of_ble_eq_true rfl)⟩ (ci := 10) rfl rfl r.1.1 rfl rfl (Nat.le_of_ble_eq_true rfl) (c_copies r.1 (a := 0) (c := 5804) (by omega) (by omega) (by omega)) ?_
          rintro _ q5 ⟨rfl, eq5⟩
          subst q5
          show zG l w mX10_least 50 [(0, .ref m), (1, .int (nI a)), (2, .int (nI 0)), (3, .int (nI i))] [] (zSG h (m + 1) (cpG (zL h (m + 1)) 0 5804 5804)) _
          obtain ⟨r0, as0, fq0⟩ := asd0 r h0.fit
          generalize zSG h (m + 1) (cpG (zL h (m + 1)) 0 5804 5804) = y0 at r0 as0 fq0 ⊢
          have loop : ∀ s mu : Nat, mu + 1 * s = 10 → 1 ≤ mu → ∀ (y : zH) (vv : Int), MoN y m (uA N 3 vv) → (∀ k, k < 5804 → zL y (m + 1) (5804 + k) = zL h (m + 1) k) → FrQ m h y → zG l w mX10_least 66 [(5, .int (nI mu)), (4, .int (nI 1)), (0, .ref m), (1, .int (nI a)), (2, .int (nI 0)), (3, .int (nI i))] [] y (PPm h m N (lstN N a 0 i 1 s mu)) := by
            intro s
            induction s with
            | zero =>
              intro mu hmu h1 y vv rM asM fM
              refine g_iload 0 dX10_least_66 rfl ?_
              refine g_iload_n 4 dX10_least_68 rfl rfl ?_
              refine g_zif_ne (a := 0) (tgt := 77) (by decide) dX10_least_69 (by decide) (by omega) (fun sq => ?_) (fun sq => ?_)
              · exact absurd sq (by omega)
              · refine g_bipush (v := nI 9) dX10_least_72 (by decide) ?_
                refine g_goto (tgt := 79) dX10_least_74 (by decide) ?_
                refine g_ncmp_gt (tgt := 145) dX10_least_79 (by decide) (by omega) (by omega) (fun g => ?_) (fun g => ?_)
                · refine g_aload_n 2 dX10_least_145 rfl rfl ?_
                  refine g_bipush (v := nI 6) dX10_least_146 (by decide) ?_
                  refine g_invv (M' := mX10_refuse) (As := [.int (nI 6)]) (rest := []) dX10_least_148 ml_X10_289 okX10_refuse imX10_refuse seX10_refuse ⟨(Nat.le_of_ble_eq_true rfl), (Nat.le_of_ble_eq_true rfl)⟩ (ci := 10) rfl rfl rM.1.1 rfl rfl (Nat.le_of_ble_eq_true rfl) (c_refuse rM.1.1) ?_
                  rintro _ q1 ⟨rfl, eq1⟩
                  subst q1
                  show zG l w mX10_least 151 [(5, .int (nI mu)), (4, .int (nI 1)), (0, .ref m), (1, .int (nI a)), (2, .int (nI 0)), (3, .int (nI i))] [.int (-1)] (zSi y 321 m (nI 6)) _
                  refine g_ireturn dX10_least_151 rfl ?_
                  exact ⟨rfl, by rw [zi_same]; rfl, ⟨_, rM.s321⟩, fM.tr (FrQ.si (by omega))⟩
                · exact absurd g (by omega)
            | succ s ih =>
              intro mu hmu h1 y vv rM asM fM
              refine g_iload 0 dX10_least_66 rfl ?_
              refine g_iload_n 4 dX10_least_68 rfl rfl ?_
              refine g_zif_ne (a := 0) (tgt := 77) (by decide) dX10_least_69 (by decide) (by omega) (fun sq => ?_) (fun sq => ?_)
              · exact absurd sq (by omega)
              · refine g_bipush (v := nI 9) dX10_least_72 (by decide) ?_
                refine g_goto (tgt := 79) dX10_least_74 (by decide) ?_
                refine g_ncmp_gt (tgt := 145) dX10_least_79 (by decide) (by omega) (by omega) (fun g => ?_) (fun g => ?_)
                · exact absurd g (by omega)
                · refine g_aload_n 2 dX10_least_82 rfl rfl ?_
                  refine g_iload_n 3 dX10_least_83 rfl rfl ?_
                  refine g_iload_n 4 dX10_least_84 rfl rfl ?_
                  refine g_zif_ne (a := 0) (tgt := 92) (by decide) dX10_least_85 (by decide) (by omega) (fun sq => ?_) (fun sq => ?_)
                  · exact absurd sq (by omega)
                  · refine g_iconst (v := nI 0) dX10_least_88 (by decide) ?_
                    refine g_goto (tgt := 93) dX10_least_89 (by decide) ?_
                    refine g_invs (M' := mX10_link0) (As := [.int (nI a), .int (nI 0)]) (rest := [.ref m]) dX10_least_93 ml_X10_44 okX10_link0 stX10_link0 ⟨(Nat.le_of_ble_eq_true rfl), (Nat.le_of_ble_eq_true rfl)⟩ rfl rfl (Nat.le_of_ble_eq_true rfl) c_link0 ?_
                    rintro _ q2 ⟨rfl, eq2⟩
                    subst q2
                    show zG l w mX10_least 96 [(5, .int (nI mu)), (4, .int (nI 1)), (0, .ref m), (1, .int (nI a)), (2, .int (nI 0)), (3, .int (nI i))] [.int (nI (8 + 40 * a + 0)), .ref m] y _
                    refine g_iload 0 dX10_least_96 rfl ?_
                    refine g_i2l dX10_least_98 ?_
                    rw [nI_l (by omega), ← jL_nat]
                    refine g_invv (M' := mX10_puts) (As := [.int (nI (8 + 40 * a + 0)), .long (jL ((mu : Nat) : Int))]) (rest := []) dX10_least_99 ml_X10_40 okX10_puts imX10_puts seX10_puts ⟨(Nat.le_of_ble_eq_true rfl), (Nat.le_of_ble_eq_true rfl)⟩ (ci := 10) rfl rfl rM.1.1 rfl rfl (Nat.le_of_ble_eq_true rfl) (c_putsN rM (k := 8 + 40 * a + 0) (z := (mu : Int)) (by omega) (by unfold nSp; omega)) ?_
                    rintro _ y1 ⟨rfl, r1, f1⟩
                    show zG l w mX10_least 102 [(5, .int (nI mu)), (4, .int (nI 1)), (0, .ref m), (1, .int (nI a)), (2, .int (nI 0)), (3, .int (nI i))] [] y1 _
                    have r2 := r1.s4
                    rw [show nA (uA (uA N 3 vv) (8 + 40 * a + 0) (mu : Int)) 6 = nA N 6 by rw [nA_ne (by omega), nA_ne (by omega)], uA_33 (by omega)] at r2
                    have r2 : MoN (zSi y1 324 m (nI 0)) m (lsM N a 0 mu) := r2
                    have as2 : ∀ k, k < 5804 → zL (zSi y1 324 m (nI 0)) (m + 1) (5804 + k) = zL h (m + 1) k := fun k hk => (f1.2.2.2.2.2.2.2.2.2.2 (5804 + k) (by omega)).trans (asM k hk)
                    have fq2 : FrQ m h (zSi y1 324 m (nI 0)) := fM.tr (f1.q.tr (FrQ.si (by omega)))
                    refine g_aload_n 2 dX10_least_102 rfl rfl ?_
                    refine g_iconst (v := nI 0) dX10_least_103 (by decide) ?_
                    refine g_puti (f := 324) dX10_least_104 fl_X10_97 (Or.inl rfl) r1.1.1 rfl ?_
                    generalize zSi y1 324 m (nI 0) = y2 at r2 as2 fq2 ⊢
                    obtain ⟨i1, i2, i7, i3⟩ := h0.ls (k := 0) (mu := mu) d.2 (by omega)
                    refine g_aload_n 2 dX10_least_107 rfl rfl ?_
                    refine g_iload_n 5 dX10_least_108 rfl rfl ?_
                    refine g_invv (M' := mX10_ticks_) (As := [.int (nI i)]) (rest := []) dX10_least_109 ml_X10_349 okX10_ticks_ imX10_ticks_ seX10_ticks_ ⟨(Nat.le_of_ble_eq_true rfl), (Nat.le_of_ble_eq_true rfl)⟩ (ci := 10) rfl rfl r2.1.1 rfl rfl (Nat.le_of_ble_eq_true rfl) (c_ticksI r2 i1 (n := i) (by omega)) ?_
                    rintro _ y3 ⟨rfl, r3, f3⟩
                    show zG l w mX10_least 112 [(5, .int (nI mu)), (4, .int (nI 1)), (0, .ref m), (1, .int (nI a)), (2, .int (nI 0)), (3, .int (nI i))] [] y3 _
                    obtain ⟨t1, t2, t3⟩ := ticks_in i1 i (by omega)
                    have e7 := (t3 7 (by unfold stK; omega)).trans i7
                    have e3 := (t3 3 (by unfold stK; omega)).trans i3
                    have as3 : ∀ k, k < 5804 → zL y3 (m + 1) (5804 + k) = zL h (m + 1) k := fun k hk => (f3.2.2.2.2.2.2.2.2.2.2 (5804 + k) (by omega)).trans (as2 k hk)
                    have eL : lstN N a 0 i 1 (s + 1) mu = if jI (nA (ticksN (lsM N a 0 mu) i) 6 - nA N 6) = 0 then (0, (mu : Int)) else lstN N a 0 i 1 s (mu + 1) := rfl
                    rw [eL]
                    clear eL
                    generalize ticksN (lsM N a 0 mu) i = T at r3 e7 e3 t1 t2 t3 ⊢
                    have x4 : zi y3 324 m = jI (nA T 6 - nA N 6) := by rw [r3.2.2.2, e3, Int.sub_eq_add_neg]
                    refine g_aload_n 2 dX10_least_112 rfl rfl ?_
                    refine g_sipush (v := nI 5804) dX10_least_113 (by decide) ?_
                    refine g_iconst (v := nI 0) dX10_least_116 (by decide) ?_
                    refine g_invv (M' := mX10_copies) (As := [.int (nI 5804), .int (nI 0)]) (rest := []) dX10_least_117 ml_X10_292 okX10_copies imX10_copies seX10_copies ⟨(Nat.le_of_ble_eq_true rfl), (Nat.le_of_ble_eq_true rfl)⟩ (ci := 10) rfl rfl r3.1.1 rfl rfl (Nat.le_of_ble_eq_true rfl) (c_copies r3.1 (a := 5804) (c := 0) (by omega) (by omega) (by omega)) ?_
                    rintro _ q7 ⟨rfl, eq7⟩
                    subst q7
                    show zG l w mX10_least 120 [(5, .int (nI mu)), (4, .int (nI 1)), (0, .ref m), (1, .int (nI a)), (2, .int (nI 0)), (3, .int (nI i))] [] (zSG y3 (m + 1) (cpG (zL y3 (m + 1)) 5804 0 5804)) _
                    have R9 := asd1 as3 r h0.fit r3.1 (by rw [← e7]; exact r3.2.2.1) x4
                    have F9 : FrQ m h (zSG y3 (m + 1) (cpG (zL y3 (m + 1)) 5804 0 5804)) := fq2.tr (f3.q.tr (FrQ.cp (by omega)))
                    have as9 : ∀ k, k < 5804 → zL (zSG y3 (m + 1) (cpG (zL y3 (m + 1)) 5804 0 5804)) (m + 1) (5804 + k) = zL h (m + 1) k := fun k hk => by rw [zL_SG]; unfold cpG; rw [if_neg (by omega)]; exact as3 k hk
                    have x9 : zi (zSG y3 (m + 1) (cpG (zL y3 (m + 1)) 5804 0 5804)) 324 m = jI (nA T 6 - nA N 6) := x4
                    generalize zSG y3 (m + 1) (cpG (zL y3 (m + 1)) 5804 0 5804) = y9 at R9 F9 as9 x9 ⊢
                    refine g_aload_n 2 dX10_least_120 rfl rfl ?_
                    refine g_geti (f := 324) dX10_least_121 fl_X10_97 R9.1.1 (by decide) rfl ?_
                    rw [show zi y9 324 m = jI (nA T 6 - nA N 6) from x9]
                    refine g_if_ne (tgt := 135) dX10_least_124 (by decide) (fun g2 => ?_) (fun g2 => ?_)
                    · rw [if_neg g2]
                      refine g_iload 0 dX10_least_135 rfl ?_
                      refine g_iload 1 dX10_least_137 rfl ?_
                      refine g_iadd dX10_least_139 ?_
                      rw [nI_add mu 1]
                      refine g_istore (lv2 := [(5, .int (nI (mu + 1))), (4, .int (nI 1)), (0, .ref m), (1, .int (nI a)), (2, .int (nI 0)), (3, .int (nI i))]) dX10_least_140 (by decide) rfl ?_
                      refine g_goto (tgt := 66) dX10_least_142 (by decide) ?_
                      exact zG.sub [0, 1, 2, 3, 4, 5] rfl (ih (mu + 1) (by omega) (by omega) y9 _ R9 as9 F9)
                    · rw [if_pos g2]
                      refine g_aload_n 2 dX10_least_127 rfl rfl ?_
                      refine g_iload 0 dX10_least_128 rfl ?_
                      refine g_i2l dX10_least_130 ?_
                      rw [nI_l (by omega), ← jL_nat]
                      refine g_invv (M' := mX10_gives) (As := [.long (jL ((mu : Nat) : Int))]) (rest := []) dX10_least_131 ml_X10_298 okX10_gives imX10_gives seX10_gives ⟨(Nat.le_of_ble_eq_true rfl), (Nat.le_of_ble_eq_true rfl)⟩ (ci := 10) rfl rfl R9.1.1 rfl rfl (Nat.le_of_ble_eq_true rfl) (c_gives R9.1.1) ?_
                      rintro _ q3 ⟨rfl, eq3⟩
                      subst q3
                      show zG l w mX10_least 134 [(5, .int (nI mu)), (4, .int (nI 1)), (0, .ref m), (1, .int (nI a)), (2, .int (nI 0)), (3, .int (nI i))] [.int (jI ((mu : Nat) : Int))] (zSi y9 321 m (nI 0)) _
                      refine g_ireturn dX10_least_134 rfl ?_
                      exact ⟨rfl, by rw [zi_same]; rfl, ⟨_, R9.s321⟩, F9.tr (FrQ.si (by omega))⟩
          refine g_iload_n 2 dX10_least_50 rfl rfl ?_
          refine g_zif_ne (a := 0) (tgt := 58) (by decide) dX10_least_51 (by decide) (by omega) (fun sq => ?_) (fun sq => ?_)
          · exact absurd sq (by omega)
          · refine g_iconst (v := nI 1) dX10_least_54 (by decide) ?_
            refine g_goto (tgt := 60) dX10_least_55 (by decide) ?_
            refine g_istore (lv2 := [(4, .int (nI 1)), (0, .ref m), (1, .int (nI a)), (2, .int (nI 0)), (3, .int (nI i))]) dX10_least_60 (by decide) rfl ?_
            refine g_iload 0 dX10_least_62 rfl ?_
            refine g_istore (lv2 := [(5, .int (nI 1)), (4, .int (nI 1)), (0, .ref m), (1, .int (nI a)), (2, .int (nI 0)), (3, .int (nI i))]) dX10_least_64 (by decide) rfl ?_
            exact zG.sub [0, 1, 2, 3, 4, 5] rfl (loop 9 1 rfl (by omega) y0 _ r0.u3 as0 fq0)
        · have e0 : qLeast N (a : Int) 1 (i : Int) = lstN N a 1 i 10 6 10 := by unfold qLeast; rw [if_pos ⟨c, c2⟩, if_pos d, if_neg (by decide), Int.toNat_natCast, Int.toNat_natCast]
          unfold PPm
          rw [e0]
          clear e0
          simp only [jI_nat]
          rw [show jI 1 = nI 1 from rfl]
          show zG l w mX10_least 42 [(0, .ref m), (1, .int (nI a)), (2, .int (nI 1)), (3, .int (nI i))] [] h _
          refine g_aload_n 0 dX10_least_42 rfl rfl ?_
          refine g_iconst (v := nI 0) dX10_least_43 (by decide) ?_
          refine g_sipush (v := nI 5804) dX10_least_44 (by decide) ?_
          refine g_invv (M' := mX10_copies) (As := [.int (nI 0), .int (nI 5804)]) (rest := []) dX10_least_47 ml_X10_292 okX10_copies imX10_copies seX10_copies ⟨(Nat.le_of_ble_eq_true rfl), (Nat.le_of_ble_eq_true rfl)⟩ (ci := 10) rfl rfl r.1.1 rfl rfl (Nat.le_of_ble_eq_true rfl) (c_copies r.1 (a := 0) (c := 5804) (by omega) (by omega) (by omega)) ?_
          rintro _ q5 ⟨rfl, eq5⟩
          subst q5
          show zG l w mX10_least 50 [(0, .ref m), (1, .int (nI a)), (2, .int (nI 1)), (3, .int (nI i))] [] (zSG h (m + 1) (cpG (zL h (m + 1)) 0 5804 5804)) _
          obtain ⟨r0, as0, fq0⟩ := asd0 r h0.fit
          generalize zSG h (m + 1) (cpG (zL h (m + 1)) 0 5804 5804) = y0 at r0 as0 fq0 ⊢
          have loop : ∀ s mu : Nat, mu + 10 * s = 70 → 10 ≤ mu → ∀ (y : zH) (vv : Int), MoN y m (uA N 3 vv) → (∀ k, k < 5804 → zL y (m + 1) (5804 + k) = zL h (m + 1) k) → FrQ m h y → zG l w mX10_least 66 [(5, .int (nI mu)), (4, .int (nI 10)), (0, .ref m), (1, .int (nI a)), (2, .int (nI 1)), (3, .int (nI i))] [] y (PPm h m N (lstN N a 1 i 10 s mu)) := by
            intro s
            induction s with
            | zero =>
              intro mu hmu h1 y vv rM asM fM
              refine g_iload 0 dX10_least_66 rfl ?_
              refine g_iload_n 4 dX10_least_68 rfl rfl ?_
              refine g_zif_ne (a := 1) (tgt := 77) (by decide) dX10_least_69 (by decide) (by omega) (fun sq => ?_) (fun sq => ?_)
              · refine g_bipush (v := nI 60) dX10_least_77 (by decide) ?_
                refine g_ncmp_gt (tgt := 145) dX10_least_79 (by decide) (by omega) (by omega) (fun g => ?_) (fun g => ?_)
                · refine g_aload_n 2 dX10_least_145 rfl rfl ?_
                  refine g_bipush (v := nI 6) dX10_least_146 (by decide) ?_
                  refine g_invv (M' := mX10_refuse) (As := [.int (nI 6)]) (rest := []) dX10_least_148 ml_X10_289 okX10_refuse imX10_refuse seX10_refuse ⟨(Nat.le_of_ble_eq_true rfl), (Nat.le_of_ble_eq_true rfl)⟩ (ci := 10) rfl rfl rM.1.1 rfl rfl (Nat.le_of_ble_eq_true rfl) (c_refuse rM.1.1) ?_
                  rintro _ q1 ⟨rfl, eq1⟩
                  subst q1
                  show zG l w mX10_least 151 [(5, .int (nI mu)), (4, .int (nI 10)), (0, .ref m), (1, .int (nI a)), (2, .int (nI 1)), (3, .int (nI i))] [.int (-1)] (zSi y 321 m (nI 6)) _
                  refine g_ireturn dX10_least_151 rfl ?_
                  exact ⟨rfl, by rw [zi_same]; rfl, ⟨_, rM.s321⟩, fM.tr (FrQ.si (by omega))⟩
                · exact absurd g (by omega)
              · exact absurd sq (by omega)
            | succ s ih =>
              intro mu hmu h1 y vv rM asM fM
              refine g_iload 0 dX10_least_66 rfl ?_
              refine g_iload_n 4 dX10_least_68 rfl rfl ?_
              refine g_zif_ne (a := 1) (tgt := 77) (by decide) dX10_least_69 (by decide) (by omega) (fun sq => ?_) (fun sq => ?_)
              · refine g_bipush (v := nI 60) dX10_least_77 (by decide) ?_
                refine g_ncmp_gt (tgt := 145) dX10_least_79 (by decide) (by omega) (by omega) (fun g => ?_) (fun g => ?_)
                · exact absurd g (by omega)
                · refine g_aload_n 2 dX10_least_82 rfl rfl ?_
                  refine g_iload_n 3 dX10_least_83 rfl rfl ?_
                  refine g_iload_n 4 dX10_least_84 rfl rfl ?_
                  refine g_zif_ne (a := 1) (tgt := 92) (by decide) dX10_least_85 (by decide) (by omega) (fun sq => ?_) (fun sq => ?_)
                  · refine g_iconst (v := nI 2) dX10_least_92 (by decide) ?_
                    refine g_invs (M' := mX10_link0) (As := [.int (nI a), .int (nI 2)]) (rest := [.ref m]) dX10_least_93 ml_X10_44 okX10_link0 stX10_link0 ⟨(Nat.le_of_ble_eq_true rfl), (Nat.le_of_ble_eq_true rfl)⟩ rfl rfl (Nat.le_of_ble_eq_true rfl) c_link0 ?_
                    rintro _ q2 ⟨rfl, eq2⟩
                    subst q2
                    show zG l w mX10_least 96 [(5, .int (nI mu)), (4, .int (nI 10)), (0, .ref m), (1, .int (nI a)), (2, .int (nI 1)), (3, .int (nI i))] [.int (nI (8 + 40 * a + 2)), .ref m] y _
                    refine g_iload 0 dX10_least_96 rfl ?_
                    refine g_i2l dX10_least_98 ?_
                    rw [nI_l (by omega), ← jL_nat]
                    refine g_invv (M' := mX10_puts) (As := [.int (nI (8 + 40 * a + 2)), .long (jL ((mu : Nat) : Int))]) (rest := []) dX10_least_99 ml_X10_40 okX10_puts imX10_puts seX10_puts ⟨(Nat.le_of_ble_eq_true rfl), (Nat.le_of_ble_eq_true rfl)⟩ (ci := 10) rfl rfl rM.1.1 rfl rfl (Nat.le_of_ble_eq_true rfl) (c_putsN rM (k := 8 + 40 * a + 2) (z := (mu : Int)) (by omega) (by unfold nSp; omega)) ?_
                    rintro _ y1 ⟨rfl, r1, f1⟩
                    show zG l w mX10_least 102 [(5, .int (nI mu)), (4, .int (nI 10)), (0, .ref m), (1, .int (nI a)), (2, .int (nI 1)), (3, .int (nI i))] [] y1 _
                    have r2 := r1.s4
                    rw [show nA (uA (uA N 3 vv) (8 + 40 * a + 2) (mu : Int)) 6 = nA N 6 by rw [nA_ne (by omega), nA_ne (by omega)], uA_33 (by omega)] at r2
                    have r2 : MoN (zSi y1 324 m (nI 0)) m (lsM N a 1 mu) := r2
                    have as2 : ∀ k, k < 5804 → zL (zSi y1 324 m (nI 0)) (m + 1) (5804 + k) = zL h (m + 1) k := fun k hk => (f1.2.2.2.2.2.2.2.2.2.2 (5804 + k) (by omega)).trans (asM k hk)
                    have fq2 : FrQ m h (zSi y1 324 m (nI 0)) := fM.tr (f1.q.tr (FrQ.si (by omega)))
                    refine g_aload_n 2 dX10_least_102 rfl rfl ?_
                    refine g_iconst (v := nI 0) dX10_least_103 (by decide) ?_
                    refine g_puti (f := 324) dX10_least_104 fl_X10_97 (Or.inl rfl) r1.1.1 rfl ?_
                    generalize zSi y1 324 m (nI 0) = y2 at r2 as2 fq2 ⊢
                    obtain ⟨i1, i2, i7, i3⟩ := h0.ls (k := 1) (mu := mu) d.2 (by omega)
                    refine g_aload_n 2 dX10_least_107 rfl rfl ?_
                    refine g_iload_n 5 dX10_least_108 rfl rfl ?_
                    refine g_invv (M' := mX10_ticks_) (As := [.int (nI i)]) (rest := []) dX10_least_109 ml_X10_349 okX10_ticks_ imX10_ticks_ seX10_ticks_ ⟨(Nat.le_of_ble_eq_true rfl), (Nat.le_of_ble_eq_true rfl)⟩ (ci := 10) rfl rfl r2.1.1 rfl rfl (Nat.le_of_ble_eq_true rfl) (c_ticksI r2 i1 (n := i) (by omega)) ?_
                    rintro _ y3 ⟨rfl, r3, f3⟩
                    show zG l w mX10_least 112 [(5, .int (nI mu)), (4, .int (nI 10)), (0, .ref m), (1, .int (nI a)), (2, .int (nI 1)), (3, .int (nI i))] [] y3 _
                    obtain ⟨t1, t2, t3⟩ := ticks_in i1 i (by omega)
                    have e7 := (t3 7 (by unfold stK; omega)).trans i7
                    have e3 := (t3 3 (by unfold stK; omega)).trans i3
                    have as3 : ∀ k, k < 5804 → zL y3 (m + 1) (5804 + k) = zL h (m + 1) k := fun k hk => (f3.2.2.2.2.2.2.2.2.2.2 (5804 + k) (by omega)).trans (as2 k hk)
                    have eL : lstN N a 1 i 10 (s + 1) mu = if jI (nA (ticksN (lsM N a 1 mu) i) 6 - nA N 6) = 0 then (0, (mu : Int)) else lstN N a 1 i 10 s (mu + 10) := rfl
                    rw [eL]
                    clear eL
                    generalize ticksN (lsM N a 1 mu) i = T at r3 e7 e3 t1 t2 t3 ⊢
                    have x4 : zi y3 324 m = jI (nA T 6 - nA N 6) := by rw [r3.2.2.2, e3, Int.sub_eq_add_neg]
                    refine g_aload_n 2 dX10_least_112 rfl rfl ?_
                    refine g_sipush (v := nI 5804) dX10_least_113 (by decide) ?_
                    refine g_iconst (v := nI 0) dX10_least_116 (by decide) ?_
                    refine g_invv (M' := mX10_copies) (As := [.int (nI 5804), .int (nI 0)]) (rest := []) dX10_least_117 ml_X10_292 okX10_copies imX10_copies seX10_copies ⟨(Nat.le_of_ble_eq_true rfl), (Nat.le_of_ble_eq_true rfl)⟩ (ci := 10) rfl rfl r3.1.1 rfl rfl (Nat.le_of_ble_eq_true rfl) (c_copies r3.1 (a := 5804) (c := 0) (by omega) (by omega) (by omega)) ?_
                    rintro _ q7 ⟨rfl, eq7⟩
                    subst q7
                    show zG l w mX10_least 120 [(5, .int (nI mu)), (4, .int (nI 10)), (0, .ref m), (1, .int (nI a)), (2, .int (nI 1)), (3, .int (nI i))] [] (zSG y3 (m + 1) (cpG (zL y3 (m + 1)) 5804 0 5804)) _
                    have R9 := asd1 as3 r h0.fit r3.1 (by rw [← e7]; exact r3.2.2.1) x4
                    have F9 : FrQ m h (zSG y3 (m + 1) (cpG (zL y3 (m + 1)) 5804 0 5804)) := fq2.tr (f3.q.tr (FrQ.cp (by omega)))
                    have as9 : ∀ k, k < 5804 → zL (zSG y3 (m + 1) (cpG (zL y3 (m + 1)) 5804 0 5804)) (m + 1) (5804 + k) = zL h (m + 1) k := fun k hk => by rw [zL_SG]; unfold cpG; rw [if_neg (by omega)]; exact as3 k hk
                    have x9 : zi (zSG y3 (m + 1) (cpG (zL y3 (m + 1)) 5804 0 5804)) 324 m = jI (nA T 6 - nA N 6) := x4
                    generalize zSG y3 (m + 1) (cpG (zL y3 (m + 1)) 5804 0 5804) = y9 at R9 F9 as9 x9 ⊢
                    refine g_aload_n 2 dX10_least_120 rfl rfl ?_
                    refine g_geti (f := 324) dX10_least_121 fl_X10_97 R9.1.1 (by decide) rfl ?_
                    rw [show zi y9 324 m = jI (nA T 6 - nA N 6) from x9]
                    refine g_if_ne (tgt := 135) dX10_least_124 (by decide) (fun g2 => ?_) (fun g2 => ?_)
                    · rw [if_neg g2]
                      refine g_iload 0 dX10_least_135 rfl ?_
                      refine g_iload 1 dX10_least_137 rfl ?_
                      refine g_iadd dX10_least_139 ?_
                      rw [nI_add mu 10]
                      refine g_istore (lv2 := [(5, .int (nI (mu + 10))), (4, .int (nI 10)), (0, .ref m), (1, .int (nI a)), (2, .int (nI 1)), (3, .int (nI i))]) dX10_least_140 (by decide) rfl ?_
                      refine g_goto (tgt := 66) dX10_least_142 (by decide) ?_
                      exact zG.sub [0, 1, 2, 3, 4, 5] rfl (ih (mu + 10) (by omega) (by omega) y9 _ R9 as9 F9)
                    · rw [if_pos g2]
                      refine g_aload_n 2 dX10_least_127 rfl rfl ?_
                      refine g_iload 0 dX10_least_128 rfl ?_
                      refine g_i2l dX10_least_130 ?_
                      rw [nI_l (by omega), ← jL_nat]
                      refine g_invv (M' := mX10_gives) (As := [.long (jL ((mu : Nat) : Int))]) (rest := []) dX10_least_131 ml_X10_298 okX10_gives imX10_gives seX10_gives ⟨(Nat.le_of_ble_eq_true rfl), (Nat.le_of_ble_eq_true rfl)⟩ (ci := 10) rfl rfl R9.1.1 rfl rfl (Nat.le_of_ble_eq_true rfl) (c_gives R9.1.1) ?_
                      rintro _ q3 ⟨rfl, eq3⟩
                      subst q3
                      show zG l w mX10_least 134 [(5, .int (nI mu)), (4, .int (nI 10)), (0, .ref m), (1, .int (nI a)), (2, .int (nI 1)), (3, .int (nI i))] [.int (jI ((mu : Nat) : Int))] (zSi y9 321 m (nI 0)) _
                      refine g_ireturn dX10_least_134 rfl ?_
                      exact ⟨rfl, by rw [zi_same]; rfl, ⟨_, R9.s321⟩, F9.tr (FrQ.si (by omega))⟩
                  · exact absurd sq (by omega)
              · exact absurd sq (by omega)
          refine g_iload_n 2 dX10_least_50 rfl rfl ?_
          refine g_zif_ne (a := 1) (tgt := 58) (by decide) dX10_least_51 (by decide) (by omega) (fun sq => ?_) (fun sq => ?_)
          · refine g_bipush (v := nI 10) dX10_least_58 (by decide) ?_
            refine g_istore (lv2 := [(4, .int (nI 10)), (0, .ref m), (1, .int (nI a)), (2, .int (nI 1)), (3, .int (nI i))]) dX10_least_60 (by decide) rfl ?_
            refine g_iload 0 dX10_least_62 rfl ?_
            refine g_istore (lv2 := [(5, .int (nI 10)), (4, .int (nI 10)), (0, .ref m), (1, .int (nI a)), (2, .int (nI 1)), (3, .int (nI i))]) dX10_least_64 (by decide) rfl ?_
            exact zG.sub [0, 1, 2, 3, 4, 5] rfl (loop 6 10 rfl (by omega) y0 _ r0.u3 as0 fq0)
          · exact absurd sq (by omega)
      · have d := of_decide_eq_false d
        refine g_aload_n 0 dX10_least_36 rfl rfl ?_
        refine g_iconst (v := nI 2) dX10_least_37 (by decide) ?_
        refine g_invv (M' := mX10_refuse) (As := [.int (nI 2)]) (rest := []) dX10_least_38 ml_X10_289 okX10_refuse imX10_refuse seX10_refuse ⟨(Nat.le_of_ble_eq_true rfl), (Nat.le_of_ble_eq_true rfl)⟩ (ci := 10) rfl rfl r.1.1 rfl rfl (Nat.le_of_ble_eq_true rfl) (c_refuse r.1.1) ?_
        rintro _ q6 ⟨rfl, eq6⟩
        subst q6
        show zG l w mX10_least 41 [(0, .ref m), (1, .int (jI z)), (2, .int (jI k)), (3, .int (jI n))] [.int (-1)] (zSi h 321 m (nI 2)) _
        refine g_ireturn dX10_least_41 rfl ?_
        have e : qLeast N z k n = (2, -1) := by unfold qLeast; rw [if_pos ⟨c, c2⟩, if_neg d]
        exact ⟨by rw [e]; rfl, by rw [e, zi_same]; rfl, ⟨_, r.s321.u3⟩, FrQ.si (by omega)⟩
    · have c2 := of_decide_eq_false c2
      refine g_aload_n 0 dX10_least_22 rfl rfl ?_
      refine g_iconst (v := nI 1) dX10_least_23 (by decide) ?_
      refine g_invv (M' := mX10_refuse) (As := [.int (nI 1)]) (rest := []) dX10_least_24 ml_X10_289 okX10_refuse imX10_refuse seX10_refuse ⟨(Nat.le_of_ble_eq_true rfl), (Nat.le_of_ble_eq_true rfl)⟩ (ci := 10) rfl rfl r.1.1 rfl rfl (Nat.le_of_ble_eq_true rfl) (c_refuse r.1.1) ?_
      rintro _ q4 ⟨rfl, eq4⟩
      subst q4
      show zG l w mX10_least 27 [(0, .ref m), (1, .int (jI z)), (2, .int (jI k)), (3, .int (jI n))] [.int (-1)] (zSi h 321 m (nI 1)) _
      refine g_ireturn dX10_least_27 rfl ?_
      have e : qLeast N z k n = (1, -1) := by unfold qLeast; rw [if_neg (by omega)]
      exact ⟨by rw [e]; rfl, by rw [e, zi_same]; rfl, ⟨_, r.s321.u3⟩, FrQ.si (by omega)⟩
end PE4
