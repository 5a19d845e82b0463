section BSM
variable {l : Launch} {w : zW} {h y : zH} {m : Nat} {N : nT} {S : (Nat → Int) × (Nat → Int)} {a i : Nat} {v : Int}
/-- the model's rows of rates and necks -/
def BsM (h : zH) (m : Nat) (S : (Nat → Int) × (Nat → Int)) : Prop := (∀ f, f < 6 → zL h (m + 4) f = jL (S.1 f)) ∧ ∀ f, f < 6 → zI h (m + 5) f = jI (S.2 f)
theorem bup_ne {f : Nat} (hf : f ≠ i) : (bup N S a v (i + 1)).1 f = (bup N S a v i).1 f ∧ (bup N S a v (i + 1)).2 f = (bup N S a v i).2 f := by
  have e : decide (f < i + 1) = decide (f < i) := by
    by_cases c : f < i
    · rw [decide_eq_true c, decide_eq_true (by omega)]
    · rw [decide_eq_false c, decide_eq_false (by omega)]
  unfold bup
  simp only [e]
  exact ⟨trivial, trivial⟩
theorem bup_no (hs : ¬ stB N S a i = true) (f : Nat) : (bup N S a v (i + 1)).1 f = (bup N S a v i).1 f ∧ (bup N S a v (i + 1)).2 f = (bup N S a v i).2 f := by
  by_cases c : f = i
  · subst c
    rw [(bup_0 (i := f + 1) (v := v) (fun q => hs q.2)).1, (bup_0 (i := f + 1) (v := v) (fun q => hs q.2)).2, (bup_0 (i := f) (v := v) (fun q => hs q.2)).1, (bup_0 (i := f) (v := v) (fun q => hs q.2)).2]
    exact ⟨rfl, rfl⟩
  · exact bup_ne c
theorem bup_zero (f : Nat) : (bup N S a v 0).1 f = S.1 f ∧ (bup N S a v 0).2 f = S.2 f := bup_0 (fun q => absurd q.1 (by omega))
theorem bup_all {n f : Nat} (hn : nA N 1 ≤ (n : Int)) (hf : f < 6) : (bup N S a v n).1 f = (bup N S a v 6).1 f ∧ (bup N S a v n).2 f = (bup N S a v 6).2 f := by
  by_cases c : stB N S a f = true
  · have g := (st_gr c).1
    have q : f < n := by
      by_cases d : f < n
      · exact d
      · rw [grB_out (by omega)] at g; cases g
    rw [(bup_1 c q).1, (bup_1 c q).2, (bup_1 c hf).1, (bup_1 c hf).2]
    exact ⟨rfl, rfl⟩
  · rw [(bup_0 (fun q => c q.2)).1, (bup_0 (fun q => c q.2)).2, (bup_0 (fun q => c q.2)).1, (bup_0 (fun q => c q.2)).2]
    exact ⟨rfl, rfl⟩
theorem MoN.sb {i : Nat} {u : Int64} {q : Int32} (r : MoN h m N) : MoN (zSL (zSI h (m + 5) i q) (m + 4) i u) m N := by
  refine ⟨r.1, ?_, r.2.2.1, r.2.2.2⟩
  have e : zL (zSL (zSI h (m + 5) i q) (m + 4) i u) (m + 1) = zL h (m + 1) := by
    funext j
    rw [zL_SL, if_neg (by omega)]
    rfl
  rw [e]
  exact r.2.1
theorem MoN.sb2 {i : Nat} {u : Int64} {q : Int32} (r : MoN h m N) : MoN (zSI (zSL h (m + 4) i u) (m + 5) i q) m N := by
  refine ⟨r.1, ?_, r.2.2.1, r.2.2.2⟩
  have e : zL (zSI (zSL h (m + 4) i u) (m + 5) i q) (m + 1) = zL h (m + 1) := by
    funext j
    rw [zL_SI, zL_SL, if_neg (by omega)]
  rw [e]
  exact r.2.1
theorem FrQ.sI5 {i : Nat} {q : Int32} : FrQ m h (zSI h (m + 5) i q) := ⟨⟨rfl, rfl⟩, fun _ => ⟨rfl, rfl⟩, fun _ _ => ⟨rfl, rfl⟩, fun _ _ => rfl, fun _ _ _ => rfl, fun b j e => by rw [zI_SI, if_neg (fun z => e z.1)], fun _ _ _ _ => rfl, fun _ _ => rfl⟩
theorem FrQ.sL4 {i : Nat} {u : Int64} : FrQ m h (zSL h (m + 4) i u) := ⟨⟨rfl, rfl⟩, fun _ => ⟨rfl, rfl⟩, fun _ _ => ⟨rfl, rfl⟩, fun _ _ => rfl, fun _ _ _ => rfl, fun _ _ _ => rfl, fun b j _ e => by rw [zL_SL, if_neg (fun z => e z.1)], fun j _ => by rw [zL_SL, if_neg (by omega)]⟩
theorem c_growing (r : MoN h m N) (hI : iN [] N) (B : BsM h m S) (hS : ∀ f, -1 ≤ S.2 f ∧ S.2 f < 6) (a6 : a < 6) : zM l w mX10_growing [.ref m, .int (nI a)] h (fun u h1 => u = some (.int (nI (gwN N S a 6))) ∧ h1 = h) := by
  refine zM.of (by decide) (Nat.le_of_ble_eq_true rfl) ?_
  have H1 := hI.H.2.1
  have hB := hI.B
  have loop : ∀ n i : Nat, ((i + n : Nat) : Int) = nA N 1 → zG l w mX10_growing 4 [(3, .int (nI i)), (2, .int (nI (gwN N S a i))), (0, .ref m), (1, .int (nI a))] [] h (fun u h1 => u = some (.int (nI (gwN N S a 6))) ∧ h1 = h) := by
    intro n
    induction n with
    | zero =>
      intro i hi
      refine g_iload_n 0 dX10_growing_4 rfl rfl ?_
      refine g_i2l dX10_growing_5 ?_
      rw [nI_l (by omega), ← jL_nat]
      refine g_aload_n 2 dX10_growing_6 rfl rfl ?_
      refine g_iconst (v := nI 1) dX10_growing_7 (by decide) ?_
      refine g_invv (M' := mX10_of) (As := [.int (nI 1)]) (rest := [.long (jL ((i : Nat) : Int))]) dX10_growing_8 ml_X10_48 okX10_of imX10_of seX10_of ⟨(Nat.le_of_ble_eq_true rfl), (Nat.le_of_ble_eq_true rfl)⟩ (ci := 10) rfl rfl r.1.1 rfl rfl (Nat.le_of_ble_eq_true rfl) (c_ofN r (by omega) (by unfold nSp; omega)) ?_
      rintro _ q1 ⟨rfl, eq1⟩
      subst q1
      show zG l w mX10_growing 11 [(3, .int (nI i)), (2, .int (nI (gwN N S a i))), (0, .ref m), (1, .int (nI a))] [.long (jL (nA N 1)), .long (jL ((i : Nat) : Int))] h _
      refine g_lif_ge (a := ((i : Nat) : Int)) (b := (nA N 1)) (tgt := 56) dX10_growing_11 rfl dX10_growing_12 (by decide) (by omega) (by omega) (fun c => ?_) (fun c => ?_)
      · refine g_iload_n 1 dX10_growing_56 rfl rfl ?_
        refine g_ireturn dX10_growing_57 rfl ?_
        have e := gw_end (N := N) (S := S) (a := a) (n := i) (k := 6 - i) (by omega)
        rw [show i + (6 - i) = 6 by omega] at e
        exact ⟨by rw [e], rfl⟩
      · exact absurd c (by omega)
    | succ n ih =>
      intro i hi
      refine g_iload_n 0 dX10_growing_4 rfl rfl ?_
      refine g_i2l dX10_growing_5 ?_
      rw [nI_l (by omega), ← jL_nat]
      refine g_aload_n 2 dX10_growing_6 rfl rfl ?_
      refine g_iconst (v := nI 1) dX10_growing_7 (by decide) ?_
      refine g_invv (M' := mX10_of) (As := [.int (nI 1)]) (rest := [.long (jL ((i : Nat) : Int))]) dX10_growing_8 ml_X10_48 okX10_of imX10_of seX10_of ⟨(Nat.le_of_ble_eq_true rfl), (Nat.le_of_ble_eq_true rfl)⟩ (ci := 10) rfl rfl r.1.1 rfl rfl (Nat.le_of_ble_eq_true rfl) (c_ofN r (by omega) (by unfold nSp; omega)) ?_
      rintro _ q2 ⟨rfl, eq2⟩
      subst q2
      show zG l w mX10_growing 11 [(3, .int (nI i)), (2, .int (nI (gwN N S a i))), (0, .ref m), (1, .int (nI a))] [.long (jL (nA N 1)), .long (jL ((i : Nat) : Int))] h _
      refine g_lif_ge (a := ((i : Nat) : Int)) (b := (nA N 1)) (tgt := 56) dX10_growing_11 rfl dX10_growing_12 (by decide) (by omega) (by omega) (fun c => ?_) (fun c => ?_)
      · exact absurd c (by omega)
      · have i6 : i < 6 := by omega
        have hf : (i : Int) < nA N 1 := by omega
        have nb := hS i
        refine g_iload_n 1 dX10_growing_15 rfl rfl ?_
        refine g_aload_n 2 dX10_growing_16 rfl rfl ?_
        refine g_iload_n 0 dX10_growing_17 rfl rfl ?_
        refine g_invv (M' := mX10_isOn) (As := [.int (nI i)]) (rest := [.int (nI (gwN N S a i))]) dX10_growing_18 ml_X10_181 okX10_isOn imX10_isOn seX10_isOn ⟨(Nat.le_of_ble_eq_true rfl), (Nat.le_of_ble_eq_true rfl)⟩ (ci := 10) rfl rfl r.1.1 rfl rfl (Nat.le_of_ble_eq_true rfl) (c_isOn r hB i6) ?_
        rintro _ q3 ⟨rfl, eq3⟩
        subst q3
        show zG l w mX10_growing 21 [(3, .int (nI i)), (2, .int (nI (gwN N S a i))), (0, .ref m), (1, .int (nI a))] [.int (bI (decide (nA N (248 + 20 * i + 3) = 1))), .int (nI (gwN N S a i))] h _
        refine g_bif_eq (tgt := 47) dX10_growing_21 (by decide) (fun d1 => ?_) (fun d1 => ?_)
        · refine g_iconst (v := nI 0) dX10_growing_47 (by decide) ?_
          refine g_iadd dX10_growing_48 ?_
          rw [nI_add (gwN N S a i) 0]
          refine g_istore_n (lv2 := [(2, .int (nI (gwN N S a i + 0))), (3, .int (nI i)), (0, .ref m), (1, .int (nI a))]) dX10_growing_49 rfl (by decide) rfl ?_
          refine g_inc (v := nI (i + 1)) (lv2 := [(3, .int (nI (i + 1))), (2, .int (nI (gwN N S a i + 0))), (0, .ref m), (1, .int (nI a))]) 1 dX10_growing_50 rfl (nI_add _ 1) (by decide) rfl ?_
          refine g_goto (tgt := 4) dX10_growing_53 (by decide) ?_
          have e : gwN N S a (i + 1) = gwN N S a i + 0 := by rw [gwN, grB_in hf, d1, Bool.false_and, Bool.and_false, if_neg (by decide)]
          exact zG.sub [0, 1, 2, 3] (by rw [e]; rfl) (ih (i + 1) (by omega))
        · refine g_aload_n 2 dX10_growing_24 rfl rfl ?_
          refine g_getr (f := 337) (b := m + 5) dX10_growing_25 fl_X10_30 r.1.1 rfl r.1.2.2.2.2.2.1 ?_
          refine g_iload_n 0 dX10_growing_28 rfl rfl ?_
          refine g_iald dX10_growing_29 r.1.2.2.2.2.2.2.1 (by rw [show zn h (m + 5) = 6 from r.1.2.2.2.2.2.2.2]; exact vp_in_nI (by omega) (by omega)) ?_
          rw [nI_clamp (by omega)]
          rw [show zI h (m + 5) i = jI (S.2 i) from B.2 i (by omega)]
          refine g_iconst (v := (-1)) dX10_growing_30 (by decide) ?_
          refine g_zcmp_ne (a := (S.2 i)) (b := (-1)) (tgt := 47) rfl (by decide) dX10_growing_31 (by decide) (by omega) (by omega) (fun d2 => ?_) (fun d2 => ?_)
          · refine g_iconst (v := nI 0) dX10_growing_47 (by decide) ?_
            refine g_iadd dX10_growing_48 ?_
            rw [nI_add (gwN N S a i) 0]
            refine g_istore_n (lv2 := [(2, .int (nI (gwN N S a i + 0))), (3, .int (nI i)), (0, .ref m), (1, .int (nI a))]) dX10_growing_49 rfl (by decide) rfl ?_
            refine g_inc (v := nI (i + 1)) (lv2 := [(3, .int (nI (i + 1))), (2, .int (nI (gwN N S a i + 0))), (0, .ref m), (1, .int (nI a))]) 1 dX10_growing_50 rfl (nI_add _ 1) (by decide) rfl ?_
            refine g_goto (tgt := 4) dX10_growing_53 (by decide) ?_
            have e : gwN N S a (i + 1) = gwN N S a i + 0 := by rw [gwN, grB_in hf, decide_eq_false (p := S.2 i = -1) d2, Bool.and_false, Bool.and_false, if_neg (by decide)]
            exact zG.sub [0, 1, 2, 3] (by rw [e]; rfl) (ih (i + 1) (by omega))
          · refine g_aload_n 2 dX10_growing_34 rfl rfl ?_
            refine g_iload_n 0 dX10_growing_35 rfl rfl ?_
            refine g_iload_n 3 dX10_growing_36 rfl rfl ?_
            refine g_invv (M' := mX10_isInPath) (As := [.int (nI i), .int (nI a)]) (rest := [.int (nI (gwN N S a i))]) dX10_growing_37 ml_X10_269 okX10_isInPath imX10_isInPath seX10_isInPath ⟨(Nat.le_of_ble_eq_true rfl), (Nat.le_of_ble_eq_true rfl)⟩ (ci := 10) rfl rfl r.1.1 rfl rfl (Nat.le_of_ble_eq_true rfl) (c_isInPath r hI hf a6) ?_
            rintro _ q4 ⟨rfl, eq4⟩
            subst q4
            show zG l w mX10_growing 40 [(3, .int (nI i)), (2, .int (nI (gwN N S a i))), (0, .ref m), (1, .int (nI a))] [.int (bI (inB N i (a : Int))), .int (nI (gwN N S a i))] h _
            refine g_bif_eq (tgt := 47) dX10_growing_40 (by decide) (fun d3 => ?_) (fun d3 => ?_)
            · refine g_iconst (v := nI 0) dX10_growing_47 (by decide) ?_
              refine g_iadd dX10_growing_48 ?_
              rw [nI_add (gwN N S a i) 0]
              refine g_istore_n (lv2 := [(2, .int (nI (gwN N S a i + 0))), (3, .int (nI i)), (0, .ref m), (1, .int (nI a))]) dX10_growing_49 rfl (by decide) rfl ?_
              refine g_inc (v := nI (i + 1)) (lv2 := [(3, .int (nI (i + 1))), (2, .int (nI (gwN N S a i + 0))), (0, .ref m), (1, .int (nI a))]) 1 dX10_growing_50 rfl (nI_add _ 1) (by decide) rfl ?_
              refine g_goto (tgt := 4) dX10_growing_53 (by decide) ?_
              have e : gwN N S a (i + 1) = gwN N S a i + 0 := by rw [gwN, crN_in hf, d3, Bool.false_and, if_neg (by decide)]
              exact zG.sub [0, 1, 2, 3] (by rw [e]; rfl) (ih (i + 1) (by omega))
            · refine g_iconst (v := nI 1) dX10_growing_43 (by decide) ?_
              refine g_goto (tgt := 48) dX10_growing_44 (by decide) ?_
              refine g_iadd dX10_growing_48 ?_
              rw [nI_add (gwN N S a i) 1]
              refine g_istore_n (lv2 := [(2, .int (nI (gwN N S a i + 1))), (3, .int (nI i)), (0, .ref m), (1, .int (nI a))]) dX10_growing_49 rfl (by decide) rfl ?_
              refine g_inc (v := nI (i + 1)) (lv2 := [(3, .int (nI (i + 1))), (2, .int (nI (gwN N S a i + 1))), (0, .ref m), (1, .int (nI a))]) 1 dX10_growing_50 rfl (nI_add _ 1) (by decide) rfl ?_
              refine g_goto (tgt := 4) dX10_growing_53 (by decide) ?_
              have e : gwN N S a (i + 1) = gwN N S a i + 1 := by rw [gwN, crN_in hf, d3, grB_in hf, d1, decide_eq_true (p := S.2 i = -1) (by omega), if_pos (by rfl)]
              exact zG.sub [0, 1, 2, 3] (by rw [e]; rfl) (ih (i + 1) (by omega))
  refine g_iconst (v := nI 0) dX10_growing_0 (by decide) ?_
  refine g_istore_n (lv2 := [(2, .int (nI 0)), (0, .ref m), (1, .int (nI a))]) dX10_growing_1 rfl (by decide) rfl ?_
  refine g_iconst (v := nI 0) dX10_growing_2 (by decide) ?_
  refine g_istore_n (lv2 := [(3, .int (nI 0)), (2, .int (nI 0)), (0, .ref m), (1, .int (nI a))]) dX10_growing_3 rfl (by decide) rfl ?_
  exact zG.sub [0, 1, 2, 3] rfl (loop (nA N 1).toNat 0 (by omega))
theorem c_rest (r : MoN h m N) (hI : iN [] N) (B : BsM h m S) (a6 : a < 6) : zM l w mX10_rest [.ref m, .int (nI a)] h (fun u h1 => u = some (.long (jL (rsN N S a 6))) ∧ h1 = h) := by
  refine zM.of (by decide) (Nat.le_of_ble_eq_true rfl) ?_
  have H1 := hI.H.2.1
  have hB := hI.B
  have loop : ∀ n i : Nat, ((i + n : Nat) : Int) = nA N 1 → zG l w mX10_rest 14 [(4, .int (nI i)), (2, .long (jL (rsN N S a i))), (0, .ref m), (1, .int (nI a))] [] h (fun u h1 => u = some (.long (jL (rsN N S a 6))) ∧ h1 = h) := by
    intro n
    induction n with
    | zero =>
      intro i hi
      refine g_iload 0 dX10_rest_14 rfl ?_
      refine g_i2l dX10_rest_16 ?_
      rw [nI_l (by omega), ← jL_nat]
      refine g_aload_n 2 dX10_rest_17 rfl rfl ?_
      refine g_iconst (v := nI 1) dX10_rest_18 (by decide) ?_
      refine g_invv (M' := mX10_of) (As := [.int (nI 1)]) (rest := [.long (jL ((i : Nat) : Int))]) dX10_rest_19 ml_X10_48 okX10_of imX10_of seX10_of ⟨(Nat.le_of_ble_eq_true rfl), (Nat.le_of_ble_eq_true rfl)⟩ (ci := 10) rfl rfl r.1.1 rfl rfl (Nat.le_of_ble_eq_true rfl) (c_ofN r (by omega) (by unfold nSp; omega)) ?_
      rintro _ q1 ⟨rfl, eq1⟩
      subst q1
      show zG l w mX10_rest 22 [(4, .int (nI i)), (2, .long (jL (rsN N S a i))), (0, .ref m), (1, .int (nI a))] [.long (jL (nA N 1)), .long (jL ((i : Nat) : Int))] h _
      refine g_lif_ge (a := ((i : Nat) : Int)) (b := (nA N 1)) (tgt := 56) dX10_rest_22 rfl dX10_rest_23 (by decide) (by omega) (by omega) (fun c => ?_) (fun c => ?_)
      · refine g_lload_n 1 dX10_rest_56 rfl rfl ?_
        refine g_lreturn dX10_rest_57 rfl ?_
        have e := rs_end (N := N) (S := S) (a := a) (n := i) (k := 6 - i) (by omega)
        rw [show i + (6 - i) = 6 by omega] at e
        exact ⟨by rw [e], rfl⟩
      · exact absurd c (by omega)
    | succ n ih =>
      intro i hi
      refine g_iload 0 dX10_rest_14 rfl ?_
      refine g_i2l dX10_rest_16 ?_
      rw [nI_l (by omega), ← jL_nat]
      refine g_aload_n 2 dX10_rest_17 rfl rfl ?_
      refine g_iconst (v := nI 1) dX10_rest_18 (by decide) ?_
      refine g_invv (M' := mX10_of) (As := [.int (nI 1)]) (rest := [.long (jL ((i : Nat) : Int))]) dX10_rest_19 ml_X10_48 okX10_of imX10_of seX10_of ⟨(Nat.le_of_ble_eq_true rfl), (Nat.le_of_ble_eq_true rfl)⟩ (ci := 10) rfl rfl r.1.1 rfl rfl (Nat.le_of_ble_eq_true rfl) (c_ofN r (by omega) (by unfold nSp; omega)) ?_
      rintro _ q2 ⟨rfl, eq2⟩
      subst q2
      show zG l w mX10_rest 22 [(4, .int (nI i)), (2, .long (jL (rsN N S a i))), (0, .ref m), (1, .int (nI a))] [.long (jL (nA N 1)), .long (jL ((i : Nat) : Int))] h _
      refine g_lif_ge (a := ((i : Nat) : Int)) (b := (nA N 1)) (tgt := 56) dX10_rest_22 rfl dX10_rest_23 (by decide) (by omega) (by omega) (fun c => ?_) (fun c => ?_)
      · exact absurd c (by omega)
      · have i6 : i < 6 := by omega
        have hf : (i : Int) < nA N 1 := by omega
        refine g_lload_n 1 dX10_rest_26 rfl rfl ?_
        refine g_aload_n 2 dX10_rest_27 rfl rfl ?_
        refine g_iload 0 dX10_rest_28 rfl ?_
        refine g_iload_n 3 dX10_rest_30 rfl rfl ?_
        refine g_invv (M' := mX10_isInPath) (As := [.int (nI i), .int (nI a)]) (rest := [.long (jL (rsN N S a i))]) dX10_rest_31 ml_X10_269 okX10_isInPath imX10_isInPath seX10_isInPath ⟨(Nat.le_of_ble_eq_true rfl), (Nat.le_of_ble_eq_true rfl)⟩ (ci := 10) rfl rfl r.1.1 rfl rfl (Nat.le_of_ble_eq_true rfl) (c_isInPath r hI hf a6) ?_
        rintro _ q3 ⟨rfl, eq3⟩
        subst q3
        show zG l w mX10_rest 34 [(4, .int (nI i)), (2, .long (jL (rsN N S a i))), (0, .ref m), (1, .int (nI a))] [.int (bI (inB N i (a : Int))), .long (jL (rsN N S a i))] h _
        refine g_bif_eq (tgt := 47) dX10_rest_34 (by decide) (fun d3 => ?_) (fun d3 => ?_)
        · refine g_lconst (v := jL 0) dX10_rest_47 (by decide) ?_
          refine g_lsub dX10_rest_48 ?_
          rw [jL_sub]
          refine g_lstore_n (lv2 := [(2, .long (jL ((rsN N S a i) - 0))), (4, .int (nI i)), (0, .ref m), (1, .int (nI a))]) dX10_rest_49 rfl (by decide) rfl ?_
          refine g_inc (v := nI (i + 1)) (lv2 := [(4, .int (nI (i + 1))), (2, .long (jL ((rsN N S a i) - 0))), (0, .ref m), (1, .int (nI a))]) 1 dX10_rest_50 rfl (nI_add _ 1) (by decide) rfl ?_
          refine g_goto (tgt := 14) dX10_rest_53 (by decide) ?_
          have e : rsN N S a (i + 1) = rsN N S a i - 0 := by rw [rsN, crN_in hf, d3, if_neg (by decide)]
          exact zG.sub [0, 1, 2, 3] (by rw [e]; rfl) (ih (i + 1) (by omega))
        · refine g_aload_n 2 dX10_rest_37 rfl rfl ?_
          refine g_getr (f := 336) (b := m + 4) dX10_rest_38 fl_X10_27 r.1.1 rfl r.1.2.2.2.2.1.1 ?_
          refine g_iload 0 dX10_rest_41 rfl ?_
          refine g_lald dX10_rest_43 r.1.2.2.2.2.1.2.1 (by rw [show zn h (m + 4) = 6 from r.1.2.2.2.2.1.2.2]; exact vp_in_nI (by omega) (by omega)) ?_
          rw [nI_clamp (by omega)]
          rw [show zL h (m + 4) i = jL (S.1 i) from B.1 i (by omega)]
          refine g_goto (tgt := 48) dX10_rest_44 (by decide) ?_
          refine g_lsub dX10_rest_48 ?_
          rw [jL_sub]
          refine g_lstore_n (lv2 := [(2, .long (jL ((rsN N S a i) - (S.1 i)))), (4, .int (nI i)), (0, .ref m), (1, .int (nI a))]) dX10_rest_49 rfl (by decide) rfl ?_
          refine g_inc (v := nI (i + 1)) (lv2 := [(4, .int (nI (i + 1))), (2, .long (jL ((rsN N S a i) - (S.1 i)))), (0, .ref m), (1, .int (nI a))]) 1 dX10_rest_50 rfl (nI_add _ 1) (by decide) rfl ?_
          refine g_goto (tgt := 14) dX10_rest_53 (by decide) ?_
          have e : rsN N S a (i + 1) = rsN N S a i - S.1 i := by rw [rsN, crN_in hf, d3, if_pos rfl]
          exact zG.sub [0, 1, 2, 3] (by rw [e]; rfl) (ih (i + 1) (by omega))
  refine g_ldc2J (z := 1000) dX10_rest_0 kl_X10_144 (by decide) ?_
  refine g_aload_n 0 dX10_rest_3 rfl rfl ?_
  refine g_iload_n 1 dX10_rest_4 rfl rfl ?_
  refine g_iconst (v := nI 0) dX10_rest_5 (by decide) ?_
  refine g_invv (M' := mX10_ofLink) (As := [.int (nI a), .int (nI 0)]) (rest := [.long (jL 1000)]) dX10_rest_6 ml_X10_69 okX10_ofLink imX10_ofLink seX10_ofLink ⟨(Nat.le_of_ble_eq_true rfl), (Nat.le_of_ble_eq_true rfl)⟩ (ci := 10) rfl rfl r.1.1 rfl rfl (Nat.le_of_ble_eq_true rfl) (c_ofLinkN r (by omega) (by unfold nSp; omega)) ?_
  rintro _ q1 ⟨rfl, eq1⟩
  subst q1
  show zG l w mX10_rest 9 [(0, .ref m), (1, .int (nI a))] [.long (jL (nA N (8 + 40 * a + 0))), .long (jL 1000)] h _
  refine g_lmul dX10_rest_9 ?_
  rw [jL_mul]
  refine g_lstore_n (lv2 := [(2, .long (jL (1000 * (nA N (8 + 40 * a + 0))))), (0, .ref m), (1, .int (nI a))]) dX10_rest_10 rfl (by decide) rfl ?_
  refine g_iconst (v := nI 0) dX10_rest_11 (by decide) ?_
  refine g_istore (lv2 := [(4, .int (nI 0)), (2, .long (jL (1000 * (nA N (8 + 40 * a + 0))))), (0, .ref m), (1, .int (nI a))]) dX10_rest_12 (by decide) rfl ?_
  exact zG.sub [0, 1, 2, 3] rfl (loop (nA N 1).toNat 0 (by omega))
theorem btN_bd : ∀ k : Nat, -1 ≤ btN N S k ∧ btN N S k < (k : Int) + 1 := by
  intro k
  rcases bs_in (N := N) (S := S) k with q | q <;> omega
theorem c_laysBest (r : MoN h m N) (hI : iN [] N) : zM l w mX10_laysBest [.ref m] h (fun u h1 => u = none ∧ MoN h1 m N ∧ BsM h1 m (bstN N) ∧ FrQ m h h1) := by
  refine zM.of (by decide) (Nat.le_of_ble_eq_true rfl) ?_
  have H0 := hI.H.1
  have H1 := hI.H.2.1
  have hB := hI.B
  have big : ∀ q : Nat, ∀ (y : zH) (S : (Nat → Int) × (Nat → Int)) (z : Int), cnN N S 6 ≤ q → bsI N S → MoN y m N → BsM y m S → FrQ m h y → ¬ z = -1 → -1 ≤ z ∧ z < 6 → zG l w mX10_laysBest 30 [(1, .int (jI z)), (0, .ref m)] [] y (fun u h1 => u = none ∧ MoN h1 m N ∧ BsM h1 m (bstK N S q) ∧ FrQ m h h1) := by
    intro q
    induction q with
    | zero =>
      intro y S z hq hS rM B fM hz zb
      refine g_iload_n 0 dX10_laysBest_30 rfl rfl ?_
      refine g_iconst (v := (-1)) dX10_laysBest_31 (by decide) ?_
      refine g_zcmp_eq (a := z) (b := (-1)) (tgt := 191) rfl (by decide) dX10_laysBest_32 (by decide) (by omega) (by omega) (fun g0 => ?_) (fun g0 => ?_)
      · exact absurd g0 hz
      · have after : ∀ i : Nat, zG l w mX10_laysBest 99 [(2, .int (nI i)), (1, .int (jI (bzN N S))), (0, .ref m)] [] y (fun u h1 => u = none ∧ MoN h1 m N ∧ BsM h1 m (bstK N S (0)) ∧ FrQ m h h1) := by
          intro i
          have zi := btN_bd (N := N) (S := S) (nA N 0).toNat
          have zi : -1 ≤ bzN N S ∧ bzN N S < ((nA N 0).toNat : Int) + 1 := zi
          refine g_iload_n 1 dX10_laysBest_99 rfl rfl ?_
          refine g_iconst (v := (-1)) dX10_laysBest_100 (by decide) ?_
          refine g_zcmp_ne (a := (bzN N S)) (b := (-1)) (tgt := 105) rfl (by decide) dX10_laysBest_101 (by decide) (by omega) (by omega) (fun g1 => ?_) (fun g1 => ?_)
          · exact absurd (bz_cn hI (by omega)) g1
          · refine g_return dX10_laysBest_104 rfl ?_
            exact ⟨rfl, rM, by rw [bstK_fix g1]; exact B, fM⟩
        have pick1 : ∀ k i : Nat, ((i + k : Nat) : Int) = nA N 0 → zG l w mX10_laysBest 39 [(2, .int (nI i)), (1, .int (jI (btN N S i))), (0, .ref m)] [] y (fun u h1 => u = none ∧ MoN h1 m N ∧ BsM h1 m (bstK N S (0)) ∧ FrQ m h h1) := by
          intro k
          induction k with
          | zero =>
            intro i hi
            refine g_iload_n 0 dX10_laysBest_39 rfl rfl ?_
            refine g_i2l dX10_laysBest_40 ?_
            rw [nI_l (by omega), ← jL_nat]
            refine g_aload_n 2 dX10_laysBest_41 rfl rfl ?_
            refine g_iconst (v := nI 0) dX10_laysBest_42 (by decide) ?_
            refine g_invv (M' := mX10_of) (As := [.int (nI 0)]) (rest := [.long (jL ((i : Nat) : Int))]) dX10_laysBest_43 ml_X10_48 okX10_of imX10_of seX10_of ⟨(Nat.le_of_ble_eq_true rfl), (Nat.le_of_ble_eq_true rfl)⟩ (ci := 10) rfl rfl rM.1.1 rfl rfl (Nat.le_of_ble_eq_true rfl) (c_ofN rM (by omega) (by unfold nSp; omega)) ?_
            rintro _ q1 ⟨rfl, eq1⟩
            subst q1
            show zG l w mX10_laysBest 46 [(2, .int (nI i)), (1, .int (jI (btN N S i))), (0, .ref m)] [.long (jL (nA N 0)), .long (jL ((i : Nat) : Int))] y _
            refine g_lif_ge (a := ((i : Nat) : Int)) (b := (nA N 0)) (tgt := 99) dX10_laysBest_46 rfl dX10_laysBest_47 (by decide) (by omega) (by omega) (fun c => ?_) (fun c => ?_)
            · have af := after i
              unfold bzN at af
              rw [show (nA N 0).toNat = i by omega] at af
              exact zG.sub [0, 1, 2] rfl af
            · exact absurd c (by omega)
          | succ k ihk =>
            intro i hi
            refine g_iload_n 0 dX10_laysBest_39 rfl rfl ?_
            refine g_i2l dX10_laysBest_40 ?_
            rw [nI_l (by omega), ← jL_nat]
            refine g_aload_n 2 dX10_laysBest_41 rfl rfl ?_
            refine g_iconst (v := nI 0) dX10_laysBest_42 (by decide) ?_
            refine g_invv (M' := mX10_of) (As := [.int (nI 0)]) (rest := [.long (jL ((i : Nat) : Int))]) dX10_laysBest_43 ml_X10_48 okX10_of imX10_of seX10_of ⟨(Nat.le_of_ble_eq_true rfl), (Nat.le_of_ble_eq_true rfl)⟩ (ci := 10) rfl rfl rM.1.1 rfl rfl (Nat.le_of_ble_eq_true rfl) (c_ofN rM (by omega) (by unfold nSp; omega)) ?_
            rintro _ q2 ⟨rfl, eq2⟩
            subst q2
            show zG l w mX10_laysBest 46 [(2, .int (nI i)), (1, .int (jI (btN N S i))), (0, .ref m)] [.long (jL (nA N 0)), .long (jL ((i : Nat) : Int))] y _
            refine g_lif_ge (a := ((i : Nat) : Int)) (b := (nA N 0)) (tgt := 99) dX10_laysBest_46 rfl dX10_laysBest_47 (by decide) (by omega) (by omega) (fun c => ?_) (fun c => ?_)
            · exact absurd c (by omega)
            · have i6 : i < 6 := by omega
              have gl := gw_le (N := N) (S := S) (a := i) 6
              have bi := btN_bd (N := N) (S := S) i
              refine g_aload_n 2 dX10_laysBest_50 rfl rfl ?_
              refine g_iload_n 0 dX10_laysBest_51 rfl rfl ?_
              refine g_invv (M' := mX10_growing) (As := [.int (nI i)]) (rest := []) dX10_laysBest_52 ml_X10_351 okX10_growing imX10_growing seX10_growing ⟨(Nat.le_of_ble_eq_true rfl), (Nat.le_of_ble_eq_true rfl)⟩ (ci := 10) rfl rfl rM.1.1 rfl rfl (Nat.le_of_ble_eq_true rfl) (c_growing rM hI B hS.2.2.2 i6) ?_
              rintro _ q3 ⟨rfl, eq3⟩
              subst q3
              show zG l w mX10_laysBest 55 [(2, .int (nI i)), (1, .int (jI (btN N S i))), (0, .ref m)] [.int (nI (gwN N S i 6))] y _
              refine g_zif_le (a := ((gwN N S i 6 : Nat) : Int)) (tgt := 93) (jI_nat (gwN N S i 6)).symm dX10_laysBest_55 (by decide) (by omega) (fun g2 => ?_) (fun g2 => ?_)
              · refine g_inc (v := nI (i + 1)) (lv2 := [(2, .int (nI (i + 1))), (1, .int (jI (btN N S i))), (0, .ref m)]) 0 dX10_laysBest_93 rfl (nI_add _ 1) (by decide) rfl ?_
                refine g_goto (tgt := 39) dX10_laysBest_96 (by decide) ?_
                have e : btN N S (i + 1) = btN N S i := by rw [btN]; exact if_neg (fun q => absurd q.1 (by omega))
                refine zG.sub [0, 1, 2] ?_ (ihk (i + 1) (by omega))
                rw [e]; rfl
              · refine g_iload_n 1 dX10_laysBest_58 rfl rfl ?_
                refine g_iconst (v := (-1)) dX10_laysBest_59 (by decide) ?_
                refine g_zcmp_eq (a := (btN N S i)) (b := (-1)) (tgt := 91) rfl (by decide) dX10_laysBest_60 (by decide) (by omega) (by omega) (fun g3 => ?_) (fun g3 => ?_)
                · refine g_iload_n 0 dX10_laysBest_91 rfl rfl ?_
                  refine g_istore_n (lv2 := [(1, .int (nI i)), (2, .int (nI i)), (0, .ref m)]) dX10_laysBest_92 rfl (by decide) rfl ?_
                  refine g_inc (v := nI (i + 1)) (lv2 := [(2, .int (nI (i + 1))), (1, .int (nI i)), (0, .ref m)]) 1 dX10_laysBest_93 rfl (nI_add _ 1) (by decide) rfl ?_
                  refine g_goto (tgt := 39) dX10_laysBest_96 (by decide) ?_
                  have e : btN N S (i + 1) = (i : Int) := by rw [btN]; exact if_pos ⟨by omega, Or.inl g3⟩
                  refine zG.sub [0, 1, 2] ?_ (ihk (i + 1) (by omega))
                  rw [e, jI_nat]; rfl
                · have bin := (bs_in (N := N) (S := S) i).resolve_left g3
                  obtain ⟨z2, ez2⟩ : ∃ z2 : Nat, btN N S i = (z2 : Int) := ⟨_, (Int.toNat_of_nonneg bin.1).symm⟩
                  have bin2 := bin.2
                  rw [ez2, Int.toNat_natCast] at bin2
                  have z26 : z2 < 6 := by omega
                  have g2l := gw_le (N := N) (S := S) (a := z2) 6
                  have r1b := hS.1 i (by omega)
                  have r2b := hS.1 z2 (by omega)
                  have ea1 := ea_bd hS (a := i) (by omega) (by omega)
                  have ea2 := ea_bd hS (a := z2) (by omega) (by omega)
                  rw [ez2, jI_nat]
                  show zG l w mX10_laysBest 63 [(2, .int (nI i)), (1, .int (nI z2)), (0, .ref m)] [] y _
                  refine g_aload_n 2 dX10_laysBest_63 rfl rfl ?_
                  refine g_iload_n 0 dX10_laysBest_64 rfl rfl ?_
                  refine g_invv (M' := mX10_rest) (As := [.int (nI i)]) (rest := []) dX10_laysBest_65 ml_X10_354 okX10_rest imX10_rest seX10_rest ⟨(Nat.le_of_ble_eq_true rfl), (Nat.le_of_ble_eq_true rfl)⟩ (ci := 10) rfl rfl rM.1.1 rfl rfl (Nat.le_of_ble_eq_true rfl) (c_rest rM hI B i6) ?_
                  rintro _ q4 ⟨rfl, eq4⟩
                  subst q4
                  show zG l w mX10_laysBest 68 [(2, .int (nI i)), (1, .int (nI z2)), (0, .ref m)] [.long (jL (rsN N S i 6))] y _
                  refine g_aload_n 2 dX10_laysBest_68 rfl rfl ?_
                  refine g_iload_n 0 dX10_laysBest_69 rfl rfl ?_
                  refine g_invv (M' := mX10_growing) (As := [.int (nI i)]) (rest := [.long (jL (rsN N S i 6))]) dX10_laysBest_70 ml_X10_351 okX10_growing imX10_growing seX10_growing ⟨(Nat.le_of_ble_eq_true rfl), (Nat.le_of_ble_eq_true rfl)⟩ (ci := 10) rfl rfl rM.1.1 rfl rfl (Nat.le_of_ble_eq_true rfl) (c_growing rM hI B hS.2.2.2 i6) ?_
                  rintro _ q5 ⟨rfl, eq5⟩
                  subst q5
                  show zG l w mX10_laysBest 73 [(2, .int (nI i)), (1, .int (nI z2)), (0, .ref m)] [.int (nI (gwN N S i 6)), .long (jL (rsN N S i 6))] y _
                  refine g_i2l dX10_laysBest_73 ?_
                  rw [nI_l (by omega), ← jL_nat]
                  refine g_ldiv dX10_laysBest_74 (jL_ne0 (by omega)) ?_
                  rw [jL_div (by omega) (by omega)]
                  refine g_aload_n 2 dX10_laysBest_75 rfl rfl ?_
                  refine g_iload_n 1 dX10_laysBest_76 rfl rfl ?_
                  refine g_invv (M' := mX10_rest) (As := [.int (nI z2)]) (rest := [.long (jL ((rsN N S i 6) / ((gwN N S i 6 : Nat) : Int)))]) dX10_laysBest_77 ml_X10_354 okX10_rest imX10_rest seX10_rest ⟨(Nat.le_of_ble_eq_true rfl), (Nat.le_of_ble_eq_true rfl)⟩ (ci := 10) rfl rfl rM.1.1 rfl rfl (Nat.le_of_ble_eq_true rfl) (c_rest rM hI B z26) ?_
                  rintro _ q6 ⟨rfl, eq6⟩
                  subst q6
                  show zG l w mX10_laysBest 80 [(2, .int (nI i)), (1, .int (nI z2)), (0, .ref m)] [.long (jL (rsN N S z2 6)), .long (jL ((rsN N S i 6) / ((gwN N S i 6 : Nat) : Int)))] y _
                  refine g_aload_n 2 dX10_laysBest_80 rfl rfl ?_
                  refine g_iload_n 1 dX10_laysBest_81 rfl rfl ?_
                  refine g_invv (M' := mX10_growing) (As := [.int (nI z2)]) (rest := [.long (jL (rsN N S z2 6)), .long (jL ((rsN N S i 6) / ((gwN N S i 6 : Nat) : Int)))]) dX10_laysBest_82 ml_X10_351 okX10_growing imX10_growing seX10_growing ⟨(Nat.le_of_ble_eq_true rfl), (Nat.le_of_ble_eq_true rfl)⟩ (ci := 10) rfl rfl rM.1.1 rfl rfl (Nat.le_of_ble_eq_true rfl) (c_growing rM hI B hS.2.2.2 z26) ?_
                  rintro _ q7 ⟨rfl, eq7⟩
                  subst q7
                  show zG l w mX10_laysBest 85 [(2, .int (nI i)), (1, .int (nI z2)), (0, .ref m)] [.int (nI (gwN N S z2 6)), .long (jL (rsN N S z2 6)), .long (jL ((rsN N S i 6) / ((gwN N S i 6 : Nat) : Int)))] y _
                  unfold eaN at ea1 ea2
                  refine g_i2l dX10_laysBest_85 ?_
                  rw [nI_l (by omega), ← jL_nat]
                  refine g_ldiv dX10_laysBest_86 (jL_ne0 (by omega)) ?_
                  rw [jL_div (by omega) (by omega)]
                  refine g_lif_ge (a := ((rsN N S i 6) / ((gwN N S i 6 : Nat) : Int))) (b := ((rsN N S z2 6) / ((gwN N S z2 6 : Nat) : Int))) (tgt := 93) dX10_laysBest_87 rfl dX10_laysBest_88 (by decide) (by omega) (by omega) (fun g4 => ?_) (fun g4 => ?_)
                  · refine g_inc (v := nI (i + 1)) (lv2 := [(2, .int (nI (i + 1))), (1, .int (nI z2)), (0, .ref m)]) 0 dX10_laysBest_93 rfl (nI_add _ 1) (by decide) rfl ?_
                    refine g_goto (tgt := 39) dX10_laysBest_96 (by decide) ?_
                    have e : btN N S (i + 1) = (z2 : Int) := by rw [btN]; rw [if_neg (fun q => ?_), ez2]; rcases q.2 with q | q; exact g3 q; rw [ez2, Int.toNat_natCast] at q; unfold eaN at q; omega
                    refine zG.sub [0, 1, 2] ?_ (ihk (i + 1) (by omega))
                    rw [e, jI_nat]; rfl
                  · refine g_iload_n 0 dX10_laysBest_91 rfl rfl ?_
                    refine g_istore_n (lv2 := [(1, .int (nI i)), (2, .int (nI i)), (0, .ref m)]) dX10_laysBest_92 rfl (by decide) rfl ?_
                    refine g_inc (v := nI (i + 1)) (lv2 := [(2, .int (nI (i + 1))), (1, .int (nI i)), (0, .ref m)]) 1 dX10_laysBest_93 rfl (nI_add _ 1) (by decide) rfl ?_
                    refine g_goto (tgt := 39) dX10_laysBest_96 (by decide) ?_
                    have e : btN N S (i + 1) = (i : Int) := by rw [btN]; exact if_pos ⟨by omega, Or.inr (by rw [ez2, Int.toNat_natCast]; unfold eaN; omega)⟩
                    refine zG.sub [0, 1, 2] ?_ (ihk (i + 1) (by omega))
                    rw [e, jI_nat]; rfl
        refine g_iconst (v := (-1)) dX10_laysBest_35 (by decide) ?_
        refine g_istore_n (lv2 := [(1, .int (-1)), (0, .ref m)]) dX10_laysBest_36 rfl (by decide) rfl ?_
        refine g_iconst (v := nI 0) dX10_laysBest_37 (by decide) ?_
        refine g_istore_n (lv2 := [(2, .int (nI 0)), (1, .int (-1)), (0, .ref m)]) dX10_laysBest_38 rfl (by decide) rfl ?_
        exact zG.sub [0, 1, 2] rfl (pick1 (nA N 0).toNat 0 (by omega))
    | succ q ih =>
      intro y S z hq hS rM B fM hz zb
      refine g_iload_n 0 dX10_laysBest_30 rfl rfl ?_
      refine g_iconst (v := (-1)) dX10_laysBest_31 (by decide) ?_
      refine g_zcmp_eq (a := z) (b := (-1)) (tgt := 191) rfl (by decide) dX10_laysBest_32 (by decide) (by omega) (by omega) (fun g0 => ?_) (fun g0 => ?_)
      · exact absurd g0 hz
      · have after : ∀ i : Nat, zG l w mX10_laysBest 99 [(2, .int (nI i)), (1, .int (jI (bzN N S))), (0, .ref m)] [] y (fun u h1 => u = none ∧ MoN h1 m N ∧ BsM h1 m (bstK N S (q + 1)) ∧ FrQ m h h1) := by
          intro i
          have zi := btN_bd (N := N) (S := S) (nA N 0).toNat
          have zi : -1 ≤ bzN N S ∧ bzN N S < ((nA N 0).toNat : Int) + 1 := zi
          refine g_iload_n 1 dX10_laysBest_99 rfl rfl ?_
          refine g_iconst (v := (-1)) dX10_laysBest_100 (by decide) ?_
          refine g_zcmp_ne (a := (bzN N S)) (b := (-1)) (tgt := 105) rfl (by decide) dX10_laysBest_101 (by decide) (by omega) (by omega) (fun g1 => ?_) (fun g1 => ?_)
          · obtain ⟨z1, ez, z0, z6, zg, zm⟩ := bz_in hI g1
            have eb := ea_bd hS z0 zg
            have rb := hS.1 z1 z0
            have gl := gw_le (N := N) (S := S) (a := z1) 6
            rw [ez, jI_nat]
            show zG l w mX10_laysBest 105 [(2, .int (nI i)), (1, .int (nI z1)), (0, .ref m)] [] y _
            refine g_aload_n 2 dX10_laysBest_105 rfl rfl ?_
            refine g_iload_n 1 dX10_laysBest_106 rfl rfl ?_
            refine g_invv (M' := mX10_rest) (As := [.int (nI z1)]) (rest := []) dX10_laysBest_107 ml_X10_354 okX10_rest imX10_rest seX10_rest ⟨(Nat.le_of_ble_eq_true rfl), (Nat.le_of_ble_eq_true rfl)⟩ (ci := 10) rfl rfl rM.1.1 rfl rfl (Nat.le_of_ble_eq_true rfl) (c_rest rM hI B z6) ?_
            rintro _ q1 ⟨rfl, eq1⟩
            subst q1
            show zG l w mX10_laysBest 110 [(2, .int (nI i)), (1, .int (nI z1)), (0, .ref m)] [.long (jL (rsN N S z1 6))] y _
            refine g_aload_n 2 dX10_laysBest_110 rfl rfl ?_
            refine g_iload_n 1 dX10_laysBest_111 rfl rfl ?_
            refine g_invv (M' := mX10_growing) (As := [.int (nI z1)]) (rest := [.long (jL (rsN N S z1 6))]) dX10_laysBest_112 ml_X10_351 okX10_growing imX10_growing seX10_growing ⟨(Nat.le_of_ble_eq_true rfl), (Nat.le_of_ble_eq_true rfl)⟩ (ci := 10) rfl rfl rM.1.1 rfl rfl (Nat.le_of_ble_eq_true rfl) (c_growing rM hI B hS.2.2.2 z6) ?_
            rintro _ q2 ⟨rfl, eq2⟩
            subst q2
            show zG l w mX10_laysBest 115 [(2, .int (nI i)), (1, .int (nI z1)), (0, .ref m)] [.int (nI (gwN N S z1 6)), .long (jL (rsN N S z1 6))] y _
            have put : ∀ k i : Nat, ((i + k : Nat) : Int) = nA N 1 → ∀ y2 : zH, MoN y2 m N → BsM y2 m (bup N S z1 (eaN N S z1) i) → FrQ m h y2 → zG l w mX10_laysBest 121 [(4, .int (nI i)), (2, .long (jL (eaN N S z1))), (1, .int (nI z1)), (0, .ref m)] [] y2 (fun u h1 => u = none ∧ MoN h1 m N ∧ BsM h1 m (bstK N S (q + 1)) ∧ FrQ m h h1) := by
              intro k
              induction k with
              | zero =>
                intro i hi y2 r2 B2 f2
                refine g_iload 0 dX10_laysBest_121 rfl ?_
                refine g_i2l dX10_laysBest_123 ?_
                rw [nI_l (by omega), ← jL_nat]
                refine g_aload_n 3 dX10_laysBest_124 rfl rfl ?_
                refine g_iconst (v := nI 1) dX10_laysBest_125 (by decide) ?_
                refine g_invv (M' := mX10_of) (As := [.int (nI 1)]) (rest := [.long (jL ((i : Nat) : Int))]) dX10_laysBest_126 ml_X10_48 okX10_of imX10_of seX10_of ⟨(Nat.le_of_ble_eq_true rfl), (Nat.le_of_ble_eq_true rfl)⟩ (ci := 10) rfl rfl r2.1.1 rfl rfl (Nat.le_of_ble_eq_true rfl) (c_ofN r2 (by omega) (by unfold nSp; omega)) ?_
                rintro _ q1 ⟨rfl, eq1⟩
                subst q1
                show zG l w mX10_laysBest 129 [(4, .int (nI i)), (2, .long (jL (eaN N S z1))), (1, .int (nI z1)), (0, .ref m)] [.long (jL (nA N 1)), .long (jL ((i : Nat) : Int))] y2 _
                refine g_lif_ge (a := ((i : Nat) : Int)) (b := (nA N 1)) (tgt := 188) dX10_laysBest_129 rfl dX10_laysBest_130 (by decide) (by omega) (by omega) (fun c => ?_) (fun c => ?_)
                · refine g_goto (tgt := 30) dX10_laysBest_188 (by decide) ?_
                  have bq : bst N S = bup N S z1 (eaN N S z1) 6 := by unfold bst; rw [if_neg g1, ez, Int.toNat_natCast]
                  have cn := bst_cn hI g1
                  have B3 : BsM y2 m (bst N S) := by
                    rw [bq]
                    exact ⟨fun f hf => by rw [← (bup_all (n := i) (by omega) hf).1]; exact B2.1 f hf, fun f hf => by rw [← (bup_all (n := i) (by omega) hf).2]; exact B2.2 f hf⟩
                  have go := ih y2 (bst N S) (z1 : Int) (by omega) (hS.step hI) r2 B3 f2 (by omega) (by omega)
                  rw [jI_nat] at go
                  exact zG.sub [2, 3] rfl go
                · exact absurd c (by omega)
              | succ k ih2 =>
                intro i hi y2 r2 B2 f2
                refine g_iload 0 dX10_laysBest_121 rfl ?_
                refine g_i2l dX10_laysBest_123 ?_
                rw [nI_l (by omega), ← jL_nat]
                refine g_aload_n 3 dX10_laysBest_124 rfl rfl ?_
                refine g_iconst (v := nI 1) dX10_laysBest_125 (by decide) ?_
                refine g_invv (M' := mX10_of) (As := [.int (nI 1)]) (rest := [.long (jL ((i : Nat) : Int))]) dX10_laysBest_126 ml_X10_48 okX10_of imX10_of seX10_of ⟨(Nat.le_of_ble_eq_true rfl), (Nat.le_of_ble_eq_true rfl)⟩ (ci := 10) rfl rfl r2.1.1 rfl rfl (Nat.le_of_ble_eq_true rfl) (c_ofN r2 (by omega) (by unfold nSp; omega)) ?_
                rintro _ q2 ⟨rfl, eq2⟩
                subst q2
                show zG l w mX10_laysBest 129 [(4, .int (nI i)), (2, .long (jL (eaN N S z1))), (1, .int (nI z1)), (0, .ref m)] [.long (jL (nA N 1)), .long (jL ((i : Nat) : Int))] y2 _
                refine g_lif_ge (a := ((i : Nat) : Int)) (b := (nA N 1)) (tgt := 188) dX10_laysBest_129 rfl dX10_laysBest_130 (by decide) (by omega) (by omega) (fun c => ?_) (fun c => ?_)
                · exact absurd c (by omega)
                · have i6 : i < 6 := by omega
                  have hf : (i : Int) < nA N 1 := by omega
                  have sb := hS.2.2.2 i
                  have s2 : (bup N S z1 (eaN N S z1) i).2 i = S.2 i := (bup_0 (fun q => absurd q.1 (by omega))).2
                  refine g_aload_n 3 dX10_laysBest_133 rfl rfl ?_
                  refine g_iload 0 dX10_laysBest_134 rfl ?_
                  refine g_invv (M' := mX10_isOn) (As := [.int (nI i)]) (rest := []) dX10_laysBest_136 ml_X10_181 okX10_isOn imX10_isOn seX10_isOn ⟨(Nat.le_of_ble_eq_true rfl), (Nat.le_of_ble_eq_true rfl)⟩ (ci := 10) rfl rfl r2.1.1 rfl rfl (Nat.le_of_ble_eq_true rfl) (c_isOn r2 hB i6) ?_
                  rintro _ q3 ⟨rfl, eq3⟩
                  subst q3
                  show zG l w mX10_laysBest 139 [(4, .int (nI i)), (2, .long (jL (eaN N S z1))), (1, .int (nI z1)), (0, .ref m)] [.int (bI (decide (nA N (248 + 20 * i + 3) = 1)))] y2 _
                  refine g_bif_eq (tgt := 182) dX10_laysBest_139 (by decide) (fun d1 => ?_) (fun d1 => ?_)
                  · refine g_inc (v := nI (i + 1)) (lv2 := [(4, .int (nI (i + 1))), (2, .long (jL (eaN N S z1))), (1, .int (nI z1)), (0, .ref m)]) 0 dX10_laysBest_182 rfl (nI_add _ 1) (by decide) rfl ?_
                    refine g_goto (tgt := 121) dX10_laysBest_185 (by decide) ?_
                    have ns : ¬ stB N S z1 i = true := by unfold stB; rw [grB_in hf, d1, Bool.false_and, Bool.false_and]; decide
                    exact zG.sub [0, 1, 2, 3] rfl (ih2 (i + 1) (by omega) y2 r2 ⟨fun f hf => by rw [(bup_no ns f).1]; exact B2.1 f hf, fun f hf => by rw [(bup_no ns f).2]; exact B2.2 f hf⟩ f2)
                  · refine g_aload_n 3 dX10_laysBest_142 rfl rfl ?_
                    refine g_getr (f := 337) (b := m + 5) dX10_laysBest_143 fl_X10_30 r2.1.1 rfl r2.1.2.2.2.2.2.1 ?_
                    refine g_iload 0 dX10_laysBest_146 rfl ?_
                    refine g_iald dX10_laysBest_148 r2.1.2.2.2.2.2.2.1 (by rw [show zn y2 (m + 5) = 6 from r2.1.2.2.2.2.2.2.2]; exact vp_in_nI (by omega) (by omega)) ?_
                    rw [nI_clamp (by omega)]
                    rw [show zI y2 (m + 5) i = jI (S.2 i) from (B2.2 i (by omega)).trans (congrArg jI s2)]
                    refine g_iconst (v := (-1)) dX10_laysBest_149 (by decide) ?_
                    refine g_zcmp_ne (a := (S.2 i)) (b := (-1)) (tgt := 182) rfl (by decide) dX10_laysBest_150 (by decide) (by omega) (by omega) (fun d2 => ?_) (fun d2 => ?_)
                    · refine g_inc (v := nI (i + 1)) (lv2 := [(4, .int (nI (i + 1))), (2, .long (jL (eaN N S z1))), (1, .int (nI z1)), (0, .ref m)]) 0 dX10_laysBest_182 rfl (nI_add _ 1) (by decide) rfl ?_
                      refine g_goto (tgt := 121) dX10_laysBest_185 (by decide) ?_
                      have ns : ¬ stB N S z1 i = true := by unfold stB; rw [grB_in hf, decide_eq_false (p := S.2 i = -1) d2, Bool.and_false, Bool.false_and]; decide
                      exact zG.sub [0, 1, 2, 3] rfl (ih2 (i + 1) (by omega) y2 r2 ⟨fun f hf => by rw [(bup_no ns f).1]; exact B2.1 f hf, fun f hf => by rw [(bup_no ns f).2]; exact B2.2 f hf⟩ f2)
                    · refine g_aload_n 3 dX10_laysBest_153 rfl rfl ?_
                      refine g_iload 0 dX10_laysBest_154 rfl ?_
                      refine g_iload_n 2 dX10_laysBest_156 rfl rfl ?_
                      refine g_invv (M' := mX10_isInPath) (As := [.int (nI i), .int (nI z1)]) (rest := []) dX10_laysBest_157 ml_X10_269 okX10_isInPath imX10_isInPath seX10_isInPath ⟨(Nat.le_of_ble_eq_true rfl), (Nat.le_of_ble_eq_true rfl)⟩ (ci := 10) rfl rfl r2.1.1 rfl rfl (Nat.le_of_ble_eq_true rfl) (c_isInPath r2 hI hf z6) ?_
                      rintro _ q4 ⟨rfl, eq4⟩
                      subst q4
                      show zG l w mX10_laysBest 160 [(4, .int (nI i)), (2, .long (jL (eaN N S z1))), (1, .int (nI z1)), (0, .ref m)] [.int (bI (inB N i (z1 : Int)))] y2 _
                      refine g_bif_ne (tgt := 166) dX10_laysBest_160 (by decide) (fun d3 => ?_) (fun d3 => ?_)
                      · have ns : stB N S z1 i = true := by unfold stB; rw [grB_in hf, crN_in hf, d3, d1, decide_eq_true (p := S.2 i = -1) (by omega)]; rfl
                        refine g_aload_n 3 dX10_laysBest_166 rfl rfl ?_
                        refine g_getr (f := 337) (b := m + 5) dX10_laysBest_167 fl_X10_30 r2.1.1 rfl r2.1.2.2.2.2.2.1 ?_
                        refine g_iload 0 dX10_laysBest_170 rfl ?_
                        refine g_iload_n 2 dX10_laysBest_172 rfl rfl ?_
                        refine g_iast (n := i) dX10_laysBest_173 r2.1.2.2.2.2.2.2.1 (by rw [show zn y2 (m + 5) = 6 from r2.1.2.2.2.2.2.2.2]; exact vp_in_nI (by omega) (by omega)) (nI_clamp (by omega)) ?_
                        refine g_aload_n 3 dX10_laysBest_174 rfl rfl ?_
                        refine g_getr (f := 336) (b := m + 4) dX10_laysBest_175 fl_X10_27 r2.1.1 rfl r2.1.2.2.2.2.1.1 ?_
                        refine g_iload 0 dX10_laysBest_178 rfl ?_
                        refine g_lload_n 1 dX10_laysBest_180 rfl rfl ?_
                        refine g_last (n := i) dX10_laysBest_181 r2.1.2.2.2.2.1.2.1 (by rw [show zn (zSI y2 (m + 5) i (nI z1)) (m + 4) = 6 from r2.1.2.2.2.2.1.2.2]; exact vp_in_nI (by omega) (by omega)) (nI_clamp (by omega)) ?_
                        have r3 : MoN (zSL (zSI y2 (m + 5) i (nI z1)) (m + 4) i (jL (eaN N S z1))) m N := r2.sb
                        have f3 : FrQ m h (zSL (zSI y2 (m + 5) i (nI z1)) (m + 4) i (jL (eaN N S z1))) := f2.tr (FrQ.sI5.tr FrQ.sL4)
                        have B3 : BsM (zSL (zSI y2 (m + 5) i (nI z1)) (m + 4) i (jL (eaN N S z1))) m (bup N S z1 (eaN N S z1) (i + 1)) := by
                          refine ⟨fun f hf => ?_, fun f hf => ?_⟩
                          · rw [zL_SL]
                            by_cases q : f = i
                            · subst q; rw [if_pos ⟨rfl, rfl⟩, (bup_1 ns (by omega)).1]
                            · rw [if_neg (fun z => q z.2), (bup_ne q).1]; exact B2.1 f hf
                          · rw [zI_SL, zI_SI]
                            by_cases q : f = i
                            · subst q; rw [if_pos ⟨rfl, rfl⟩, (bup_1 ns (by omega)).2, jI_nat]
                            · rw [if_neg (fun z => q z.2), (bup_ne q).2]; exact B2.2 f hf
                        generalize zSL (zSI y2 (m + 5) i (nI z1)) (m + 4) i (jL (eaN N S z1)) = y3 at r3 f3 B3 ⊢
                        refine g_inc (v := nI (i + 1)) (lv2 := [(4, .int (nI (i + 1))), (2, .long (jL (eaN N S z1))), (1, .int (nI z1)), (0, .ref m)]) 0 dX10_laysBest_182 rfl (nI_add _ 1) (by decide) rfl ?_
                        refine g_goto (tgt := 121) dX10_laysBest_185 (by decide) ?_
                        exact zG.sub [0, 1, 2, 3] rfl (ih2 (i + 1) (by omega) y3 r3 B3 f3)
                      · refine g_goto (tgt := 182) dX10_laysBest_163 (by decide) ?_
                        refine g_inc (v := nI (i + 1)) (lv2 := [(4, .int (nI (i + 1))), (2, .long (jL (eaN N S z1))), (1, .int (nI z1)), (0, .ref m)]) 0 dX10_laysBest_182 rfl (nI_add _ 1) (by decide) rfl ?_
                        refine g_goto (tgt := 121) dX10_laysBest_185 (by decide) ?_
                        have ns : ¬ stB N S z1 i = true := by unfold stB; rw [crN_in hf, d3, Bool.and_false]; decide
                        exact zG.sub [0, 1, 2, 3] rfl (ih2 (i + 1) (by omega) y2 r2 ⟨fun f hf => by rw [(bup_no ns f).1]; exact B2.1 f hf, fun f hf => by rw [(bup_no ns f).2]; exact B2.2 f hf⟩ f2)
            refine g_i2l dX10_laysBest_115 ?_
            rw [nI_l (by omega), ← jL_nat]
            refine g_ldiv dX10_laysBest_116 (jL_ne0 (by omega)) ?_
            rw [jL_div (by omega) (by omega)]
            refine g_lstore_n (lv2 := [(2, .long (jL ((rsN N S z1 6) / ((gwN N S z1 6 : Nat) : Int)))), (1, .int (nI z1)), (0, .ref m)]) dX10_laysBest_117 rfl (by decide) rfl ?_
            refine g_iconst (v := nI 0) dX10_laysBest_118 (by decide) ?_
            refine g_istore (lv2 := [(4, .int (nI 0)), (2, .long (jL ((rsN N S z1 6) / ((gwN N S z1 6 : Nat) : Int)))), (1, .int (nI z1)), (0, .ref m)]) dX10_laysBest_119 (by decide) rfl ?_
            exact zG.sub [0, 1, 2, 3] rfl (put (nA N 1).toNat 0 (by omega) y rM ⟨fun f hf => by rw [(bup_zero f).1]; exact B.1 f hf, fun f hf => by rw [(bup_zero f).2]; exact B.2 f hf⟩ fM)
          · refine g_return dX10_laysBest_104 rfl ?_
            exact ⟨rfl, rM, by rw [bstK_fix g1]; exact B, fM⟩
        have pick1 : ∀ k i : Nat, ((i + k : Nat) : Int) = nA N 0 → zG l w mX10_laysBest 39 [(2, .int (nI i)), (1, .int (jI (btN N S i))), (0, .ref m)] [] y (fun u h1 => u = none ∧ MoN h1 m N ∧ BsM h1 m (bstK N S (q + 1)) ∧ FrQ m h h1) := by
          intro k
          induction k with
          | zero =>
            intro i hi
            refine g_iload_n 0 dX10_laysBest_39 rfl rfl ?_
            refine g_i2l dX10_laysBest_40 ?_
            rw [nI_l (by omega), ← jL_nat]
            refine g_aload_n 2 dX10_laysBest_41 rfl rfl ?_
            refine g_iconst (v := nI 0) dX10_laysBest_42 (by decide) ?_
            refine g_invv (M' := mX10_of) (As := [.int (nI 0)]) (rest := [.long (jL ((i : Nat) : Int))]) dX10_laysBest_43 ml_X10_48 okX10_of imX10_of seX10_of ⟨(Nat.le_of_ble_eq_true rfl), (Nat.le_of_ble_eq_true rfl)⟩ (ci := 10) rfl rfl rM.1.1 rfl rfl (Nat.le_of_ble_eq_true rfl) (c_ofN rM (by omega) (by unfold nSp; omega)) ?_
            rintro _ q1 ⟨rfl, eq1⟩
            subst q1
            show zG l w mX10_laysBest 46 [(2, .int (nI i)), (1, .int (jI (btN N S i))), (0, .ref m)] [.long (jL (nA N 0)), .long (jL ((i : Nat) : Int))] y _
            refine g_lif_ge (a := ((i : Nat) : Int)) (b := (nA N 0)) (tgt := 99) dX10_laysBest_46 rfl dX10_laysBest_47 (by decide) (by omega) (by omega) (fun c => ?_) (fun c => ?_)
            · have af := after i
              unfold bzN at af
              rw [show (nA N 0).toNat = i by omega] at af
              exact zG.sub [0, 1, 2] rfl af
            · exact absurd c (by omega)
          | succ k ihk =>
            intro i hi
            refine g_iload_n 0 dX10_laysBest_39 rfl rfl ?_
            refine g_i2l dX10_laysBest_40 ?_
            rw [nI_l (by omega), ← jL_nat]
            refine g_aload_n 2 dX10_laysBest_41 rfl rfl ?_
            refine g_iconst (v := nI 0) dX10_laysBest_42 (by decide) ?_
            refine g_invv (M' := mX10_of) (As := [.int (nI 0)]) (rest := [.long (jL ((i : Nat) : Int))]) dX10_laysBest_43 ml_X10_48 okX10_of imX10_of seX10_of ⟨(Nat.le_of_ble_eq_true rfl), (Nat.le_of_ble_eq_true rfl)⟩ (ci := 10) rfl rfl rM.1.1 rfl rfl (Nat.le_of_ble_eq_true rfl) (c_ofN rM (by omega) (by unfold nSp; omega)) ?_
            rintro _ q2 ⟨rfl, eq2⟩
            subst q2
            show zG l w mX10_laysBest 46 [(2, .int (nI i)), (1, .int (jI (btN N S i))), (0, .ref m)] [.long (jL (nA N 0)), .long (jL ((i : Nat) : Int))] y _
            refine g_lif_ge (a := ((i : Nat) : Int)) (b := (nA N 0)) (tgt := 99) dX10_laysBest_46 rfl dX10_laysBest_47 (by decide) (by omega) (by omega) (fun c => ?_) (fun c => ?_)
            · exact absurd c (by omega)
            · have i6 : i < 6 := by omega
              have gl := gw_le (N := N) (S := S) (a := i) 6
              have bi := btN_bd (N := N) (S := S) i
              refine g_aload_n 2 dX10_laysBest_50 rfl rfl ?_
              refine g_iload_n 0 dX10_laysBest_51 rfl rfl ?_
              refine g_invv (M' := mX10_growing) (As := [.int (nI i)]) (rest := []) dX10_laysBest_52 ml_X10_351 okX10_growing imX10_growing seX10_growing ⟨(Nat.le_of_ble_eq_true rfl), (Nat.le_of_ble_eq_true rfl)⟩ (ci := 10) rfl rfl rM.1.1 rfl rfl (Nat.le_of_ble_eq_true rfl) (c_growing rM hI B hS.2.2.2 i6) ?_
              rintro _ q3 ⟨rfl, eq3⟩
              subst q3
              show zG l w mX10_laysBest 55 [(2, .int (nI i)), (1, .int (jI (btN N S i))), (0, .ref m)] [.int (nI (gwN N S i 6))] y _
              refine g_zif_le (a := ((gwN N S i 6 : Nat) : Int)) (tgt := 93) (jI_nat (gwN N S i 6)).symm dX10_laysBest_55 (by decide) (by omega) (fun g2 => ?_) (fun g2 => ?_)
              · refine g_inc (v := nI (i + 1)) (lv2 := [(2, .int (nI (i + 1))), (1, .int (jI (btN N S i))), (0, .ref m)]) 0 dX10_laysBest_93 rfl (nI_add _ 1) (by decide) rfl ?_
                refine g_goto (tgt := 39) dX10_laysBest_96 (by decide) ?_
                have e : btN N S (i + 1) = btN N S i := by rw [btN]; exact if_neg (fun q => absurd q.1 (by omega))
                refine zG.sub [0, 1, 2] ?_ (ihk (i + 1) (by omega))
                rw [e]; rfl
              · refine g_iload_n 1 dX10_laysBest_58 rfl rfl ?_
                refine g_iconst (v := (-1)) dX10_laysBest_59 (by decide) ?_
                refine g_zcmp_eq (a := (btN N S i)) (b := (-1)) (tgt := 91) rfl (by decide) dX10_laysBest_60 (by decide) (by omega) (by omega) (fun g3 => ?_) (fun g3 => ?_)
                · refine g_iload_n 0 dX10_laysBest_91 rfl rfl ?_
                  refine g_istore_n (lv2 := [(1, .int (nI i)), (2, .int (nI i)), (0, .ref m)]) dX10_laysBest_92 rfl (by decide) rfl ?_
                  refine g_inc (v := nI (i + 1)) (lv2 := [(2, .int (nI (i + 1))), (1, .int (nI i)), (0, .ref m)]) 1 dX10_laysBest_93 rfl (nI_add _ 1) (by decide) rfl ?_
                  refine g_goto (tgt := 39) dX10_laysBest_96 (by decide) ?_
                  have e : btN N S (i + 1) = (i : Int) := by rw [btN]; exact if_pos ⟨by omega, Or.inl g3⟩
                  refine zG.sub [0, 1, 2] ?_ (ihk (i + 1) (by omega))
                  rw [e, jI_nat]; rfl
                · have bin := (bs_in (N := N) (S := S) i).resolve_left g3
                  obtain ⟨z2, ez2⟩ : ∃ z2 : Nat, btN N S i = (z2 : Int) := ⟨_, (Int.toNat_of_nonneg bin.1).symm⟩
                  have bin2 := bin.2
                  rw [ez2, Int.toNat_natCast] at bin2
                  have z26 : z2 < 6 := by omega
                  have g2l := gw_le (N := N) (S := S) (a := z2) 6
                  have r1b := hS.1 i (by omega)
                  have r2b := hS.1 z2 (by omega)
                  have ea1 := ea_bd hS (a := i) (by omega) (by omega)
                  have ea2 := ea_bd hS (a := z2) (by omega) (by omega)
                  rw [ez2, jI_nat]
                  show zG l w mX10_laysBest 63 [(2, .int (nI i)), (1, .int (nI z2)), (0, .ref m)] [] y _
                  refine g_aload_n 2 dX10_laysBest_63 rfl rfl ?_
                  refine g_iload_n 0 dX10_laysBest_64 rfl rfl ?_
                  refine g_invv (M' := mX10_rest) (As := [.int (nI i)]) (rest := []) dX10_laysBest_65 ml_X10_354 okX10_rest imX10_rest seX10_rest ⟨(Nat.le_of_ble_eq_true rfl), (Nat.le_of_ble_eq_true rfl)⟩ (ci := 10) rfl rfl rM.1.1 rfl rfl (Nat.le_of_ble_eq_true rfl) (c_rest rM hI B i6) ?_
                  rintro _ q4 ⟨rfl, eq4⟩
                  subst q4
                  show zG l w mX10_laysBest 68 [(2, .int (nI i)), (1, .int (nI z2)), (0, .ref m)] [.long (jL (rsN N S i 6))] y _
                  refine g_aload_n 2 dX10_laysBest_68 rfl rfl ?_
                  refine g_iload_n 0 dX10_laysBest_69 rfl rfl ?_
                  refine g_invv (M' := mX10_growing) (As := [.int (nI i)]) (rest := [.long (jL (rsN N S i 6))]) dX10_laysBest_70 ml_X10_351 okX10_growing imX10_growing seX10_growing ⟨(Nat.le_of_ble_eq_true rfl), (Nat.le_of_ble_eq_true rfl)⟩ (ci := 10) rfl rfl rM.1.1 rfl rfl (Nat.le_of_ble_eq_true rfl) (c_growing rM hI B hS.2.2.2 i6) ?_
                  rintro _ q5 ⟨rfl, eq5⟩
                  subst q5
                  show zG l w mX10_laysBest 73 [(2, .int (nI i)), (1, .int (nI z2)), (0, .ref m)] [.int (nI (gwN N S i 6)), .long (jL (rsN N S i 6))] y _
                  refine g_i2l dX10_laysBest_73 ?_
                  rw [nI_l (by omega), ← jL_nat]
                  refine g_ldiv dX10_laysBest_74 (jL_ne0 (by omega)) ?_
                  rw [jL_div (by omega) (by omega)]
                  refine g_aload_n 2 dX10_laysBest_75 rfl rfl ?_
                  refine g_iload_n 1 dX10_laysBest_76 rfl rfl ?_
                  refine g_invv (M' := mX10_rest) (As := [.int (nI z2)]) (rest := [.long (jL ((rsN N S i 6) / ((gwN N S i 6 : Nat) : Int)))]) dX10_laysBest_77 ml_X10_354 okX10_rest imX10_rest seX10_rest ⟨(Nat.le_of_ble_eq_true rfl), (Nat.le_of_ble_eq_true rfl)⟩ (ci := 10) rfl rfl rM.1.1 rfl rfl (Nat.le_of_ble_eq_true rfl) (c_rest rM hI B z26) ?_
                  rintro _ q6 ⟨rfl, eq6⟩
                  subst q6
                  show zG l w mX10_laysBest 80 [(2, .int (nI i)), (1, .int (nI z2)), (0, .ref m)] [.long (jL (rsN N S z2 6)), .long (jL ((rsN N S i 6) / ((gwN N S i 6 : Nat) : Int)))] y _
                  refine g_aload_n 2 dX10_laysBest_80 rfl rfl ?_
                  refine g_iload_n 1 dX10_laysBest_81 rfl rfl ?_
                  refine g_invv (M' := mX10_growing) (As := [.int (nI z2)]) (rest := [.long (jL (rsN N S z2 6)), .long (jL ((rsN N S i 6) / ((gwN N S i 6 : Nat) : Int)))]) dX10_laysBest_82 ml_X10_351 okX10_growing imX10_growing seX10_growing ⟨(Nat.le_of_ble_eq_true rfl), (Nat.le_of_ble_eq_true rfl)⟩ (ci := 10) rfl rfl rM.1.1 rfl rfl (Nat.le_of_ble_eq_true rfl) (c_growing rM hI B hS.2.2.2 z26) ?_
                  rintro _ q7 ⟨rfl, eq7⟩
                  subst q7
                  show zG l w mX10_laysBest 85 [(2, .int (nI i)), (1, .int (nI z2)), (0, .ref m)] [.int (nI (gwN N S z2 6)), .long (jL (rsN N S z2 6)), .long (jL ((rsN N S i 6) / ((gwN N S i 6 : Nat) : Int)))] y _
                  unfold eaN at ea1 ea2
                  refine g_i2l dX10_laysBest_85 ?_
                  rw [nI_l (by omega), ← jL_nat]
                  refine g_ldiv dX10_laysBest_86 (jL_ne0 (by omega)) ?_
                  rw [jL_div (by omega) (by omega)]
                  refine g_lif_ge (a := ((rsN N S i 6) / ((gwN N S i 6 : Nat) : Int))) (b := ((rsN N S z2 6) / ((gwN N S z2 6 : Nat) : Int))) (tgt := 93) dX10_laysBest_87 rfl dX10_laysBest_88 (by decide) (by omega) (by omega) (fun g4 => ?_) (fun g4 => ?_)
                  · refine g_inc (v := nI (i + 1)) (lv2 := [(2, .int (nI (i + 1))), (1, .int (nI z2)), (0, .ref m)]) 0 dX10_laysBest_93 rfl (nI_add _ 1) (by decide) rfl ?_
                    refine g_goto (tgt := 39) dX10_laysBest_96 (by decide) ?_
                    have e : btN N S (i + 1) = (z2 : Int) := by rw [btN]; rw [if_neg (fun q => ?_), ez2]; rcases q.2 with q | q; exact g3 q; rw [ez2, Int.toNat_natCast] at q; unfold eaN at q; omega
                    refine zG.sub [0, 1, 2] ?_ (ihk (i + 1) (by omega))
                    rw [e, jI_nat]; rfl
                  · refine g_iload_n 0 dX10_laysBest_91 rfl rfl ?_
                    refine g_istore_n (lv2 := [(1, .int (nI i)), (2, .int (nI i)), (0, .ref m)]) dX10_laysBest_92 rfl (by decide) rfl ?_
                    refine g_inc (v := nI (i + 1)) (lv2 := [(2, .int (nI (i + 1))), (1, .int (nI i)), (0, .ref m)]) 1 dX10_laysBest_93 rfl (nI_add _ 1) (by decide) rfl ?_
                    refine g_goto (tgt := 39) dX10_laysBest_96 (by decide) ?_
                    have e : btN N S (i + 1) = (i : Int) := by rw [btN]; exact if_pos ⟨by omega, Or.inr (by rw [ez2, Int.toNat_natCast]; unfold eaN; omega)⟩
                    refine zG.sub [0, 1, 2] ?_ (ihk (i + 1) (by omega))
                    rw [e, jI_nat]; rfl
        refine g_iconst (v := (-1)) dX10_laysBest_35 (by decide) ?_
        refine g_istore_n (lv2 := [(1, .int (-1)), (0, .ref m)]) dX10_laysBest_36 rfl (by decide) rfl ?_
        refine g_iconst (v := nI 0) dX10_laysBest_37 (by decide) ?_
        refine g_istore_n (lv2 := [(2, .int (nI 0)), (1, .int (-1)), (0, .ref m)]) dX10_laysBest_38 rfl (by decide) rfl ?_
        exact zG.sub [0, 1, 2] rfl (pick1 (nA N 0).toNat 0 (by omega))
  have first : ∀ k i : Nat, i + k = 6 → ∀ y : zH, MoN y m N → (∀ f, f < i → zL y (m + 4) f = jL 0 ∧ zI y (m + 5) f = jI (-1)) → FrQ m h y → zG l w mX10_laysBest 2 [(1, .int (nI i)), (0, .ref m)] [] y (fun u h1 => u = none ∧ MoN h1 m N ∧ BsM h1 m (bstN N) ∧ FrQ m h h1) := by
    intro k
    induction k with
    | zero =>
      intro i hi y rM hA fM
      refine g_iload_n 0 dX10_laysBest_2 rfl rfl ?_
      refine g_bipush (v := nI 6) dX10_laysBest_3 (by decide) ?_
      refine g_ncmp_ge (tgt := 28) dX10_laysBest_5 (by decide) (by omega) (by omega) (fun g => ?_) (fun g => ?_)
      · refine g_iconst (v := nI 0) dX10_laysBest_28 (by decide) ?_
        refine g_istore_n (lv2 := [(1, .int (nI 0)), (0, .ref m)]) dX10_laysBest_29 rfl (by decide) rfl ?_
        have go := big 6 y bS0 0 (cn_le 6) (bsI.zero hI) rM ⟨fun f hf => (hA f (by omega)).1, fun f hf => (hA f (by omega)).2⟩ fM (by omega) (by omega)
        exact zG.sub [0, 1] rfl go
      · exact absurd g (by omega)
    | succ k ih =>
      intro i hi y rM hA fM
      refine g_iload_n 0 dX10_laysBest_2 rfl rfl ?_
      refine g_bipush (v := nI 6) dX10_laysBest_3 (by decide) ?_
      refine g_ncmp_ge (tgt := 28) dX10_laysBest_5 (by decide) (by omega) (by omega) (fun g => ?_) (fun g => ?_)
      · exact absurd g (by omega)
      · refine g_aload_n 1 dX10_laysBest_8 rfl rfl ?_
        refine g_getr (f := 336) (b := m + 4) dX10_laysBest_9 fl_X10_27 rM.1.1 rfl rM.1.2.2.2.2.1.1 ?_
        refine g_iload_n 0 dX10_laysBest_12 rfl rfl ?_
        refine g_lconst (v := jL 0) dX10_laysBest_13 (by decide) ?_
        refine g_last (n := i) dX10_laysBest_14 rM.1.2.2.2.2.1.2.1 (by rw [show zn y (m + 4) = 6 from rM.1.2.2.2.2.1.2.2]; exact vp_in_nI (by omega) (by omega)) (nI_clamp (by omega)) ?_
        refine g_aload_n 1 dX10_laysBest_15 rfl rfl ?_
        refine g_getr (f := 337) (b := m + 5) dX10_laysBest_16 fl_X10_30 rM.1.1 rfl rM.1.2.2.2.2.2.1 ?_
        refine g_iload_n 0 dX10_laysBest_19 rfl rfl ?_
        refine g_iconst (v := (-1)) dX10_laysBest_20 (by decide) ?_
        refine g_iast (n := i) dX10_laysBest_21 rM.1.2.2.2.2.2.2.1 (by rw [show zn (zSL y (m + 4) i (jL 0)) (m + 5) = 6 from rM.1.2.2.2.2.2.2.2]; exact vp_in_nI (by omega) (by omega)) (nI_clamp (by omega)) ?_
        have r3 : MoN (zSI (zSL y (m + 4) i (jL 0)) (m + 5) i (-1)) m N := rM.sb2
        have f3 : FrQ m h (zSI (zSL y (m + 4) i (jL 0)) (m + 5) i (-1)) := fM.tr (FrQ.sL4.tr FrQ.sI5)
        have A3 : ∀ f, f < i + 1 → zL (zSI (zSL y (m + 4) i (jL 0)) (m + 5) i (-1)) (m + 4) f = jL 0 ∧ zI (zSI (zSL y (m + 4) i (jL 0)) (m + 5) i (-1)) (m + 5) f = jI (-1) := by
          intro f hf
          rw [zL_SI, zL_SL, zI_SI]
          by_cases q : f = i
          · rw [if_pos ⟨rfl, q⟩, if_pos ⟨rfl, q⟩]; exact ⟨rfl, rfl⟩
          · rw [if_neg (fun z => q z.2), if_neg (fun z => q z.2)]; exact hA f (by omega)
        generalize zSI (zSL y (m + 4) i (jL 0)) (m + 5) i (-1) = y3 at r3 f3 A3 ⊢
        refine g_inc (v := nI (i + 1)) (lv2 := [(1, .int (nI (i + 1))), (0, .ref m)]) 0 dX10_laysBest_22 rfl (nI_add _ 1) (by decide) rfl ?_
        refine g_goto (tgt := 2) dX10_laysBest_25 (by decide) ?_
        exact zG.sub [0, 1] rfl (ih (i + 1) (by omega) y3 r3 A3 f3)
  refine g_iconst (v := nI 0) dX10_laysBest_0 (by decide) ?_
  refine g_istore_n (lv2 := [(1, .int (nI 0)), (0, .ref m)]) dX10_laysBest_1 rfl (by decide) rfl ?_
  exact zG.sub [0, 1] rfl (first 6 0 rfl h r (fun f hf => absurd hf (by omega)) FrQ.rf)
theorem bstK_I {X : List Nat} (hI : iN X N) : ∀ k S, bsI N S → bsI N (bstK N S k) := by
  intro k
  induction k with
  | zero => intro S h; exact h
  | succ k ih => intro S h; exact ih _ (h.step hI)
theorem bstN_I {X : List Nat} (hI : iN X N) : bsI N (bstN N) := bstK_I hI 6 bS0 (bsI.zero hI)
theorem c_bestM (r : MoN h m N) (hI : iN [] N) {z : Int} (zb : -2147483648 ≤ z ∧ z < 2147483648) : zM l w mX10_best [.ref m, .int (jI z)] h (PPm h m N (qBest N z)) := by
  refine zM.of (by decide) (Nat.le_of_ble_eq_true rfl) ?_
  have H1 := hI.H.2.1
  have hB := hI.B
  refine g_aload_n 0 dX10_best_0 rfl rfl ?_
  refine g_iload_n 1 dX10_best_1 rfl rfl ?_
  refine g_invv (M' := mX10_isFlow) (As := [.int (jI z)]) (rest := []) dX10_best_2 ml_X10_321 okX10_isFlow imX10_isFlow seX10_isFlow ⟨(Nat.le_of_ble_eq_true rfl), (Nat.le_of_ble_eq_true rfl)⟩ (ci := 10) rfl rfl r.1.1 rfl rfl (Nat.le_of_ble_eq_true rfl) (c_isFlow r H1 (by omega)) ?_
  rintro _ q1 ⟨rfl, eq1⟩
  subst q1
  show zG l w mX10_best 5 [(0, .ref m), (1, .int (jI z))] [.int (bI (decide (0 ≤ z ∧ z < nA N 1)))] h _
  refine g_bif_ne (tgt := 14) dX10_best_5 (by decide) (fun d => ?_) (fun d => ?_)
  · have d := of_decide_eq_true d
    obtain ⟨f, ef⟩ : ∃ f : Nat, z = (f : Int) := ⟨_, (Int.toNat_of_nonneg d.1).symm⟩
    subst ef
    simp only [jI_nat]
    have f6 : f < 6 := by omega
    show zG l w mX10_best 14 [(0, .ref m), (1, .int (nI f))] [] h _
    refine g_aload_n 0 dX10_best_14 rfl rfl ?_
    refine g_invv (M' := mX10_laysBest) (As := []) (rest := []) dX10_best_15 ml_X10_357 okX10_laysBest imX10_laysBest seX10_laysBest ⟨(Nat.le_of_ble_eq_true rfl), (Nat.le_of_ble_eq_true rfl)⟩ (ci := 10) rfl rfl r.1.1 rfl rfl (Nat.le_of_ble_eq_true rfl) (c_laysBest r hI) ?_
    rintro _ y1 ⟨rfl, r1, B, f1⟩
    show zG l w mX10_best 18 [(0, .ref m), (1, .int (nI f))] [] y1 _
    have sb := (bstN_I hI).2.2.2 f
    refine g_aload_n 0 dX10_best_18 rfl rfl ?_
    refine g_aload_n 0 dX10_best_19 rfl rfl ?_
    refine g_getr (f := 336) (b := m + 4) dX10_best_20 fl_X10_27 r1.1.1 rfl r1.1.2.2.2.2.1.1 ?_
    refine g_iload_n 1 dX10_best_23 rfl rfl ?_
    refine g_lald dX10_best_24 r1.1.2.2.2.2.1.2.1 (by rw [show zn y1 (m + 4) = 6 from r1.1.2.2.2.2.1.2.2]; exact vp_in_nI (by omega) (by omega)) ?_
    rw [nI_clamp (by omega)]
    rw [show zL y1 (m + 4) f = jL ((bstN N).1 f) from B.1 f (by omega)]
    refine g_invv (M' := mX10_gives) (As := [.long (jL ((bstN N).1 f))]) (rest := []) dX10_best_25 ml_X10_298 okX10_gives imX10_gives seX10_gives ⟨(Nat.le_of_ble_eq_true rfl), (Nat.le_of_ble_eq_true rfl)⟩ (ci := 10) rfl rfl r1.1.1 rfl rfl (Nat.le_of_ble_eq_true rfl) (c_gives r1.1.1) ?_
    rintro _ q3 ⟨rfl, eq3⟩
    subst q3
    show zG l w mX10_best 28 [(0, .ref m), (1, .int (nI f))] [.int (jI ((bstN N).1 f))] (zSi y1 321 m (nI 0)) _
    refine g_ireturn dX10_best_28 rfl ?_
    have e : qBest N (f : Int) = (0, (bstN N).1 f) := by unfold qBest; rw [if_pos d, Int.toNat_natCast]
    exact ⟨by rw [e], by rw [e, zi_same]; rfl, ⟨_, r1.s321.u3⟩, f1.tr (FrQ.si (by omega))⟩
  · have d := of_decide_eq_false d
    refine g_aload_n 0 dX10_best_8 rfl rfl ?_
    refine g_iconst (v := nI 2) dX10_best_9 (by decide) ?_
    refine g_invv (M' := mX10_refuse) (As := [.int (nI 2)]) (rest := []) dX10_best_10 ml_X10_289 okX10_refuse imX10_refuse seX10_refuse ⟨(Nat.le_of_ble_eq_true rfl), (Nat.le_of_ble_eq_true rfl)⟩ (ci := 10) rfl rfl r.1.1 rfl rfl (Nat.le_of_ble_eq_true rfl) (c_refuse r.1.1) ?_
    rintro _ q2 ⟨rfl, eq2⟩
    subst q2
    show zG l w mX10_best 13 [(0, .ref m), (1, .int (jI z))] [.int (-1)] (zSi h 321 m (nI 2)) _
    refine g_ireturn dX10_best_13 rfl ?_
    have e : qBest N z = (2, -1) := by unfold qBest; rw [if_neg d]
    exact ⟨by rw [e]; rfl, by rw [e, zi_same]; rfl, ⟨_, r.s321.u3⟩, FrQ.si (by omega)⟩
theorem c_neckM (r : MoN h m N) (hI : iN [] N) {z : Int} (zb : -2147483648 ≤ z ∧ z < 2147483648) : zM l w mX10_neck [.ref m, .int (jI z)] h (PPm h m N (qNeck N z)) := by
  refine zM.of (by decide) (Nat.le_of_ble_eq_true rfl) ?_
  have H1 := hI.H.2.1
  have hB := hI.B
  refine g_aload_n 0 dX10_neck_0 rfl rfl ?_
  refine g_iload_n 1 dX10_neck_1 rfl rfl ?_
  refine g_invv (M' := mX10_isFlow) (As := [.int (jI z)]) (rest := []) dX10_neck_2 ml_X10_321 okX10_isFlow imX10_isFlow seX10_isFlow ⟨(Nat.le_of_ble_eq_true rfl), (Nat.le_of_ble_eq_true rfl)⟩ (ci := 10) rfl rfl r.1.1 rfl rfl (Nat.le_of_ble_eq_true rfl) (c_isFlow r H1 (by omega)) ?_
  rintro _ q1 ⟨rfl, eq1⟩
  subst q1
  show zG l w mX10_neck 5 [(0, .ref m), (1, .int (jI z))] [.int (bI (decide (0 ≤ z ∧ z < nA N 1)))] h _
  refine g_bif_ne (tgt := 14) dX10_neck_5 (by decide) (fun d => ?_) (fun d => ?_)
  · have d := of_decide_eq_true d
    obtain ⟨f, ef⟩ : ∃ f : Nat, z = (f : Int) := ⟨_, (Int.toNat_of_nonneg d.1).symm⟩
    subst ef
    simp only [jI_nat]
    have f6 : f < 6 := by omega
    show zG l w mX10_neck 14 [(0, .ref m), (1, .int (nI f))] [] h _
    refine g_aload_n 0 dX10_neck_14 rfl rfl ?_
    refine g_iload_n 1 dX10_neck_15 rfl rfl ?_
    refine g_invv (M' := mX10_isOn) (As := [.int (nI f)]) (rest := []) dX10_neck_16 ml_X10_181 okX10_isOn imX10_isOn seX10_isOn ⟨(Nat.le_of_ble_eq_true rfl), (Nat.le_of_ble_eq_true rfl)⟩ (ci := 10) rfl rfl r.1.1 rfl rfl (Nat.le_of_ble_eq_true rfl) (c_isOn r hB f6) ?_
    rintro _ q3 ⟨rfl, eq3⟩
    subst q3
    show zG l w mX10_neck 19 [(0, .ref m), (1, .int (nI f))] [.int (bI (decide (nA N (248 + 20 * f + 3) = 1)))] h _
    refine g_bif_ne (tgt := 28) dX10_neck_19 (by decide) (fun d1 => ?_) (fun d1 => ?_)
    · have d1 := of_decide_eq_true d1
      refine g_aload_n 0 dX10_neck_28 rfl rfl ?_
      refine g_invv (M' := mX10_laysBest) (As := []) (rest := []) dX10_neck_29 ml_X10_357 okX10_laysBest imX10_laysBest seX10_laysBest ⟨(Nat.le_of_ble_eq_true rfl), (Nat.le_of_ble_eq_true rfl)⟩ (ci := 10) rfl rfl r.1.1 rfl rfl (Nat.le_of_ble_eq_true rfl) (c_laysBest r hI) ?_
      rintro _ y1 ⟨rfl, r1, B, f1⟩
      show zG l w mX10_neck 32 [(0, .ref m), (1, .int (nI f))] [] y1 _
      have sb := (bstN_I hI).2.2.2 f
      refine g_aload_n 0 dX10_neck_32 rfl rfl ?_
      refine g_aload_n 0 dX10_neck_33 rfl rfl ?_
      refine g_getr (f := 337) (b := m + 5) dX10_neck_34 fl_X10_30 r1.1.1 rfl r1.1.2.2.2.2.2.1 ?_
      refine g_iload_n 1 dX10_neck_37 rfl rfl ?_
      refine g_iald dX10_neck_38 r1.1.2.2.2.2.2.2.1 (by rw [show zn y1 (m + 5) = 6 from r1.1.2.2.2.2.2.2.2]; exact vp_in_nI (by omega) (by omega)) ?_
      rw [nI_clamp (by omega)]
      rw [show zI y1 (m + 5) f = jI ((bstN N).2 f) from B.2 f (by omega)]
      refine g_i2l dX10_neck_39 ?_
      rw [jI_l (by omega) (by omega)]
      refine g_invv (M' := mX10_gives) (As := [.long (jL ((bstN N).2 f))]) (rest := []) dX10_neck_40 ml_X10_298 okX10_gives imX10_gives seX10_gives ⟨(Nat.le_of_ble_eq_true rfl), (Nat.le_of_ble_eq_true rfl)⟩ (ci := 10) rfl rfl r1.1.1 rfl rfl (Nat.le_of_ble_eq_true rfl) (c_gives r1.1.1) ?_
      rintro _ q5 ⟨rfl, eq5⟩
      subst q5
      show zG l w mX10_neck 43 [(0, .ref m), (1, .int (nI f))] [.int (jI ((bstN N).2 f))] (zSi y1 321 m (nI 0)) _
      refine g_ireturn dX10_neck_43 rfl ?_
      have e : qNeck N (f : Int) = (0, (bstN N).2 f) := by unfold qNeck; rw [if_pos d, Int.toNat_natCast, if_pos d1]
      exact ⟨by rw [e], by rw [e, zi_same]; rfl, ⟨_, r1.s321.u3⟩, f1.tr (FrQ.si (by omega))⟩
    · have d1 := of_decide_eq_false d1
      refine g_aload_n 0 dX10_neck_22 rfl rfl ?_
      refine g_iconst (v := nI 5) dX10_neck_23 (by decide) ?_
      refine g_invv (M' := mX10_refuse) (As := [.int (nI 5)]) (rest := []) dX10_neck_24 ml_X10_289 okX10_refuse imX10_refuse seX10_refuse ⟨(Nat.le_of_ble_eq_true rfl), (Nat.le_of_ble_eq_true rfl)⟩ (ci := 10) rfl rfl r.1.1 rfl rfl (Nat.le_of_ble_eq_true rfl) (c_refuse r.1.1) ?_
      rintro _ q4 ⟨rfl, eq4⟩
      subst q4
      show zG l w mX10_neck 27 [(0, .ref m), (1, .int (nI f))] [.int (-1)] (zSi h 321 m (nI 5)) _
      refine g_ireturn dX10_neck_27 rfl ?_
      have e : qNeck N (f : Int) = (5, -1) := by unfold qNeck; rw [if_pos d, Int.toNat_natCast, if_neg d1]
      exact ⟨by rw [e]; rfl, by rw [e, zi_same]; rfl, ⟨_, r.s321.u3⟩, FrQ.si (by omega)⟩
  · have d := of_decide_eq_false d
    refine g_aload_n 0 dX10_neck_8 rfl rfl ?_
    refine g_iconst (v := nI 2) dX10_neck_9 (by decide) ?_
    refine g_invv (M' := mX10_refuse) (As := [.int (nI 2)]) (rest := []) dX10_neck_10 ml_X10_289 okX10_refuse imX10_refuse seX10_refuse ⟨(Nat.le_of_ble_eq_true rfl), (Nat.le_of_ble_eq_true rfl)⟩ (ci := 10) rfl rfl r.1.1 rfl rfl (Nat.le_of_ble_eq_true rfl) (c_refuse r.1.1) ?_
    rintro _ q2 ⟨rfl, eq2⟩
    subst q2
    show zG l w mX10_neck 13 [(0, .ref m), (1, .int (jI z))] [.int (-1)] (zSi h 321 m (nI 2)) _
    refine g_ireturn dX10_neck_13 rfl ?_
    have e : qNeck N z = (2, -1) := by unfold qNeck; rw [if_neg d]
    exact ⟨by rw [e]; rfl, by rw [e, zi_same]; rfl, ⟨_, r.s321.u3⟩, FrQ.si (by omega)⟩
end BSM
