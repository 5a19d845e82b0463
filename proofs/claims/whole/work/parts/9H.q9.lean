section QJ
variable {l : Launch} {w : zW} {h : zH} {m x b : Nat} {π : Nat → Nat} {ls : Nat → List Nat} {N : nT} {X : List Nat} {t : Nat}
theorem c_hasPathOf (c : CX h b π ls N X t) (hI : iN [] N) {f g : Nat} (hf : (f : Int) < nA N 1) (hg : (g : Int) < nA N 1) : zM l w mX2_hasPathOf [.ref (b + 53 + 2 * f), .ref (b + 53 + 2 * g)] h (fun u h1 => u = some (.int (bI (likeN N f g false))) ∧ h1 = h) := by
  refine zM.of (by decide) (Nat.le_of_ble_eq_true rfl) ?_
  have H0 := hI.H.1
  have H1 := hI.H.2.1
  have f6 : f < 6 := by omega
  have g6 : g < 6 := by omega
  have F := hI.F f hf
  have G := hI.F g hg
  have F1 := F.1
  have G1 := G.1
  obtain ⟨n, en⟩ : ∃ n : Nat, (nA N (248 + 20 * f + 0)) = (n : Int) := ⟨_, (Int.toNat_of_nonneg (by omega)).symm⟩
  have en2 : (nA N (248 + 20 * f + 0)).toNat = n := by omega
  have loop : ∀ k i : Nat, i + k = n → lkU N f g false i = true → zG l w mX2_hasPathOf 2 [(2, .int (nI i)), (0, .ref (b + 53 + 2 * f)), (1, .ref (b + 53 + 2 * g))] [] h (fun u h1 => u = some (.int (bI (likeN N f g false))) ∧ h1 = h) := by
    intro k
    induction k with
    | zero =>
      intro i hi hu
      refine g_iload_n 0 dX2_hasPathOf_2 rfl rfl ?_
      refine g_aload_n 1 dX2_hasPathOf_3 rfl rfl ?_
      refine g_geti (f := 65) dX2_hasPathOf_4 fl_X2_15 (c.1.2.2.2.2.2.2.2.2.2 f f6).2.1 (by decide) rfl ?_
      rw [show zi h 65 (b + 53 + 2 * f) = jI (nA N (248 + 20 * f + 0)) from (c.2.2.2.2.1 f hf f6).1 0 (by omega) (by omega)]
      refine g_zcmp_ge (a := ((i : Nat) : Int)) (b := (nA N (248 + 20 * f + 0))) (tgt := 31) (jI_nat i).symm rfl dX2_hasPathOf_7 (by decide) (by omega) (by omega) (fun k0 => ?_) (fun k0 => ?_)
      · refine g_aload_n 1 dX2_hasPathOf_31 rfl rfl ?_
        refine g_geti (f := 65) dX2_hasPathOf_32 fl_X2_15 (c.1.2.2.2.2.2.2.2.2.2 f f6).2.1 (by decide) rfl ?_
        rw [show zi h 65 (b + 53 + 2 * f) = jI (nA N (248 + 20 * f + 0)) from (c.2.2.2.2.1 f hf f6).1 0 (by omega) (by omega)]
        refine g_aload_n 2 dX2_hasPathOf_35 rfl rfl ?_
        refine g_geti (f := 65) dX2_hasPathOf_36 fl_X2_15 (c.1.2.2.2.2.2.2.2.2.2 g g6).2.1 (by decide) rfl ?_
        rw [show zi h 65 (b + 53 + 2 * g) = jI (nA N (248 + 20 * g + 0)) from (c.2.2.2.2.1 g hg g6).1 0 (by omega) (by omega)]
        refine g_zcmp_ne (a := (nA N (248 + 20 * f + 0))) (b := (nA N (248 + 20 * g + 0))) (tgt := 46) rfl rfl dX2_hasPathOf_39 (by decide) (by omega) (by omega) (fun e => ?_) (fun e => ?_)
        · refine g_iconst (v := bI false) dX2_hasPathOf_46 (by decide) ?_
          refine g_zreturn dX2_hasPathOf_47 rfl (bI_nar _) ?_
          exact ⟨by rw [show likeN N f g false = false by unfold likeN; rw [decide_eq_false (by omega), Bool.false_and]], rfl⟩
        · refine g_iconst (v := bI true) dX2_hasPathOf_42 (by decide) ?_
          refine g_goto (tgt := 47) dX2_hasPathOf_43 (by decide) ?_
          refine g_zreturn dX2_hasPathOf_47 rfl (bI_nar _) ?_
          exact ⟨by rw [show likeN N f g false = true by unfold likeN; rw [decide_eq_true (by omega), Bool.true_and, en2, ← show i = n by omega]; exact hu], rfl⟩
      · exact absurd k0 (by omega)
    | succ k ih =>
      intro i hi hu
      refine g_iload_n 0 dX2_hasPathOf_2 rfl rfl ?_
      refine g_aload_n 1 dX2_hasPathOf_3 rfl rfl ?_
      refine g_geti (f := 65) dX2_hasPathOf_4 fl_X2_15 (c.1.2.2.2.2.2.2.2.2.2 f f6).2.1 (by decide) rfl ?_
      rw [show zi h 65 (b + 53 + 2 * f) = jI (nA N (248 + 20 * f + 0)) from (c.2.2.2.2.1 f hf f6).1 0 (by omega) (by omega)]
      refine g_zcmp_ge (a := ((i : Nat) : Int)) (b := (nA N (248 + 20 * f + 0))) (tgt := 31) (jI_nat i).symm rfl dX2_hasPathOf_7 (by decide) (by omega) (by omega) (fun k0 => ?_) (fun k0 => ?_)
      · exact absurd k0 (by omega)
      · have F2 := F.2.1 i (by omega)
        refine g_aload_n 1 dX2_hasPathOf_10 rfl rfl ?_
        refine g_iload_n 0 dX2_hasPathOf_11 rfl rfl ?_
        refine g_invv (M' := mX2_pathAt) (As := [.int (nI i)]) (rest := []) dX2_hasPathOf_12 ml_X2_60 okX2_pathAt imX2_pathAt seX2_pathAt ⟨(Nat.le_of_ble_eq_true rfl), (Nat.le_of_ble_eq_true rfl)⟩ (ci := 2) rfl rfl (c.1.2.2.2.2.2.2.2.2.2 f f6).2.1 rfl rfl (Nat.le_of_ble_eq_true rfl) (c_pathIn c hf f6 (by omega) F2.1) ?_
        rintro _ q1 ⟨rfl, eq1⟩
        subst q1
        show zG l w mX2_hasPathOf 15 [(2, .int (nI i)), (0, .ref (b + 53 + 2 * f)), (1, .ref (b + 53 + 2 * g))] [.int (nI (hopN N f i))] h _
        have h6 : hopN N f i < 6 := by unfold hopN; omega
        refine g_aload_n 2 dX2_hasPathOf_15 rfl rfl ?_
        refine g_iload_n 0 dX2_hasPathOf_16 rfl rfl ?_
        by_cases gl : ((i : Nat) : Int) < (nA N (248 + 20 * g + 0))
        · have G2 := G.2.1 i gl
          refine g_invv (M' := mX2_pathAt) (As := [.int (nI i)]) (rest := [.int (nI (hopN N f i))]) dX2_hasPathOf_17 ml_X2_60 okX2_pathAt imX2_pathAt seX2_pathAt ⟨(Nat.le_of_ble_eq_true rfl), (Nat.le_of_ble_eq_true rfl)⟩ (ci := 2) rfl rfl (c.1.2.2.2.2.2.2.2.2.2 g g6).2.1 rfl rfl (Nat.le_of_ble_eq_true rfl) (c_pathIn c hg g6 gl G2.1) ?_
          rintro _ q2 ⟨rfl, eq2⟩
          subst q2
          show zG l w mX2_hasPathOf 20 [(2, .int (nI i)), (0, .ref (b + 53 + 2 * f)), (1, .ref (b + 53 + 2 * g))] [.int (nI (hopN N g i)), .int (nI (hopN N f i))] h _
          have h7 : hopN N g i < 6 := by unfold hopN; omega
          refine g_zcmp_eq (a := ((hopN N f i : Nat) : Int)) (b := ((hopN N g i : Nat) : Int)) (tgt := 25) (jI_nat (hopN N f i)).symm (jI_nat (hopN N g i)).symm dX2_hasPathOf_20 (by decide) (by omega) (by omega) (fun e => ?_) (fun e => ?_)
          · refine g_inc (v := nI (i + 1)) (lv2 := [(2, .int (nI (i + 1))), (0, .ref (b + 53 + 2 * f)), (1, .ref (b + 53 + 2 * g))]) 0 dX2_hasPathOf_25 rfl (nI_add _ 1) (by decide) rfl ?_
            refine g_goto (tgt := 2) dX2_hasPathOf_28 (by decide) ?_
            exact ih (i + 1) (by omega) (by rw [lkU, hu, Bool.true_and, en2, if_neg (by decide)]; exact decide_eq_true (by omega))
          · have u9 : lkU N f g false (i + 1) = false := by rw [lkU, hu, Bool.true_and, en2, if_neg (by decide)]; exact decide_eq_false (by omega)
            refine g_iconst (v := bI false) dX2_hasPathOf_23 (by decide) ?_
            refine g_zreturn dX2_hasPathOf_24 rfl (bI_nar _) ?_
            exact ⟨by rw [show likeN N f g false = false by unfold likeN; rw [en2, lkU_mono u9 n (by omega), Bool.and_false]], rfl⟩
        · refine zG.top (show nI i = jI ((i : Nat) : Int) from (jI_nat _).symm) ?_
          refine g_invv (M' := mX2_pathAt) (As := [.int (jI ((i : Nat) : Int))]) (rest := [.int (nI (hopN N f i))]) dX2_hasPathOf_17 ml_X2_60 okX2_pathAt imX2_pathAt seX2_pathAt ⟨(Nat.le_of_ble_eq_true rfl), (Nat.le_of_ble_eq_true rfl)⟩ (ci := 2) rfl rfl (c.1.2.2.2.2.2.2.2.2.2 g g6).2.1 rfl rfl (Nat.le_of_ble_eq_true rfl) (c_pathOut c hg g6 (by omega) (by omega) (by omega)) ?_
          rintro _ q3 ⟨rfl, eq3⟩
          subst q3
          show zG l w mX2_hasPathOf 20 [(2, .int (nI i)), (0, .ref (b + 53 + 2 * f)), (1, .ref (b + 53 + 2 * g))] [.int (-1), .int (nI (hopN N f i))] h _
          refine g_zcmp_eq (a := ((hopN N f i : Nat) : Int)) (b := (-1)) (tgt := 25) (jI_nat (hopN N f i)).symm (by decide) dX2_hasPathOf_20 (by decide) (by omega) (by omega) (fun e => ?_) (fun e => ?_)
          · exact absurd e (by omega)
          · refine g_iconst (v := bI false) dX2_hasPathOf_23 (by decide) ?_
            refine g_zreturn dX2_hasPathOf_24 rfl (bI_nar _) ?_
            exact ⟨by rw [show likeN N f g false = false by unfold likeN; rw [decide_eq_false (by omega), Bool.false_and]], rfl⟩
  refine g_iconst (v := nI 0) dX2_hasPathOf_0 (by decide) ?_
  refine g_istore_n (lv2 := [(2, .int (nI 0)), (0, .ref (b + 53 + 2 * f)), (1, .ref (b + 53 + 2 * g))]) dX2_hasPathOf_1 rfl (by decide) rfl ?_
  exact zG.sub [0, 1, 2] rfl (loop n 0 (Nat.zero_add _) rfl)
theorem c_hasPathBackwards (c : CX h b π ls N X t) (hI : iN [] N) {f g : Nat} (hf : (f : Int) < nA N 1) (hg : (g : Int) < nA N 1) : zM l w mX2_hasPathBackwards [.ref (b + 53 + 2 * f), .ref (b + 53 + 2 * g)] h (fun u h1 => u = some (.int (bI (likeN N f g true))) ∧ h1 = h) := by
  refine zM.of (by decide) (Nat.le_of_ble_eq_true rfl) ?_
  have H0 := hI.H.1
  have H1 := hI.H.2.1
  have f6 : f < 6 := by omega
  have g6 : g < 6 := by omega
  have F := hI.F f hf
  have G := hI.F g hg
  have F1 := F.1
  have G1 := G.1
  obtain ⟨n, en⟩ : ∃ n : Nat, (nA N (248 + 20 * f + 0)) = (n : Int) := ⟨_, (Int.toNat_of_nonneg (by omega)).symm⟩
  have en2 : (nA N (248 + 20 * f + 0)).toNat = n := by omega
  have loop : ∀ k i : Nat, i + k = n → lkU N f g true i = true → zG l w mX2_hasPathBackwards 2 [(2, .int (nI i)), (0, .ref (b + 53 + 2 * f)), (1, .ref (b + 53 + 2 * g))] [] h (fun u h1 => u = some (.int (bI (likeN N f g true))) ∧ h1 = h) := by
    intro k
    induction k with
    | zero =>
      intro i hi hu
      refine g_iload_n 0 dX2_hasPathBackwards_2 rfl rfl ?_
      refine g_aload_n 1 dX2_hasPathBackwards_3 rfl rfl ?_
      refine g_geti (f := 65) dX2_hasPathBackwards_4 fl_X2_15 (c.1.2.2.2.2.2.2.2.2.2 f f6).2.1 (by decide) rfl ?_
      rw [show zi h 65 (b + 53 + 2 * f) = jI (nA N (248 + 20 * f + 0)) from (c.2.2.2.2.1 f hf f6).1 0 (by omega) (by omega)]
      refine g_zcmp_ge (a := ((i : Nat) : Int)) (b := (nA N (248 + 20 * f + 0))) (tgt := 38) (jI_nat i).symm rfl dX2_hasPathBackwards_7 (by decide) (by omega) (by omega) (fun k0 => ?_) (fun k0 => ?_)
      · refine g_aload_n 1 dX2_hasPathBackwards_38 rfl rfl ?_
        refine g_geti (f := 65) dX2_hasPathBackwards_39 fl_X2_15 (c.1.2.2.2.2.2.2.2.2.2 f f6).2.1 (by decide) rfl ?_
        rw [show zi h 65 (b + 53 + 2 * f) = jI (nA N (248 + 20 * f + 0)) from (c.2.2.2.2.1 f hf f6).1 0 (by omega) (by omega)]
        refine g_aload_n 2 dX2_hasPathBackwards_42 rfl rfl ?_
        refine g_geti (f := 65) dX2_hasPathBackwards_43 fl_X2_15 (c.1.2.2.2.2.2.2.2.2.2 g g6).2.1 (by decide) rfl ?_
        rw [show zi h 65 (b + 53 + 2 * g) = jI (nA N (248 + 20 * g + 0)) from (c.2.2.2.2.1 g hg g6).1 0 (by omega) (by omega)]
        refine g_zcmp_ne (a := (nA N (248 + 20 * f + 0))) (b := (nA N (248 + 20 * g + 0))) (tgt := 53) rfl rfl dX2_hasPathBackwards_46 (by decide) (by omega) (by omega) (fun e => ?_) (fun e => ?_)
        · refine g_iconst (v := bI false) dX2_hasPathBackwards_53 (by decide) ?_
          refine g_zreturn dX2_hasPathBackwards_54 rfl (bI_nar _) ?_
          exact ⟨by rw [show likeN N f g true = false by unfold likeN; rw [decide_eq_false (by omega), Bool.false_and]], rfl⟩
        · refine g_iconst (v := bI true) dX2_hasPathBackwards_49 (by decide) ?_
          refine g_goto (tgt := 54) dX2_hasPathBackwards_50 (by decide) ?_
          refine g_zreturn dX2_hasPathBackwards_54 rfl (bI_nar _) ?_
          exact ⟨by rw [show likeN N f g true = true by unfold likeN; rw [decide_eq_true (by omega), Bool.true_and, en2, ← show i = n by omega]; exact hu], rfl⟩
      · exact absurd k0 (by omega)
    | succ k ih =>
      intro i hi hu
      refine g_iload_n 0 dX2_hasPathBackwards_2 rfl rfl ?_
      refine g_aload_n 1 dX2_hasPathBackwards_3 rfl rfl ?_
      refine g_geti (f := 65) dX2_hasPathBackwards_4 fl_X2_15 (c.1.2.2.2.2.2.2.2.2.2 f f6).2.1 (by decide) rfl ?_
      rw [show zi h 65 (b + 53 + 2 * f) = jI (nA N (248 + 20 * f + 0)) from (c.2.2.2.2.1 f hf f6).1 0 (by omega) (by omega)]
      refine g_zcmp_ge (a := ((i : Nat) : Int)) (b := (nA N (248 + 20 * f + 0))) (tgt := 38) (jI_nat i).symm rfl dX2_hasPathBackwards_7 (by decide) (by omega) (by omega) (fun k0 => ?_) (fun k0 => ?_)
      · exact absurd k0 (by omega)
      · have F2 := F.2.1 i (by omega)
        refine g_aload_n 1 dX2_hasPathBackwards_10 rfl rfl ?_
        refine g_iload_n 0 dX2_hasPathBackwards_11 rfl rfl ?_
        refine g_invv (M' := mX2_pathAt) (As := [.int (nI i)]) (rest := []) dX2_hasPathBackwards_12 ml_X2_60 okX2_pathAt imX2_pathAt seX2_pathAt ⟨(Nat.le_of_ble_eq_true rfl), (Nat.le_of_ble_eq_true rfl)⟩ (ci := 2) rfl rfl (c.1.2.2.2.2.2.2.2.2.2 f f6).2.1 rfl rfl (Nat.le_of_ble_eq_true rfl) (c_pathIn c hf f6 (by omega) F2.1) ?_
        rintro _ q1 ⟨rfl, eq1⟩
        subst q1
        show zG l w mX2_hasPathBackwards 15 [(2, .int (nI i)), (0, .ref (b + 53 + 2 * f)), (1, .ref (b + 53 + 2 * g))] [.int (nI (hopN N f i))] h _
        have h6 : hopN N f i < 6 := by unfold hopN; omega
        refine g_aload_n 2 dX2_hasPathBackwards_15 rfl rfl ?_
        refine g_aload_n 1 dX2_hasPathBackwards_16 rfl rfl ?_
        refine g_geti (f := 65) dX2_hasPathBackwards_17 fl_X2_15 (c.1.2.2.2.2.2.2.2.2.2 f f6).2.1 (by decide) rfl ?_
        rw [show zi h 65 (b + 53 + 2 * f) = jI (nA N (248 + 20 * f + 0)) from (c.2.2.2.2.1 f hf f6).1 0 (by omega) (by omega)]
        refine zG.top (show jI (nA N (248 + 20 * f + 0)) = nI n by rw [en, jI_nat]) ?_
        refine g_iconst (v := nI 1) dX2_hasPathBackwards_20 (by decide) ?_
        refine g_isub dX2_hasPathBackwards_21 ?_
        refine zG.top (nI_sub (a := n) (c := 1) (by omega)) ?_
        refine g_iload_n 0 dX2_hasPathBackwards_22 rfl rfl ?_
        refine g_isub dX2_hasPathBackwards_23 ?_
        refine zG.top (nI_sub (a := n - 1) (c := i) (by omega)) ?_
        by_cases gl : (((n - 1 - i) : Nat) : Int) < (nA N (248 + 20 * g + 0))
        · have G2 := G.2.1 (n - 1 - i) gl
          refine g_invv (M' := mX2_pathAt) (As := [.int (nI (n - 1 - i))]) (rest := [.int (nI (hopN N f i))]) dX2_hasPathBackwards_24 ml_X2_60 okX2_pathAt imX2_pathAt seX2_pathAt ⟨(Nat.le_of_ble_eq_true rfl), (Nat.le_of_ble_eq_true rfl)⟩ (ci := 2) rfl rfl (c.1.2.2.2.2.2.2.2.2.2 g g6).2.1 rfl rfl (Nat.le_of_ble_eq_true rfl) (c_pathIn c hg g6 gl G2.1) ?_
          rintro _ q2 ⟨rfl, eq2⟩
          subst q2
          show zG l w mX2_hasPathBackwards 27 [(2, .int (nI i)), (0, .ref (b + 53 + 2 * f)), (1, .ref (b + 53 + 2 * g))] [.int (nI (hopN N g (n - 1 - i))), .int (nI (hopN N f i))] h _
          have h7 : hopN N g (n - 1 - i) < 6 := by unfold hopN; omega
          refine g_zcmp_eq (a := ((hopN N f i : Nat) : Int)) (b := ((hopN N g (n - 1 - i) : Nat) : Int)) (tgt := 32) (jI_nat (hopN N f i)).symm (jI_nat (hopN N g (n - 1 - i))).symm dX2_hasPathBackwards_27 (by decide) (by omega) (by omega) (fun e => ?_) (fun e => ?_)
          · refine g_inc (v := nI (i + 1)) (lv2 := [(2, .int (nI (i + 1))), (0, .ref (b + 53 + 2 * f)), (1, .ref (b + 53 + 2 * g))]) 0 dX2_hasPathBackwards_32 rfl (nI_add _ 1) (by decide) rfl ?_
            refine g_goto (tgt := 2) dX2_hasPathBackwards_35 (by decide) ?_
            exact ih (i + 1) (by omega) (by rw [lkU, hu, Bool.true_and, en2, if_pos rfl]; exact decide_eq_true (by omega))
          · have u9 : lkU N f g true (i + 1) = false := by rw [lkU, hu, Bool.true_and, en2, if_pos rfl]; exact decide_eq_false (by omega)
            refine g_iconst (v := bI false) dX2_hasPathBackwards_30 (by decide) ?_
            refine g_zreturn dX2_hasPathBackwards_31 rfl (bI_nar _) ?_
            exact ⟨by rw [show likeN N f g true = false by unfold likeN; rw [en2, lkU_mono u9 n (by omega), Bool.and_false]], rfl⟩
        · refine zG.top (show nI (n - 1 - i) = jI (((n - 1 - i) : Nat) : Int) from (jI_nat _).symm) ?_
          refine g_invv (M' := mX2_pathAt) (As := [.int (jI (((n - 1 - i) : Nat) : Int))]) (rest := [.int (nI (hopN N f i))]) dX2_hasPathBackwards_24 ml_X2_60 okX2_pathAt imX2_pathAt seX2_pathAt ⟨(Nat.le_of_ble_eq_true rfl), (Nat.le_of_ble_eq_true rfl)⟩ (ci := 2) rfl rfl (c.1.2.2.2.2.2.2.2.2.2 g g6).2.1 rfl rfl (Nat.le_of_ble_eq_true rfl) (c_pathOut c hg g6 (by omega) (by omega) (by omega)) ?_
          rintro _ q3 ⟨rfl, eq3⟩
          subst q3
          show zG l w mX2_hasPathBackwards 27 [(2, .int (nI i)), (0, .ref (b + 53 + 2 * f)), (1, .ref (b + 53 + 2 * g))] [.int (-1), .int (nI (hopN N f i))] h _
          refine g_zcmp_eq (a := ((hopN N f i : Nat) : Int)) (b := (-1)) (tgt := 32) (jI_nat (hopN N f i)).symm (by decide) dX2_hasPathBackwards_27 (by decide) (by omega) (by omega) (fun e => ?_) (fun e => ?_)
          · exact absurd e (by omega)
          · refine g_iconst (v := bI false) dX2_hasPathBackwards_30 (by decide) ?_
            refine g_zreturn dX2_hasPathBackwards_31 rfl (bI_nar _) ?_
            exact ⟨by rw [show likeN N f g true = false by unfold likeN; rw [decide_eq_false (by omega), Bool.false_and]], rfl⟩
  refine g_iconst (v := nI 0) dX2_hasPathBackwards_0 (by decide) ?_
  refine g_istore_n (lv2 := [(2, .int (nI 0)), (0, .ref (b + 53 + 2 * f)), (1, .ref (b + 53 + 2 * g))]) dX2_hasPathBackwards_1 rfl (by decide) rfl ?_
  exact zG.sub [0, 1, 2] rfl (loop n 0 (Nat.zero_add _) rfl)
theorem c_alikeC (c : CX h b π ls N [] t) (xo : XO h x b) (hI : iN [] N) {z k : Int} (zb : -2147483648 ≤ z ∧ z < 2147483648) (kb : -2147483648 ≤ k ∧ k < 2147483648) : zM l w mX9_alike [.ref x, .int (jI z), .int (jI k)] h (fun u h1 => u = some (.int (jI (qAlike N z k).2)) ∧ h1 = zSi h 290 x (jI (qAlike N z k).1)) := by
  refine zM.of (by decide) (Nat.le_of_ble_eq_true rfl) ?_
  have H1 := hI.H.2.1
  refine g_aload_n 0 dX9_alike_0 rfl rfl ?_
  refine g_getr (f := 293) (b := b) dX9_alike_1 fl_X9_23 xo.1 rfl xo.2 ?_
  refine g_iload_n 1 dX9_alike_4 rfl rfl ?_
  by_cases d1 : 0 ≤ z ∧ z < nA N 1
  · refine zG.top (show jI z = nI z.toNat by rw [← jI_nat, Int.toNat_of_nonneg d1.1]) ?_
    refine g_invv (M' := mX5_flowAt) (As := [.int (nI z.toNat)]) (rest := []) dX9_alike_5 ml_X9_127 okX5_flowAt imX5_flowAt seX5_flowAt ⟨(Nat.le_of_ble_eq_true rfl), (Nat.le_of_ble_eq_true rfl)⟩ (ci := 5) rfl rfl c.1.1.2 rfl rfl (Nat.le_of_ble_eq_true rfl) (c_flowIn c H1 (a := z.toNat) (by omega)) ?_
    rintro _ q6 ⟨rfl, eq6⟩
    subst q6
    show zG l w mX9_alike 8 [(0, .ref x), (1, .int (jI z)), (2, .int (jI k))] [.ref (b + 53 + 2 * z.toNat)] h _
    refine g_astore_n (lv2 := [(3, .ref (b + 53 + 2 * z.toNat)), (0, .ref x), (1, .int (jI z)), (2, .int (jI k))]) dX9_alike_8 rfl (by decide) rfl ?_
    refine g_aload_n 1 dX9_alike_9 rfl rfl ?_
    refine g_getr (f := 293) (b := b) dX9_alike_10 fl_X9_23 xo.1 rfl xo.2 ?_
    refine g_iload_n 3 dX9_alike_13 rfl rfl ?_
    by_cases d2 : 0 ≤ k ∧ k < nA N 1
    · refine zG.top (show jI k = nI k.toNat by rw [← jI_nat, Int.toNat_of_nonneg d2.1]) ?_
      refine g_invv (M' := mX5_flowAt) (As := [.int (nI k.toNat)]) (rest := []) dX9_alike_14 ml_X9_127 okX5_flowAt imX5_flowAt seX5_flowAt ⟨(Nat.le_of_ble_eq_true rfl), (Nat.le_of_ble_eq_true rfl)⟩ (ci := 5) rfl rfl c.1.1.2 rfl rfl (Nat.le_of_ble_eq_true rfl) (c_flowIn c H1 (a := k.toNat) (by omega)) ?_
      rintro _ q9 ⟨rfl, eq9⟩
      subst q9
      show zG l w mX9_alike 17 [(3, .ref (b + 53 + 2 * z.toNat)), (0, .ref x), (1, .int (jI z)), (2, .int (jI k))] [.ref (b + 53 + 2 * k.toNat)] h _
      rw [show qAlike N z k = (0, if likeN N z.toNat k.toNat false then 2 else if likeN N z.toNat k.toNat true then 1 else 0) by unfold qAlike; rw [if_pos ⟨d1, d2⟩]]
      refine g_astore (lv2 := [(4, .ref (b + 53 + 2 * k.toNat)), (3, .ref (b + 53 + 2 * z.toNat)), (0, .ref x), (1, .int (jI z)), (2, .int (jI k))]) dX9_alike_17 (by decide) rfl ?_
      refine g_aload_n 1 dX9_alike_19 rfl rfl ?_
      refine g_ifnull dX9_alike_20 ?_
      refine g_aload 0 dX9_alike_23 rfl ?_
      refine g_ifnonnull (tgt := 34) dX9_alike_25 (by decide) ?_
      refine g_aload_n 1 dX9_alike_34 rfl rfl ?_
      refine g_aload 0 dX9_alike_35 rfl ?_
      refine g_invv (M' := mX2_hasPathOf) (As := [.ref (b + 53 + 2 * k.toNat)]) (rest := []) dX9_alike_37 ml_X9_204 okX2_hasPathOf imX2_hasPathOf seX2_hasPathOf ⟨(Nat.le_of_ble_eq_true rfl), (Nat.le_of_ble_eq_true rfl)⟩ (ci := 2) rfl rfl (c.1.2.2.2.2.2.2.2.2.2 z.toNat (by omega)).2.1 rfl rfl (Nat.le_of_ble_eq_true rfl) (c_hasPathOf c hI (f := z.toNat) (g := k.toNat) (by omega) (by omega)) ?_
      rintro _ q10 ⟨rfl, eq10⟩
      subst q10
      show zG l w mX9_alike 40 [(4, .ref (b + 53 + 2 * k.toNat)), (3, .ref (b + 53 + 2 * z.toNat)), (0, .ref x), (1, .int (jI z)), (2, .int (jI k))] [.int (bI (likeN N z.toNat k.toNat false))] h _
      refine g_bif_eq (tgt := 49) dX9_alike_40 (by decide) (fun e => ?_) (fun e => ?_)
      · refine g_aload_n 2 dX9_alike_49 rfl rfl ?_
        refine g_aload_n 1 dX9_alike_50 rfl rfl ?_
        refine g_aload 0 dX9_alike_51 rfl ?_
        refine g_invv (M' := mX2_hasPathBackwards) (As := [.ref (b + 53 + 2 * k.toNat)]) (rest := [.ref x]) dX9_alike_53 ml_X9_208 okX2_hasPathBackwards imX2_hasPathBackwards seX2_hasPathBackwards ⟨(Nat.le_of_ble_eq_true rfl), (Nat.le_of_ble_eq_true rfl)⟩ (ci := 2) rfl rfl (c.1.2.2.2.2.2.2.2.2.2 z.toNat (by omega)).2.1 rfl rfl (Nat.le_of_ble_eq_true rfl) (c_hasPathBackwards c hI (f := z.toNat) (g := k.toNat) (by omega) (by omega)) ?_
        rintro _ q12 ⟨rfl, eq12⟩
        subst q12
        show zG l w mX9_alike 56 [(4, .ref (b + 53 + 2 * k.toNat)), (3, .ref (b + 53 + 2 * z.toNat)), (0, .ref x), (1, .int (jI z)), (2, .int (jI k))] [.int (bI (likeN N z.toNat k.toNat true)), .ref x] h _
        refine g_bif_eq (tgt := 63) dX9_alike_56 (by decide) (fun e2 => ?_) (fun e2 => ?_)
        · refine g_iconst (v := nI 0) dX9_alike_63 (by decide) ?_
          refine g_invv (M' := mX9_answer) (As := [.int (nI 0)]) (rest := []) dX9_alike_64 ml_X9_75 okX9_answer imX9_answer seX9_answer ⟨(Nat.le_of_ble_eq_true rfl), (Nat.le_of_ble_eq_true rfl)⟩ (ci := 9) rfl rfl xo.1 rfl rfl (Nat.le_of_ble_eq_true rfl) (c_ans xo.1) ?_
          rintro _ q13 ⟨rfl, eq13⟩
          subst q13
          show zG l w mX9_alike 67 [(4, .ref (b + 53 + 2 * k.toNat)), (3, .ref (b + 53 + 2 * z.toNat)), (0, .ref x), (1, .int (jI z)), (2, .int (jI k))] [.int (nI 0)] (zSi h 290 x (nI 0)) _
          refine g_ireturn dX9_alike_67 rfl ?_
          exact ⟨by rw [e, e2]; rfl, rfl⟩
        · refine g_iconst (v := nI 1) dX9_alike_59 (by decide) ?_
          refine g_goto (tgt := 64) dX9_alike_60 (by decide) ?_
          refine g_invv (M' := mX9_answer) (As := [.int (nI 1)]) (rest := []) dX9_alike_64 ml_X9_75 okX9_answer imX9_answer seX9_answer ⟨(Nat.le_of_ble_eq_true rfl), (Nat.le_of_ble_eq_true rfl)⟩ (ci := 9) rfl rfl xo.1 rfl rfl (Nat.le_of_ble_eq_true rfl) (c_ans xo.1) ?_
          rintro _ q14 ⟨rfl, eq14⟩
          subst q14
          show zG l w mX9_alike 67 [(4, .ref (b + 53 + 2 * k.toNat)), (3, .ref (b + 53 + 2 * z.toNat)), (0, .ref x), (1, .int (jI z)), (2, .int (jI k))] [.int (nI 1)] (zSi h 290 x (nI 0)) _
          refine g_ireturn dX9_alike_67 rfl ?_
          exact ⟨by rw [e, e2]; rfl, rfl⟩
      · refine g_aload_n 2 dX9_alike_43 rfl rfl ?_
        refine g_iconst (v := nI 2) dX9_alike_44 (by decide) ?_
        refine g_invv (M' := mX9_answer) (As := [.int (nI 2)]) (rest := []) dX9_alike_45 ml_X9_75 okX9_answer imX9_answer seX9_answer ⟨(Nat.le_of_ble_eq_true rfl), (Nat.le_of_ble_eq_true rfl)⟩ (ci := 9) rfl rfl xo.1 rfl rfl (Nat.le_of_ble_eq_true rfl) (c_ans xo.1) ?_
        rintro _ q11 ⟨rfl, eq11⟩
        subst q11
        show zG l w mX9_alike 48 [(4, .ref (b + 53 + 2 * k.toNat)), (3, .ref (b + 53 + 2 * z.toNat)), (0, .ref x), (1, .int (jI z)), (2, .int (jI k))] [.int (nI 2)] (zSi h 290 x (nI 0)) _
        refine g_ireturn dX9_alike_48 rfl ?_
        exact ⟨by rw [e]; rfl, rfl⟩
    · refine g_invv (M' := mX5_flowAt) (As := [.int (jI k)]) (rest := []) dX9_alike_14 ml_X9_127 okX5_flowAt imX5_flowAt seX5_flowAt ⟨(Nat.le_of_ble_eq_true rfl), (Nat.le_of_ble_eq_true rfl)⟩ (ci := 5) rfl rfl c.1.1.2 rfl rfl (Nat.le_of_ble_eq_true rfl) (c_flowOut c H1 kb d2) ?_
      rintro _ q7 ⟨rfl, eq7⟩
      subst q7
      show zG l w mX9_alike 17 [(3, .ref (b + 53 + 2 * z.toNat)), (0, .ref x), (1, .int (jI z)), (2, .int (jI k))] [.null] h _
      refine g_astoreN (lv2 := [(4, .null), (3, .ref (b + 53 + 2 * z.toNat)), (0, .ref x), (1, .int (jI z)), (2, .int (jI k))]) dX9_alike_17 (by decide) rfl ?_
      refine g_aload_n 1 dX9_alike_19 rfl rfl ?_
      refine g_ifnull dX9_alike_20 ?_
      refine g_aloadN 0 dX9_alike_23 rfl ?_
      refine g_ifnonnullN dX9_alike_25 ?_
      refine g_aload_n 2 dX9_alike_28 rfl rfl ?_
      refine g_iconst (v := nI 2) dX9_alike_29 (by decide) ?_
      refine g_invv (M' := mX9_refuse) (As := [.int (nI 2)]) (rest := []) dX9_alike_30 ml_X9_58 okX9_refuse imX9_refuse seX9_refuse ⟨(Nat.le_of_ble_eq_true rfl), (Nat.le_of_ble_eq_true rfl)⟩ (ci := 9) rfl rfl xo.1 rfl rfl (Nat.le_of_ble_eq_true rfl) (c_refC xo.1) ?_
      rintro _ q8 ⟨rfl, eq8⟩
      subst q8
      show zG l w mX9_alike 33 [(4, .null), (3, .ref (b + 53 + 2 * z.toNat)), (0, .ref x), (1, .int (jI z)), (2, .int (jI k))] [.int (-1)] (zSi h 290 x (nI 2)) _
      refine g_ireturn dX9_alike_33 rfl ?_
      rw [show qAlike N z k = (2, -1) by unfold qAlike; rw [if_neg (by omega)]]
      exact ⟨rfl, rfl⟩
  · refine g_invv (M' := mX5_flowAt) (As := [.int (jI z)]) (rest := []) dX9_alike_5 ml_X9_127 okX5_flowAt imX5_flowAt seX5_flowAt ⟨(Nat.le_of_ble_eq_true rfl), (Nat.le_of_ble_eq_true rfl)⟩ (ci := 5) rfl rfl c.1.1.2 rfl rfl (Nat.le_of_ble_eq_true rfl) (c_flowOut c H1 zb d1) ?_
    rintro _ q1 ⟨rfl, eq1⟩
    subst q1
    show zG l w mX9_alike 8 [(0, .ref x), (1, .int (jI z)), (2, .int (jI k))] [.null] h _
    refine g_astore_nN (lv2 := [(3, .null), (0, .ref x), (1, .int (jI z)), (2, .int (jI k))]) dX9_alike_8 rfl (by decide) rfl ?_
    refine g_aload_n 1 dX9_alike_9 rfl rfl ?_
    refine g_getr (f := 293) (b := b) dX9_alike_10 fl_X9_23 xo.1 rfl xo.2 ?_
    refine g_iload_n 3 dX9_alike_13 rfl rfl ?_
    by_cases d2 : 0 ≤ k ∧ k < nA N 1
    · refine zG.top (show jI k = nI k.toNat by rw [← jI_nat, Int.toNat_of_nonneg d2.1]) ?_
      refine g_invv (M' := mX5_flowAt) (As := [.int (nI k.toNat)]) (rest := []) dX9_alike_14 ml_X9_127 okX5_flowAt imX5_flowAt seX5_flowAt ⟨(Nat.le_of_ble_eq_true rfl), (Nat.le_of_ble_eq_true rfl)⟩ (ci := 5) rfl rfl c.1.1.2 rfl rfl (Nat.le_of_ble_eq_true rfl) (c_flowIn c H1 (a := k.toNat) (by omega)) ?_
      rintro _ q2 ⟨rfl, eq2⟩
      subst q2
      show zG l w mX9_alike 17 [(3, .null), (0, .ref x), (1, .int (jI z)), (2, .int (jI k))] [.ref (b + 53 + 2 * k.toNat)] h _
      refine g_astore (lv2 := [(4, .ref (b + 53 + 2 * k.toNat)), (3, .null), (0, .ref x), (1, .int (jI z)), (2, .int (jI k))]) dX9_alike_17 (by decide) rfl ?_
      refine g_aload_nN 1 dX9_alike_19 rfl rfl ?_
      refine g_ifnullN (tgt := 28) dX9_alike_20 (by decide) ?_
      refine g_aload_n 2 dX9_alike_28 rfl rfl ?_
      refine g_iconst (v := nI 2) dX9_alike_29 (by decide) ?_
      refine g_invv (M' := mX9_refuse) (As := [.int (nI 2)]) (rest := []) dX9_alike_30 ml_X9_58 okX9_refuse imX9_refuse seX9_refuse ⟨(Nat.le_of_ble_eq_true rfl), (Nat.le_of_ble_eq_true rfl)⟩ (ci := 9) rfl rfl xo.1 rfl rfl (Nat.le_of_ble_eq_true rfl) (c_refC xo.1) ?_
      rintro _ q3 ⟨rfl, eq3⟩
      subst q3
      show zG l w mX9_alike 33 [(4, .ref (b + 53 + 2 * k.toNat)), (3, .null), (0, .ref x), (1, .int (jI z)), (2, .int (jI k))] [.int (-1)] (zSi h 290 x (nI 2)) _
      refine g_ireturn dX9_alike_33 rfl ?_
      rw [show qAlike N z k = (2, -1) by unfold qAlike; rw [if_neg (by omega)]]
      exact ⟨rfl, rfl⟩
    · refine g_invv (M' := mX5_flowAt) (As := [.int (jI k)]) (rest := []) dX9_alike_14 ml_X9_127 okX5_flowAt imX5_flowAt seX5_flowAt ⟨(Nat.le_of_ble_eq_true rfl), (Nat.le_of_ble_eq_true rfl)⟩ (ci := 5) rfl rfl c.1.1.2 rfl rfl (Nat.le_of_ble_eq_true rfl) (c_flowOut c H1 kb d2) ?_
      rintro _ q4 ⟨rfl, eq4⟩
      subst q4
      show zG l w mX9_alike 17 [(3, .null), (0, .ref x), (1, .int (jI z)), (2, .int (jI k))] [.null] h _
      refine g_astoreN (lv2 := [(4, .null), (3, .null), (0, .ref x), (1, .int (jI z)), (2, .int (jI k))]) dX9_alike_17 (by decide) rfl ?_
      refine g_aload_nN 1 dX9_alike_19 rfl rfl ?_
      refine g_ifnullN (tgt := 28) dX9_alike_20 (by decide) ?_
      refine g_aload_n 2 dX9_alike_28 rfl rfl ?_
      refine g_iconst (v := nI 2) dX9_alike_29 (by decide) ?_
      refine g_invv (M' := mX9_refuse) (As := [.int (nI 2)]) (rest := []) dX9_alike_30 ml_X9_58 okX9_refuse imX9_refuse seX9_refuse ⟨(Nat.le_of_ble_eq_true rfl), (Nat.le_of_ble_eq_true rfl)⟩ (ci := 9) rfl rfl xo.1 rfl rfl (Nat.le_of_ble_eq_true rfl) (c_refC xo.1) ?_
      rintro _ q5 ⟨rfl, eq5⟩
      subst q5
      show zG l w mX9_alike 33 [(4, .null), (3, .null), (0, .ref x), (1, .int (jI z)), (2, .int (jI k))] [.int (-1)] (zSi h 290 x (nI 2)) _
      refine g_ireturn dX9_alike_33 rfl ?_
      rw [show qAlike N z k = (2, -1) by unfold qAlike; rw [if_neg (by omega)]]
      exact ⟨rfl, rfl⟩
end QJ
