section QI
variable {l : Launch} {w : zW} {h : zH} {m x b : Nat} {π : Nat → Nat} {ls : Nat → List Nat} {N : nT} {X : List Nat} {t : Nat}
def tpN (N : nT) (y : Nat) : Nat → Nat
  | 0 => 0
  | n + 1 => if n = 0 then 0 else if nA N (248 + 20 * (tpN N y n) + y) < nA N (248 + 20 * n + y) then n else tpN N y n
theorem tpN_lt {y : Nat} : ∀ n, 0 < n → tpN N y n < n := by
  intro n
  induction n with
  | zero => intro h; exact absurd h (by omega)
  | succ n ih =>
    intro _
    unfold tpN
    split
    · omega
    · have := ih (by omega)
      split <;> omega
def byK (k : Nat) : Nat := if k = 0 then 5 else if k = 1 then 9 else 10
def qTop (N : nT) (k : Int) : Int × Int := if 0 ≤ k ∧ k ≤ 2 then (if nA N 1 = 0 then (5, -1) else (0, (tpN N (byK k.toNat) (nA N 1).toNat : Int))) else (1, -1)
theorem iN.tb (h : iN X N) {f y : Nat} (hf : (f : Int) < nA N 1) (hy : y = 5 ∨ y = 9 ∨ y = 10) : 0 ≤ nA N (248 + 20 * f + y) ∧ nA N (248 + 20 * f + y) ≤ 80000 := by
  have F := h.F f hf
  have H1 := h.H.2.1
  have Y := (h.Y f (by omega)).1
  have F5 := F.2.2.2.2.2.1
  have F9 := F.2.2.2.2.2.2.2
  rcases hy with rfl | rfl | rfl
  · omega
  · omega
  · omega
theorem c_topM (r : MoN h m N) (hI : iN [] N) {k : Int} (kb : -2147483648 ≤ k ∧ k < 2147483648) : zM l w mX10_top [.ref m, .int (jI k)] h (fun u h1 => u = some (.int (jI (qTop N k).2)) ∧ h1 = zSi h 321 m (jI (qTop N k).1)) := by
  refine zM.of (by decide) (Nat.le_of_ble_eq_true rfl) ?_
  have H1 := hI.H.2.1
  have hB := hI.B
  refine g_iload_n 1 dX10_top_0 rfl rfl ?_
  refine g_i2l dX10_top_1 ?_
  rw [jI_l (by omega) (by omega)]
  refine g_lconst (v := jL 0) dX10_top_2 (by decide) ?_
  refine g_ldc2J (z := 2) dX10_top_3 kl_X10_116 (by decide) ?_
  refine g_invs (M' := mX10_isFrom) (As := [.long (jL k), .long (jL 0), .long (jL 2)]) (rest := []) dX10_top_6 ml_X10_252 okX10_isFrom stX10_isFrom ⟨(Nat.le_of_ble_eq_true rfl), (Nat.le_of_ble_eq_true rfl)⟩ rfl rfl (Nat.le_of_ble_eq_true rfl) (c_isFrom (by omega) (by omega) (by omega)) ?_
  rintro _ q1 ⟨rfl, eq1⟩
  subst q1
  show zG l w mX10_top 9 [(0, .ref m), (1, .int (jI k))] [.int (bI (decide (0 ≤ k ∧ k ≤ 2)))] h _
  refine g_bif_ne (tgt := 18) dX10_top_9 (by decide) (fun c => ?_) (fun c => ?_)
  · have c := of_decide_eq_true c
    refine g_aload_n 0 dX10_top_18 rfl rfl ?_
    refine g_iconst (v := nI 1) dX10_top_19 (by decide) ?_
    refine g_invv (M' := mX10_of) (As := [.int (nI 1)]) (rest := []) dX10_top_20 ml_X10_48 okX10_of imX10_of seX10_of ⟨(Nat.le_of_ble_eq_true rfl), (Nat.le_of_ble_eq_true rfl)⟩ (ci := 10) rfl rfl r.1.1 rfl rfl (Nat.le_of_ble_eq_true rfl) (c_ofN r (by omega) (by unfold nSp; omega)) ?_
    rintro _ q3 ⟨rfl, eq3⟩
    subst q3
    show zG l w mX10_top 23 [(0, .ref m), (1, .int (jI k))] [.long (jL (nA N 1))] h _
    refine g_lconst (v := jL 0) dX10_top_23 (by decide) ?_
    refine g_lif_ne (a := (nA N 1)) (b := 0) (tgt := 34) dX10_top_24 rfl dX10_top_25 (by decide) (by omega) (by omega) (fun d => ?_) (fun d => ?_)
    · have hq : qTop N k = (0, (tpN N (byK k.toNat) (nA N 1).toNat : Int)) := by unfold qTop; rw [if_pos c, if_neg d]
      rw [hq]
      clear hq
      obtain ⟨j, ej⟩ : ∃ j : Nat, k = (j : Int) := ⟨_, (Int.toNat_of_nonneg c.1).symm⟩
      subst ej
      simp only [jI_nat]
      rw [show (j : Int).toNat = j from rfl]
      have loop : ∀ y, y = byK j → (y = 5 ∨ y = 9 ∨ y = 10) → ∀ n i : Nat, 1 ≤ i → ((i + n : Nat) : Int) = nA N 1 → zG l w mX10_top 60 [(4, .int (nI i)), (3, .int (nI (tpN N y i))), (2, .int (nI y)), (0, .ref m), (1, .int (nI j))] [] h (fun u h1 => u = some (.int (jI (0, (tpN N (byK j) (nA N 1).toNat : Int)).2)) ∧ h1 = zSi h 321 m (jI (0, (tpN N (byK j) (nA N 1).toNat : Int)).1)) := by
        intro y ey hy n
        induction n with
        | zero =>
          intro i i1 hi
          have tl := tpN_lt (N := N) (y := y) i (by omega)
          refine g_iload 0 dX10_top_60 rfl ?_
          refine g_i2l dX10_top_62 ?_
          rw [nI_l (by omega), ← jL_nat]
          refine g_aload_n 3 dX10_top_63 rfl rfl ?_
          refine g_iconst (v := nI 1) dX10_top_64 (by decide) ?_
          refine g_invv (M' := mX10_of) (As := [.int (nI 1)]) (rest := [.long (jL ((i : Nat) : Int))]) dX10_top_65 ml_X10_48 okX10_of imX10_of seX10_of ⟨(Nat.le_of_ble_eq_true rfl), (Nat.le_of_ble_eq_true rfl)⟩ (ci := 10) rfl rfl r.1.1 rfl rfl (Nat.le_of_ble_eq_true rfl) (c_ofN r (by omega) (by unfold nSp; omega)) ?_
          rintro _ q5 ⟨rfl, eq5⟩
          subst q5
          show zG l w mX10_top 68 [(4, .int (nI i)), (3, .int (nI (tpN N y i))), (2, .int (nI y)), (0, .ref m), (1, .int (nI j))] [.long (jL (nA N 1)), .long (jL ((i : Nat) : Int))] h _
          refine g_lif_ge (a := ((i : Nat) : Int)) (b := (nA N 1)) (tgt := 98) dX10_top_68 rfl dX10_top_69 (by decide) (by omega) (by omega) (fun c1 => ?_) (fun c1 => ?_)
          · refine g_aload_n 3 dX10_top_98 rfl rfl ?_
            refine g_iload_n 1 dX10_top_99 rfl rfl ?_
            refine g_i2l dX10_top_100 ?_
            rw [nI_l (by omega), ← jL_nat]
            refine g_invv (M' := mX10_gives) (As := [.long (jL ((tpN N y i : Nat) : Int))]) (rest := []) dX10_top_101 ml_X10_298 okX10_gives imX10_gives seX10_gives ⟨(Nat.le_of_ble_eq_true rfl), (Nat.le_of_ble_eq_true rfl)⟩ (ci := 10) rfl rfl r.1.1 rfl rfl (Nat.le_of_ble_eq_true rfl) (c_gives r.1.1) ?_
            rintro _ q6 ⟨rfl, eq6⟩
            subst q6
            show zG l w mX10_top 104 [(4, .int (nI i)), (3, .int (nI (tpN N y i))), (2, .int (nI y)), (0, .ref m), (1, .int (nI j))] [.int (jI ((tpN N y i : Nat) : Int))] (zSi h 321 m (nI 0)) _
            refine g_ireturn dX10_top_104 rfl ?_
            rw [← ey, ← show i = (nA N 1).toNat by omega]
            exact ⟨rfl, rfl⟩
          · exact absurd c1 (by omega)
        | succ n ih =>
          intro i i1 hi
          have tl := tpN_lt (N := N) (y := y) i (by omega)
          have t1 := hI.tb (f := i) (y := y) (by omega) hy
          have t2 := hI.tb (f := tpN N y i) (y := y) (by omega) hy
          refine g_iload 0 dX10_top_60 rfl ?_
          refine g_i2l dX10_top_62 ?_
          rw [nI_l (by omega), ← jL_nat]
          refine g_aload_n 3 dX10_top_63 rfl rfl ?_
          refine g_iconst (v := nI 1) dX10_top_64 (by decide) ?_
          refine g_invv (M' := mX10_of) (As := [.int (nI 1)]) (rest := [.long (jL ((i : Nat) : Int))]) dX10_top_65 ml_X10_48 okX10_of imX10_of seX10_of ⟨(Nat.le_of_ble_eq_true rfl), (Nat.le_of_ble_eq_true rfl)⟩ (ci := 10) rfl rfl r.1.1 rfl rfl (Nat.le_of_ble_eq_true rfl) (c_ofN r (by omega) (by unfold nSp; omega)) ?_
          rintro _ q7 ⟨rfl, eq7⟩
          subst q7
          show zG l w mX10_top 68 [(4, .int (nI i)), (3, .int (nI (tpN N y i))), (2, .int (nI y)), (0, .ref m), (1, .int (nI j))] [.long (jL (nA N 1)), .long (jL ((i : Nat) : Int))] h _
          refine g_lif_ge (a := ((i : Nat) : Int)) (b := (nA N 1)) (tgt := 98) dX10_top_68 rfl dX10_top_69 (by decide) (by omega) (by omega) (fun c1 => ?_) (fun c1 => ?_)
          · exact absurd c1 (by omega)
          · refine g_aload_n 3 dX10_top_72 rfl rfl ?_
            refine g_iload 0 dX10_top_73 rfl ?_
            refine g_iload_n 2 dX10_top_75 rfl rfl ?_
            refine g_invv (M' := mX10_ofFlow) (As := [.int (nI i), .int (nI y)]) (rest := []) dX10_top_76 ml_X10_62 okX10_ofFlow imX10_ofFlow seX10_ofFlow ⟨(Nat.le_of_ble_eq_true rfl), (Nat.le_of_ble_eq_true rfl)⟩ (ci := 10) rfl rfl r.1.1 rfl rfl (Nat.le_of_ble_eq_true rfl) (c_ofFlowN r (by omega)) ?_
            rintro _ q8 ⟨rfl, eq8⟩
            subst q8
            show zG l w mX10_top 79 [(4, .int (nI i)), (3, .int (nI (tpN N y i))), (2, .int (nI y)), (0, .ref m), (1, .int (nI j))] [.long (jL (nA N (248 + 20 * i + y)))] h _
            refine g_aload_n 3 dX10_top_79 rfl rfl ?_
            refine g_iload_n 1 dX10_top_80 rfl rfl ?_
            refine g_iload_n 2 dX10_top_81 rfl rfl ?_
            refine g_invv (M' := mX10_ofFlow) (As := [.int (nI (tpN N y i)), .int (nI y)]) (rest := [.long (jL (nA N (248 + 20 * i + y)))]) dX10_top_82 ml_X10_62 okX10_ofFlow imX10_ofFlow seX10_ofFlow ⟨(Nat.le_of_ble_eq_true rfl), (Nat.le_of_ble_eq_true rfl)⟩ (ci := 10) rfl rfl r.1.1 rfl rfl (Nat.le_of_ble_eq_true rfl) (c_ofFlowN r (by omega)) ?_
            rintro _ q9 ⟨rfl, eq9⟩
            subst q9
            show zG l w mX10_top 85 [(4, .int (nI i)), (3, .int (nI (tpN N y i))), (2, .int (nI y)), (0, .ref m), (1, .int (nI j))] [.long (jL (nA N (248 + 20 * (tpN N y i) + y))), .long (jL (nA N (248 + 20 * i + y)))] h _
            refine g_lif_le (a := (nA N (248 + 20 * i + y))) (b := (nA N (248 + 20 * (tpN N y i) + y))) (tgt := 92) dX10_top_85 rfl dX10_top_86 (by decide) (by omega) (by omega) (fun g => ?_) (fun g => ?_)
            · refine g_inc (v := nI (i + 1)) (lv2 := [(4, .int (nI (i + 1))), (3, .int (nI (tpN N y i))), (2, .int (nI y)), (0, .ref m), (1, .int (nI j))]) 0 dX10_top_92 rfl (nI_add _ 1) (by decide) rfl ?_
              refine g_goto (tgt := 60) dX10_top_95 (by decide) ?_
              refine zG.sub [0, 1, 2, 3, 4] ?_ (ih (i + 1) (by omega) (by omega))
              rw [tpN, if_neg (by omega), if_neg (by omega)]; rfl
            · refine g_iload 0 dX10_top_89 rfl ?_
              refine g_istore_n (lv2 := [(3, .int (nI i)), (4, .int (nI i)), (2, .int (nI y)), (0, .ref m), (1, .int (nI j))]) dX10_top_91 rfl (by decide) rfl ?_
              refine g_inc (v := nI (i + 1)) (lv2 := [(4, .int (nI (i + 1))), (3, .int (nI i)), (2, .int (nI y)), (0, .ref m), (1, .int (nI j))]) 1 dX10_top_92 rfl (nI_add _ 1) (by decide) rfl ?_
              refine g_goto (tgt := 60) dX10_top_95 (by decide) ?_
              refine zG.sub [0, 1, 2, 3, 4] ?_ (ih (i + 1) (by omega) (by omega))
              rw [tpN, if_neg (by omega), if_pos (by omega)]; rfl
      have t1 : tpN N (byK j) 1 = 0 := by rw [tpN, if_pos rfl]
      refine g_iload_n 1 dX10_top_34 rfl rfl ?_
      refine g_zif_ne (a := ((j : Nat) : Int)) (tgt := 42) (jI_nat j).symm dX10_top_35 (by decide) (by omega) (fun g => ?_) (fun g => ?_)
      · refine g_iload_n 1 dX10_top_42 rfl rfl ?_
        refine g_iconst (v := nI 1) dX10_top_43 (by decide) ?_
        refine g_zcmp_ne (a := ((j : Nat) : Int)) (b := 1) (tgt := 52) (jI_nat j).symm (by decide) dX10_top_44 (by decide) (by omega) (by omega) (fun g2 => ?_) (fun g2 => ?_)
        · refine g_bipush (v := nI 10) dX10_top_52 (by decide) ?_
          refine g_istore_n (lv2 := [(2, .int (nI 10)), (0, .ref m), (1, .int (nI j))]) dX10_top_54 rfl (by decide) rfl ?_
          refine g_iconst (v := nI 0) dX10_top_55 (by decide) ?_
          refine g_istore_n (lv2 := [(3, .int (nI 0)), (2, .int (nI 10)), (0, .ref m), (1, .int (nI j))]) dX10_top_56 rfl (by decide) rfl ?_
          refine g_iconst (v := nI 1) dX10_top_57 (by decide) ?_
          refine g_istore (lv2 := [(4, .int (nI 1)), (3, .int (nI 0)), (2, .int (nI 10)), (0, .ref m), (1, .int (nI j))]) dX10_top_58 (by decide) rfl ?_
          have z9 := loop 10 (by unfold byK; rw [if_neg (by omega), if_neg (by omega)]) (by omega) ((nA N 1).toNat - 1) 1 (Nat.le_refl _) (by omega)
          rw [show tpN N 10 1 = 0 by rw [tpN, if_pos rfl]] at z9
          exact zG.sub [0, 1, 2, 3, 4] rfl z9
        · refine g_bipush (v := nI 9) dX10_top_47 (by decide) ?_
          refine g_goto (tgt := 54) dX10_top_49 (by decide) ?_
          refine g_istore_n (lv2 := [(2, .int (nI 9)), (0, .ref m), (1, .int (nI j))]) dX10_top_54 rfl (by decide) rfl ?_
          refine g_iconst (v := nI 0) dX10_top_55 (by decide) ?_
          refine g_istore_n (lv2 := [(3, .int (nI 0)), (2, .int (nI 9)), (0, .ref m), (1, .int (nI j))]) dX10_top_56 rfl (by decide) rfl ?_
          refine g_iconst (v := nI 1) dX10_top_57 (by decide) ?_
          refine g_istore (lv2 := [(4, .int (nI 1)), (3, .int (nI 0)), (2, .int (nI 9)), (0, .ref m), (1, .int (nI j))]) dX10_top_58 (by decide) rfl ?_
          have z9 := loop 9 (by unfold byK; rw [if_neg (by omega), if_pos (by omega)]) (by omega) ((nA N 1).toNat - 1) 1 (Nat.le_refl _) (by omega)
          rw [show tpN N 9 1 = 0 by rw [tpN, if_pos rfl]] at z9
          exact zG.sub [0, 1, 2, 3, 4] rfl z9
      · refine g_iconst (v := nI 5) dX10_top_38 (by decide) ?_
        refine g_goto (tgt := 54) dX10_top_39 (by decide) ?_
        refine g_istore_n (lv2 := [(2, .int (nI 5)), (0, .ref m), (1, .int (nI j))]) dX10_top_54 rfl (by decide) rfl ?_
        refine g_iconst (v := nI 0) dX10_top_55 (by decide) ?_
        refine g_istore_n (lv2 := [(3, .int (nI 0)), (2, .int (nI 5)), (0, .ref m), (1, .int (nI j))]) dX10_top_56 rfl (by decide) rfl ?_
        refine g_iconst (v := nI 1) dX10_top_57 (by decide) ?_
        refine g_istore (lv2 := [(4, .int (nI 1)), (3, .int (nI 0)), (2, .int (nI 5)), (0, .ref m), (1, .int (nI j))]) dX10_top_58 (by decide) rfl ?_
        have z9 := loop 5 (by unfold byK; rw [if_pos (by omega)]) (by omega) ((nA N 1).toNat - 1) 1 (Nat.le_refl _) (by omega)
        rw [show tpN N 5 1 = 0 by rw [tpN, if_pos rfl]] at z9
        exact zG.sub [0, 1, 2, 3, 4] rfl z9
    · refine g_aload_n 0 dX10_top_28 rfl rfl ?_
      refine g_iconst (v := nI 5) dX10_top_29 (by decide) ?_
      refine g_invv (M' := mX10_refuse) (As := [.int (nI 5)]) (rest := []) dX10_top_30 ml_X10_289 okX10_refuse imX10_refuse seX10_refuse ⟨(Nat.le_of_ble_eq_true rfl), (Nat.le_of_ble_eq_true rfl)⟩ (ci := 10) rfl rfl r.1.1 rfl rfl (Nat.le_of_ble_eq_true rfl) (c_refuse r.1.1) ?_
      rintro _ q4 ⟨rfl, eq4⟩
      subst q4
      show zG l w mX10_top 33 [(0, .ref m), (1, .int (jI k))] [.int (-1)] (zSi h 321 m (nI 5)) _
      refine g_ireturn dX10_top_33 rfl ?_
      rw [show qTop N k = (5, -1) by unfold qTop; rw [if_pos c, if_pos d]]
      exact ⟨rfl, rfl⟩
  · have c := of_decide_eq_false c
    refine g_aload_n 0 dX10_top_12 rfl rfl ?_
    refine g_iconst (v := nI 1) dX10_top_13 (by decide) ?_
    refine g_invv (M' := mX10_refuse) (As := [.int (nI 1)]) (rest := []) dX10_top_14 ml_X10_289 okX10_refuse imX10_refuse seX10_refuse ⟨(Nat.le_of_ble_eq_true rfl), (Nat.le_of_ble_eq_true rfl)⟩ (ci := 10) rfl rfl r.1.1 rfl rfl (Nat.le_of_ble_eq_true rfl) (c_refuse r.1.1) ?_
    rintro _ q2 ⟨rfl, eq2⟩
    subst q2
    show zG l w mX10_top 17 [(0, .ref m), (1, .int (jI k))] [.int (-1)] (zSi h 321 m (nI 1)) _
    refine g_ireturn dX10_top_17 rfl ?_
    rw [show qTop N k = (1, -1) by unfold qTop; rw [if_neg c]]
    exact ⟨rfl, rfl⟩
theorem c_rank (c : CX h b π ls N X t) (H1 : 0 ≤ nA N 1 ∧ nA N 1 ≤ 6) {f j : Nat} (hf : (f : Int) < nA N 1) (f6 : f < 6) (j2 : j ≤ 2) : zM l w mX5_rank [.ref b, .int (nI f), .int (nI j)] h (fun u h1 => u = some (.int (jI (nA N (248 + 20 * f + byK j)))) ∧ h1 = h) := by
  refine zM.of (by decide) (Nat.le_of_ble_eq_true rfl) ?_
  refine g_aload_n 0 dX5_rank_0 rfl rfl ?_
  refine g_iload_n 1 dX5_rank_1 rfl rfl ?_
  refine g_invv (M' := mX5_flowAt) (As := [.int (nI f)]) (rest := []) dX5_rank_2 ml_X5_175 okX5_flowAt imX5_flowAt seX5_flowAt ⟨(Nat.le_of_ble_eq_true rfl), (Nat.le_of_ble_eq_true rfl)⟩ (ci := 5) rfl rfl c.1.1.2 rfl rfl (Nat.le_of_ble_eq_true rfl) (c_flowIn c H1 hf) ?_
  rintro _ q1 ⟨rfl, eq1⟩
  subst q1
  show zG l w mX5_rank 5 [(0, .ref b), (1, .int (nI f)), (2, .int (nI j))] [.ref (b + 53 + 2 * f)] h _
  refine g_astore_n (lv2 := [(3, .ref (b + 53 + 2 * f)), (0, .ref b), (1, .int (nI f)), (2, .int (nI j))]) dX5_rank_5 rfl (by decide) rfl ?_
  refine g_aload_n 0 dX5_rank_6 rfl rfl ?_
  refine g_ifnonnull (tgt := 12) dX5_rank_7 (by decide) ?_
  refine g_iload_n 3 dX5_rank_12 rfl rfl ?_
  refine g_zif_ne (a := ((j : Nat) : Int)) (tgt := 21) (jI_nat j).symm dX5_rank_13 (by decide) (by omega) (fun g => ?_) (fun g => ?_)
  · refine g_iload_n 3 dX5_rank_21 rfl rfl ?_
    refine g_iconst (v := nI 1) dX5_rank_22 (by decide) ?_
    refine g_zcmp_ne (a := ((j : Nat) : Int)) (b := 1) (tgt := 33) (jI_nat j).symm (by decide) dX5_rank_23 (by decide) (by omega) (by omega) (fun g2 => ?_) (fun g2 => ?_)
    · refine g_aload_n 0 dX5_rank_33 rfl rfl ?_
      refine g_geti (f := 75) dX5_rank_34 fl_X5_261 (c.1.2.2.2.2.2.2.2.2.2 f f6).2.1 (by decide) rfl ?_
      rw [show zi h 75 (b + 53 + 2 * f) = jI (nA N (248 + 20 * f + 10)) from (c.2.2.2.2.1 f hf f6).1 10 (by omega) (by omega)]
      refine g_ireturn dX5_rank_37 rfl ?_
      exact ⟨by unfold byK; rw [if_neg (by omega), if_neg (by omega)], rfl⟩
    · refine g_aload_n 0 dX5_rank_26 rfl rfl ?_
      refine g_geti (f := 74) dX5_rank_27 fl_X5_258 (c.1.2.2.2.2.2.2.2.2.2 f f6).2.1 (by decide) rfl ?_
      rw [show zi h 74 (b + 53 + 2 * f) = jI (nA N (248 + 20 * f + 9)) from (c.2.2.2.2.1 f hf f6).1 9 (by omega) (by omega)]
      refine g_goto (tgt := 37) dX5_rank_30 (by decide) ?_
      refine g_ireturn dX5_rank_37 rfl ?_
      exact ⟨by unfold byK; rw [if_neg (by omega), if_pos (by omega)], rfl⟩
  · refine g_aload_n 0 dX5_rank_16 rfl rfl ?_
    refine g_geti (f := 70) dX5_rank_17 fl_X5_237 (c.1.2.2.2.2.2.2.2.2.2 f f6).2.1 (by decide) rfl ?_
    rw [show zi h 70 (b + 53 + 2 * f) = jI (nA N (248 + 20 * f + 5)) from (c.2.2.2.2.1 f hf f6).1 5 (by omega) (by omega)]
    refine g_ireturn dX5_rank_20 rfl ?_
    exact ⟨by unfold byK; rw [if_pos (by omega)], rfl⟩
theorem c_topFlow (c : CX h b π ls N X t) (hI : iN [] N) (h1 : 0 < nA N 1) {j : Nat} (j2 : j ≤ 2) : zM l w mX5_topFlow [.ref b, .int (nI j)] h (fun u h1 => u = some (.int (nI (tpN N (byK j) (nA N 1).toNat))) ∧ h1 = h) := by
  refine zM.of (by decide) (Nat.le_of_ble_eq_true rfl) ?_
  have H1 := hI.H.2.1
  have hy : byK j = 5 ∨ byK j = 9 ∨ byK j = 10 := by unfold byK; split; omega; split <;> omega
  have loop : ∀ n i : Nat, 1 ≤ i → ((i + n : Nat) : Int) = nA N 1 → zG l w mX5_topFlow 4 [(3, .int (nI i)), (2, .int (nI (tpN N (byK j) i))), (0, .ref b), (1, .int (nI j))] [] h (fun u h1 => u = some (.int (nI (tpN N (byK j) (nA N 1).toNat))) ∧ h1 = h) := by
    intro n
    induction n with
    | zero =>
      intro i i1 hi
      refine g_iload_n 0 dX5_topFlow_4 rfl rfl ?_
      refine g_aload_n 2 dX5_topFlow_5 rfl rfl ?_
      refine g_geti (f := 163) dX5_topFlow_6 fl_X5_53 c.1.1.2 (by decide) rfl ?_
      rw [show zi h 163 b = jI (nA N 1) from c.2.2.1.2.1]
      refine g_zcmp_ge (a := ((i : Nat) : Int)) (b := (nA N 1)) (tgt := 35) (jI_nat i).symm rfl dX5_topFlow_9 (by decide) (by omega) (by omega) (fun g => ?_) (fun g => ?_)
      · refine g_iload_n 1 dX5_topFlow_35 rfl rfl ?_
        refine g_ireturn dX5_topFlow_36 rfl ?_
        exact ⟨by rw [← show i = (nA N 1).toNat by omega], rfl⟩
      · exact absurd g (by omega)
    | succ n ih =>
      intro i i1 hi
      have tl := tpN_lt (N := N) (y := byK j) i (by omega)
      have t1 := hI.tb (f := i) (y := byK j) (by omega) hy
      have t2 := hI.tb (f := tpN N (byK j) i) (y := byK j) (by omega) hy
      refine g_iload_n 0 dX5_topFlow_4 rfl rfl ?_
      refine g_aload_n 2 dX5_topFlow_5 rfl rfl ?_
      refine g_geti (f := 163) dX5_topFlow_6 fl_X5_53 c.1.1.2 (by decide) rfl ?_
      rw [show zi h 163 b = jI (nA N 1) from c.2.2.1.2.1]
      refine g_zcmp_ge (a := ((i : Nat) : Int)) (b := (nA N 1)) (tgt := 35) (jI_nat i).symm rfl dX5_topFlow_9 (by decide) (by omega) (by omega) (fun g => ?_) (fun g => ?_)
      · exact absurd g (by omega)
      · refine g_aload_n 2 dX5_topFlow_12 rfl rfl ?_
        refine g_iload_n 0 dX5_topFlow_13 rfl rfl ?_
        refine g_iload_n 3 dX5_topFlow_14 rfl rfl ?_
        refine g_invv (M' := mX5_rank) (As := [.int (nI i), .int (nI j)]) (rest := []) dX5_topFlow_15 ml_X5_271 okX5_rank imX5_rank seX5_rank ⟨(Nat.le_of_ble_eq_true rfl), (Nat.le_of_ble_eq_true rfl)⟩ (ci := 5) rfl rfl c.1.1.2 rfl rfl (Nat.le_of_ble_eq_true rfl) (c_rank c H1 (by omega) (by omega) j2) ?_
        rintro _ q1 ⟨rfl, eq1⟩
        subst q1
        show zG l w mX5_topFlow 18 [(3, .int (nI i)), (2, .int (nI (tpN N (byK j) i))), (0, .ref b), (1, .int (nI j))] [.int (jI (nA N (248 + 20 * i + byK j)))] h _
        refine g_aload_n 2 dX5_topFlow_18 rfl rfl ?_
        refine g_iload_n 1 dX5_topFlow_19 rfl rfl ?_
        refine g_iload_n 3 dX5_topFlow_20 rfl rfl ?_
        refine g_invv (M' := mX5_rank) (As := [.int (nI (tpN N (byK j) i)), .int (nI j)]) (rest := [.int (jI (nA N (248 + 20 * i + byK j)))]) dX5_topFlow_21 ml_X5_271 okX5_rank imX5_rank seX5_rank ⟨(Nat.le_of_ble_eq_true rfl), (Nat.le_of_ble_eq_true rfl)⟩ (ci := 5) rfl rfl c.1.1.2 rfl rfl (Nat.le_of_ble_eq_true rfl) (c_rank c H1 (by omega) (by omega) j2) ?_
        rintro _ q2 ⟨rfl, eq2⟩
        subst q2
        show zG l w mX5_topFlow 24 [(3, .int (nI i)), (2, .int (nI (tpN N (byK j) i))), (0, .ref b), (1, .int (nI j))] [.int (jI (nA N (248 + 20 * (tpN N (byK j) i) + byK j))), .int (jI (nA N (248 + 20 * i + byK j)))] h _
        refine g_zcmp_le (a := (nA N (248 + 20 * i + byK j))) (b := (nA N (248 + 20 * (tpN N (byK j) i) + byK j))) (tgt := 29) rfl rfl dX5_topFlow_24 (by decide) (by omega) (by omega) (fun g2 => ?_) (fun g2 => ?_)
        · refine g_inc (v := nI (i + 1)) (lv2 := [(3, .int (nI (i + 1))), (2, .int (nI (tpN N (byK j) i))), (0, .ref b), (1, .int (nI j))]) 0 dX5_topFlow_29 rfl (nI_add _ 1) (by decide) rfl ?_
          refine g_goto (tgt := 4) dX5_topFlow_32 (by decide) ?_
          refine zG.sub [0, 1, 2, 3] ?_ (ih (i + 1) (by omega) (by omega))
          rw [show tpN N (byK j) (i + 1) = _ by rw [tpN, if_neg (by omega), if_neg (by omega)]]; rfl
        · refine g_iload_n 0 dX5_topFlow_27 rfl rfl ?_
          refine g_istore_n (lv2 := [(2, .int (nI i)), (3, .int (nI i)), (0, .ref b), (1, .int (nI j))]) dX5_topFlow_28 rfl (by decide) rfl ?_
          refine g_inc (v := nI (i + 1)) (lv2 := [(3, .int (nI (i + 1))), (2, .int (nI i)), (0, .ref b), (1, .int (nI j))]) 1 dX5_topFlow_29 rfl (nI_add _ 1) (by decide) rfl ?_
          refine g_goto (tgt := 4) dX5_topFlow_32 (by decide) ?_
          refine zG.sub [0, 1, 2, 3] ?_ (ih (i + 1) (by omega) (by omega))
          rw [show tpN N (byK j) (i + 1) = _ by rw [tpN, if_neg (by omega), if_pos (by omega)]]; rfl
  refine g_iconst (v := nI 0) dX5_topFlow_0 (by decide) ?_
  refine g_istore_n (lv2 := [(2, .int (nI 0)), (0, .ref b), (1, .int (nI j))]) dX5_topFlow_1 rfl (by decide) rfl ?_
  refine g_iconst (v := nI 1) dX5_topFlow_2 (by decide) ?_
  refine g_istore_n (lv2 := [(3, .int (nI 1)), (2, .int (nI 0)), (0, .ref b), (1, .int (nI j))]) dX5_topFlow_3 rfl (by decide) rfl ?_
  have z9 := loop ((nA N 1).toNat - 1) 1 (Nat.le_refl _) (by omega)
  rw [show tpN N (byK j) 1 = 0 by rw [tpN, if_pos rfl]] at z9
  exact zG.sub [0, 1, 2, 3] rfl z9
theorem c_topC (c : CX h b π ls N [] t) (xo : XO h x b) (hI : iN [] N) {k : Int} (kb : -2147483648 ≤ k ∧ k < 2147483648) : zM l w mX9_top [.ref x, .int (jI k)] h (fun u h1 => u = some (.int (jI (qTop N k).2)) ∧ h1 = zSi h 290 x (jI (qTop N k).1)) := by
  refine zM.of (by decide) (Nat.le_of_ble_eq_true rfl) ?_
  have H1 := hI.H.2.1
  refine g_iload_n 1 dX9_top_0 rfl rfl ?_
  refine g_zif_lt (a := k) (tgt := 9) rfl dX9_top_1 (by decide) (by omega) (fun g => ?_) (fun g => ?_)
  · refine g_aload_n 0 dX9_top_9 rfl rfl ?_
    refine g_iconst (v := nI 1) dX9_top_10 (by decide) ?_
    refine g_invv (M' := mX9_refuse) (As := [.int (nI 1)]) (rest := []) dX9_top_11 ml_X9_58 okX9_refuse imX9_refuse seX9_refuse ⟨(Nat.le_of_ble_eq_true rfl), (Nat.le_of_ble_eq_true rfl)⟩ (ci := 9) rfl rfl xo.1 rfl rfl (Nat.le_of_ble_eq_true rfl) (c_refC xo.1) ?_
    rintro _ q1 ⟨rfl, eq1⟩
    subst q1
    show zG l w mX9_top 14 [(0, .ref x), (1, .int (jI k))] [.int (-1)] (zSi h 290 x (nI 1)) _
    refine g_ireturn dX9_top_14 rfl ?_
    rw [show qTop N k = (1, -1) by unfold qTop; rw [if_neg (by omega)]]
    exact ⟨rfl, rfl⟩
  · refine g_iload_n 1 dX9_top_4 rfl rfl ?_
    refine g_iconst (v := nI 2) dX9_top_5 (by decide) ?_
    refine g_zcmp_le (a := k) (b := 2) (tgt := 15) rfl (by decide) dX9_top_6 (by decide) (by omega) (by omega) (fun g2 => ?_) (fun g2 => ?_)
    · refine g_aload_n 0 dX9_top_15 rfl rfl ?_
      refine g_getr (f := 293) (b := b) dX9_top_16 fl_X9_23 xo.1 rfl xo.2 ?_
      refine g_geti (f := 163) dX9_top_19 fl_X9_72 c.1.1.2 (by decide) rfl ?_
      rw [show zi h 163 b = jI (nA N 1) from c.2.2.1.2.1]
      refine g_zif_ne (a := (nA N 1)) (tgt := 31) rfl dX9_top_22 (by decide) (by omega) (fun d => ?_) (fun d => ?_)
      · rw [show qTop N k = (0, (tpN N (byK k.toNat) (nA N 1).toNat : Int)) by unfold qTop; rw [if_pos (by omega), if_neg d]]
        obtain ⟨j, ej⟩ : ∃ j : Nat, k = (j : Int) := ⟨_, (Int.toNat_of_nonneg (by omega)).symm⟩
        subst ej
        simp only [jI_nat]
        refine g_aload_n 0 dX9_top_31 rfl rfl ?_
        refine g_aload_n 0 dX9_top_32 rfl rfl ?_
        refine g_getr (f := 293) (b := b) dX9_top_33 fl_X9_23 xo.1 rfl xo.2 ?_
        refine g_iload_n 1 dX9_top_36 rfl rfl ?_
        refine g_invv (M' := mX5_topFlow) (As := [.int (nI j)]) (rest := [.ref x]) dX9_top_37 ml_X9_201 okX5_topFlow imX5_topFlow seX5_topFlow ⟨(Nat.le_of_ble_eq_true rfl), (Nat.le_of_ble_eq_true rfl)⟩ (ci := 5) rfl rfl c.1.1.2 rfl rfl (Nat.le_of_ble_eq_true rfl) (c_topFlow c hI (by omega) (by omega)) ?_
        rintro _ q4 ⟨rfl, eq4⟩
        subst q4
        show zG l w mX9_top 40 [(0, .ref x), (1, .int (nI j))] [.int (nI (tpN N (byK j) (nA N 1).toNat)), .ref x] h _
        refine g_invv (M' := mX9_answer) (As := [.int (nI (tpN N (byK j) (nA N 1).toNat))]) (rest := []) dX9_top_40 ml_X9_75 okX9_answer imX9_answer seX9_answer ⟨(Nat.le_of_ble_eq_true rfl), (Nat.le_of_ble_eq_true rfl)⟩ (ci := 9) rfl rfl xo.1 rfl rfl (Nat.le_of_ble_eq_true rfl) (c_ans xo.1) ?_
        rintro _ q5 ⟨rfl, eq5⟩
        subst q5
        show zG l w mX9_top 43 [(0, .ref x), (1, .int (nI j))] [.int (nI (tpN N (byK j) (nA N 1).toNat))] (zSi h 290 x (nI 0)) _
        refine g_ireturn dX9_top_43 rfl ?_
        exact ⟨rfl, rfl⟩
      · refine g_aload_n 0 dX9_top_25 rfl rfl ?_
        refine g_iconst (v := nI 5) dX9_top_26 (by decide) ?_
        refine g_invv (M' := mX9_refuse) (As := [.int (nI 5)]) (rest := []) dX9_top_27 ml_X9_58 okX9_refuse imX9_refuse seX9_refuse ⟨(Nat.le_of_ble_eq_true rfl), (Nat.le_of_ble_eq_true rfl)⟩ (ci := 9) rfl rfl xo.1 rfl rfl (Nat.le_of_ble_eq_true rfl) (c_refC xo.1) ?_
        rintro _ q3 ⟨rfl, eq3⟩
        subst q3
        show zG l w mX9_top 30 [(0, .ref x), (1, .int (jI k))] [.int (-1)] (zSi h 290 x (nI 5)) _
        refine g_ireturn dX9_top_30 rfl ?_
        rw [show qTop N k = (5, -1) by unfold qTop; rw [if_pos (by omega), if_pos d]]
        exact ⟨rfl, rfl⟩
    · refine g_aload_n 0 dX9_top_9 rfl rfl ?_
      refine g_iconst (v := nI 1) dX9_top_10 (by decide) ?_
      refine g_invv (M' := mX9_refuse) (As := [.int (nI 1)]) (rest := []) dX9_top_11 ml_X9_58 okX9_refuse imX9_refuse seX9_refuse ⟨(Nat.le_of_ble_eq_true rfl), (Nat.le_of_ble_eq_true rfl)⟩ (ci := 9) rfl rfl xo.1 rfl rfl (Nat.le_of_ble_eq_true rfl) (c_refC xo.1) ?_
      rintro _ q2 ⟨rfl, eq2⟩
      subst q2
      show zG l w mX9_top 14 [(0, .ref x), (1, .int (jI k))] [.int (-1)] (zSi h 290 x (nI 1)) _
      refine g_ireturn dX9_top_14 rfl ?_
      rw [show qTop N k = (1, -1) by unfold qTop; rw [if_neg (by omega)]]
      exact ⟨rfl, rfl⟩
/-- two paths, or one and the other backwards, up to a place -/
def lkU (N : nT) (f g : Nat) (bk : Bool) : Nat → Bool
  | 0 => true
  | i + 1 => lkU N f g bk i && decide (hopN N f i = hopN N g (if bk then (nA N (248 + 20 * f + 0)).toNat - 1 - i else i))
def likeN (N : nT) (f g : Nat) (bk : Bool) : Bool := decide (nA N (248 + 20 * f + 0) = nA N (248 + 20 * g + 0)) && lkU N f g bk (nA N (248 + 20 * f + 0)).toNat
theorem lkU_mono {f g : Nat} {bk : Bool} {i : Nat} (h : lkU N f g bk i = false) : ∀ n, i ≤ n → lkU N f g bk n = false := by
  intro n
  induction n with
  | zero => intro hn; rw [show (0 : Nat) = i by omega]; exact h
  | succ n ih =>
    intro hn
    by_cases c : i = n + 1
    · rw [← c]; exact h
    · rw [lkU, ih (by omega), Bool.false_and]
def qAlike (N : nT) (z k : Int) : Int × Int := if (0 ≤ z ∧ z < nA N 1) ∧ 0 ≤ k ∧ k < nA N 1 then (0, if likeN N z.toNat k.toNat false then 2 else if likeN N z.toNat k.toNat true then 1 else 0) else (2, -1)
theorem c_isLike (r : MoN h m N) (hI : iN [] N) {f g : Nat} (hf : (f : Int) < nA N 1) (hg : (g : Int) < nA N 1) {bk : Bool} : zM l w mX10_isLike [.ref m, .int (nI f), .int (nI g), .int (bI bk)] h (fun u h1 => u = some (.int (bI (likeN N f g bk))) ∧ h1 = h) := by
  refine zM.of (by decide) (Nat.le_of_ble_eq_true rfl) ?_
  have H0 := hI.H.1
  have H1 := hI.H.2.1
  have F := hI.F f hf
  have G := hI.F g hg
  have F1 := F.1
  have G1 := G.1
  have f6 : f < 6 := by omega
  have g6 : g < 6 := by omega
  obtain ⟨n, en⟩ : ∃ n : Nat, (nA N (248 + 20 * f + 0)) = (n : Int) := ⟨_, (Int.toNat_of_nonneg (by omega)).symm⟩
  have en2 : (nA N (248 + 20 * f + 0)).toNat = n := by omega
  have loop : ∀ k i : Nat, i + k = n → zG l w mX10_isLike 34 [(6, .int (nI i)), (5, .int (bI (decide ((nA N (248 + 20 * f + 0)) = (nA N (248 + 20 * g + 0))) && lkU N f g bk i))), (4, .int (nI n)), (0, .ref m), (1, .int (nI f)), (2, .int (nI g)), (3, .int (bI bk))] [] h (fun u h1 => u = some (.int (bI (likeN N f g bk))) ∧ h1 = h) := by
    intro k
    induction k with
    | zero =>
      intro i hi
      refine g_iload 0 dX10_isLike_34 rfl ?_
      refine g_iload 2 dX10_isLike_36 rfl ?_
      refine g_ncmp_ge (tgt := 90) dX10_isLike_38 (by decide) (by omega) (by omega) (fun c => ?_) (fun c => ?_)
      · refine g_iload 1 dX10_isLike_90 rfl ?_
        refine g_zreturn dX10_isLike_92 rfl (bI_nar _) ?_
        exact ⟨by unfold likeN; rw [en2, show i = n by omega], rfl⟩
      · exact absurd c (by omega)
    | succ k ih =>
      intro i hi
      refine g_iload 0 dX10_isLike_34 rfl ?_
      refine g_iload 2 dX10_isLike_36 rfl ?_
      refine g_ncmp_ge (tgt := 90) dX10_isLike_38 (by decide) (by omega) (by omega) (fun c => ?_) (fun c => ?_)
      · exact absurd c (by omega)
      · refine g_iload 1 dX10_isLike_41 rfl ?_
        refine g_bif_eq (tgt := 90) dX10_isLike_43 (by decide) (fun d => ?_) (fun d => ?_)
        · have e9 : (decide ((nA N (248 + 20 * f + 0)) = (nA N (248 + 20 * g + 0))) && lkU N f g bk n) = false := by
            rw [Bool.and_eq_false_iff] at d ⊢
            rcases d with d | d
            · exact Or.inl d
            · exact Or.inr (lkU_mono d n (by omega))
          refine g_iload 1 dX10_isLike_90 rfl ?_
          refine g_zreturn dX10_isLike_92 rfl (bI_nar _) ?_
          exact ⟨by unfold likeN; rw [en2, e9, d], rfl⟩
        · rw [Bool.and_eq_true] at d
          have dl := of_decide_eq_true d.1
          have F2 := F.2.1 i (by omega)
          refine g_aload_n 3 dX10_isLike_46 rfl rfl ?_
          refine g_iload_n 4 dX10_isLike_47 rfl rfl ?_
          refine g_iload 0 dX10_isLike_48 rfl ?_
          refine g_invv (M' := mX10_hop) (As := [.int (nI f), .int (nI i)]) (rest := []) dX10_isLike_50 ml_X10_66 okX10_hop imX10_hop seX10_hop ⟨(Nat.le_of_ble_eq_true rfl), (Nat.le_of_ble_eq_true rfl)⟩ (ci := 10) rfl rfl r.1.1 rfl rfl (Nat.le_of_ble_eq_true rfl) (c_hop r f6 (by omega) F2.1) ?_
          rintro _ q1 ⟨rfl, eq1⟩
          subst q1
          show zG l w mX10_isLike 53 [(6, .int (nI i)), (5, .int (bI (decide ((nA N (248 + 20 * f + 0)) = (nA N (248 + 20 * g + 0))) && lkU N f g bk i))), (4, .int (nI n)), (0, .ref m), (1, .int (nI f)), (2, .int (nI g)), (3, .int (bI bk))] [.int (nI (hopN N f i))] h _
          have h6 : hopN N f i < 6 := by unfold hopN; omega
          refine g_aload_n 3 dX10_isLike_53 rfl rfl ?_
          refine g_iload_n 5 dX10_isLike_54 rfl rfl ?_
          refine g_iload_n 6 dX10_isLike_55 rfl rfl ?_
          refine g_bif_eq (tgt := 69) dX10_isLike_56 (by decide) (fun bb => ?_) (fun bb => ?_)
          · refine g_iload 0 dX10_isLike_69 rfl ?_
            have G2 := G.2.1 (i) (by omega)
            refine g_invv (M' := mX10_hop) (As := [.int (nI g), .int (nI i)]) (rest := [.int (nI (hopN N f i))]) dX10_isLike_71 ml_X10_66 okX10_hop imX10_hop seX10_hop ⟨(Nat.le_of_ble_eq_true rfl), (Nat.le_of_ble_eq_true rfl)⟩ (ci := 10) rfl rfl r.1.1 rfl rfl (Nat.le_of_ble_eq_true rfl) (c_hop r g6 (by omega) G2.1) ?_
            rintro _ q2 ⟨rfl, eq2⟩
            subst q2
            show zG l w mX10_isLike 74 [(6, .int (nI i)), (5, .int (bI (decide ((nA N (248 + 20 * f + 0)) = (nA N (248 + 20 * g + 0))) && lkU N f g bk i))), (4, .int (nI n)), (0, .ref m), (1, .int (nI f)), (2, .int (nI g)), (3, .int (bI bk))] [.int (nI (hopN N g (i))), .int (nI (hopN N f i))] h _
            have h7 : hopN N g (i) < 6 := by unfold hopN; omega
            refine g_ncmp_ne (tgt := 81) dX10_isLike_74 (by decide) (by omega) (by omega) (fun e => ?_) (fun e => ?_)
            · refine g_iconst (v := bI false) dX10_isLike_81 (by decide) ?_
              refine g_istore (lv2 := [(5, .int (bI false)), (6, .int (nI i)), (4, .int (nI n)), (0, .ref m), (1, .int (nI f)), (2, .int (nI g)), (3, .int (bI bk))]) dX10_isLike_82 (by decide) rfl ?_
              refine g_inc (v := nI (i + 1)) (lv2 := [(6, .int (nI (i + 1))), (5, .int (bI false)), (4, .int (nI n)), (0, .ref m), (1, .int (nI f)), (2, .int (nI g)), (3, .int (bI bk))]) 1 dX10_isLike_84 rfl (nI_add _ 1) (by decide) rfl ?_
              refine g_goto (tgt := 34) dX10_isLike_87 (by decide) ?_
              refine zG.sub [0, 1, 2, 3, 4, 5, 6] ?_ (ih (i + 1) (by omega))
              rw [show (decide ((nA N (248 + 20 * f + 0)) = (nA N (248 + 20 * g + 0))) && lkU N f g bk (i + 1)) = false by rw [lkU, d.1, d.2, bb, en2, decide_eq_false (by rw [if_neg (by decide)]; exact e)]; rfl]; rfl
            · refine g_iconst (v := bI true) dX10_isLike_77 (by decide) ?_
              refine g_goto (tgt := 82) dX10_isLike_78 (by decide) ?_
              refine g_istore (lv2 := [(5, .int (bI true)), (6, .int (nI i)), (4, .int (nI n)), (0, .ref m), (1, .int (nI f)), (2, .int (nI g)), (3, .int (bI bk))]) dX10_isLike_82 (by decide) rfl ?_
              refine g_inc (v := nI (i + 1)) (lv2 := [(6, .int (nI (i + 1))), (5, .int (bI true)), (4, .int (nI n)), (0, .ref m), (1, .int (nI f)), (2, .int (nI g)), (3, .int (bI bk))]) 1 dX10_isLike_84 rfl (nI_add _ 1) (by decide) rfl ?_
              refine g_goto (tgt := 34) dX10_isLike_87 (by decide) ?_
              refine zG.sub [0, 1, 2, 3, 4, 5, 6] ?_ (ih (i + 1) (by omega))
              rw [show (decide ((nA N (248 + 20 * f + 0)) = (nA N (248 + 20 * g + 0))) && lkU N f g bk (i + 1)) = true by rw [lkU, d.1, d.2, bb, en2, decide_eq_true (by rw [if_neg (by decide)]; exact e)]; rfl]; rfl
          · refine g_iload 2 dX10_isLike_59 rfl ?_
            refine g_iconst (v := nI 1) dX10_isLike_61 (by decide) ?_
            refine g_isub dX10_isLike_62 ?_
            refine zG.top (nI_sub (a := n) (c := 1) (by omega)) ?_
            refine g_iload 0 dX10_isLike_63 rfl ?_
            refine g_isub dX10_isLike_65 ?_
            refine zG.top (nI_sub (a := n - 1) (c := i) (by omega)) ?_
            refine g_goto (tgt := 71) dX10_isLike_66 (by decide) ?_
            have G2 := G.2.1 (n - 1 - i) (by omega)
            refine g_invv (M' := mX10_hop) (As := [.int (nI g), .int (nI (n - 1 - i))]) (rest := [.int (nI (hopN N f i))]) dX10_isLike_71 ml_X10_66 okX10_hop imX10_hop seX10_hop ⟨(Nat.le_of_ble_eq_true rfl), (Nat.le_of_ble_eq_true rfl)⟩ (ci := 10) rfl rfl r.1.1 rfl rfl (Nat.le_of_ble_eq_true rfl) (c_hop r g6 (by omega) G2.1) ?_
            rintro _ q3 ⟨rfl, eq3⟩
            subst q3
            show zG l w mX10_isLike 74 [(6, .int (nI i)), (5, .int (bI (decide ((nA N (248 + 20 * f + 0)) = (nA N (248 + 20 * g + 0))) && lkU N f g bk i))), (4, .int (nI n)), (0, .ref m), (1, .int (nI f)), (2, .int (nI g)), (3, .int (bI bk))] [.int (nI (hopN N g (n - 1 - i))), .int (nI (hopN N f i))] h _
            have h7 : hopN N g (n - 1 - i) < 6 := by unfold hopN; omega
            refine g_ncmp_ne (tgt := 81) dX10_isLike_74 (by decide) (by omega) (by omega) (fun e => ?_) (fun e => ?_)
            · refine g_iconst (v := bI false) dX10_isLike_81 (by decide) ?_
              refine g_istore (lv2 := [(5, .int (bI false)), (6, .int (nI i)), (4, .int (nI n)), (0, .ref m), (1, .int (nI f)), (2, .int (nI g)), (3, .int (bI bk))]) dX10_isLike_82 (by decide) rfl ?_
              refine g_inc (v := nI (i + 1)) (lv2 := [(6, .int (nI (i + 1))), (5, .int (bI false)), (4, .int (nI n)), (0, .ref m), (1, .int (nI f)), (2, .int (nI g)), (3, .int (bI bk))]) 1 dX10_isLike_84 rfl (nI_add _ 1) (by decide) rfl ?_
              refine g_goto (tgt := 34) dX10_isLike_87 (by decide) ?_
              refine zG.sub [0, 1, 2, 3, 4, 5, 6] ?_ (ih (i + 1) (by omega))
              rw [show (decide ((nA N (248 + 20 * f + 0)) = (nA N (248 + 20 * g + 0))) && lkU N f g bk (i + 1)) = false by rw [lkU, d.1, d.2, bb, en2, decide_eq_false (by rw [if_pos rfl]; exact e)]; rfl]; rfl
            · refine g_iconst (v := bI true) dX10_isLike_77 (by decide) ?_
              refine g_goto (tgt := 82) dX10_isLike_78 (by decide) ?_
              refine g_istore (lv2 := [(5, .int (bI true)), (6, .int (nI i)), (4, .int (nI n)), (0, .ref m), (1, .int (nI f)), (2, .int (nI g)), (3, .int (bI bk))]) dX10_isLike_82 (by decide) rfl ?_
              refine g_inc (v := nI (i + 1)) (lv2 := [(6, .int (nI (i + 1))), (5, .int (bI true)), (4, .int (nI n)), (0, .ref m), (1, .int (nI f)), (2, .int (nI g)), (3, .int (bI bk))]) 1 dX10_isLike_84 rfl (nI_add _ 1) (by decide) rfl ?_
              refine g_goto (tgt := 34) dX10_isLike_87 (by decide) ?_
              refine zG.sub [0, 1, 2, 3, 4, 5, 6] ?_ (ih (i + 1) (by omega))
              rw [show (decide ((nA N (248 + 20 * f + 0)) = (nA N (248 + 20 * g + 0))) && lkU N f g bk (i + 1)) = true by rw [lkU, d.1, d.2, bb, en2, decide_eq_true (by rw [if_pos rfl]; exact e)]; rfl]; rfl
  refine g_aload_n 0 dX10_isLike_0 rfl rfl ?_
  refine g_iload_n 1 dX10_isLike_1 rfl rfl ?_
  refine g_iconst (v := nI 0) dX10_isLike_2 (by decide) ?_
  refine g_invs (M' := mX10_flow0) (As := [.int (nI f), .int (nI 0)]) (rest := [.ref m]) dX10_isLike_3 ml_X10_52 okX10_flow0 stX10_flow0 ⟨(Nat.le_of_ble_eq_true rfl), (Nat.le_of_ble_eq_true rfl)⟩ rfl rfl (Nat.le_of_ble_eq_true rfl) c_flow0 ?_
  rintro _ q1 ⟨rfl, eq1⟩
  subst q1
  show zG l w mX10_isLike 6 [(0, .ref m), (1, .int (nI f)), (2, .int (nI g)), (3, .int (bI bk))] [.int (nI (248 + 20 * f + 0)), .ref m] h _
  refine g_invv (M' := mX10_at) (As := [.int (nI (248 + 20 * f + 0))]) (rest := []) dX10_isLike_6 ml_X10_58 okX10_at imX10_at seX10_at ⟨(Nat.le_of_ble_eq_true rfl), (Nat.le_of_ble_eq_true rfl)⟩ (ci := 10) rfl rfl r.1.1 rfl rfl (Nat.le_of_ble_eq_true rfl) (c_atN r (by omega) (by unfold nSp; omega)) ?_
  rintro _ q2 ⟨rfl, eq2⟩
  subst q2
  show zG l w mX10_isLike 9 [(0, .ref m), (1, .int (nI f)), (2, .int (nI g)), (3, .int (bI bk))] [.int (jI (nA N (248 + 20 * f + 0)))] h _
  refine zG.top (show jI (nA N (248 + 20 * f + 0)) = nI n by rw [en, jI_nat]) ?_
  refine g_istore (lv2 := [(4, .int (nI n)), (0, .ref m), (1, .int (nI f)), (2, .int (nI g)), (3, .int (bI bk))]) dX10_isLike_9 (by decide) rfl ?_
  refine g_iload 0 dX10_isLike_11 rfl ?_
  refine g_i2l dX10_isLike_13 ?_
  rw [nI_l (by omega), ← jL_nat]
  refine g_aload_n 1 dX10_isLike_14 rfl rfl ?_
  refine g_iload_n 3 dX10_isLike_15 rfl rfl ?_
  refine g_iconst (v := nI 0) dX10_isLike_16 (by decide) ?_
  refine g_invv (M' := mX10_ofFlow) (As := [.int (nI g), .int (nI 0)]) (rest := [.long (jL ((n : Nat) : Int))]) dX10_isLike_17 ml_X10_62 okX10_ofFlow imX10_ofFlow seX10_ofFlow ⟨(Nat.le_of_ble_eq_true rfl), (Nat.le_of_ble_eq_true rfl)⟩ (ci := 10) rfl rfl r.1.1 rfl rfl (Nat.le_of_ble_eq_true rfl) (c_ofFlowN r (by omega)) ?_
  rintro _ q3 ⟨rfl, eq3⟩
  subst q3
  show zG l w mX10_isLike 20 [(4, .int (nI n)), (0, .ref m), (1, .int (nI f)), (2, .int (nI g)), (3, .int (bI bk))] [.long (jL (nA N (248 + 20 * g + 0))), .long (jL ((n : Nat) : Int))] h _
  refine g_lif_ne (a := ((n : Nat) : Int)) (b := (nA N (248 + 20 * g + 0))) (tgt := 28) dX10_isLike_20 rfl dX10_isLike_21 (by decide) (by omega) (by omega) (fun e => ?_) (fun e => ?_)
  · refine g_iconst (v := bI false) dX10_isLike_28 (by decide) ?_
    refine g_istore (lv2 := [(5, .int (bI false)), (4, .int (nI n)), (0, .ref m), (1, .int (nI f)), (2, .int (nI g)), (3, .int (bI bk))]) dX10_isLike_29 (by decide) rfl ?_
    refine g_iconst (v := nI 0) dX10_isLike_31 (by decide) ?_
    refine g_istore (lv2 := [(6, .int (nI 0)), (5, .int (bI false)), (4, .int (nI n)), (0, .ref m), (1, .int (nI f)), (2, .int (nI g)), (3, .int (bI bk))]) dX10_isLike_32 (by decide) rfl ?_
    have z9 := loop n 0 (Nat.zero_add _)
    rw [show (decide ((nA N (248 + 20 * f + 0)) = (nA N (248 + 20 * g + 0))) && lkU N f g bk 0) = false by rw [lkU, Bool.and_true, decide_eq_false (by omega)]] at z9
    exact zG.sub [0, 1, 2, 3, 4, 5, 6] rfl z9
  · refine g_iconst (v := bI true) dX10_isLike_24 (by decide) ?_
    refine g_goto (tgt := 29) dX10_isLike_25 (by decide) ?_
    refine g_istore (lv2 := [(5, .int (bI true)), (4, .int (nI n)), (0, .ref m), (1, .int (nI f)), (2, .int (nI g)), (3, .int (bI bk))]) dX10_isLike_29 (by decide) rfl ?_
    refine g_iconst (v := nI 0) dX10_isLike_31 (by decide) ?_
    refine g_istore (lv2 := [(6, .int (nI 0)), (5, .int (bI true)), (4, .int (nI n)), (0, .ref m), (1, .int (nI f)), (2, .int (nI g)), (3, .int (bI bk))]) dX10_isLike_32 (by decide) rfl ?_
    have z9 := loop n 0 (Nat.zero_add _)
    rw [show (decide ((nA N (248 + 20 * f + 0)) = (nA N (248 + 20 * g + 0))) && lkU N f g bk 0) = true by rw [lkU, Bool.and_true, decide_eq_true (by omega)]] at z9
    exact zG.sub [0, 1, 2, 3, 4, 5, 6] rfl z9
theorem c_alikeM (r : MoN h m N) (hI : iN [] N) {z k : Int} (zb : -2147483648 ≤ z ∧ z < 2147483648) (kb : -2147483648 ≤ k ∧ k < 2147483648) : zM l w mX10_alike [.ref m, .int (jI z), .int (jI k)] h (fun u h1 => u = some (.int (jI (qAlike N z k).2)) ∧ h1 = zSi h 321 m (jI (qAlike N z k).1)) := by
  refine zM.of (by decide) (Nat.le_of_ble_eq_true rfl) ?_
  have H1 := hI.H.2.1
  refine g_aload_n 0 dX10_alike_0 rfl rfl ?_
  refine g_iload_n 1 dX10_alike_1 rfl rfl ?_
  refine g_invv (M' := mX10_isFlow) (As := [.int (jI z)]) (rest := []) dX10_alike_2 ml_X10_321 okX10_isFlow imX10_isFlow seX10_isFlow ⟨(Nat.le_of_ble_eq_true rfl), (Nat.le_of_ble_eq_true rfl)⟩ (ci := 10) rfl rfl r.1.1 rfl rfl (Nat.le_of_ble_eq_true rfl) (c_isFlow r H1 (by omega)) ?_
  rintro _ q1 ⟨rfl, eq1⟩
  subst q1
  show zG l w mX10_alike 5 [(0, .ref m), (1, .int (jI z)), (2, .int (jI k))] [.int (bI (decide (0 ≤ z ∧ z < nA N 1)))] h _
  refine g_bif_eq (tgt := 16) dX10_alike_5 (by decide) (fun c => ?_) (fun c => ?_)
  · have c := of_decide_eq_false c
    refine g_aload_n 0 dX10_alike_16 rfl rfl ?_
    refine g_iconst (v := nI 2) dX10_alike_17 (by decide) ?_
    refine g_invv (M' := mX10_refuse) (As := [.int (nI 2)]) (rest := []) dX10_alike_18 ml_X10_289 okX10_refuse imX10_refuse seX10_refuse ⟨(Nat.le_of_ble_eq_true rfl), (Nat.le_of_ble_eq_true rfl)⟩ (ci := 10) rfl rfl r.1.1 rfl rfl (Nat.le_of_ble_eq_true rfl) (c_refuse r.1.1) ?_
    rintro _ q2 ⟨rfl, eq2⟩
    subst q2
    show zG l w mX10_alike 21 [(0, .ref m), (1, .int (jI z)), (2, .int (jI k))] [.int (-1)] (zSi h 321 m (nI 2)) _
    refine g_ireturn dX10_alike_21 rfl ?_
    rw [show qAlike N z k = (2, -1) by unfold qAlike; rw [if_neg (by omega)]]
    exact ⟨rfl, rfl⟩
  · have c := of_decide_eq_true c
    refine g_aload_n 0 dX10_alike_8 rfl rfl ?_
    refine g_iload_n 2 dX10_alike_9 rfl rfl ?_
    refine g_invv (M' := mX10_isFlow) (As := [.int (jI k)]) (rest := []) dX10_alike_10 ml_X10_321 okX10_isFlow imX10_isFlow seX10_isFlow ⟨(Nat.le_of_ble_eq_true rfl), (Nat.le_of_ble_eq_true rfl)⟩ (ci := 10) rfl rfl r.1.1 rfl rfl (Nat.le_of_ble_eq_true rfl) (c_isFlow r H1 (by omega)) ?_
    rintro _ q3 ⟨rfl, eq3⟩
    subst q3
    show zG l w mX10_alike 13 [(0, .ref m), (1, .int (jI z)), (2, .int (jI k))] [.int (bI (decide (0 ≤ k ∧ k < nA N 1)))] h _
    refine g_bif_ne (tgt := 22) dX10_alike_13 (by decide) (fun d => ?_) (fun d => ?_)
    · have d := of_decide_eq_true d
      rw [show qAlike N z k = (0, if likeN N z.toNat k.toNat false then 2 else if likeN N z.toNat k.toNat true then 1 else 0) by unfold qAlike; rw [if_pos ⟨c, d⟩]]
      obtain ⟨f, ef⟩ : ∃ f : Nat, z = (f : Int) := ⟨_, (Int.toNat_of_nonneg c.1).symm⟩
      subst ef
      obtain ⟨g, eg⟩ : ∃ g : Nat, k = (g : Int) := ⟨_, (Int.toNat_of_nonneg d.1).symm⟩
      subst eg
      simp only [jI_nat]
      rw [show (f : Int).toNat = f from rfl, show (g : Int).toNat = g from rfl]
      refine g_aload_n 0 dX10_alike_22 rfl rfl ?_
      refine g_aload_n 0 dX10_alike_23 rfl rfl ?_
      refine g_iload_n 1 dX10_alike_24 rfl rfl ?_
      refine g_iload_n 2 dX10_alike_25 rfl rfl ?_
      refine g_iconst (v := bI false) dX10_alike_26 (by decide) ?_
      refine g_invv (M' := mX10_isLike) (As := [.int (nI f), .int (nI g), .int (bI false)]) (rest := [.ref m]) dX10_alike_27 ml_X10_333 okX10_isLike imX10_isLike seX10_isLike ⟨(Nat.le_of_ble_eq_true rfl), (Nat.le_of_ble_eq_true rfl)⟩ (ci := 10) rfl rfl r.1.1 rfl rfl (Nat.le_of_ble_eq_true rfl) (c_isLike r hI c.2 d.2) ?_
      rintro _ q5 ⟨rfl, eq5⟩
      subst q5
      show zG l w mX10_alike 30 [(0, .ref m), (1, .int (nI f)), (2, .int (nI g))] [.int (bI (likeN N f g false)), .ref m] h _
      refine g_bif_eq (tgt := 39) dX10_alike_30 (by decide) (fun e => ?_) (fun e => ?_)
      · refine g_aload_n 0 dX10_alike_39 rfl rfl ?_
        refine g_iload_n 1 dX10_alike_40 rfl rfl ?_
        refine g_iload_n 2 dX10_alike_41 rfl rfl ?_
        refine g_iconst (v := bI true) dX10_alike_42 (by decide) ?_
        refine g_invv (M' := mX10_isLike) (As := [.int (nI f), .int (nI g), .int (bI true)]) (rest := [.ref m]) dX10_alike_43 ml_X10_333 okX10_isLike imX10_isLike seX10_isLike ⟨(Nat.le_of_ble_eq_true rfl), (Nat.le_of_ble_eq_true rfl)⟩ (ci := 10) rfl rfl r.1.1 rfl rfl (Nat.le_of_ble_eq_true rfl) (c_isLike r hI c.2 d.2) ?_
        rintro _ q7 ⟨rfl, eq7⟩
        subst q7
        show zG l w mX10_alike 46 [(0, .ref m), (1, .int (nI f)), (2, .int (nI g))] [.int (bI (likeN N f g true)), .ref m] h _
        refine g_bif_eq (tgt := 53) dX10_alike_46 (by decide) (fun e2 => ?_) (fun e2 => ?_)
        · refine g_lconst (v := jL 0) dX10_alike_53 (by decide) ?_
          refine g_invv (M' := mX10_gives) (As := [.long (jL 0)]) (rest := []) dX10_alike_54 ml_X10_298 okX10_gives imX10_gives seX10_gives ⟨(Nat.le_of_ble_eq_true rfl), (Nat.le_of_ble_eq_true rfl)⟩ (ci := 10) rfl rfl r.1.1 rfl rfl (Nat.le_of_ble_eq_true rfl) (c_gives r.1.1) ?_
          rintro _ q8 ⟨rfl, eq8⟩
          subst q8
          show zG l w mX10_alike 57 [(0, .ref m), (1, .int (nI f)), (2, .int (nI g))] [.int (jI 0)] (zSi h 321 m (nI 0)) _
          refine g_ireturn dX10_alike_57 rfl ?_
          exact ⟨by rw [e, e2]; rfl, rfl⟩
        · refine g_lconst (v := jL 1) dX10_alike_49 (by decide) ?_
          refine g_goto (tgt := 54) dX10_alike_50 (by decide) ?_
          refine g_invv (M' := mX10_gives) (As := [.long (jL 1)]) (rest := []) dX10_alike_54 ml_X10_298 okX10_gives imX10_gives seX10_gives ⟨(Nat.le_of_ble_eq_true rfl), (Nat.le_of_ble_eq_true rfl)⟩ (ci := 10) rfl rfl r.1.1 rfl rfl (Nat.le_of_ble_eq_true rfl) (c_gives r.1.1) ?_
          rintro _ q9 ⟨rfl, eq9⟩
          subst q9
          show zG l w mX10_alike 57 [(0, .ref m), (1, .int (nI f)), (2, .int (nI g))] [.int (jI 1)] (zSi h 321 m (nI 0)) _
          refine g_ireturn dX10_alike_57 rfl ?_
          exact ⟨by rw [e, e2]; rfl, rfl⟩
      · refine g_ldc2J (z := 2) dX10_alike_33 kl_X10_116 (by decide) ?_
        refine g_goto (tgt := 54) dX10_alike_36 (by decide) ?_
        refine g_invv (M' := mX10_gives) (As := [.long (jL 2)]) (rest := []) dX10_alike_54 ml_X10_298 okX10_gives imX10_gives seX10_gives ⟨(Nat.le_of_ble_eq_true rfl), (Nat.le_of_ble_eq_true rfl)⟩ (ci := 10) rfl rfl r.1.1 rfl rfl (Nat.le_of_ble_eq_true rfl) (c_gives r.1.1) ?_
        rintro _ q6 ⟨rfl, eq6⟩
        subst q6
        show zG l w mX10_alike 57 [(0, .ref m), (1, .int (nI f)), (2, .int (nI g))] [.int (jI 2)] (zSi h 321 m (nI 0)) _
        refine g_ireturn dX10_alike_57 rfl ?_
        exact ⟨by rw [e]; rfl, rfl⟩
    · have d := of_decide_eq_false d
      refine g_aload_n 0 dX10_alike_16 rfl rfl ?_
      refine g_iconst (v := nI 2) dX10_alike_17 (by decide) ?_
      refine g_invv (M' := mX10_refuse) (As := [.int (nI 2)]) (rest := []) dX10_alike_18 ml_X10_289 okX10_refuse imX10_refuse seX10_refuse ⟨(Nat.le_of_ble_eq_true rfl), (Nat.le_of_ble_eq_true rfl)⟩ (ci := 10) rfl rfl r.1.1 rfl rfl (Nat.le_of_ble_eq_true rfl) (c_refuse r.1.1) ?_
      rintro _ q4 ⟨rfl, eq4⟩
      subst q4
      show zG l w mX10_alike 21 [(0, .ref m), (1, .int (jI z)), (2, .int (jI k))] [.int (-1)] (zSi h 321 m (nI 2)) _
      refine g_ireturn dX10_alike_21 rfl ?_
      rw [show qAlike N z k = (2, -1) by unfold qAlike; rw [if_neg (by omega)]]
      exact ⟨rfl, rfl⟩
end QI
