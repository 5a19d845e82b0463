section QK
variable {l : Launch} {w : zW} {h : zH} {m x b : Nat} {π : Nat → Nat} {ls : Nat → List Nat} {N : nT} {X : List Nat} {t : Nat}
def sC (N : nT) : Nat → Int
  | 0 => 0
  | n + 1 => if nA N (248 + 20 * n + 3) = 1 then sC N n + 1 else sC N n
def sW (N : nT) : Nat → Int
  | 0 => 0
  | n + 1 => if nA N (248 + 20 * n + 3) = 1 then sW N n + nA N (248 + 20 * n + 5) else sW N n
def sQ (N : nT) : Nat → Int
  | 0 => 0
  | n + 1 => if nA N (248 + 20 * n + 3) = 1 then sQ N n + nA N (248 + 20 * n + 5) * nA N (248 + 20 * n + 5) else sQ N n
def gM (N : nT) : Nat → Int
  | 0 => 0
  | n + 1 => if nA N (248 + 20 * n + 3) = 1 then max (gM N n) (nA N (248 + 20 * n + 5)) else gM N n
def gL (N : nT) : Nat → Int
  | 0 => 4000
  | n + 1 => if nA N (248 + 20 * n + 3) = 1 then min (gL N n) (nA N (248 + 20 * n + 5)) else gL N n
theorem sq_bd {v : Int} (h : 100 ≤ v ∧ v ≤ 4000) : 10000 ≤ v * v ∧ v * v ≤ 16000000 := ⟨Int.le_trans (by decide : (10000 : Int) ≤ 100 * 100) (Int.mul_le_mul h.1 h.1 (by decide) (by omega)), Int.le_trans (Int.mul_le_mul h.2 h.2 (by omega) (by omega)) (by decide)⟩
theorem s_bd (h : iN X N) : ∀ n : Nat, (n : Int) ≤ nA N 1 → (0 ≤ sC N n ∧ sC N n ≤ n) ∧ (0 ≤ sW N n ∧ sW N n ≤ 4000 * n) ∧ (10000 * sC N n ≤ sQ N n ∧ sQ N n ≤ 16000000 * n) ∧ (0 ≤ gM N n ∧ gM N n ≤ 4000) ∧ (100 ≤ gL N n ∧ gL N n ≤ 4000) ∧ (sC N n = 0 → gM N n = 0 ∧ gL N n = 4000) ∧ (0 < sC N n → gL N n ≤ gM N n) := by
  intro n
  induction n with
  | zero =>
    intro _
    have e1 : sC N 0 = 0 := rfl
    have e2 : sW N 0 = 0 := rfl
    have e3 : sQ N 0 = 0 := rfl
    have e4 : gM N 0 = 0 := rfl
    have e5 : gL N 0 = 4000 := rfl
    exact ⟨by omega, by omega, by omega, by omega, by omega, fun _ => ⟨e4, e5⟩, fun q => by omega⟩
  | succ n ih =>
    intro hn
    obtain ⟨a1, a2, a3, a4, a5, a6, a7⟩ := ih (by omega)
    have w := (h.F n (by omega)).2.2.2.2.2.1
    have q := sq_bd w
    unfold sC sW sQ gM gL
    by_cases c : nA N (248 + 20 * n + 3) = 1
    · simp only [if_pos c]
      refine ⟨by omega, by omega, by omega, by omega, by omega, fun z => absurd z (by omega), fun _ => by omega⟩
    · simp only [if_neg c]
      refine ⟨by omega, by omega, by omega, a4, a5, a6, a7⟩
def nF (N : nT) : Nat := (nA N 1).toNat
def evenN (N : nT) : Int := if sC N (nF N) = 0 then 1000 else sW N (nF N) * sW N (nF N) * 1000 / (sC N (nF N) * sQ N (nF N))
def gapN (N : nT) : Int := max 0 (gM N (nF N) - gL N (nF N))
theorem even_bd (h : iN X N) : (0 ≤ sW N (nF N) * sW N (nF N) * 1000 ∧ sW N (nF N) * sW N (nF N) * 1000 ≤ 576000000000) ∧ (0 < sC N (nF N) → 0 < sC N (nF N) * sQ N (nF N)) ∧ 0 ≤ sC N (nF N) * sQ N (nF N) ∧ sC N (nF N) * sQ N (nF N) ≤ 576000000 := by
  have H1 := h.H.2.1
  have B := s_bd h (nF N) (by unfold nF; omega)
  have n6 : nF N ≤ 6 := by unfold nF; omega
  obtain ⟨a1, a2, a3, -⟩ := B
  have p1 : 0 ≤ sW N (nF N) * sW N (nF N) := Int.mul_nonneg a2.1 a2.1
  have p2 : sW N (nF N) * sW N (nF N) ≤ 24000 * 24000 := Int.mul_le_mul (by omega) (by omega) a2.1 (by decide)
  have p3 : 0 ≤ sC N (nF N) * sQ N (nF N) := Int.mul_nonneg a1.1 (by omega)
  have p4 : sC N (nF N) * sQ N (nF N) ≤ 6 * 96000000 := Int.mul_le_mul (by omega) (by omega) (by omega) (by decide)
  exact ⟨⟨by omega, by omega⟩, fun q => Int.mul_pos q (by omega), p3, by omega⟩
def qMany (N : nT) (mk : Nat) (k : Int) : Int × Int := if k = 0 then (0, nA N 0) else if k = 1 then (0, nA N 1) else if k = 2 then (0, nA N 2) else if k = 3 then (0, (mk : Int)) else if k = 4 then (0, (sumL (fun a => (nR N a).length) (nA N 0).toNat : Int)) else if k = 5 then (0, (sumL (fun a => (nW N a).length) (nA N 0).toNat : Int)) else if k = 6 then (0, ((nK N).length : Int)) else if k = 7 then (0, ((nE N).length : Int)) else if k = 8 then (0, evenN N) else if k = 9 then (0, gapN N) else (1, -1)
theorem c_even (r : MoN h m N) (hI : iN [] N) : zM l w mX10_even [.ref m] h (fun u h1 => u = some (.long (jL (evenN N))) ∧ h1 = h) := by
  refine zM.of (by decide) (Nat.le_of_ble_eq_true rfl) ?_
  have H1 := hI.H.2.1
  have EB := even_bd hI
  have hB := hI.B
  have loop : ∀ n i : Nat, ((i + n : Nat) : Int) = nA N 1 → zG l w mX10_even 10 [(7, .int (nI i)), (5, .long (jL (sC N i))), (3, .long (jL (sQ N i))), (1, .long (jL (sW N i))), (0, .ref m)] [] h (fun u h1 => u = some (.long (jL (evenN N))) ∧ h1 = h) := by
    intro n
    induction n with
    | zero =>
      intro i hi
      have ei : i = nF N := by unfold nF; omega
      have SB := s_bd hI i (by omega)
      have SB1 := SB.1
      refine g_iload 0 dX10_even_10 rfl ?_
      refine g_i2l dX10_even_12 ?_
      rw [nI_l (by omega), ← jL_nat]
      refine g_aload_n 4 dX10_even_13 rfl rfl ?_
      refine g_iconst (v := nI 1) dX10_even_14 (by decide) ?_
      refine g_invv (M' := mX10_of) (As := [.int (nI 1)]) (rest := [.long (jL ((i : Nat) : Int))]) dX10_even_15 ml_X10_48 okX10_of imX10_of seX10_of ⟨(Nat.le_of_ble_eq_true rfl), (Nat.le_of_ble_eq_true rfl)⟩ (ci := 10) rfl rfl r.1.1 rfl rfl (Nat.le_of_ble_eq_true rfl) (c_ofN r (by omega) (by unfold nSp; omega)) ?_
      rintro _ q1 ⟨rfl, eq1⟩
      subst q1
      show zG l w mX10_even 18 [(7, .int (nI i)), (5, .long (jL (sC N i))), (3, .long (jL (sQ N i))), (1, .long (jL (sW N i))), (0, .ref m)] [.long (jL (nA N 1)), .long (jL ((i : Nat) : Int))] h _
      refine g_lif_ge (a := ((i : Nat) : Int)) (b := (nA N 1)) (tgt := 74) dX10_even_18 rfl dX10_even_19 (by decide) (by omega) (by omega) (fun c => ?_) (fun c => ?_)
      · subst ei
        refine g_lload 1 dX10_even_74 rfl ?_
        refine g_lconst (v := jL 0) dX10_even_76 (by decide) ?_
        refine g_lif_ne (a := (sC N (nF N))) (b := 0) (tgt := 87) dX10_even_77 rfl dX10_even_78 (by decide) (by omega) (by omega) (fun d => ?_) (fun d => ?_)
        · have pp := EB.2.1 (by omega)
          refine g_lload_n 3 dX10_even_87 rfl rfl ?_
          refine g_lload_n 3 dX10_even_88 rfl rfl ?_
          refine g_lmul dX10_even_89 ?_
          rw [jL_mul]
          refine g_ldc2J (z := 1000) dX10_even_90 kl_X10_144 (by decide) ?_
          refine g_lmul dX10_even_93 ?_
          rw [jL_mul]
          refine g_lload 1 dX10_even_94 rfl ?_
          refine g_lload_n 2 dX10_even_96 rfl rfl ?_
          refine g_lmul dX10_even_97 ?_
          rw [jL_mul]
          refine g_ldiv dX10_even_98 (jL_ne0 (by omega)) ?_
          rw [jL_div (by omega) (by omega)]
          refine g_lreturn dX10_even_99 rfl ?_
          exact ⟨by unfold evenN; rw [if_neg d], rfl⟩
        · refine g_ldc2J (z := 1000) dX10_even_81 kl_X10_144 (by decide) ?_
          refine g_goto (tgt := 99) dX10_even_84 (by decide) ?_
          refine g_lreturn dX10_even_99 rfl ?_
          exact ⟨by unfold evenN; rw [if_pos d], rfl⟩
      · exact absurd c (by omega)
    | succ n ih =>
      intro i hi
      refine g_iload 0 dX10_even_10 rfl ?_
      refine g_i2l dX10_even_12 ?_
      rw [nI_l (by omega), ← jL_nat]
      refine g_aload_n 4 dX10_even_13 rfl rfl ?_
      refine g_iconst (v := nI 1) dX10_even_14 (by decide) ?_
      refine g_invv (M' := mX10_of) (As := [.int (nI 1)]) (rest := [.long (jL ((i : Nat) : Int))]) dX10_even_15 ml_X10_48 okX10_of imX10_of seX10_of ⟨(Nat.le_of_ble_eq_true rfl), (Nat.le_of_ble_eq_true rfl)⟩ (ci := 10) rfl rfl r.1.1 rfl rfl (Nat.le_of_ble_eq_true rfl) (c_ofN r (by omega) (by unfold nSp; omega)) ?_
      rintro _ q2 ⟨rfl, eq2⟩
      subst q2
      show zG l w mX10_even 18 [(7, .int (nI i)), (5, .long (jL (sC N i))), (3, .long (jL (sQ N i))), (1, .long (jL (sW N i))), (0, .ref m)] [.long (jL (nA N 1)), .long (jL ((i : Nat) : Int))] h _
      refine g_lif_ge (a := ((i : Nat) : Int)) (b := (nA N 1)) (tgt := 74) dX10_even_18 rfl dX10_even_19 (by decide) (by omega) (by omega) (fun c => ?_) (fun c => ?_)
      · exact absurd c (by omega)
      · have i6 : i < 6 := by omega
        refine g_aload_n 4 dX10_even_22 rfl rfl ?_
        refine g_iload 0 dX10_even_23 rfl ?_
        refine g_invv (M' := mX10_isOn) (As := [.int (nI i)]) (rest := []) dX10_even_25 ml_X10_181 okX10_isOn imX10_isOn seX10_isOn ⟨(Nat.le_of_ble_eq_true rfl), (Nat.le_of_ble_eq_true rfl)⟩ (ci := 10) rfl rfl r.1.1 rfl rfl (Nat.le_of_ble_eq_true rfl) (c_isOn r hB i6) ?_
        rintro _ q3 ⟨rfl, eq3⟩
        subst q3
        show zG l w mX10_even 28 [(7, .int (nI i)), (5, .long (jL (sC N i))), (3, .long (jL (sQ N i))), (1, .long (jL (sW N i))), (0, .ref m)] [.int (bI (decide (nA N (248 + 20 * i + 3) = 1)))] h _
        refine g_bif_ne (tgt := 34) dX10_even_28 (by decide) (fun d => ?_) (fun d => ?_)
        · have d := of_decide_eq_true d
          refine g_lload_n 3 dX10_even_34 rfl rfl ?_
          refine g_aload_n 4 dX10_even_35 rfl rfl ?_
          refine g_iload 0 dX10_even_36 rfl ?_
          refine g_iconst (v := nI 5) dX10_even_38 (by decide) ?_
          refine g_invv (M' := mX10_ofFlow) (As := [.int (nI i), .int (nI 5)]) (rest := [.long (jL (sW N i))]) dX10_even_39 ml_X10_62 okX10_ofFlow imX10_ofFlow seX10_ofFlow ⟨(Nat.le_of_ble_eq_true rfl), (Nat.le_of_ble_eq_true rfl)⟩ (ci := 10) rfl rfl r.1.1 rfl rfl (Nat.le_of_ble_eq_true rfl) (c_ofFlowN r (by omega)) ?_
          rintro _ q4 ⟨rfl, eq4⟩
          subst q4
          show zG l w mX10_even 42 [(7, .int (nI i)), (5, .long (jL (sC N i))), (3, .long (jL (sQ N i))), (1, .long (jL (sW N i))), (0, .ref m)] [.long (jL (nA N (248 + 20 * i + 5))), .long (jL (sW N i))] h _
          refine g_ladd dX10_even_42 ?_
          rw [jL_add]
          refine g_lstore_n (lv2 := [(1, .long (jL ((sW N i) + (nA N (248 + 20 * i + 5))))), (7, .int (nI i)), (5, .long (jL (sC N i))), (3, .long (jL (sQ N i))), (0, .ref m)]) dX10_even_43 rfl (by decide) rfl ?_
          refine g_lload_n 3 dX10_even_44 rfl rfl ?_
          refine g_aload_n 4 dX10_even_45 rfl rfl ?_
          refine g_iload 1 dX10_even_46 rfl ?_
          refine g_iconst (v := nI 5) dX10_even_48 (by decide) ?_
          refine g_invv (M' := mX10_ofFlow) (As := [.int (nI i), .int (nI 5)]) (rest := [.long (jL (sQ N i))]) dX10_even_49 ml_X10_62 okX10_ofFlow imX10_ofFlow seX10_ofFlow ⟨(Nat.le_of_ble_eq_true rfl), (Nat.le_of_ble_eq_true rfl)⟩ (ci := 10) rfl rfl r.1.1 rfl rfl (Nat.le_of_ble_eq_true rfl) (c_ofFlowN r (by omega)) ?_
          rintro _ q5 ⟨rfl, eq5⟩
          subst q5
          show zG l w mX10_even 52 [(1, .long (jL ((sW N i) + (nA N (248 + 20 * i + 5))))), (7, .int (nI i)), (5, .long (jL (sC N i))), (3, .long (jL (sQ N i))), (0, .ref m)] [.long (jL (nA N (248 + 20 * i + 5))), .long (jL (sQ N i))] h _
          refine g_aload_n 4 dX10_even_52 rfl rfl ?_
          refine g_iload 1 dX10_even_53 rfl ?_
          refine g_iconst (v := nI 5) dX10_even_55 (by decide) ?_
          refine g_invv (M' := mX10_ofFlow) (As := [.int (nI i), .int (nI 5)]) (rest := [.long (jL (nA N (248 + 20 * i + 5))), .long (jL (sQ N i))]) dX10_even_56 ml_X10_62 okX10_ofFlow imX10_ofFlow seX10_ofFlow ⟨(Nat.le_of_ble_eq_true rfl), (Nat.le_of_ble_eq_true rfl)⟩ (ci := 10) rfl rfl r.1.1 rfl rfl (Nat.le_of_ble_eq_true rfl) (c_ofFlowN r (by omega)) ?_
          rintro _ q6 ⟨rfl, eq6⟩
          subst q6
          show zG l w mX10_even 59 [(1, .long (jL ((sW N i) + (nA N (248 + 20 * i + 5))))), (7, .int (nI i)), (5, .long (jL (sC N i))), (3, .long (jL (sQ N i))), (0, .ref m)] [.long (jL (nA N (248 + 20 * i + 5))), .long (jL (nA N (248 + 20 * i + 5))), .long (jL (sQ N i))] h _
          refine g_lmul dX10_even_59 ?_
          rw [jL_mul]
          refine g_ladd dX10_even_60 ?_
          rw [jL_add]
          refine g_lstore_n (lv2 := [(3, .long (jL ((sQ N i) + ((nA N (248 + 20 * i + 5)) * (nA N (248 + 20 * i + 5)))))), (1, .long (jL ((sW N i) + (nA N (248 + 20 * i + 5))))), (7, .int (nI i)), (5, .long (jL (sC N i))), (0, .ref m)]) dX10_even_61 rfl (by decide) rfl ?_
          refine g_lload 3 dX10_even_62 rfl ?_
          refine g_lconst (v := jL 1) dX10_even_64 (by decide) ?_
          refine g_ladd dX10_even_65 ?_
          rw [jL_add]
          refine g_lstore (lv2 := [(5, .long (jL ((sC N i) + 1))), (3, .long (jL ((sQ N i) + ((nA N (248 + 20 * i + 5)) * (nA N (248 + 20 * i + 5)))))), (1, .long (jL ((sW N i) + (nA N (248 + 20 * i + 5))))), (7, .int (nI i)), (0, .ref m)]) dX10_even_66 (by decide) rfl ?_
          refine g_inc (v := nI (i + 1)) (lv2 := [(7, .int (nI (i + 1))), (5, .long (jL ((sC N i) + 1))), (3, .long (jL ((sQ N i) + ((nA N (248 + 20 * i + 5)) * (nA N (248 + 20 * i + 5)))))), (1, .long (jL ((sW N i) + (nA N (248 + 20 * i + 5))))), (0, .ref m)]) 3 dX10_even_68 rfl (nI_add _ 1) (by decide) rfl ?_
          refine g_goto (tgt := 10) dX10_even_71 (by decide) ?_
          refine zG.sub [0, 1, 2, 3, 4] ?_ (ih (i + 1) (by omega))
          rw [sC, sQ, sW, if_pos d, if_pos d, if_pos d]; rfl
        · have d := of_decide_eq_false d
          refine g_goto (tgt := 68) dX10_even_31 (by decide) ?_
          refine g_inc (v := nI (i + 1)) (lv2 := [(7, .int (nI (i + 1))), (5, .long (jL (sC N i))), (3, .long (jL (sQ N i))), (1, .long (jL (sW N i))), (0, .ref m)]) 0 dX10_even_68 rfl (nI_add _ 1) (by decide) rfl ?_
          refine g_goto (tgt := 10) dX10_even_71 (by decide) ?_
          refine zG.sub [0, 1, 2, 3, 4] ?_ (ih (i + 1) (by omega))
          rw [sC, sQ, sW, if_neg d, if_neg d, if_neg d]; rfl
  refine g_lconst (v := jL 0) dX10_even_0 (by decide) ?_
  refine g_lstore_n (lv2 := [(1, .long (jL 0)), (0, .ref m)]) dX10_even_1 rfl (by decide) rfl ?_
  refine g_lconst (v := jL 0) dX10_even_2 (by decide) ?_
  refine g_lstore_n (lv2 := [(3, .long (jL 0)), (1, .long (jL 0)), (0, .ref m)]) dX10_even_3 rfl (by decide) rfl ?_
  refine g_lconst (v := jL 0) dX10_even_4 (by decide) ?_
  refine g_lstore (lv2 := [(5, .long (jL 0)), (3, .long (jL 0)), (1, .long (jL 0)), (0, .ref m)]) dX10_even_5 (by decide) rfl ?_
  refine g_iconst (v := nI 0) dX10_even_7 (by decide) ?_
  refine g_istore (lv2 := [(7, .int (nI 0)), (5, .long (jL 0)), (3, .long (jL 0)), (1, .long (jL 0)), (0, .ref m)]) dX10_even_8 (by decide) rfl ?_
  exact zG.sub [0, 1, 2, 3, 4] rfl (loop (nA N 1).toNat 0 (by omega))
theorem c_gap (r : MoN h m N) (hI : iN [] N) : zM l w mX10_gap [.ref m] h (fun u h1 => u = some (.long (jL (gapN N))) ∧ h1 = h) := by
  refine zM.of (by decide) (Nat.le_of_ble_eq_true rfl) ?_
  have H1 := hI.H.2.1
  have hB := hI.B
  have loop : ∀ n i : Nat, ((i + n : Nat) : Int) = nA N 1 → zG l w mX10_gap 9 [(5, .int (nI i)), (3, .long (jL (gM N i))), (1, .long (jL (gL N i))), (0, .ref m)] [] h (fun u h1 => u = some (.long (jL (gapN N))) ∧ h1 = h) := by
    intro n
    induction n with
    | zero =>
      intro i hi
      have ei : i = nF N := by unfold nF; omega
      have SB := s_bd hI i (by omega)
      have g1 := SB.2.2.2.1
      have g2 := SB.2.2.2.2.1
      refine g_iload 0 dX10_gap_9 rfl ?_
      refine g_i2l dX10_gap_11 ?_
      rw [nI_l (by omega), ← jL_nat]
      refine g_aload_n 3 dX10_gap_12 rfl rfl ?_
      refine g_iconst (v := nI 1) dX10_gap_13 (by decide) ?_
      refine g_invv (M' := mX10_of) (As := [.int (nI 1)]) (rest := [.long (jL ((i : Nat) : Int))]) dX10_gap_14 ml_X10_48 okX10_of imX10_of seX10_of ⟨(Nat.le_of_ble_eq_true rfl), (Nat.le_of_ble_eq_true rfl)⟩ (ci := 10) rfl rfl r.1.1 rfl rfl (Nat.le_of_ble_eq_true rfl) (c_ofN r (by omega) (by unfold nSp; omega)) ?_
      rintro _ q1 ⟨rfl, eq1⟩
      subst q1
      show zG l w mX10_gap 17 [(5, .int (nI i)), (3, .long (jL (gM N i))), (1, .long (jL (gL N i))), (0, .ref m)] [.long (jL (nA N 1)), .long (jL ((i : Nat) : Int))] h _
      refine g_lif_ge (a := ((i : Nat) : Int)) (b := (nA N 1)) (tgt := 63) dX10_gap_17 rfl dX10_gap_18 (by decide) (by omega) (by omega) (fun c => ?_) (fun c => ?_)
      · refine g_lconst (v := jL 0) dX10_gap_63 (by decide) ?_
        refine g_lload_n 1 dX10_gap_64 rfl rfl ?_
        refine g_lload_n 2 dX10_gap_65 rfl rfl ?_
        refine g_lsub dX10_gap_66 ?_
        rw [jL_sub]
        refine g_invs (M' := mJ9_max_f86c9) (As := [.long (jL 0), .long (jL ((gM N i) - (gL N i)))]) (rest := []) dX10_gap_67 ml_X10_87 okJ9_max_f86c9 stJ9_max_f86c9 ⟨(Nat.le_of_ble_eq_true rfl), (Nat.le_of_ble_eq_true rfl)⟩ rfl rfl (Nat.le_of_ble_eq_true rfl) (c_maxL (by omega) (by omega)) ?_
        rintro _ q2 ⟨rfl, eq2⟩
        subst q2
        show zG l w mX10_gap 70 [(5, .int (nI i)), (3, .long (jL (gM N i))), (1, .long (jL (gL N i))), (0, .ref m)] [.long (jL (max 0 (gM N i - gL N i)))] h _
        refine g_lreturn dX10_gap_70 rfl ?_
        exact ⟨by unfold gapN; rw [← ei], rfl⟩
      · exact absurd c (by omega)
    | succ n ih =>
      intro i hi
      have SB := s_bd hI i (by omega)
      have g1 := SB.2.2.2.1
      have g2 := SB.2.2.2.2.1
      have wb := (hI.F i (by omega)).2.2.2.2.2.1
      refine g_iload 0 dX10_gap_9 rfl ?_
      refine g_i2l dX10_gap_11 ?_
      rw [nI_l (by omega), ← jL_nat]
      refine g_aload_n 3 dX10_gap_12 rfl rfl ?_
      refine g_iconst (v := nI 1) dX10_gap_13 (by decide) ?_
      refine g_invv (M' := mX10_of) (As := [.int (nI 1)]) (rest := [.long (jL ((i : Nat) : Int))]) dX10_gap_14 ml_X10_48 okX10_of imX10_of seX10_of ⟨(Nat.le_of_ble_eq_true rfl), (Nat.le_of_ble_eq_true rfl)⟩ (ci := 10) rfl rfl r.1.1 rfl rfl (Nat.le_of_ble_eq_true rfl) (c_ofN r (by omega) (by unfold nSp; omega)) ?_
      rintro _ q3 ⟨rfl, eq3⟩
      subst q3
      show zG l w mX10_gap 17 [(5, .int (nI i)), (3, .long (jL (gM N i))), (1, .long (jL (gL N i))), (0, .ref m)] [.long (jL (nA N 1)), .long (jL ((i : Nat) : Int))] h _
      refine g_lif_ge (a := ((i : Nat) : Int)) (b := (nA N 1)) (tgt := 63) dX10_gap_17 rfl dX10_gap_18 (by decide) (by omega) (by omega) (fun c => ?_) (fun c => ?_)
      · exact absurd c (by omega)
      · have i6 : i < 6 := by omega
        refine g_aload_n 3 dX10_gap_21 rfl rfl ?_
        refine g_iload 0 dX10_gap_22 rfl ?_
        refine g_invv (M' := mX10_isOn) (As := [.int (nI i)]) (rest := []) dX10_gap_24 ml_X10_181 okX10_isOn imX10_isOn seX10_isOn ⟨(Nat.le_of_ble_eq_true rfl), (Nat.le_of_ble_eq_true rfl)⟩ (ci := 10) rfl rfl r.1.1 rfl rfl (Nat.le_of_ble_eq_true rfl) (c_isOn r hB i6) ?_
        rintro _ q4 ⟨rfl, eq4⟩
        subst q4
        show zG l w mX10_gap 27 [(5, .int (nI i)), (3, .long (jL (gM N i))), (1, .long (jL (gL N i))), (0, .ref m)] [.int (bI (decide (nA N (248 + 20 * i + 3) = 1)))] h _
        refine g_bif_ne (tgt := 33) dX10_gap_27 (by decide) (fun d => ?_) (fun d => ?_)
        · have d := of_decide_eq_true d
          refine g_lload_n 2 dX10_gap_33 rfl rfl ?_
          refine g_aload_n 3 dX10_gap_34 rfl rfl ?_
          refine g_iload 0 dX10_gap_35 rfl ?_
          refine g_iconst (v := nI 5) dX10_gap_37 (by decide) ?_
          refine g_invv (M' := mX10_ofFlow) (As := [.int (nI i), .int (nI 5)]) (rest := [.long (jL (gL N i))]) dX10_gap_38 ml_X10_62 okX10_ofFlow imX10_ofFlow seX10_ofFlow ⟨(Nat.le_of_ble_eq_true rfl), (Nat.le_of_ble_eq_true rfl)⟩ (ci := 10) rfl rfl r.1.1 rfl rfl (Nat.le_of_ble_eq_true rfl) (c_ofFlowN r (by omega)) ?_
          rintro _ q5 ⟨rfl, eq5⟩
          subst q5
          show zG l w mX10_gap 41 [(5, .int (nI i)), (3, .long (jL (gM N i))), (1, .long (jL (gL N i))), (0, .ref m)] [.long (jL (nA N (248 + 20 * i + 5))), .long (jL (gL N i))] h _
          refine g_invs (M' := mJ9_min_f86c9) (As := [.long (jL (gL N i)), .long (jL (nA N (248 + 20 * i + 5)))]) (rest := []) dX10_gap_41 ml_X10_113 okJ9_min_f86c9 stJ9_min_f86c9 ⟨(Nat.le_of_ble_eq_true rfl), (Nat.le_of_ble_eq_true rfl)⟩ rfl rfl (Nat.le_of_ble_eq_true rfl) (c_minL (by omega) (by omega)) ?_
          rintro _ q6 ⟨rfl, eq6⟩
          subst q6
          show zG l w mX10_gap 44 [(5, .int (nI i)), (3, .long (jL (gM N i))), (1, .long (jL (gL N i))), (0, .ref m)] [.long (jL (min (gL N i) (nA N (248 + 20 * i + 5))))] h _
          refine g_lstore_n (lv2 := [(1, .long (jL (min (gL N i) (nA N (248 + 20 * i + 5))))), (5, .int (nI i)), (3, .long (jL (gM N i))), (0, .ref m)]) dX10_gap_44 rfl (by decide) rfl ?_
          refine g_lload_n 2 dX10_gap_45 rfl rfl ?_
          refine g_aload_n 3 dX10_gap_46 rfl rfl ?_
          refine g_iload 1 dX10_gap_47 rfl ?_
          refine g_iconst (v := nI 5) dX10_gap_49 (by decide) ?_
          refine g_invv (M' := mX10_ofFlow) (As := [.int (nI i), .int (nI 5)]) (rest := [.long (jL (gM N i))]) dX10_gap_50 ml_X10_62 okX10_ofFlow imX10_ofFlow seX10_ofFlow ⟨(Nat.le_of_ble_eq_true rfl), (Nat.le_of_ble_eq_true rfl)⟩ (ci := 10) rfl rfl r.1.1 rfl rfl (Nat.le_of_ble_eq_true rfl) (c_ofFlowN r (by omega)) ?_
          rintro _ q7 ⟨rfl, eq7⟩
          subst q7
          show zG l w mX10_gap 53 [(1, .long (jL (min (gL N i) (nA N (248 + 20 * i + 5))))), (5, .int (nI i)), (3, .long (jL (gM N i))), (0, .ref m)] [.long (jL (nA N (248 + 20 * i + 5))), .long (jL (gM N i))] h _
          refine g_invs (M' := mJ9_max_f86c9) (As := [.long (jL (gM N i)), .long (jL (nA N (248 + 20 * i + 5)))]) (rest := []) dX10_gap_53 ml_X10_87 okJ9_max_f86c9 stJ9_max_f86c9 ⟨(Nat.le_of_ble_eq_true rfl), (Nat.le_of_ble_eq_true rfl)⟩ rfl rfl (Nat.le_of_ble_eq_true rfl) (c_maxL (by omega) (by omega)) ?_
          rintro _ q8 ⟨rfl, eq8⟩
          subst q8
          show zG l w mX10_gap 56 [(1, .long (jL (min (gL N i) (nA N (248 + 20 * i + 5))))), (5, .int (nI i)), (3, .long (jL (gM N i))), (0, .ref m)] [.long (jL (max (gM N i) (nA N (248 + 20 * i + 5))))] h _
          refine g_lstore_n (lv2 := [(3, .long (jL (max (gM N i) (nA N (248 + 20 * i + 5))))), (1, .long (jL (min (gL N i) (nA N (248 + 20 * i + 5))))), (5, .int (nI i)), (0, .ref m)]) dX10_gap_56 rfl (by decide) rfl ?_
          refine g_inc (v := nI (i + 1)) (lv2 := [(5, .int (nI (i + 1))), (3, .long (jL (max (gM N i) (nA N (248 + 20 * i + 5))))), (1, .long (jL (min (gL N i) (nA N (248 + 20 * i + 5))))), (0, .ref m)]) 2 dX10_gap_57 rfl (nI_add _ 1) (by decide) rfl ?_
          refine g_goto (tgt := 9) dX10_gap_60 (by decide) ?_
          refine zG.sub [0, 1, 2, 3] ?_ (ih (i + 1) (by omega))
          rw [gM, gL, if_pos d, if_pos d]; rfl
        · have d := of_decide_eq_false d
          refine g_goto (tgt := 57) dX10_gap_30 (by decide) ?_
          refine g_inc (v := nI (i + 1)) (lv2 := [(5, .int (nI (i + 1))), (3, .long (jL (gM N i))), (1, .long (jL (gL N i))), (0, .ref m)]) 0 dX10_gap_57 rfl (nI_add _ 1) (by decide) rfl ?_
          refine g_goto (tgt := 9) dX10_gap_60 (by decide) ?_
          refine zG.sub [0, 1, 2, 3] ?_ (ih (i + 1) (by omega))
          rw [gM, gL, if_neg d, if_neg d]; rfl
  refine g_ldc2J (z := 4000) dX10_gap_0 kl_X10_124 (by decide) ?_
  refine g_lstore_n (lv2 := [(1, .long (jL 4000)), (0, .ref m)]) dX10_gap_3 rfl (by decide) rfl ?_
  refine g_lconst (v := jL 0) dX10_gap_4 (by decide) ?_
  refine g_lstore_n (lv2 := [(3, .long (jL 0)), (1, .long (jL 4000)), (0, .ref m)]) dX10_gap_5 rfl (by decide) rfl ?_
  refine g_iconst (v := nI 0) dX10_gap_6 (by decide) ?_
  refine g_istore (lv2 := [(5, .int (nI 0)), (3, .long (jL 0)), (1, .long (jL 4000)), (0, .ref m)]) dX10_gap_7 (by decide) rfl ?_
  exact zG.sub [0, 1, 2, 3] rfl (loop (nA N 1).toNat 0 (by omega))
theorem c_linksSumR (r : MoN h m N) (hI : iN [] N) : zM l w mX10_linksSum [.ref m, .int (nI 4)] h (fun u h1 => u = some (.long (jL (sumL (fun a => (nR N a).length) (nA N 0).toNat : Int))) ∧ h1 = h) := by
  refine zM.of (by decide) (Nat.le_of_ble_eq_true rfl) ?_
  have H0 := hI.H.1
  have loop : ∀ n i : Nat, ((i + n : Nat) : Int) = nA N 0 → zG l w mX10_linksSum 5 [(4, .int (nI i)), (2, .long (jL (sumL (fun a => (nR N a).length) i : Int))), (0, .ref m), (1, .int (nI 4))] [] h (fun u h1 => u = some (.long (jL (sumL (fun a => (nR N a).length) (nA N 0).toNat : Int))) ∧ h1 = h) := by
    intro n
    induction n with
    | zero =>
      intro i hi
      refine g_iload 0 dX10_linksSum_5 rfl ?_
      refine g_i2l dX10_linksSum_7 ?_
      rw [nI_l (by omega), ← jL_nat]
      refine g_aload_n 2 dX10_linksSum_8 rfl rfl ?_
      refine g_iconst (v := nI 0) dX10_linksSum_9 (by decide) ?_
      refine g_invv (M' := mX10_of) (As := [.int (nI 0)]) (rest := [.long (jL ((i : Nat) : Int))]) dX10_linksSum_10 ml_X10_48 okX10_of imX10_of seX10_of ⟨(Nat.le_of_ble_eq_true rfl), (Nat.le_of_ble_eq_true rfl)⟩ (ci := 10) rfl rfl r.1.1 rfl rfl (Nat.le_of_ble_eq_true rfl) (c_ofN r (by omega) (by unfold nSp; omega)) ?_
      rintro _ q1 ⟨rfl, eq1⟩
      subst q1
      show zG l w mX10_linksSum 13 [(4, .int (nI i)), (2, .long (jL (sumL (fun a => (nR N a).length) i : Int))), (0, .ref m), (1, .int (nI 4))] [.long (jL (nA N 0)), .long (jL ((i : Nat) : Int))] h _
      refine g_lif_ge (a := ((i : Nat) : Int)) (b := (nA N 0)) (tgt := 33) dX10_linksSum_13 rfl dX10_linksSum_14 (by decide) (by omega) (by omega) (fun c => ?_) (fun c => ?_)
      · refine g_lload_n 1 dX10_linksSum_33 rfl rfl ?_
        refine g_lreturn dX10_linksSum_34 rfl ?_
        exact ⟨by rw [← show i = (nA N 0).toNat by omega], rfl⟩
      · exact absurd c (by omega)
    | succ n ih =>
      intro i hi
      refine g_iload 0 dX10_linksSum_5 rfl ?_
      refine g_i2l dX10_linksSum_7 ?_
      rw [nI_l (by omega), ← jL_nat]
      refine g_aload_n 2 dX10_linksSum_8 rfl rfl ?_
      refine g_iconst (v := nI 0) dX10_linksSum_9 (by decide) ?_
      refine g_invv (M' := mX10_of) (As := [.int (nI 0)]) (rest := [.long (jL ((i : Nat) : Int))]) dX10_linksSum_10 ml_X10_48 okX10_of imX10_of seX10_of ⟨(Nat.le_of_ble_eq_true rfl), (Nat.le_of_ble_eq_true rfl)⟩ (ci := 10) rfl rfl r.1.1 rfl rfl (Nat.le_of_ble_eq_true rfl) (c_ofN r (by omega) (by unfold nSp; omega)) ?_
      rintro _ q2 ⟨rfl, eq2⟩
      subst q2
      show zG l w mX10_linksSum 13 [(4, .int (nI i)), (2, .long (jL (sumL (fun a => (nR N a).length) i : Int))), (0, .ref m), (1, .int (nI 4))] [.long (jL (nA N 0)), .long (jL ((i : Nat) : Int))] h _
      refine g_lif_ge (a := ((i : Nat) : Int)) (b := (nA N 0)) (tgt := 33) dX10_linksSum_13 rfl dX10_linksSum_14 (by decide) (by omega) (by omega) (fun c => ?_) (fun c => ?_)
      · exact absurd c (by omega)
      · have i6 : i < 6 := by omega
        refine g_lload_n 1 dX10_linksSum_17 rfl rfl ?_
        refine g_aload_n 2 dX10_linksSum_18 rfl rfl ?_
        refine g_iload 0 dX10_linksSum_19 rfl ?_
        refine g_iload_n 3 dX10_linksSum_21 rfl rfl ?_
        refine g_invv (M' := mX10_ofLink) (As := [.int (nI i), .int (nI 4)]) (rest := [.long (jL (sumL (fun a => (nR N a).length) i : Int))]) dX10_linksSum_22 ml_X10_69 okX10_ofLink imX10_ofLink seX10_ofLink ⟨(Nat.le_of_ble_eq_true rfl), (Nat.le_of_ble_eq_true rfl)⟩ (ci := 10) rfl rfl r.1.1 rfl rfl (Nat.le_of_ble_eq_true rfl) (c_ofStood r (by omega)) ?_
        rintro _ q3 ⟨rfl, eq3⟩
        subst q3
        show zG l w mX10_linksSum 25 [(4, .int (nI i)), (2, .long (jL (sumL (fun a => (nR N a).length) i : Int))), (0, .ref m), (1, .int (nI 4))] [.long (lN (nR N i).length), .long (jL (sumL (fun a => (nR N a).length) i : Int))] h _
        rw [← jL_nat]
        refine g_ladd dX10_linksSum_25 ?_
        rw [jL_add]
        refine g_lstore_n (lv2 := [(2, .long (jL ((sumL (fun a => (nR N a).length) i : Int) + (((nR N i).length : Nat) : Int)))), (4, .int (nI i)), (0, .ref m), (1, .int (nI 4))]) dX10_linksSum_26 rfl (by decide) rfl ?_
        refine g_inc (v := nI (i + 1)) (lv2 := [(4, .int (nI (i + 1))), (2, .long (jL ((sumL (fun a => (nR N a).length) i : Int) + (((nR N i).length : Nat) : Int)))), (0, .ref m), (1, .int (nI 4))]) 1 dX10_linksSum_27 rfl (nI_add _ 1) (by decide) rfl ?_
        refine g_goto (tgt := 5) dX10_linksSum_30 (by decide) ?_
        refine zG.sub [0, 1, 2, 3] ?_ (ih (i + 1) (by omega))
        rw [sumL, Int.natCast_add]; rfl
  refine g_lconst (v := jL 0) dX10_linksSum_0 (by decide) ?_
  refine g_lstore_n (lv2 := [(2, .long (jL 0)), (0, .ref m), (1, .int (nI 4))]) dX10_linksSum_1 rfl (by decide) rfl ?_
  refine g_iconst (v := nI 0) dX10_linksSum_2 (by decide) ?_
  refine g_istore (lv2 := [(4, .int (nI 0)), (2, .long (jL 0)), (0, .ref m), (1, .int (nI 4))]) dX10_linksSum_3 (by decide) rfl ?_
  exact zG.sub [0, 1, 2, 3] rfl (loop (nA N 0).toNat 0 (by omega))
theorem c_linksSumW (r : MoN h m N) (hI : iN [] N) : zM l w mX10_linksSum [.ref m, .int (nI 5)] h (fun u h1 => u = some (.long (jL (sumL (fun a => (nW N a).length) (nA N 0).toNat : Int))) ∧ h1 = h) := by
  refine zM.of (by decide) (Nat.le_of_ble_eq_true rfl) ?_
  have H0 := hI.H.1
  have loop : ∀ n i : Nat, ((i + n : Nat) : Int) = nA N 0 → zG l w mX10_linksSum 5 [(4, .int (nI i)), (2, .long (jL (sumL (fun a => (nW N a).length) i : Int))), (0, .ref m), (1, .int (nI 5))] [] h (fun u h1 => u = some (.long (jL (sumL (fun a => (nW N a).length) (nA N 0).toNat : Int))) ∧ h1 = h) := by
    intro n
    induction n with
    | zero =>
      intro i hi
      refine g_iload 0 dX10_linksSum_5 rfl ?_
      refine g_i2l dX10_linksSum_7 ?_
      rw [nI_l (by omega), ← jL_nat]
      refine g_aload_n 2 dX10_linksSum_8 rfl rfl ?_
      refine g_iconst (v := nI 0) dX10_linksSum_9 (by decide) ?_
      refine g_invv (M' := mX10_of) (As := [.int (nI 0)]) (rest := [.long (jL ((i : Nat) : Int))]) dX10_linksSum_10 ml_X10_48 okX10_of imX10_of seX10_of ⟨(Nat.le_of_ble_eq_true rfl), (Nat.le_of_ble_eq_true rfl)⟩ (ci := 10) rfl rfl r.1.1 rfl rfl (Nat.le_of_ble_eq_true rfl) (c_ofN r (by omega) (by unfold nSp; omega)) ?_
      rintro _ q1 ⟨rfl, eq1⟩
      subst q1
      show zG l w mX10_linksSum 13 [(4, .int (nI i)), (2, .long (jL (sumL (fun a => (nW N a).length) i : Int))), (0, .ref m), (1, .int (nI 5))] [.long (jL (nA N 0)), .long (jL ((i : Nat) : Int))] h _
      refine g_lif_ge (a := ((i : Nat) : Int)) (b := (nA N 0)) (tgt := 33) dX10_linksSum_13 rfl dX10_linksSum_14 (by decide) (by omega) (by omega) (fun c => ?_) (fun c => ?_)
      · refine g_lload_n 1 dX10_linksSum_33 rfl rfl ?_
        refine g_lreturn dX10_linksSum_34 rfl ?_
        exact ⟨by rw [← show i = (nA N 0).toNat by omega], rfl⟩
      · exact absurd c (by omega)
    | succ n ih =>
      intro i hi
      refine g_iload 0 dX10_linksSum_5 rfl ?_
      refine g_i2l dX10_linksSum_7 ?_
      rw [nI_l (by omega), ← jL_nat]
      refine g_aload_n 2 dX10_linksSum_8 rfl rfl ?_
      refine g_iconst (v := nI 0) dX10_linksSum_9 (by decide) ?_
      refine g_invv (M' := mX10_of) (As := [.int (nI 0)]) (rest := [.long (jL ((i : Nat) : Int))]) dX10_linksSum_10 ml_X10_48 okX10_of imX10_of seX10_of ⟨(Nat.le_of_ble_eq_true rfl), (Nat.le_of_ble_eq_true rfl)⟩ (ci := 10) rfl rfl r.1.1 rfl rfl (Nat.le_of_ble_eq_true rfl) (c_ofN r (by omega) (by unfold nSp; omega)) ?_
      rintro _ q2 ⟨rfl, eq2⟩
      subst q2
      show zG l w mX10_linksSum 13 [(4, .int (nI i)), (2, .long (jL (sumL (fun a => (nW N a).length) i : Int))), (0, .ref m), (1, .int (nI 5))] [.long (jL (nA N 0)), .long (jL ((i : Nat) : Int))] h _
      refine g_lif_ge (a := ((i : Nat) : Int)) (b := (nA N 0)) (tgt := 33) dX10_linksSum_13 rfl dX10_linksSum_14 (by decide) (by omega) (by omega) (fun c => ?_) (fun c => ?_)
      · exact absurd c (by omega)
      · have i6 : i < 6 := by omega
        refine g_lload_n 1 dX10_linksSum_17 rfl rfl ?_
        refine g_aload_n 2 dX10_linksSum_18 rfl rfl ?_
        refine g_iload 0 dX10_linksSum_19 rfl ?_
        refine g_iload_n 3 dX10_linksSum_21 rfl rfl ?_
        refine g_invv (M' := mX10_ofLink) (As := [.int (nI i), .int (nI 5)]) (rest := [.long (jL (sumL (fun a => (nW N a).length) i : Int))]) dX10_linksSum_22 ml_X10_69 okX10_ofLink imX10_ofLink seX10_ofLink ⟨(Nat.le_of_ble_eq_true rfl), (Nat.le_of_ble_eq_true rfl)⟩ (ci := 10) rfl rfl r.1.1 rfl rfl (Nat.le_of_ble_eq_true rfl) (c_ofWired r (by omega)) ?_
        rintro _ q3 ⟨rfl, eq3⟩
        subst q3
        show zG l w mX10_linksSum 25 [(4, .int (nI i)), (2, .long (jL (sumL (fun a => (nW N a).length) i : Int))), (0, .ref m), (1, .int (nI 5))] [.long (lN (nW N i).length), .long (jL (sumL (fun a => (nW N a).length) i : Int))] h _
        rw [← jL_nat]
        refine g_ladd dX10_linksSum_25 ?_
        rw [jL_add]
        refine g_lstore_n (lv2 := [(2, .long (jL ((sumL (fun a => (nW N a).length) i : Int) + (((nW N i).length : Nat) : Int)))), (4, .int (nI i)), (0, .ref m), (1, .int (nI 5))]) dX10_linksSum_26 rfl (by decide) rfl ?_
        refine g_inc (v := nI (i + 1)) (lv2 := [(4, .int (nI (i + 1))), (2, .long (jL ((sumL (fun a => (nW N a).length) i : Int) + (((nW N i).length : Nat) : Int)))), (0, .ref m), (1, .int (nI 5))]) 1 dX10_linksSum_27 rfl (nI_add _ 1) (by decide) rfl ?_
        refine g_goto (tgt := 5) dX10_linksSum_30 (by decide) ?_
        refine zG.sub [0, 1, 2, 3] ?_ (ih (i + 1) (by omega))
        rw [sumL, Int.natCast_add]; rfl
  refine g_lconst (v := jL 0) dX10_linksSum_0 (by decide) ?_
  refine g_lstore_n (lv2 := [(2, .long (jL 0)), (0, .ref m), (1, .int (nI 5))]) dX10_linksSum_1 rfl (by decide) rfl ?_
  refine g_iconst (v := nI 0) dX10_linksSum_2 (by decide) ?_
  refine g_istore (lv2 := [(4, .int (nI 0)), (2, .long (jL 0)), (0, .ref m), (1, .int (nI 5))]) dX10_linksSum_3 (by decide) rfl ?_
  exact zG.sub [0, 1, 2, 3] rfl (loop (nA N 0).toNat 0 (by omega))
theorem c_manyM (r : MoN h m N) (hI : iN [] N) {mk : Nat} (hm : zi h 322 m = nI mk) (m3 : mk ≤ 3) {k : Int} (kb : -2147483648 ≤ k ∧ k < 2147483648) : zM l w mX10_many [.ref m, .int (jI k)] h (fun u h1 => u = some (.int (jI (qMany N mk k).2)) ∧ h1 = zSi h 321 m (jI (qMany N mk k).1)) := by
  refine zM.of (by decide) (Nat.le_of_ble_eq_true rfl) ?_
  have H0 := hI.H.1
  by_cases c : 0 ≤ k ∧ k ≤ 9
  · obtain ⟨j, ej⟩ : ∃ j : Nat, k = (j : Int) := ⟨_, (Int.toNat_of_nonneg c.1).symm⟩
    subst ej
    rw [jI_nat]
    rcases (show j = 0 ∨ j = 1 ∨ j = 2 ∨ j = 3 ∨ j = 4 ∨ j = 5 ∨ j = 6 ∨ j = 7 ∨ j = 8 ∨ j = 9 by omega) with rfl | rfl | rfl | rfl | rfl | rfl | rfl | rfl | rfl | rfl
    · refine g_iload_n 1 dX10_many_0 rfl rfl ?_
      refine g_tableIn (off := 55) (tgt := 56) dX10_many_1 (by decide) (by decide) (by decide) (by decide) ?_
      refine g_aload_n 0 dX10_many_56 rfl rfl ?_
      refine g_aload_n 0 dX10_many_57 rfl rfl ?_
      refine g_iconst (v := nI 0) dX10_many_58 (by decide) ?_
      refine g_invv (M' := mX10_of) (As := [.int (nI 0)]) (rest := [.ref m]) dX10_many_59 ml_X10_48 okX10_of imX10_of seX10_of ⟨(Nat.le_of_ble_eq_true rfl), (Nat.le_of_ble_eq_true rfl)⟩ (ci := 10) rfl rfl r.1.1 rfl rfl (Nat.le_of_ble_eq_true rfl) (c_ofN r (by omega) (by unfold nSp; omega)) ?_
      rintro _ q1 ⟨rfl, eq1⟩
      subst q1
      show zG l w mX10_many 62 [(0, .ref m), (1, .int (nI 0))] [.long (jL (nA N 0)), .ref m] h _
      refine g_invv (M' := mX10_gives) (As := [.long (jL (nA N 0))]) (rest := []) dX10_many_62 ml_X10_298 okX10_gives imX10_gives seX10_gives ⟨(Nat.le_of_ble_eq_true rfl), (Nat.le_of_ble_eq_true rfl)⟩ (ci := 10) rfl rfl r.1.1 rfl rfl (Nat.le_of_ble_eq_true rfl) (c_gives r.1.1) ?_
      rintro _ q2 ⟨rfl, eq2⟩
      subst q2
      show zG l w mX10_many 65 [(0, .ref m), (1, .int (nI 0))] [.int (jI (nA N 0))] (zSi h 321 m (nI 0)) _
      refine g_ireturn dX10_many_65 rfl ?_
      exact ⟨rfl, rfl⟩
    · refine g_iload_n 1 dX10_many_0 rfl rfl ?_
      refine g_tableIn (off := 65) (tgt := 66) dX10_many_1 (by decide) (by decide) (by decide) (by decide) ?_
      refine g_aload_n 0 dX10_many_66 rfl rfl ?_
      refine g_aload_n 0 dX10_many_67 rfl rfl ?_
      refine g_iconst (v := nI 1) dX10_many_68 (by decide) ?_
      refine g_invv (M' := mX10_of) (As := [.int (nI 1)]) (rest := [.ref m]) dX10_many_69 ml_X10_48 okX10_of imX10_of seX10_of ⟨(Nat.le_of_ble_eq_true rfl), (Nat.le_of_ble_eq_true rfl)⟩ (ci := 10) rfl rfl r.1.1 rfl rfl (Nat.le_of_ble_eq_true rfl) (c_ofN r (by omega) (by unfold nSp; omega)) ?_
      rintro _ q1 ⟨rfl, eq1⟩
      subst q1
      show zG l w mX10_many 72 [(0, .ref m), (1, .int (nI 1))] [.long (jL (nA N 1)), .ref m] h _
      refine g_invv (M' := mX10_gives) (As := [.long (jL (nA N 1))]) (rest := []) dX10_many_72 ml_X10_298 okX10_gives imX10_gives seX10_gives ⟨(Nat.le_of_ble_eq_true rfl), (Nat.le_of_ble_eq_true rfl)⟩ (ci := 10) rfl rfl r.1.1 rfl rfl (Nat.le_of_ble_eq_true rfl) (c_gives r.1.1) ?_
      rintro _ q2 ⟨rfl, eq2⟩
      subst q2
      show zG l w mX10_many 75 [(0, .ref m), (1, .int (nI 1))] [.int (jI (nA N 1))] (zSi h 321 m (nI 0)) _
      refine g_ireturn dX10_many_75 rfl ?_
      exact ⟨rfl, rfl⟩
    · refine g_iload_n 1 dX10_many_0 rfl rfl ?_
      refine g_tableIn (off := 75) (tgt := 76) dX10_many_1 (by decide) (by decide) (by decide) (by decide) ?_
      refine g_aload_n 0 dX10_many_76 rfl rfl ?_
      refine g_aload_n 0 dX10_many_77 rfl rfl ?_
      refine g_iconst (v := nI 2) dX10_many_78 (by decide) ?_
      refine g_invv (M' := mX10_of) (As := [.int (nI 2)]) (rest := [.ref m]) dX10_many_79 ml_X10_48 okX10_of imX10_of seX10_of ⟨(Nat.le_of_ble_eq_true rfl), (Nat.le_of_ble_eq_true rfl)⟩ (ci := 10) rfl rfl r.1.1 rfl rfl (Nat.le_of_ble_eq_true rfl) (c_ofN r (by omega) (by unfold nSp; omega)) ?_
      rintro _ q1 ⟨rfl, eq1⟩
      subst q1
      show zG l w mX10_many 82 [(0, .ref m), (1, .int (nI 2))] [.long (jL (nA N 2)), .ref m] h _
      refine g_invv (M' := mX10_gives) (As := [.long (jL (nA N 2))]) (rest := []) dX10_many_82 ml_X10_298 okX10_gives imX10_gives seX10_gives ⟨(Nat.le_of_ble_eq_true rfl), (Nat.le_of_ble_eq_true rfl)⟩ (ci := 10) rfl rfl r.1.1 rfl rfl (Nat.le_of_ble_eq_true rfl) (c_gives r.1.1) ?_
      rintro _ q2 ⟨rfl, eq2⟩
      subst q2
      show zG l w mX10_many 85 [(0, .ref m), (1, .int (nI 2))] [.int (jI (nA N 2))] (zSi h 321 m (nI 0)) _
      refine g_ireturn dX10_many_85 rfl ?_
      exact ⟨rfl, rfl⟩
    · refine g_iload_n 1 dX10_many_0 rfl rfl ?_
      refine g_tableIn (off := 85) (tgt := 86) dX10_many_1 (by decide) (by decide) (by decide) (by decide) ?_
      refine g_aload_n 0 dX10_many_86 rfl rfl ?_
      refine g_aload_n 0 dX10_many_87 rfl rfl ?_
      refine g_geti (f := 322) dX10_many_88 fl_X10_302 r.1.1 (by decide) rfl ?_
      rw [hm]
      refine g_i2l dX10_many_91 ?_
      rw [nI_l (by omega), ← jL_nat]
      refine g_invv (M' := mX10_gives) (As := [.long (jL ((mk : Nat) : Int))]) (rest := []) dX10_many_92 ml_X10_298 okX10_gives imX10_gives seX10_gives ⟨(Nat.le_of_ble_eq_true rfl), (Nat.le_of_ble_eq_true rfl)⟩ (ci := 10) rfl rfl r.1.1 rfl rfl (Nat.le_of_ble_eq_true rfl) (c_gives r.1.1) ?_
      rintro _ q1 ⟨rfl, eq1⟩
      subst q1
      show zG l w mX10_many 95 [(0, .ref m), (1, .int (nI 3))] [.int (jI ((mk : Nat) : Int))] (zSi h 321 m (nI 0)) _
      refine g_ireturn dX10_many_95 rfl ?_
      exact ⟨rfl, rfl⟩
    · refine g_iload_n 1 dX10_many_0 rfl rfl ?_
      refine g_tableIn (off := 95) (tgt := 96) dX10_many_1 (by decide) (by decide) (by decide) (by decide) ?_
      refine g_aload_n 0 dX10_many_96 rfl rfl ?_
      refine g_aload_n 0 dX10_many_97 rfl rfl ?_
      refine g_iconst (v := nI 4) dX10_many_98 (by decide) ?_
      refine g_invv (M' := mX10_linksSum) (As := [.int (nI 4)]) (rest := [.ref m]) dX10_many_99 ml_X10_304 okX10_linksSum imX10_linksSum seX10_linksSum ⟨(Nat.le_of_ble_eq_true rfl), (Nat.le_of_ble_eq_true rfl)⟩ (ci := 10) rfl rfl r.1.1 rfl rfl (Nat.le_of_ble_eq_true rfl) (c_linksSumR r hI) ?_
      rintro _ q1 ⟨rfl, eq1⟩
      subst q1
      show zG l w mX10_many 102 [(0, .ref m), (1, .int (nI 4))] [.long (jL (sumL (fun a => (nR N a).length) (nA N 0).toNat : Int)), .ref m] h _
      refine g_invv (M' := mX10_gives) (As := [.long (jL (sumL (fun a => (nR N a).length) (nA N 0).toNat : Int))]) (rest := []) dX10_many_102 ml_X10_298 okX10_gives imX10_gives seX10_gives ⟨(Nat.le_of_ble_eq_true rfl), (Nat.le_of_ble_eq_true rfl)⟩ (ci := 10) rfl rfl r.1.1 rfl rfl (Nat.le_of_ble_eq_true rfl) (c_gives r.1.1) ?_
      rintro _ q2 ⟨rfl, eq2⟩
      subst q2
      show zG l w mX10_many 105 [(0, .ref m), (1, .int (nI 4))] [.int (jI (sumL (fun a => (nR N a).length) (nA N 0).toNat : Int))] (zSi h 321 m (nI 0)) _
      refine g_ireturn dX10_many_105 rfl ?_
      exact ⟨rfl, rfl⟩
    · refine g_iload_n 1 dX10_many_0 rfl rfl ?_
      refine g_tableIn (off := 105) (tgt := 106) dX10_many_1 (by decide) (by decide) (by decide) (by decide) ?_
      refine g_aload_n 0 dX10_many_106 rfl rfl ?_
      refine g_aload_n 0 dX10_many_107 rfl rfl ?_
      refine g_iconst (v := nI 5) dX10_many_108 (by decide) ?_
      refine g_invv (M' := mX10_linksSum) (As := [.int (nI 5)]) (rest := [.ref m]) dX10_many_109 ml_X10_304 okX10_linksSum imX10_linksSum seX10_linksSum ⟨(Nat.le_of_ble_eq_true rfl), (Nat.le_of_ble_eq_true rfl)⟩ (ci := 10) rfl rfl r.1.1 rfl rfl (Nat.le_of_ble_eq_true rfl) (c_linksSumW r hI) ?_
      rintro _ q1 ⟨rfl, eq1⟩
      subst q1
      show zG l w mX10_many 112 [(0, .ref m), (1, .int (nI 5))] [.long (jL (sumL (fun a => (nW N a).length) (nA N 0).toNat : Int)), .ref m] h _
      refine g_invv (M' := mX10_gives) (As := [.long (jL (sumL (fun a => (nW N a).length) (nA N 0).toNat : Int))]) (rest := []) dX10_many_112 ml_X10_298 okX10_gives imX10_gives seX10_gives ⟨(Nat.le_of_ble_eq_true rfl), (Nat.le_of_ble_eq_true rfl)⟩ (ci := 10) rfl rfl r.1.1 rfl rfl (Nat.le_of_ble_eq_true rfl) (c_gives r.1.1) ?_
      rintro _ q2 ⟨rfl, eq2⟩
      subst q2
      show zG l w mX10_many 115 [(0, .ref m), (1, .int (nI 5))] [.int (jI (sumL (fun a => (nW N a).length) (nA N 0).toNat : Int))] (zSi h 321 m (nI 0)) _
      refine g_ireturn dX10_many_115 rfl ?_
      exact ⟨rfl, rfl⟩
    · refine g_iload_n 1 dX10_many_0 rfl rfl ?_
      refine g_tableIn (off := 115) (tgt := 116) dX10_many_1 (by decide) (by decide) (by decide) (by decide) ?_
      refine g_aload_n 0 dX10_many_116 rfl rfl ?_
      refine g_aload_n 0 dX10_many_117 rfl rfl ?_
      refine g_iconst (v := nI 5) dX10_many_118 (by decide) ?_
      refine g_invv (M' := mX10_of) (As := [.int (nI 5)]) (rest := [.ref m]) dX10_many_119 ml_X10_48 okX10_of imX10_of seX10_of ⟨(Nat.le_of_ble_eq_true rfl), (Nat.le_of_ble_eq_true rfl)⟩ (ci := 10) rfl rfl r.1.1 rfl rfl (Nat.le_of_ble_eq_true rfl) (c_ofBack r) ?_
      rintro _ q1 ⟨rfl, eq1⟩
      subst q1
      show zG l w mX10_many 122 [(0, .ref m), (1, .int (nI 6))] [.long (lN (nK N).length), .ref m] h _
      rw [← jL_nat]
      refine g_invv (M' := mX10_gives) (As := [.long (jL (((nK N).length : Nat) : Int))]) (rest := []) dX10_many_122 ml_X10_298 okX10_gives imX10_gives seX10_gives ⟨(Nat.le_of_ble_eq_true rfl), (Nat.le_of_ble_eq_true rfl)⟩ (ci := 10) rfl rfl r.1.1 rfl rfl (Nat.le_of_ble_eq_true rfl) (c_gives r.1.1) ?_
      rintro _ q2 ⟨rfl, eq2⟩
      subst q2
      show zG l w mX10_many 125 [(0, .ref m), (1, .int (nI 6))] [.int (jI (((nK N).length : Nat) : Int))] (zSi h 321 m (nI 0)) _
      refine g_ireturn dX10_many_125 rfl ?_
      exact ⟨rfl, rfl⟩
    · refine g_iload_n 1 dX10_many_0 rfl rfl ?_
      refine g_tableIn (off := 125) (tgt := 126) dX10_many_1 (by decide) (by decide) (by decide) (by decide) ?_
      refine g_aload_n 0 dX10_many_126 rfl rfl ?_
      refine g_aload_n 0 dX10_many_127 rfl rfl ?_
      refine g_iconst (v := nI 3) dX10_many_128 (by decide) ?_
      refine g_invv (M' := mX10_of) (As := [.int (nI 3)]) (rest := [.ref m]) dX10_many_129 ml_X10_48 okX10_of imX10_of seX10_of ⟨(Nat.le_of_ble_eq_true rfl), (Nat.le_of_ble_eq_true rfl)⟩ (ci := 10) rfl rfl r.1.1 rfl rfl (Nat.le_of_ble_eq_true rfl) (c_ofLog r) ?_
      rintro _ q1 ⟨rfl, eq1⟩
      subst q1
      show zG l w mX10_many 132 [(0, .ref m), (1, .int (nI 7))] [.long (lN (nE N).length), .ref m] h _
      rw [← jL_nat]
      refine g_invv (M' := mX10_gives) (As := [.long (jL (((nE N).length : Nat) : Int))]) (rest := []) dX10_many_132 ml_X10_298 okX10_gives imX10_gives seX10_gives ⟨(Nat.le_of_ble_eq_true rfl), (Nat.le_of_ble_eq_true rfl)⟩ (ci := 10) rfl rfl r.1.1 rfl rfl (Nat.le_of_ble_eq_true rfl) (c_gives r.1.1) ?_
      rintro _ q2 ⟨rfl, eq2⟩
      subst q2
      show zG l w mX10_many 135 [(0, .ref m), (1, .int (nI 7))] [.int (jI (((nE N).length : Nat) : Int))] (zSi h 321 m (nI 0)) _
      refine g_ireturn dX10_many_135 rfl ?_
      exact ⟨rfl, rfl⟩
    · refine g_iload_n 1 dX10_many_0 rfl rfl ?_
      refine g_tableIn (off := 135) (tgt := 136) dX10_many_1 (by decide) (by decide) (by decide) (by decide) ?_
      refine g_aload_n 0 dX10_many_136 rfl rfl ?_
      refine g_aload_n 0 dX10_many_137 rfl rfl ?_
      refine g_invv (M' := mX10_even) (As := []) (rest := [.ref m]) dX10_many_138 ml_X10_307 okX10_even imX10_even seX10_even ⟨(Nat.le_of_ble_eq_true rfl), (Nat.le_of_ble_eq_true rfl)⟩ (ci := 10) rfl rfl r.1.1 rfl rfl (Nat.le_of_ble_eq_true rfl) (c_even r hI) ?_
      rintro _ q1 ⟨rfl, eq1⟩
      subst q1
      show zG l w mX10_many 141 [(0, .ref m), (1, .int (nI 8))] [.long (jL (evenN N)), .ref m] h _
      refine g_invv (M' := mX10_gives) (As := [.long (jL (evenN N))]) (rest := []) dX10_many_141 ml_X10_298 okX10_gives imX10_gives seX10_gives ⟨(Nat.le_of_ble_eq_true rfl), (Nat.le_of_ble_eq_true rfl)⟩ (ci := 10) rfl rfl r.1.1 rfl rfl (Nat.le_of_ble_eq_true rfl) (c_gives r.1.1) ?_
      rintro _ q2 ⟨rfl, eq2⟩
      subst q2
      show zG l w mX10_many 144 [(0, .ref m), (1, .int (nI 8))] [.int (jI (evenN N))] (zSi h 321 m (nI 0)) _
      refine g_ireturn dX10_many_144 rfl ?_
      exact ⟨rfl, rfl⟩
    · refine g_iload_n 1 dX10_many_0 rfl rfl ?_
      refine g_tableIn (off := 144) (tgt := 145) dX10_many_1 (by decide) (by decide) (by decide) (by decide) ?_
      refine g_aload_n 0 dX10_many_145 rfl rfl ?_
      refine g_aload_n 0 dX10_many_146 rfl rfl ?_
      refine g_invv (M' := mX10_gap) (As := []) (rest := [.ref m]) dX10_many_147 ml_X10_311 okX10_gap imX10_gap seX10_gap ⟨(Nat.le_of_ble_eq_true rfl), (Nat.le_of_ble_eq_true rfl)⟩ (ci := 10) rfl rfl r.1.1 rfl rfl (Nat.le_of_ble_eq_true rfl) (c_gap r hI) ?_
      rintro _ q1 ⟨rfl, eq1⟩
      subst q1
      show zG l w mX10_many 150 [(0, .ref m), (1, .int (nI 9))] [.long (jL (gapN N)), .ref m] h _
      refine g_invv (M' := mX10_gives) (As := [.long (jL (gapN N))]) (rest := []) dX10_many_150 ml_X10_298 okX10_gives imX10_gives seX10_gives ⟨(Nat.le_of_ble_eq_true rfl), (Nat.le_of_ble_eq_true rfl)⟩ (ci := 10) rfl rfl r.1.1 rfl rfl (Nat.le_of_ble_eq_true rfl) (c_gives r.1.1) ?_
      rintro _ q2 ⟨rfl, eq2⟩
      subst q2
      show zG l w mX10_many 153 [(0, .ref m), (1, .int (nI 9))] [.int (jI (gapN N))] (zSi h 321 m (nI 0)) _
      refine g_ireturn dX10_many_153 rfl ?_
      exact ⟨rfl, rfl⟩
  · refine g_iload_n 1 dX10_many_0 rfl rfl ?_
    refine g_tableOut (tgt := 154) dX10_many_1 (by rw [jI_toInt (by omega) (by omega)]; omega) (by decide) ?_
    refine g_aload_n 0 dX10_many_154 rfl rfl ?_
    refine g_iconst (v := nI 1) dX10_many_155 (by decide) ?_
    refine g_invv (M' := mX10_refuse) (As := [.int (nI 1)]) (rest := []) dX10_many_156 ml_X10_289 okX10_refuse imX10_refuse seX10_refuse ⟨(Nat.le_of_ble_eq_true rfl), (Nat.le_of_ble_eq_true rfl)⟩ (ci := 10) rfl rfl r.1.1 rfl rfl (Nat.le_of_ble_eq_true rfl) (c_refuse r.1.1) ?_
    rintro _ q1 ⟨rfl, eq1⟩
    subst q1
    show zG l w mX10_many 159 [(0, .ref m), (1, .int (jI k))] [.int (-1)] (zSi h 321 m (nI 1)) _
    refine g_ireturn dX10_many_159 rfl ?_
    rw [show qMany N mk k = (1, -1) by unfold qMany; rw [if_neg (by omega), if_neg (by omega), if_neg (by omega), if_neg (by omega), if_neg (by omega), if_neg (by omega), if_neg (by omega), if_neg (by omega), if_neg (by omega), if_neg (by omega)]]
    exact ⟨rfl, rfl⟩
theorem c_standing (c : CX h b π ls N X t) (hI : iN [] N) : zM l w mX5_standing [.ref b] h (fun u h1 => u = some (.int (nI (sumL (fun a => (nR N a).length) (nA N 0).toNat))) ∧ h1 = h) := by
  refine zM.of (by decide) (Nat.le_of_ble_eq_true rfl) ?_
  have H0 := hI.H.1
  have loop : ∀ n i : Nat, ((i + n : Nat) : Int) = nA N 0 → zG l w mX5_standing 4 [(2, .int (nI i)), (1, .int (nI (sumL (fun a => (nR N a).length) i))), (0, .ref b)] [] h (fun u h1 => u = some (.int (nI (sumL (fun a => (nR N a).length) (nA N 0).toNat))) ∧ h1 = h) := by
    intro n
    induction n with
    | zero =>
      intro i hi
      refine g_iload_n 0 dX5_standing_4 rfl rfl ?_
      refine g_aload_n 2 dX5_standing_5 rfl rfl ?_
      refine g_geti (f := 161) dX5_standing_6 fl_X5_49 c.1.1.2 (by decide) rfl ?_
      rw [show zi h 161 b = jI (nA N 0) from c.2.2.1.1]
      refine g_zcmp_ge (a := ((i : Nat) : Int)) (b := (nA N 0)) (tgt := 33) (jI_nat i).symm rfl dX5_standing_9 (by decide) (by omega) (by omega) (fun g => ?_) (fun g => ?_)
      · refine g_iload_n 1 dX5_standing_33 rfl rfl ?_
        refine g_ireturn dX5_standing_34 rfl ?_
        exact ⟨by rw [← show i = (nA N 0).toNat by omega], rfl⟩
      · exact absurd g (by omega)
    | succ n ih =>
      intro i hi
      refine g_iload_n 0 dX5_standing_4 rfl rfl ?_
      refine g_aload_n 2 dX5_standing_5 rfl rfl ?_
      refine g_geti (f := 161) dX5_standing_6 fl_X5_49 c.1.1.2 (by decide) rfl ?_
      rw [show zi h 161 b = jI (nA N 0) from c.2.2.1.1]
      refine g_zcmp_ge (a := ((i : Nat) : Int)) (b := (nA N 0)) (tgt := 33) (jI_nat i).symm rfl dX5_standing_9 (by decide) (by omega) (by omega) (fun g => ?_) (fun g => ?_)
      · exact absurd g (by omega)
      · have ha : (i : Int) < nA N 0 := by omega
        have i6 : i < 6 := by omega
        refine g_iload_n 1 dX5_standing_12 rfl rfl ?_
        refine g_aload_n 2 dX5_standing_13 rfl rfl ?_
        refine g_getr (f := 160) (b := b + 1) dX5_standing_14 fl_X5_11 c.1.1.2 rfl c.1.2.1.1 ?_
        refine g_iload_n 0 dX5_standing_17 rfl rfl ?_
        refine g_aald (t := 5) (b := b + 11 + 7 * i) dX5_standing_18 c.1.2.1.2.1 rfl (fun _ => rfl) (by decide) (by rw [show zn h (b + 1) = 6 from c.1.2.1.2.2]; exact vp_in_nI (by omega) (by omega)) (by rw [nI_clamp (by omega)]; exact (c.1.2.2.2.2.2.2.2.2.1 i i6).1) ?_
        refine g_getr (f := 132) (b := b + 11 + 7 * i + 1) dX5_standing_19 fl_X5_73 (c.1.2.2.2.2.2.2.2.2.1 i i6).2.1 rfl (c.1.2.2.2.2.2.2.2.2.1 i i6).2.2.1.1 ?_
        refine g_geti (f := 98) dX5_standing_22 fl_X5_163 (c.1.2.2.2.2.2.2.2.2.1 i i6).2.2.1.2 (by decide) rfl ?_
        rw [show zi h 98 (b + 11 + 7 * i + 1) = nI (ls (b + 11 + 7 * i + 1)).length from (c.2.1.1 _ (c.1.iR i6)).2.2.1]
        rw [show (ls (b + 11 + 7 * i + 1)).length = (nR N i).length by rw [(c.2.2.2.2.2.1.2.2.2.1 i i6).1, List.length_map]]
        refine g_iadd dX5_standing_25 ?_
        rw [nI_add (sumL (fun a => (nR N a).length) i) ((nR N i).length)]
        refine g_istore_n (lv2 := [(1, .int (nI (sumL (fun a => (nR N a).length) i + (nR N i).length))), (2, .int (nI i)), (0, .ref b)]) dX5_standing_26 rfl (by decide) rfl ?_
        refine g_inc (v := nI (i + 1)) (lv2 := [(2, .int (nI (i + 1))), (1, .int (nI (sumL (fun a => (nR N a).length) i + (nR N i).length))), (0, .ref b)]) 1 dX5_standing_27 rfl (nI_add _ 1) (by decide) rfl ?_
        refine g_goto (tgt := 4) dX5_standing_30 (by decide) ?_
        exact zG.sub [0, 1, 2] rfl (ih (i + 1) (by omega))
  refine g_iconst (v := nI 0) dX5_standing_0 (by decide) ?_
  refine g_istore_n (lv2 := [(1, .int (nI 0)), (0, .ref b)]) dX5_standing_1 rfl (by decide) rfl ?_
  refine g_iconst (v := nI 0) dX5_standing_2 (by decide) ?_
  refine g_istore_n (lv2 := [(2, .int (nI 0)), (1, .int (nI 0)), (0, .ref b)]) dX5_standing_3 rfl (by decide) rfl ?_
  exact zG.sub [0, 1, 2] rfl (loop (nA N 0).toNat 0 (by omega))
theorem c_wired (c : CX h b π ls N X t) (hI : iN [] N) : zM l w mX5_wired [.ref b] h (fun u h1 => u = some (.int (nI (sumL (fun a => (nW N a).length) (nA N 0).toNat))) ∧ h1 = h) := by
  refine zM.of (by decide) (Nat.le_of_ble_eq_true rfl) ?_
  have H0 := hI.H.1
  have loop : ∀ n i : Nat, ((i + n : Nat) : Int) = nA N 0 → zG l w mX5_wired 4 [(2, .int (nI i)), (1, .int (nI (sumL (fun a => (nW N a).length) i))), (0, .ref b)] [] h (fun u h1 => u = some (.int (nI (sumL (fun a => (nW N a).length) (nA N 0).toNat))) ∧ h1 = h) := by
    intro n
    induction n with
    | zero =>
      intro i hi
      refine g_iload_n 0 dX5_wired_4 rfl rfl ?_
      refine g_aload_n 2 dX5_wired_5 rfl rfl ?_
      refine g_geti (f := 161) dX5_wired_6 fl_X5_49 c.1.1.2 (by decide) rfl ?_
      rw [show zi h 161 b = jI (nA N 0) from c.2.2.1.1]
      refine g_zcmp_ge (a := ((i : Nat) : Int)) (b := (nA N 0)) (tgt := 33) (jI_nat i).symm rfl dX5_wired_9 (by decide) (by omega) (by omega) (fun g => ?_) (fun g => ?_)
      · refine g_iload_n 1 dX5_wired_33 rfl rfl ?_
        refine g_ireturn dX5_wired_34 rfl ?_
        exact ⟨by rw [← show i = (nA N 0).toNat by omega], rfl⟩
      · exact absurd g (by omega)
    | succ n ih =>
      intro i hi
      refine g_iload_n 0 dX5_wired_4 rfl rfl ?_
      refine g_aload_n 2 dX5_wired_5 rfl rfl ?_
      refine g_geti (f := 161) dX5_wired_6 fl_X5_49 c.1.1.2 (by decide) rfl ?_
      rw [show zi h 161 b = jI (nA N 0) from c.2.2.1.1]
      refine g_zcmp_ge (a := ((i : Nat) : Int)) (b := (nA N 0)) (tgt := 33) (jI_nat i).symm rfl dX5_wired_9 (by decide) (by omega) (by omega) (fun g => ?_) (fun g => ?_)
      · exact absurd g (by omega)
      · have ha : (i : Int) < nA N 0 := by omega
        have i6 : i < 6 := by omega
        refine g_iload_n 1 dX5_wired_12 rfl rfl ?_
        refine g_aload_n 2 dX5_wired_13 rfl rfl ?_
        refine g_getr (f := 160) (b := b + 1) dX5_wired_14 fl_X5_11 c.1.1.2 rfl c.1.2.1.1 ?_
        refine g_iload_n 0 dX5_wired_17 rfl rfl ?_
        refine g_aald (t := 5) (b := b + 11 + 7 * i) dX5_wired_18 c.1.2.1.2.1 rfl (fun _ => rfl) (by decide) (by rw [show zn h (b + 1) = 6 from c.1.2.1.2.2]; exact vp_in_nI (by omega) (by omega)) (by rw [nI_clamp (by omega)]; exact (c.1.2.2.2.2.2.2.2.2.1 i i6).1) ?_
        refine g_getr (f := 133) (b := b + 11 + 7 * i + 2) dX5_wired_19 fl_X5_80 (c.1.2.2.2.2.2.2.2.2.1 i i6).2.1 rfl (c.1.2.2.2.2.2.2.2.2.1 i i6).2.2.2.1.1 ?_
        refine g_geti (f := 98) dX5_wired_22 fl_X5_163 (c.1.2.2.2.2.2.2.2.2.1 i i6).2.2.2.1.2 (by decide) rfl ?_
        rw [show zi h 98 (b + 11 + 7 * i + 2) = nI (ls (b + 11 + 7 * i + 2)).length from (c.2.1.1 _ (c.1.iW i6)).2.2.1]
        rw [show (ls (b + 11 + 7 * i + 2)).length = (nW N i).length by rw [(c.2.2.2.2.2.1.2.2.2.1 i i6).2.1, List.length_map]]
        refine g_iadd dX5_wired_25 ?_
        rw [nI_add (sumL (fun a => (nW N a).length) i) ((nW N i).length)]
        refine g_istore_n (lv2 := [(1, .int (nI (sumL (fun a => (nW N a).length) i + (nW N i).length))), (2, .int (nI i)), (0, .ref b)]) dX5_wired_26 rfl (by decide) rfl ?_
        refine g_inc (v := nI (i + 1)) (lv2 := [(2, .int (nI (i + 1))), (1, .int (nI (sumL (fun a => (nW N a).length) i + (nW N i).length))), (0, .ref b)]) 1 dX5_wired_27 rfl (nI_add _ 1) (by decide) rfl ?_
        refine g_goto (tgt := 4) dX5_wired_30 (by decide) ?_
        exact zG.sub [0, 1, 2] rfl (ih (i + 1) (by omega))
  refine g_iconst (v := nI 0) dX5_wired_0 (by decide) ?_
  refine g_istore_n (lv2 := [(1, .int (nI 0)), (0, .ref b)]) dX5_wired_1 rfl (by decide) rfl ?_
  refine g_iconst (v := nI 0) dX5_wired_2 (by decide) ?_
  refine g_istore_n (lv2 := [(2, .int (nI 0)), (1, .int (nI 0)), (0, .ref b)]) dX5_wired_3 rfl (by decide) rfl ?_
  exact zG.sub [0, 1, 2] rfl (loop (nA N 0).toNat 0 (by omega))
theorem c_evenness (c : CX h b π ls N X t) (hI : iN [] N) : zM l w mX5_evenness [.ref b] h (fun u h1 => u = some (.int (jI (evenN N))) ∧ h1 = h) := by
  refine zM.of (by decide) (Nat.le_of_ble_eq_true rfl) ?_
  have H1 := hI.H.2.1
  have EB := even_bd hI
  have loop : ∀ n i : Nat, ((i + n : Nat) : Int) = nA N 1 → zG l w mX5_evenness 10 [(7, .int (nI i)), (5, .long (jL (sQ N i))), (3, .long (jL (sW N i))), (1, .long (jL (sC N i))), (0, .ref b)] [] h (fun u h1 => u = some (.int (jI (evenN N))) ∧ h1 = h) := by
    intro n
    induction n with
    | zero =>
      intro i hi
      have ei : i = nF N := by unfold nF; omega
      have SB1 := (s_bd hI i (by omega)).1
      refine g_iload 0 dX5_evenness_10 rfl ?_
      refine g_aload_n 4 dX5_evenness_12 rfl rfl ?_
      refine g_geti (f := 163) dX5_evenness_13 fl_X5_53 c.1.1.2 (by decide) rfl ?_
      rw [show zi h 163 b = jI (nA N 1) from c.2.2.1.2.1]
      refine g_zcmp_ge (a := ((i : Nat) : Int)) (b := (nA N 1)) (tgt := 70) (jI_nat i).symm rfl dX5_evenness_16 (by decide) (by omega) (by omega) (fun g => ?_) (fun g => ?_)
      · subst ei
        refine g_lload_n 3 dX5_evenness_70 rfl rfl ?_
        refine g_lload 1 dX5_evenness_71 rfl ?_
        refine g_lmul dX5_evenness_73 ?_
        rw [jL_mul]
        refine g_lstore (lv2 := [(7, .long (jL ((sC N (nF N)) * (sQ N (nF N))))), (5, .long (jL (sQ N (nF N)))), (3, .long (jL (sW N (nF N)))), (1, .long (jL (sC N (nF N)))), (0, .ref b)]) dX5_evenness_74 (by decide) rfl ?_
        refine g_lload 0 dX5_evenness_76 rfl ?_
        refine g_lconst (v := jL 0) dX5_evenness_78 (by decide) ?_
        refine g_lif_le (a := ((sC N (nF N)) * (sQ N (nF N)))) (b := 0) (tgt := 97) dX5_evenness_79 rfl dX5_evenness_80 (by decide) (by omega) (by omega) (fun d => ?_) (fun d => ?_)
        · refine g_sipush (v := nI 1000) dX5_evenness_97 (by decide) ?_
          refine g_ireturn dX5_evenness_100 rfl ?_
          have z0 : sC N (nF N) = 0 := by by_cases q : 0 < sC N (nF N); exact absurd (EB.2.1 q) (by omega); omega
          exact ⟨by unfold evenN; rw [if_pos z0]; decide, rfl⟩
        · have z0 : ¬ sC N (nF N) = 0 := by intro z; rw [z, Int.zero_mul] at d; omega
          refine g_lload_n 2 dX5_evenness_83 rfl rfl ?_
          refine g_lload_n 2 dX5_evenness_84 rfl rfl ?_
          refine g_lmul dX5_evenness_85 ?_
          rw [jL_mul]
          refine g_ldc2J (z := 1000) dX5_evenness_86 kl_X5_266 (by decide) ?_
          refine g_lmul dX5_evenness_89 ?_
          rw [jL_mul]
          refine g_lload 0 dX5_evenness_90 rfl ?_
          refine g_ldiv dX5_evenness_92 (jL_ne0 (by omega)) ?_
          rw [jL_div (by omega) (by omega)]
          refine g_l2i dX5_evenness_93 ?_
          rw [jL_i]
          refine g_goto (tgt := 100) dX5_evenness_94 (by decide) ?_
          refine g_ireturn dX5_evenness_100 rfl ?_
          exact ⟨by unfold evenN; rw [if_neg z0], rfl⟩
      · exact absurd g (by omega)
    | succ n ih =>
      intro i hi
      refine g_iload 0 dX5_evenness_10 rfl ?_
      refine g_aload_n 4 dX5_evenness_12 rfl rfl ?_
      refine g_geti (f := 163) dX5_evenness_13 fl_X5_53 c.1.1.2 (by decide) rfl ?_
      rw [show zi h 163 b = jI (nA N 1) from c.2.2.1.2.1]
      refine g_zcmp_ge (a := ((i : Nat) : Int)) (b := (nA N 1)) (tgt := 70) (jI_nat i).symm rfl dX5_evenness_16 (by decide) (by omega) (by omega) (fun g => ?_) (fun g => ?_)
      · exact absurd g (by omega)
      · have hf : (i : Int) < nA N 1 := by omega
        have i6 : i < 6 := by omega
        have F3 := (hI.F i hf).2.2.2.2.1
        have wb := (hI.F i hf).2.2.2.2.2.1
        refine g_aload_n 4 dX5_evenness_19 rfl rfl ?_
        refine g_getr (f := 162) (b := b + 2) dX5_evenness_20 fl_X5_19 c.1.1.2 rfl c.1.2.2.1.1 ?_
        refine g_iload 0 dX5_evenness_23 rfl ?_
        refine g_aald (t := 4) (b := b + 53 + 2 * i) dX5_evenness_25 c.1.2.2.1.2.1 rfl (fun _ => rfl) (by decide) (by rw [show zn h (b + 2) = 6 from c.1.2.2.1.2.2]; exact vp_in_nI (by omega) (by omega)) (by rw [nI_clamp (by omega)]; exact (c.1.2.2.2.2.2.2.2.2.2 i i6).1) ?_
        refine g_geti (f := 68) dX5_evenness_26 fl_X5_263 (c.1.2.2.2.2.2.2.2.2.2 i i6).2.1 (by decide) rfl ?_
        rw [show zi h 68 (b + 53 + 2 * i) = jI (nA N (248 + 20 * i + 3)) from (c.2.2.2.2.1 i hf i6).1 3 (by omega) (by omega)]
        refine g_zif_eq (a := (nA N (248 + 20 * i + 3))) (tgt := 64) rfl dX5_evenness_29 (by decide) (by omega) (fun d => ?_) (fun d => ?_)
        · refine g_inc (v := nI (i + 1)) (lv2 := [(7, .int (nI (i + 1))), (5, .long (jL (sQ N i))), (3, .long (jL (sW N i))), (1, .long (jL (sC N i))), (0, .ref b)]) 0 dX5_evenness_64 rfl (nI_add _ 1) (by decide) rfl ?_
          refine g_goto (tgt := 10) dX5_evenness_67 (by decide) ?_
          refine zG.sub [0, 1, 2, 3, 4] ?_ (ih (i + 1) (by omega))
          rw [sC, sQ, sW, if_neg (by omega), if_neg (by omega), if_neg (by omega)]; rfl
        · refine g_aload_n 4 dX5_evenness_32 rfl rfl ?_
          refine g_getr (f := 162) (b := b + 2) dX5_evenness_33 fl_X5_19 c.1.1.2 rfl c.1.2.2.1.1 ?_
          refine g_iload 0 dX5_evenness_36 rfl ?_
          refine g_aald (t := 4) (b := b + 53 + 2 * i) dX5_evenness_38 c.1.2.2.1.2.1 rfl (fun _ => rfl) (by decide) (by rw [show zn h (b + 2) = 6 from c.1.2.2.1.2.2]; exact vp_in_nI (by omega) (by omega)) (by rw [nI_clamp (by omega)]; exact (c.1.2.2.2.2.2.2.2.2.2 i i6).1) ?_
          refine g_geti (f := 70) dX5_evenness_39 fl_X5_237 (c.1.2.2.2.2.2.2.2.2.2 i i6).2.1 (by decide) rfl ?_
          rw [show zi h 70 (b + 53 + 2 * i) = jI (nA N (248 + 20 * i + 5)) from (c.2.2.2.2.1 i hf i6).1 5 (by omega) (by omega)]
          refine g_i2l dX5_evenness_42 ?_
          rw [jI_l (by omega) (by omega)]
          refine g_lstore (lv2 := [(8, .long (jL (nA N (248 + 20 * i + 5)))), (7, .int (nI i)), (5, .long (jL (sQ N i))), (3, .long (jL (sW N i))), (1, .long (jL (sC N i))), (0, .ref b)]) dX5_evenness_43 (by decide) rfl ?_
          refine g_lload_n 4 dX5_evenness_45 rfl rfl ?_
          refine g_lconst (v := jL 1) dX5_evenness_46 (by decide) ?_
          refine g_ladd dX5_evenness_47 ?_
          rw [jL_add]
          refine g_lstore_n (lv2 := [(1, .long (jL ((sC N i) + 1))), (8, .long (jL (nA N (248 + 20 * i + 5)))), (7, .int (nI i)), (5, .long (jL (sQ N i))), (3, .long (jL (sW N i))), (0, .ref b)]) dX5_evenness_48 rfl (by decide) rfl ?_
          refine g_lload_n 4 dX5_evenness_49 rfl rfl ?_
          refine g_lload 1 dX5_evenness_50 rfl ?_
          refine g_ladd dX5_evenness_52 ?_
          rw [jL_add]
          refine g_lstore_n (lv2 := [(3, .long (jL ((sW N i) + (nA N (248 + 20 * i + 5))))), (1, .long (jL ((sC N i) + 1))), (8, .long (jL (nA N (248 + 20 * i + 5)))), (7, .int (nI i)), (5, .long (jL (sQ N i))), (0, .ref b)]) dX5_evenness_53 rfl (by decide) rfl ?_
          refine g_lload 4 dX5_evenness_54 rfl ?_
          refine g_lload 2 dX5_evenness_56 rfl ?_
          refine g_lload 2 dX5_evenness_58 rfl ?_
          refine g_lmul dX5_evenness_60 ?_
          rw [jL_mul]
          refine g_ladd dX5_evenness_61 ?_
          rw [jL_add]
          refine g_lstore (lv2 := [(5, .long (jL ((sQ N i) + ((nA N (248 + 20 * i + 5)) * (nA N (248 + 20 * i + 5)))))), (3, .long (jL ((sW N i) + (nA N (248 + 20 * i + 5))))), (1, .long (jL ((sC N i) + 1))), (8, .long (jL (nA N (248 + 20 * i + 5)))), (7, .int (nI i)), (0, .ref b)]) dX5_evenness_62 (by decide) rfl ?_
          refine g_inc (v := nI (i + 1)) (lv2 := [(7, .int (nI (i + 1))), (5, .long (jL ((sQ N i) + ((nA N (248 + 20 * i + 5)) * (nA N (248 + 20 * i + 5)))))), (3, .long (jL ((sW N i) + (nA N (248 + 20 * i + 5))))), (1, .long (jL ((sC N i) + 1))), (8, .long (jL (nA N (248 + 20 * i + 5)))), (0, .ref b)]) 4 dX5_evenness_64 rfl (nI_add _ 1) (by decide) rfl ?_
          refine g_goto (tgt := 10) dX5_evenness_67 (by decide) ?_
          refine zG.sub [0, 1, 2, 3, 5] ?_ (ih (i + 1) (by omega))
          rw [sC, sQ, sW, if_pos (by omega), if_pos (by omega), if_pos (by omega)]; rfl
  refine g_lconst (v := jL 0) dX5_evenness_0 (by decide) ?_
  refine g_lstore_n (lv2 := [(1, .long (jL 0)), (0, .ref b)]) dX5_evenness_1 rfl (by decide) rfl ?_
  refine g_lconst (v := jL 0) dX5_evenness_2 (by decide) ?_
  refine g_lstore_n (lv2 := [(3, .long (jL 0)), (1, .long (jL 0)), (0, .ref b)]) dX5_evenness_3 rfl (by decide) rfl ?_
  refine g_lconst (v := jL 0) dX5_evenness_4 (by decide) ?_
  refine g_lstore (lv2 := [(5, .long (jL 0)), (3, .long (jL 0)), (1, .long (jL 0)), (0, .ref b)]) dX5_evenness_5 (by decide) rfl ?_
  refine g_iconst (v := nI 0) dX5_evenness_7 (by decide) ?_
  refine g_istore (lv2 := [(7, .int (nI 0)), (5, .long (jL 0)), (3, .long (jL 0)), (1, .long (jL 0)), (0, .ref b)]) dX5_evenness_8 (by decide) rfl ?_
  exact zG.sub [0, 1, 2, 3, 4] rfl (loop (nA N 1).toNat 0 (by omega))
theorem c_windowGap (c : CX h b π ls N X t) (hI : iN [] N) : zM l w mX5_windowGap [.ref b] h (fun u h1 => u = some (.int (jI (gapN N))) ∧ h1 = h) := by
  refine zM.of (by decide) (Nat.le_of_ble_eq_true rfl) ?_
  have H1 := hI.H.2.1
  have loop : ∀ n i : Nat, ((i + n : Nat) : Int) = nA N 1 → zG l w mX5_windowGap 6 [(3, .int (nI i)), (2, .int (jI (if sC N i = 0 then -1 else gL N i))), (1, .int (jI (if sC N i = 0 then -1 else gM N i))), (0, .ref b)] [] h (fun u h1 => u = some (.int (jI (gapN N))) ∧ h1 = h) := by
    intro n
    induction n with
    | zero =>
      intro i hi
      have ei : i = nF N := by unfold nF; omega
      obtain ⟨a1, a2, a3, a4, a5, a6, a7⟩ := s_bd hI i (by omega)
      refine g_iload_n 0 dX5_windowGap_6 rfl rfl ?_
      refine g_aload_n 3 dX5_windowGap_7 rfl rfl ?_
      refine g_geti (f := 163) dX5_windowGap_8 fl_X5_53 c.1.1.2 (by decide) rfl ?_
      rw [show zi h 163 b = jI (nA N 1) from c.2.2.1.2.1]
      refine g_zcmp_ge (a := ((i : Nat) : Int)) (b := (nA N 1)) (tgt := 67) (jI_nat i).symm rfl dX5_windowGap_11 (by decide) (by omega) (by omega) (fun g => ?_) (fun g => ?_)
      · refine g_iload_n 2 dX5_windowGap_67 rfl rfl ?_
        refine g_iload_n 1 dX5_windowGap_68 rfl rfl ?_
        refine g_isub dX5_windowGap_69 ?_
        refine zG.top (show (jI (if sC N i = 0 then -1 else gM N i)) - (jI (if sC N i = 0 then -1 else gL N i)) = jI ((if sC N i = 0 then -1 else gM N i) - (if sC N i = 0 then -1 else gL N i)) by rw [jI_sub]) ?_
        refine g_ireturn dX5_windowGap_70 rfl ?_
        exact ⟨by
          unfold gapN
          rw [← ei]
          by_cases z0 : sC N i = 0
          · rw [if_pos z0, if_pos z0, (a6 z0).1, (a6 z0).2]; decide
          · have q := a7 (by omega)
            rw [if_neg z0, if_neg z0]; congr 3; omega, rfl⟩
      · exact absurd g (by omega)
    | succ n ih =>
      intro i hi
      obtain ⟨a1, a2, a3, a4, a5, a6, a7⟩ := s_bd hI i (by omega)
      refine g_iload_n 0 dX5_windowGap_6 rfl rfl ?_
      refine g_aload_n 3 dX5_windowGap_7 rfl rfl ?_
      refine g_geti (f := 163) dX5_windowGap_8 fl_X5_53 c.1.1.2 (by decide) rfl ?_
      rw [show zi h 163 b = jI (nA N 1) from c.2.2.1.2.1]
      refine g_zcmp_ge (a := ((i : Nat) : Int)) (b := (nA N 1)) (tgt := 67) (jI_nat i).symm rfl dX5_windowGap_11 (by decide) (by omega) (by omega) (fun g => ?_) (fun g => ?_)
      · exact absurd g (by omega)
      · have hf : (i : Int) < nA N 1 := by omega
        have i6 : i < 6 := by omega
        have F3 := (hI.F i hf).2.2.2.2.1
        have wb := (hI.F i hf).2.2.2.2.2.1
        refine g_aload_n 3 dX5_windowGap_14 rfl rfl ?_
        refine g_getr (f := 162) (b := b + 2) dX5_windowGap_15 fl_X5_19 c.1.1.2 rfl c.1.2.2.1.1 ?_
        refine g_iload_n 0 dX5_windowGap_18 rfl rfl ?_
        refine g_aald (t := 4) (b := b + 53 + 2 * i) dX5_windowGap_19 c.1.2.2.1.2.1 rfl (fun _ => rfl) (by decide) (by rw [show zn h (b + 2) = 6 from c.1.2.2.1.2.2]; exact vp_in_nI (by omega) (by omega)) (by rw [nI_clamp (by omega)]; exact (c.1.2.2.2.2.2.2.2.2.2 i i6).1) ?_
        refine g_geti (f := 68) dX5_windowGap_20 fl_X5_263 (c.1.2.2.2.2.2.2.2.2.2 i i6).2.1 (by decide) rfl ?_
        rw [show zi h 68 (b + 53 + 2 * i) = jI (nA N (248 + 20 * i + 3)) from (c.2.2.2.2.1 i hf i6).1 3 (by omega) (by omega)]
        refine g_zif_eq (a := (nA N (248 + 20 * i + 3))) (tgt := 61) rfl dX5_windowGap_23 (by decide) (by omega) (fun d => ?_) (fun d => ?_)
        · refine g_inc (v := nI (i + 1)) (lv2 := [(3, .int (nI (i + 1))), (2, .int (jI (if sC N i = 0 then -1 else gL N i))), (1, .int (jI (if sC N i = 0 then -1 else gM N i))), (0, .ref b)]) 0 dX5_windowGap_61 rfl (nI_add _ 1) (by decide) rfl ?_
          refine g_goto (tgt := 6) dX5_windowGap_64 (by decide) ?_
          refine zG.sub [0, 1, 2, 3] ?_ (ih (i + 1) (by omega))
          have k1 : sC N (i + 1) = sC N i := by rw [sC, if_neg (by omega)]
          have k2 : gM N (i + 1) = gM N i := by rw [gM, if_neg (by omega)]
          have k3 : gL N (i + 1) = gL N i := by rw [gL, if_neg (by omega)]
          rw [k1, k2, k3]; rfl
        · have mb : -1 ≤ (if sC N i = 0 then -1 else gM N i) ∧ (if sC N i = 0 then -1 else gM N i) ≤ 4000 := by split <;> omega
          have lb : -1 ≤ (if sC N i = 0 then -1 else gL N i) ∧ (if sC N i = 0 then -1 else gL N i) ≤ 4000 := by split <;> omega
          refine g_aload_n 3 dX5_windowGap_26 rfl rfl ?_
          refine g_getr (f := 162) (b := b + 2) dX5_windowGap_27 fl_X5_19 c.1.1.2 rfl c.1.2.2.1.1 ?_
          refine g_iload_n 0 dX5_windowGap_30 rfl rfl ?_
          refine g_aald (t := 4) (b := b + 53 + 2 * i) dX5_windowGap_31 c.1.2.2.1.2.1 rfl (fun _ => rfl) (by decide) (by rw [show zn h (b + 2) = 6 from c.1.2.2.1.2.2]; exact vp_in_nI (by omega) (by omega)) (by rw [nI_clamp (by omega)]; exact (c.1.2.2.2.2.2.2.2.2.2 i i6).1) ?_
          refine g_geti (f := 70) dX5_windowGap_32 fl_X5_237 (c.1.2.2.2.2.2.2.2.2.2 i i6).2.1 (by decide) rfl ?_
          rw [show zi h 70 (b + 53 + 2 * i) = jI (nA N (248 + 20 * i + 5)) from (c.2.2.2.2.1 i hf i6).1 5 (by omega) (by omega)]
          refine g_istore (lv2 := [(4, .int (jI (nA N (248 + 20 * i + 5)))), (3, .int (nI i)), (2, .int (jI (if sC N i = 0 then -1 else gL N i))), (1, .int (jI (if sC N i = 0 then -1 else gM N i))), (0, .ref b)]) dX5_windowGap_35 (by decide) rfl ?_
          refine g_iload_n 3 dX5_windowGap_37 rfl rfl ?_
          refine g_iload 0 dX5_windowGap_38 rfl ?_
          refine g_invs (M' := mJ9_max_7cf53) (As := [.int (jI (if sC N i = 0 then -1 else gM N i)), .int (jI (nA N (248 + 20 * i + 5)))]) (rest := []) dX5_windowGap_40 ml_X5_255 okJ9_max_7cf53 stJ9_max_7cf53 ⟨(Nat.le_of_ble_eq_true rfl), (Nat.le_of_ble_eq_true rfl)⟩ rfl rfl (Nat.le_of_ble_eq_true rfl) (c_maxI (by omega) (by omega)) ?_
          rintro _ q1 ⟨rfl, eq1⟩
          subst q1
          show zG l w mX5_windowGap 43 [(4, .int (jI (nA N (248 + 20 * i + 5)))), (3, .int (nI i)), (2, .int (jI (if sC N i = 0 then -1 else gL N i))), (1, .int (jI (if sC N i = 0 then -1 else gM N i))), (0, .ref b)] [.int (jI (max (if sC N i = 0 then -1 else gM N i) (nA N (248 + 20 * i + 5))))] h _
          refine g_istore_n (lv2 := [(1, .int (jI (max (if sC N i = 0 then -1 else gM N i) (nA N (248 + 20 * i + 5))))), (4, .int (jI (nA N (248 + 20 * i + 5)))), (3, .int (nI i)), (2, .int (jI (if sC N i = 0 then -1 else gL N i))), (0, .ref b)]) dX5_windowGap_43 rfl (by decide) rfl ?_
          refine g_iload_n 3 dX5_windowGap_44 rfl rfl ?_
          refine g_iconst (v := (-1)) dX5_windowGap_45 (by decide) ?_
          refine g_zcmp_ne (a := (if sC N i = 0 then -1 else gL N i)) (b := (-1)) (tgt := 54) rfl (by decide) dX5_windowGap_46 (by decide) (by omega) (by omega) (fun e => ?_) (fun e => ?_)
          · have z0 : ¬ sC N i = 0 := fun z => e (by rw [if_pos z])
            refine g_iload_n 3 dX5_windowGap_54 rfl rfl ?_
            refine g_iload 1 dX5_windowGap_55 rfl ?_
            refine g_invs (M' := mJ9_min_7cf53) (As := [.int (jI (if sC N i = 0 then -1 else gL N i)), .int (jI (nA N (248 + 20 * i + 5)))]) (rest := []) dX5_windowGap_57 ml_X5_268 okJ9_min_7cf53 stJ9_min_7cf53 ⟨(Nat.le_of_ble_eq_true rfl), (Nat.le_of_ble_eq_true rfl)⟩ rfl rfl (Nat.le_of_ble_eq_true rfl) (c_minI (by omega) (by omega)) ?_
            rintro _ q2 ⟨rfl, eq2⟩
            subst q2
            show zG l w mX5_windowGap 60 [(1, .int (jI (max (if sC N i = 0 then -1 else gM N i) (nA N (248 + 20 * i + 5))))), (4, .int (jI (nA N (248 + 20 * i + 5)))), (3, .int (nI i)), (2, .int (jI (if sC N i = 0 then -1 else gL N i))), (0, .ref b)] [.int (jI (min (if sC N i = 0 then -1 else gL N i) (nA N (248 + 20 * i + 5))))] h _
            refine g_istore_n (lv2 := [(2, .int (jI (min (if sC N i = 0 then -1 else gL N i) (nA N (248 + 20 * i + 5))))), (1, .int (jI (max (if sC N i = 0 then -1 else gM N i) (nA N (248 + 20 * i + 5))))), (4, .int (jI (nA N (248 + 20 * i + 5)))), (3, .int (nI i)), (0, .ref b)]) dX5_windowGap_60 rfl (by decide) rfl ?_
            refine g_inc (v := nI (i + 1)) (lv2 := [(3, .int (nI (i + 1))), (2, .int (jI (min (if sC N i = 0 then -1 else gL N i) (nA N (248 + 20 * i + 5))))), (1, .int (jI (max (if sC N i = 0 then -1 else gM N i) (nA N (248 + 20 * i + 5))))), (4, .int (jI (nA N (248 + 20 * i + 5)))), (0, .ref b)]) 3 dX5_windowGap_61 rfl (nI_add _ 1) (by decide) rfl ?_
            refine g_goto (tgt := 6) dX5_windowGap_64 (by decide) ?_
            refine zG.sub [0, 1, 2, 4] ?_ (ih (i + 1) (by omega))
            have k1 : sC N (i + 1) = sC N i + 1 := by rw [sC, if_pos (by omega)]
            have k2 : gM N (i + 1) = max (gM N i) (nA N (248 + 20 * i + 5)) := by rw [gM, if_pos (by omega)]
            have k3 : gL N (i + 1) = min (gL N i) (nA N (248 + 20 * i + 5)) := by rw [gL, if_pos (by omega)]
            rw [k1, k2, k3, if_neg (c := sC N i + 1 = 0) (by omega), if_neg (c := sC N i + 1 = 0) (by omega)]
            rw [if_neg (c := sC N i = 0) z0, if_neg (c := sC N i = 0) z0]; rfl
          · have z0 : sC N i = 0 := by by_cases z : sC N i = 0; exact z; rw [if_neg z] at e; omega
            refine g_iload 1 dX5_windowGap_49 rfl ?_
            refine g_goto (tgt := 60) dX5_windowGap_51 (by decide) ?_
            refine g_istore_n (lv2 := [(2, .int (jI (nA N (248 + 20 * i + 5)))), (1, .int (jI (max (if sC N i = 0 then -1 else gM N i) (nA N (248 + 20 * i + 5))))), (4, .int (jI (nA N (248 + 20 * i + 5)))), (3, .int (nI i)), (0, .ref b)]) dX5_windowGap_60 rfl (by decide) rfl ?_
            refine g_inc (v := nI (i + 1)) (lv2 := [(3, .int (nI (i + 1))), (2, .int (jI (nA N (248 + 20 * i + 5)))), (1, .int (jI (max (if sC N i = 0 then -1 else gM N i) (nA N (248 + 20 * i + 5))))), (4, .int (jI (nA N (248 + 20 * i + 5)))), (0, .ref b)]) 3 dX5_windowGap_61 rfl (nI_add _ 1) (by decide) rfl ?_
            refine g_goto (tgt := 6) dX5_windowGap_64 (by decide) ?_
            refine zG.sub [0, 1, 2, 4] ?_ (ih (i + 1) (by omega))
            have k1 : sC N (i + 1) = sC N i + 1 := by rw [sC, if_pos (by omega)]
            have k2 : gM N (i + 1) = max (gM N i) (nA N (248 + 20 * i + 5)) := by rw [gM, if_pos (by omega)]
            have k3 : gL N (i + 1) = min (gL N i) (nA N (248 + 20 * i + 5)) := by rw [gL, if_pos (by omega)]
            rw [k1, k2, k3, if_neg (c := sC N i + 1 = 0) (by omega), if_neg (c := sC N i + 1 = 0) (by omega)]
            rw [if_pos (c := sC N i = 0) z0, (a6 z0).1, (a6 z0).2, show min 4000 (nA N (248 + 20 * i + 5)) = nA N (248 + 20 * i + 5) by omega, show max 0 (nA N (248 + 20 * i + 5)) = max (-1) (nA N (248 + 20 * i + 5)) by omega]; rfl
  refine g_iconst (v := (-1)) dX5_windowGap_0 (by decide) ?_
  refine g_istore_n (lv2 := [(1, .int (-1)), (0, .ref b)]) dX5_windowGap_1 rfl (by decide) rfl ?_
  refine g_iconst (v := (-1)) dX5_windowGap_2 (by decide) ?_
  refine g_istore_n (lv2 := [(2, .int (-1)), (1, .int (-1)), (0, .ref b)]) dX5_windowGap_3 rfl (by decide) rfl ?_
  refine g_iconst (v := nI 0) dX5_windowGap_4 (by decide) ?_
  refine g_istore_n (lv2 := [(3, .int (nI 0)), (2, .int (-1)), (1, .int (-1)), (0, .ref b)]) dX5_windowGap_5 rfl (by decide) rfl ?_
  have z9 := loop (nA N 1).toNat 0 (by omega)
  refine zG.sub [0, 1, 2, 3] ?_ z9
  rw [show (if sC N 0 = 0 then -1 else gM N 0) = -1 from rfl, show (if sC N 0 = 0 then -1 else gL N 0) = -1 from rfl, show jI (-1) = (-1 : Int32) by decide]; rfl
theorem c_manyC (c : CX h b π ls N [] t) (xo : XO h x b) (hI : iN [] N) {mk : Nat} (hm : zi h 296 x = nI mk) {k : Int} (kb : -2147483648 ≤ k ∧ k < 2147483648) : zM l w mX9_many [.ref x, .int (jI k)] h (fun u h1 => u = some (.int (jI (qMany N mk k).2)) ∧ h1 = zSi h 290 x (jI (qMany N mk k).1)) := by
  refine zM.of (by decide) (Nat.le_of_ble_eq_true rfl) ?_
  have kp : zi h 37 (b + 5) = nI (nE N).length := by obtain ⟨sl, a1, a2, a3, a4⟩ := c.2.2.2.2.2.2.1; exact a3
  by_cases d : 0 ≤ k ∧ k ≤ 9
  · obtain ⟨j, ej⟩ : ∃ j : Nat, k = (j : Int) := ⟨_, (Int.toNat_of_nonneg d.1).symm⟩
    subst ej
    rw [jI_nat]
    rcases (show j = 0 ∨ j = 1 ∨ j = 2 ∨ j = 3 ∨ j = 4 ∨ j = 5 ∨ j = 6 ∨ j = 7 ∨ j = 8 ∨ j = 9 by omega) with rfl | rfl | rfl | rfl | rfl | rfl | rfl | rfl | rfl | rfl
    · refine g_iload_n 1 dX9_many_0 rfl rfl ?_
      refine g_tableIn (off := 55) (tgt := 56) dX9_many_1 (by decide) (by decide) (by decide) (by decide) ?_
      refine g_aload_n 0 dX9_many_56 rfl rfl ?_
      refine g_aload_n 0 dX9_many_57 rfl rfl ?_
      refine g_getr (f := 293) (b := b) dX9_many_58 fl_X9_23 xo.1 rfl xo.2 ?_
      refine g_geti (f := 161) dX9_many_61 fl_X9_78 c.1.1.2 (by decide) rfl ?_
      rw [show zi h 161 b = jI (nA N 0) from c.2.2.1.1]
      refine g_invv (M' := mX9_answer) (As := [.int (jI (nA N 0))]) (rest := []) dX9_many_64 ml_X9_75 okX9_answer imX9_answer seX9_answer ⟨(Nat.le_of_ble_eq_true rfl), (Nat.le_of_ble_eq_true rfl)⟩ (ci := 9) rfl rfl xo.1 rfl rfl (Nat.le_of_ble_eq_true rfl) (c_ans xo.1) ?_
      rintro _ q1 ⟨rfl, eq1⟩
      subst q1
      show zG l w mX9_many 67 [(0, .ref x), (1, .int (nI 0))] [.int (jI (nA N 0))] (zSi h 290 x (nI 0)) _
      refine g_ireturn dX9_many_67 rfl ?_
      exact ⟨rfl, rfl⟩
    · refine g_iload_n 1 dX9_many_0 rfl rfl ?_
      refine g_tableIn (off := 67) (tgt := 68) dX9_many_1 (by decide) (by decide) (by decide) (by decide) ?_
      refine g_aload_n 0 dX9_many_68 rfl rfl ?_
      refine g_aload_n 0 dX9_many_69 rfl rfl ?_
      refine g_getr (f := 293) (b := b) dX9_many_70 fl_X9_23 xo.1 rfl xo.2 ?_
      refine g_geti (f := 163) dX9_many_73 fl_X9_72 c.1.1.2 (by decide) rfl ?_
      rw [show zi h 163 b = jI (nA N 1) from c.2.2.1.2.1]
      refine g_invv (M' := mX9_answer) (As := [.int (jI (nA N 1))]) (rest := []) dX9_many_76 ml_X9_75 okX9_answer imX9_answer seX9_answer ⟨(Nat.le_of_ble_eq_true rfl), (Nat.le_of_ble_eq_true rfl)⟩ (ci := 9) rfl rfl xo.1 rfl rfl (Nat.le_of_ble_eq_true rfl) (c_ans xo.1) ?_
      rintro _ q1 ⟨rfl, eq1⟩
      subst q1
      show zG l w mX9_many 79 [(0, .ref x), (1, .int (nI 1))] [.int (jI (nA N 1))] (zSi h 290 x (nI 0)) _
      refine g_ireturn dX9_many_79 rfl ?_
      exact ⟨rfl, rfl⟩
    · refine g_iload_n 1 dX9_many_0 rfl rfl ?_
      refine g_tableIn (off := 79) (tgt := 80) dX9_many_1 (by decide) (by decide) (by decide) (by decide) ?_
      refine g_aload_n 0 dX9_many_80 rfl rfl ?_
      refine g_aload_n 0 dX9_many_81 rfl rfl ?_
      refine g_getr (f := 293) (b := b) dX9_many_82 fl_X9_23 xo.1 rfl xo.2 ?_
      refine g_geti (f := 164) dX9_many_85 fl_X9_81 c.1.1.2 (by decide) rfl ?_
      rw [show zi h 164 b = jI (nA N 2) from c.2.2.1.2.2.1]
      refine g_invv (M' := mX9_answer) (As := [.int (jI (nA N 2))]) (rest := []) dX9_many_88 ml_X9_75 okX9_answer imX9_answer seX9_answer ⟨(Nat.le_of_ble_eq_true rfl), (Nat.le_of_ble_eq_true rfl)⟩ (ci := 9) rfl rfl xo.1 rfl rfl (Nat.le_of_ble_eq_true rfl) (c_ans xo.1) ?_
      rintro _ q1 ⟨rfl, eq1⟩
      subst q1
      show zG l w mX9_many 91 [(0, .ref x), (1, .int (nI 2))] [.int (jI (nA N 2))] (zSi h 290 x (nI 0)) _
      refine g_ireturn dX9_many_91 rfl ?_
      exact ⟨rfl, rfl⟩
    · refine g_iload_n 1 dX9_many_0 rfl rfl ?_
      refine g_tableIn (off := 91) (tgt := 92) dX9_many_1 (by decide) (by decide) (by decide) (by decide) ?_
      refine g_aload_n 0 dX9_many_92 rfl rfl ?_
      refine g_aload_n 0 dX9_many_93 rfl rfl ?_
      refine g_geti (f := 296) dX9_many_94 fl_X9_84 xo.1 (by decide) rfl ?_
      rw [show zi h 296 x = nI mk from hm]
      refine g_invv (M' := mX9_answer) (As := [.int (nI mk)]) (rest := []) dX9_many_97 ml_X9_75 okX9_answer imX9_answer seX9_answer ⟨(Nat.le_of_ble_eq_true rfl), (Nat.le_of_ble_eq_true rfl)⟩ (ci := 9) rfl rfl xo.1 rfl rfl (Nat.le_of_ble_eq_true rfl) (c_ans xo.1) ?_
      rintro _ q1 ⟨rfl, eq1⟩
      subst q1
      show zG l w mX9_many 100 [(0, .ref x), (1, .int (nI 3))] [.int (nI mk)] (zSi h 290 x (nI 0)) _
      refine g_ireturn dX9_many_100 rfl ?_
      exact ⟨by rw [← jI_nat]; rfl, rfl⟩
    · refine g_iload_n 1 dX9_many_0 rfl rfl ?_
      refine g_tableIn (off := 100) (tgt := 101) dX9_many_1 (by decide) (by decide) (by decide) (by decide) ?_
      refine g_aload_n 0 dX9_many_101 rfl rfl ?_
      refine g_aload_n 0 dX9_many_102 rfl rfl ?_
      refine g_getr (f := 293) (b := b) dX9_many_103 fl_X9_23 xo.1 rfl xo.2 ?_
      refine g_invv (M' := mX5_standing) (As := []) (rest := [.ref x]) dX9_many_106 ml_X9_87 okX5_standing imX5_standing seX5_standing ⟨(Nat.le_of_ble_eq_true rfl), (Nat.le_of_ble_eq_true rfl)⟩ (ci := 5) rfl rfl c.1.1.2 rfl rfl (Nat.le_of_ble_eq_true rfl) (c_standing c hI) ?_
      rintro _ q1 ⟨rfl, eq1⟩
      subst q1
      show zG l w mX9_many 109 [(0, .ref x), (1, .int (nI 4))] [.int (nI (sumL (fun a => (nR N a).length) (nA N 0).toNat)), .ref x] h _
      refine g_invv (M' := mX9_answer) (As := [.int (nI (sumL (fun a => (nR N a).length) (nA N 0).toNat))]) (rest := []) dX9_many_109 ml_X9_75 okX9_answer imX9_answer seX9_answer ⟨(Nat.le_of_ble_eq_true rfl), (Nat.le_of_ble_eq_true rfl)⟩ (ci := 9) rfl rfl xo.1 rfl rfl (Nat.le_of_ble_eq_true rfl) (c_ans xo.1) ?_
      rintro _ q2 ⟨rfl, eq2⟩
      subst q2
      show zG l w mX9_many 112 [(0, .ref x), (1, .int (nI 4))] [.int (nI (sumL (fun a => (nR N a).length) (nA N 0).toNat))] (zSi h 290 x (nI 0)) _
      refine g_ireturn dX9_many_112 rfl ?_
      exact ⟨by rw [← jI_nat]; rfl, rfl⟩
    · refine g_iload_n 1 dX9_many_0 rfl rfl ?_
      refine g_tableIn (off := 112) (tgt := 113) dX9_many_1 (by decide) (by decide) (by decide) (by decide) ?_
      refine g_aload_n 0 dX9_many_113 rfl rfl ?_
      refine g_aload_n 0 dX9_many_114 rfl rfl ?_
      refine g_getr (f := 293) (b := b) dX9_many_115 fl_X9_23 xo.1 rfl xo.2 ?_
      refine g_invv (M' := mX5_wired) (As := []) (rest := [.ref x]) dX9_many_118 ml_X9_91 okX5_wired imX5_wired seX5_wired ⟨(Nat.le_of_ble_eq_true rfl), (Nat.le_of_ble_eq_true rfl)⟩ (ci := 5) rfl rfl c.1.1.2 rfl rfl (Nat.le_of_ble_eq_true rfl) (c_wired c hI) ?_
      rintro _ q1 ⟨rfl, eq1⟩
      subst q1
      show zG l w mX9_many 121 [(0, .ref x), (1, .int (nI 5))] [.int (nI (sumL (fun a => (nW N a).length) (nA N 0).toNat)), .ref x] h _
      refine g_invv (M' := mX9_answer) (As := [.int (nI (sumL (fun a => (nW N a).length) (nA N 0).toNat))]) (rest := []) dX9_many_121 ml_X9_75 okX9_answer imX9_answer seX9_answer ⟨(Nat.le_of_ble_eq_true rfl), (Nat.le_of_ble_eq_true rfl)⟩ (ci := 9) rfl rfl xo.1 rfl rfl (Nat.le_of_ble_eq_true rfl) (c_ans xo.1) ?_
      rintro _ q2 ⟨rfl, eq2⟩
      subst q2
      show zG l w mX9_many 124 [(0, .ref x), (1, .int (nI 5))] [.int (nI (sumL (fun a => (nW N a).length) (nA N 0).toNat))] (zSi h 290 x (nI 0)) _
      refine g_ireturn dX9_many_124 rfl ?_
      exact ⟨by rw [← jI_nat]; rfl, rfl⟩
    · refine g_iload_n 1 dX9_many_0 rfl rfl ?_
      refine g_tableIn (off := 124) (tgt := 125) dX9_many_1 (by decide) (by decide) (by decide) (by decide) ?_
      refine g_aload_n 0 dX9_many_125 rfl rfl ?_
      refine g_aload_n 0 dX9_many_126 rfl rfl ?_
      refine g_getr (f := 293) (b := b) dX9_many_127 fl_X9_23 xo.1 rfl xo.2 ?_
      refine g_getr (f := 165) (b := b + 3) dX9_many_130 fl_X9_94 c.1.1.2 rfl c.1.2.2.2.1.1 ?_
      refine g_geti (f := 98) dX9_many_133 fl_X9_98 c.1.2.2.2.1.2 (by decide) rfl ?_
      rw [show zi h 98 (b + 3) = nI (ls (b + 3)).length from (c.2.1.1 _ c.1.iK).2.2.1]
      refine g_invv (M' := mX9_answer) (As := [.int (nI (ls (b + 3)).length)]) (rest := []) dX9_many_136 ml_X9_75 okX9_answer imX9_answer seX9_answer ⟨(Nat.le_of_ble_eq_true rfl), (Nat.le_of_ble_eq_true rfl)⟩ (ci := 9) rfl rfl xo.1 rfl rfl (Nat.le_of_ble_eq_true rfl) (c_ans xo.1) ?_
      rintro _ q1 ⟨rfl, eq1⟩
      subst q1
      show zG l w mX9_many 139 [(0, .ref x), (1, .int (nI 6))] [.int (nI (ls (b + 3)).length)] (zSi h 290 x (nI 0)) _
      refine g_ireturn dX9_many_139 rfl ?_
      exact ⟨by rw [c.2.2.2.2.2.1.2.2.2.2.1.1, List.length_map, ← jI_nat]; rfl, rfl⟩
    · refine g_iload_n 1 dX9_many_0 rfl rfl ?_
      refine g_tableIn (off := 139) (tgt := 140) dX9_many_1 (by decide) (by decide) (by decide) (by decide) ?_
      refine g_aload_n 0 dX9_many_140 rfl rfl ?_
      refine g_aload_n 0 dX9_many_141 rfl rfl ?_
      refine g_getr (f := 293) (b := b) dX9_many_142 fl_X9_23 xo.1 rfl xo.2 ?_
      refine g_getr (f := 168) (b := b + 5) dX9_many_145 fl_X9_103 c.1.1.2 rfl c.1.2.2.2.2.2.1.1 ?_
      refine g_geti (f := 37) dX9_many_148 fl_X9_107 c.1.2.2.2.2.2.1.2 (by decide) rfl ?_
      rw [show zi h 37 (b + 5) = nI (nE N).length from kp]
      refine g_invv (M' := mX9_answer) (As := [.int (nI (nE N).length)]) (rest := []) dX9_many_151 ml_X9_75 okX9_answer imX9_answer seX9_answer ⟨(Nat.le_of_ble_eq_true rfl), (Nat.le_of_ble_eq_true rfl)⟩ (ci := 9) rfl rfl xo.1 rfl rfl (Nat.le_of_ble_eq_true rfl) (c_ans xo.1) ?_
      rintro _ q1 ⟨rfl, eq1⟩
      subst q1
      show zG l w mX9_many 154 [(0, .ref x), (1, .int (nI 7))] [.int (nI (nE N).length)] (zSi h 290 x (nI 0)) _
      refine g_ireturn dX9_many_154 rfl ?_
      exact ⟨by rw [← jI_nat]; rfl, rfl⟩
    · refine g_iload_n 1 dX9_many_0 rfl rfl ?_
      refine g_tableIn (off := 154) (tgt := 155) dX9_many_1 (by decide) (by decide) (by decide) (by decide) ?_
      refine g_aload_n 0 dX9_many_155 rfl rfl ?_
      refine g_aload_n 0 dX9_many_156 rfl rfl ?_
      refine g_getr (f := 293) (b := b) dX9_many_157 fl_X9_23 xo.1 rfl xo.2 ?_
      refine g_invv (M' := mX5_evenness) (As := []) (rest := [.ref x]) dX9_many_160 ml_X9_112 okX5_evenness imX5_evenness seX5_evenness ⟨(Nat.le_of_ble_eq_true rfl), (Nat.le_of_ble_eq_true rfl)⟩ (ci := 5) rfl rfl c.1.1.2 rfl rfl (Nat.le_of_ble_eq_true rfl) (c_evenness c hI) ?_
      rintro _ q1 ⟨rfl, eq1⟩
      subst q1
      show zG l w mX9_many 163 [(0, .ref x), (1, .int (nI 8))] [.int (jI (evenN N)), .ref x] h _
      refine g_invv (M' := mX9_answer) (As := [.int (jI (evenN N))]) (rest := []) dX9_many_163 ml_X9_75 okX9_answer imX9_answer seX9_answer ⟨(Nat.le_of_ble_eq_true rfl), (Nat.le_of_ble_eq_true rfl)⟩ (ci := 9) rfl rfl xo.1 rfl rfl (Nat.le_of_ble_eq_true rfl) (c_ans xo.1) ?_
      rintro _ q2 ⟨rfl, eq2⟩
      subst q2
      show zG l w mX9_many 166 [(0, .ref x), (1, .int (nI 8))] [.int (jI (evenN N))] (zSi h 290 x (nI 0)) _
      refine g_ireturn dX9_many_166 rfl ?_
      exact ⟨rfl, rfl⟩
    · refine g_iload_n 1 dX9_many_0 rfl rfl ?_
      refine g_tableIn (off := 166) (tgt := 167) dX9_many_1 (by decide) (by decide) (by decide) (by decide) ?_
      refine g_aload_n 0 dX9_many_167 rfl rfl ?_
      refine g_aload_n 0 dX9_many_168 rfl rfl ?_
      refine g_getr (f := 293) (b := b) dX9_many_169 fl_X9_23 xo.1 rfl xo.2 ?_
      refine g_invv (M' := mX5_windowGap) (As := []) (rest := [.ref x]) dX9_many_172 ml_X9_115 okX5_windowGap imX5_windowGap seX5_windowGap ⟨(Nat.le_of_ble_eq_true rfl), (Nat.le_of_ble_eq_true rfl)⟩ (ci := 5) rfl rfl c.1.1.2 rfl rfl (Nat.le_of_ble_eq_true rfl) (c_windowGap c hI) ?_
      rintro _ q1 ⟨rfl, eq1⟩
      subst q1
      show zG l w mX9_many 175 [(0, .ref x), (1, .int (nI 9))] [.int (jI (gapN N)), .ref x] h _
      refine g_invv (M' := mX9_answer) (As := [.int (jI (gapN N))]) (rest := []) dX9_many_175 ml_X9_75 okX9_answer imX9_answer seX9_answer ⟨(Nat.le_of_ble_eq_true rfl), (Nat.le_of_ble_eq_true rfl)⟩ (ci := 9) rfl rfl xo.1 rfl rfl (Nat.le_of_ble_eq_true rfl) (c_ans xo.1) ?_
      rintro _ q2 ⟨rfl, eq2⟩
      subst q2
      show zG l w mX9_many 178 [(0, .ref x), (1, .int (nI 9))] [.int (jI (gapN N))] (zSi h 290 x (nI 0)) _
      refine g_ireturn dX9_many_178 rfl ?_
      exact ⟨rfl, rfl⟩
  · refine g_iload_n 1 dX9_many_0 rfl rfl ?_
    refine g_tableOut (tgt := 179) dX9_many_1 (by rw [jI_toInt (by omega) (by omega)]; omega) (by decide) ?_
    refine g_aload_n 0 dX9_many_179 rfl rfl ?_
    refine g_iconst (v := nI 1) dX9_many_180 (by decide) ?_
    refine g_invv (M' := mX9_refuse) (As := [.int (nI 1)]) (rest := []) dX9_many_181 ml_X9_58 okX9_refuse imX9_refuse seX9_refuse ⟨(Nat.le_of_ble_eq_true rfl), (Nat.le_of_ble_eq_true rfl)⟩ (ci := 9) rfl rfl xo.1 rfl rfl (Nat.le_of_ble_eq_true rfl) (c_refC xo.1) ?_
    rintro _ q1 ⟨rfl, eq1⟩
    subst q1
    show zG l w mX9_many 184 [(0, .ref x), (1, .int (jI k))] [.int (-1)] (zSi h 290 x (nI 1)) _
    refine g_ireturn dX9_many_184 rfl ?_
    rw [show qMany N mk k = (1, -1) by unfold qMany; rw [if_neg (by omega), if_neg (by omega), if_neg (by omega), if_neg (by omega), if_neg (by omega), if_neg (by omega), if_neg (by omega), if_neg (by omega), if_neg (by omega), if_neg (by omega)]]
    exact ⟨rfl, rfl⟩
end QK
