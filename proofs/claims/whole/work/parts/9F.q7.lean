section QH
variable {l : Launch} {w : zW} {h : zH} {m x b : Nat} {π : Nat → Nat} {ls : Nat → List Nat} {N : nT} {X : List Nat} {t LN f : Nat} {L : List Nat}
def qEldest (N : nT) (z : Int) : Int × Int := if 0 ≤ z ∧ z < nA N 1 then (if earN N z.toNat (-1) (List.range 480) = -1 then (5, -1) else (0, earN N z.toNat (-1) (List.range 480))) else (2, -1)
theorem c_eldestM (r : MoN h m N) (hI : iN [] N) (hz : ∀ x, x < 480 → 0 ≤ nA N (368 + 8 * x + 0)) {z : Int} (zb : -2147483648 ≤ z ∧ z < 2147483648) : zM l w mX10_eldest [.ref m, .int (jI z)] h (fun u h1 => u = some (.int (jI (qEldest N z).2)) ∧ h1 = zSi h 321 m (jI (qEldest N z).1)) := by
  refine zM.of (by decide) (Nat.le_of_ble_eq_true rfl) ?_
  have H1 := hI.H.2.1
  refine g_aload_n 0 dX10_eldest_0 rfl rfl ?_
  refine g_iload_n 1 dX10_eldest_1 rfl rfl ?_
  refine g_invv (M' := mX10_isFlow) (As := [.int (jI z)]) (rest := []) dX10_eldest_2 ml_X10_321 okX10_isFlow imX10_isFlow seX10_isFlow ⟨(Nat.le_of_ble_eq_true rfl), (Nat.le_of_ble_eq_true rfl)⟩ (ci := 10) rfl rfl r.1.1 rfl rfl (Nat.le_of_ble_eq_true rfl) (c_isFlow r H1 (by omega)) ?_
  rintro _ q1 ⟨rfl, eq1⟩
  subst q1
  show zG l w mX10_eldest 5 [(0, .ref m), (1, .int (jI z))] [.int (bI (decide (0 ≤ z ∧ z < nA N 1)))] h _
  refine g_bif_ne (tgt := 14) dX10_eldest_5 (by decide) (fun d => ?_) (fun d => ?_)
  · have d := of_decide_eq_true d
    have hq : qEldest N z = (if earN N z.toNat (-1) (List.range 480) = -1 then (5, -1) else (0, earN N z.toNat (-1) (List.range 480))) := by unfold qEldest; rw [if_pos d]
    generalize qEldest N z = qv at hq ⊢
    obtain ⟨f, ef⟩ : ∃ f : Nat, z = (f : Int) := ⟨_, (Int.toNat_of_nonneg d.1).symm⟩
    subst ef
    simp only [jI_nat]
    rw [show (f : Int).toNat = f from rfl] at hq
    have f6 : f < 6 := by omega
    have pb : ∀ p, p < 480 → isF N f p → 0 ≤ nA N (368 + 8 * p + 1) ∧ nA N (368 + 8 * p + 1) ≤ 40000 := fun p hp hf => by have q := (hI.P p hp (by unfold isF at hf; omega)).2.1; have q2 := hI.H.2.2.1; omega
    have eb : ∀ i, -1 ≤ earN N f (-1) ((List.range 480).take i) ∧ earN N f (-1) ((List.range 480).take i) ≤ 40000 := fun i => ear_bd _ (by omega) (fun p hp => pb p (List.mem_range.mp (List.mem_of_mem_take hp)))
    have loop : ∀ n i : Nat, i + n = 480 → zG l w mX10_eldest 21 [(4, .int (nI i)), (2, .long (jL (earN N f (-1) ((List.range 480).take i)))), (0, .ref m), (1, .int (nI f))] [] h (fun u h1 => u = some (.int (jI qv.2)) ∧ h1 = zSi h 321 m (jI qv.1)) := by
      intro n
      induction n with
      | zero =>
        intro i hi
        have e9 := eb i
        refine g_iload 0 dX10_eldest_21 rfl ?_
        refine g_sipush (v := nI 480) dX10_eldest_23 (by decide) ?_
        refine g_ncmp_ge (tgt := 79) dX10_eldest_26 (by decide) (by omega) (by omega) (fun c => ?_) (fun c => ?_)
        · have ei : (List.range 480).take i = List.range 480 := List.take_of_length_le (by rw [List.length_range]; omega)
          rw [ei] at e9 ⊢
          refine g_lload_n 1 dX10_eldest_79 rfl rfl ?_
          refine g_ldc2J (z := (-1)) dX10_eldest_80 kl_X10_74 (by decide) ?_
          refine g_lif_ne (a := (earN N f (-1) (List.range 480))) (b := (-1)) (tgt := 95) dX10_eldest_83 rfl dX10_eldest_84 (by decide) (by omega) (by omega) (fun g => ?_) (fun g => ?_)
          · refine g_aload_n 2 dX10_eldest_95 rfl rfl ?_
            refine g_lload_n 1 dX10_eldest_96 rfl rfl ?_
            refine g_invv (M' := mX10_gives) (As := [.long (jL (earN N f (-1) (List.range 480)))]) (rest := []) dX10_eldest_97 ml_X10_298 okX10_gives imX10_gives seX10_gives ⟨(Nat.le_of_ble_eq_true rfl), (Nat.le_of_ble_eq_true rfl)⟩ (ci := 10) rfl rfl r.1.1 rfl rfl (Nat.le_of_ble_eq_true rfl) (c_gives r.1.1) ?_
            rintro _ q3 ⟨rfl, eq3⟩
            subst q3
            show zG l w mX10_eldest 100 [(4, .int (nI i)), (2, .long (jL (earN N f (-1) (List.range 480)))), (0, .ref m), (1, .int (nI f))] [.int (jI (earN N f (-1) (List.range 480)))] (zSi h 321 m (nI 0)) _
            refine g_ireturn dX10_eldest_100 rfl ?_
            rw [if_neg g] at hq
            generalize earN N f (-1) (List.range 480) = E9 at hq ⊢
            subst hq
            exact ⟨rfl, rfl⟩
          · refine g_aload_n 2 dX10_eldest_87 rfl rfl ?_
            refine g_iconst (v := nI 5) dX10_eldest_88 (by decide) ?_
            refine g_invv (M' := mX10_refuse) (As := [.int (nI 5)]) (rest := []) dX10_eldest_89 ml_X10_289 okX10_refuse imX10_refuse seX10_refuse ⟨(Nat.le_of_ble_eq_true rfl), (Nat.le_of_ble_eq_true rfl)⟩ (ci := 10) rfl rfl r.1.1 rfl rfl (Nat.le_of_ble_eq_true rfl) (c_refuse r.1.1) ?_
            rintro _ q4 ⟨rfl, eq4⟩
            subst q4
            show zG l w mX10_eldest 92 [(4, .int (nI i)), (2, .long (jL (earN N f (-1) (List.range 480)))), (0, .ref m), (1, .int (nI f))] [.int (-1)] (zSi h 321 m (nI 5)) _
            refine g_goto (tgt := 100) dX10_eldest_92 (by decide) ?_
            refine g_ireturn dX10_eldest_100 rfl ?_
            rw [if_pos g] at hq
            subst hq
            exact ⟨rfl, rfl⟩
        · exact absurd c (by omega)
      | succ n ih =>
        intro i hi
        have e9 := eb i
        have hp : (List.range 480)[i]? = some i := by rw [List.getElem?_range (by omega)]
        have es := ear_snoc (N := N) (f := f) (r := -1) hp
        have z0 := hz i (by omega)
        refine g_iload 0 dX10_eldest_21 rfl ?_
        refine g_sipush (v := nI 480) dX10_eldest_23 (by decide) ?_
        refine g_ncmp_ge (tgt := 79) dX10_eldest_26 (by decide) (by omega) (by omega) (fun c => ?_) (fun c => ?_)
        · exact absurd c (by omega)
        · have hp1 : nA N (368 + 8 * i + 0) ≤ 6 := by by_cases q : 0 < nA N (368 + 8 * i + 0); exact (hI.lst ⟨by omega, q⟩).1.2; omega
          refine g_aload_n 2 dX10_eldest_29 rfl rfl ?_
          refine g_iload 0 dX10_eldest_30 rfl ?_
          refine g_invv (M' := mX10_flowOf) (As := [.int (nI i)]) (rest := []) dX10_eldest_32 ml_X10_79 okX10_flowOf imX10_flowOf seX10_flowOf ⟨(Nat.le_of_ble_eq_true rfl), (Nat.le_of_ble_eq_true rfl)⟩ (ci := 10) rfl rfl r.1.1 rfl rfl (Nat.le_of_ble_eq_true rfl) (c_flowOfZ r (by omega)) ?_
          rintro _ q5 ⟨rfl, eq5⟩
          subst q5
          show zG l w mX10_eldest 35 [(4, .int (nI i)), (2, .long (jL (earN N f (-1) ((List.range 480).take i)))), (0, .ref m), (1, .int (nI f))] [.int (jI (nA N (368 + 8 * i + 0) - 1))] h _
          refine g_iload_n 3 dX10_eldest_35 rfl rfl ?_
          refine g_zcmp_ne (a := (nA N (368 + 8 * i + 0) - 1)) (b := ((f : Nat) : Int)) (tgt := 73) rfl (jI_nat f).symm dX10_eldest_36 (by decide) (by omega) (by omega) (fun g => ?_) (fun g => ?_)
          · refine g_inc (v := nI (i + 1)) (lv2 := [(4, .int (nI (i + 1))), (2, .long (jL (earN N f (-1) ((List.range 480).take i)))), (0, .ref m), (1, .int (nI f))]) 0 dX10_eldest_73 rfl (nI_add _ 1) (by decide) rfl ?_
            refine g_goto (tgt := 21) dX10_eldest_76 (by decide) ?_
            refine zG.sub [0, 1, 2, 3] ?_ (ih (i + 1) (by omega))
            rw [es]; unfold stE; rw [if_neg (by omega)]; rfl
          · have pi := pb i (by omega) (by unfold isF; omega)
            refine g_lload_n 1 dX10_eldest_39 rfl rfl ?_
            refine g_ldc2J (z := (-1)) dX10_eldest_40 kl_X10_74 (by decide) ?_
            refine g_lif_eq (a := (earN N f (-1) ((List.range 480).take i))) (b := (-1)) (tgt := 62) dX10_eldest_43 rfl dX10_eldest_44 (by decide) (by omega) (by omega) (fun g2 => ?_) (fun g2 => ?_)
            · refine g_aload_n 2 dX10_eldest_62 rfl rfl ?_
              refine g_iload 0 dX10_eldest_63 rfl ?_
              refine g_iconst (v := nI 1) dX10_eldest_65 (by decide) ?_
              refine g_invs (M' := mX10_packet0) (As := [.int (nI i), .int (nI 1)]) (rest := [.ref m]) dX10_eldest_66 ml_X10_55 okX10_packet0 stX10_packet0 ⟨(Nat.le_of_ble_eq_true rfl), (Nat.le_of_ble_eq_true rfl)⟩ rfl rfl (Nat.le_of_ble_eq_true rfl) c_packet0 ?_
              rintro _ q6 ⟨rfl, eq6⟩
              subst q6
              show zG l w mX10_eldest 69 [(4, .int (nI i)), (2, .long (jL (earN N f (-1) ((List.range 480).take i)))), (0, .ref m), (1, .int (nI f))] [.int (nI (368 + 8 * i + 1)), .ref m] h _
              refine g_invv (M' := mX10_of) (As := [.int (nI (368 + 8 * i + 1))]) (rest := []) dX10_eldest_69 ml_X10_48 okX10_of imX10_of seX10_of ⟨(Nat.le_of_ble_eq_true rfl), (Nat.le_of_ble_eq_true rfl)⟩ (ci := 10) rfl rfl r.1.1 rfl rfl (Nat.le_of_ble_eq_true rfl) (c_ofN r (by omega) (by unfold nSp; omega)) ?_
              rintro _ q7 ⟨rfl, eq7⟩
              subst q7
              show zG l w mX10_eldest 72 [(4, .int (nI i)), (2, .long (jL (earN N f (-1) ((List.range 480).take i)))), (0, .ref m), (1, .int (nI f))] [.long (jL (nA N (368 + 8 * i + 1)))] h _
              refine g_lstore_n (lv2 := [(2, .long (jL (nA N (368 + 8 * i + 1)))), (4, .int (nI i)), (0, .ref m), (1, .int (nI f))]) dX10_eldest_72 rfl (by decide) rfl ?_
              refine g_inc (v := nI (i + 1)) (lv2 := [(4, .int (nI (i + 1))), (2, .long (jL (nA N (368 + 8 * i + 1)))), (0, .ref m), (1, .int (nI f))]) 1 dX10_eldest_73 rfl (nI_add _ 1) (by decide) rfl ?_
              refine g_goto (tgt := 21) dX10_eldest_76 (by decide) ?_
              refine zG.sub [0, 1, 2, 3] ?_ (ih (i + 1) (by omega))
              rw [es]; unfold stE; rw [if_pos (by omega)]; rfl
            · refine g_aload_n 2 dX10_eldest_47 rfl rfl ?_
              refine g_iload 0 dX10_eldest_48 rfl ?_
              refine g_iconst (v := nI 1) dX10_eldest_50 (by decide) ?_
              refine g_invs (M' := mX10_packet0) (As := [.int (nI i), .int (nI 1)]) (rest := [.ref m]) dX10_eldest_51 ml_X10_55 okX10_packet0 stX10_packet0 ⟨(Nat.le_of_ble_eq_true rfl), (Nat.le_of_ble_eq_true rfl)⟩ rfl rfl (Nat.le_of_ble_eq_true rfl) c_packet0 ?_
              rintro _ q8 ⟨rfl, eq8⟩
              subst q8
              show zG l w mX10_eldest 54 [(4, .int (nI i)), (2, .long (jL (earN N f (-1) ((List.range 480).take i)))), (0, .ref m), (1, .int (nI f))] [.int (nI (368 + 8 * i + 1)), .ref m] h _
              refine g_invv (M' := mX10_of) (As := [.int (nI (368 + 8 * i + 1))]) (rest := []) dX10_eldest_54 ml_X10_48 okX10_of imX10_of seX10_of ⟨(Nat.le_of_ble_eq_true rfl), (Nat.le_of_ble_eq_true rfl)⟩ (ci := 10) rfl rfl r.1.1 rfl rfl (Nat.le_of_ble_eq_true rfl) (c_ofN r (by omega) (by unfold nSp; omega)) ?_
              rintro _ q9 ⟨rfl, eq9⟩
              subst q9
              show zG l w mX10_eldest 57 [(4, .int (nI i)), (2, .long (jL (earN N f (-1) ((List.range 480).take i)))), (0, .ref m), (1, .int (nI f))] [.long (jL (nA N (368 + 8 * i + 1)))] h _
              refine g_lload_n 1 dX10_eldest_57 rfl rfl ?_
              refine g_lif_ge (a := (nA N (368 + 8 * i + 1))) (b := (earN N f (-1) ((List.range 480).take i))) (tgt := 73) dX10_eldest_58 rfl dX10_eldest_59 (by decide) (by omega) (by omega) (fun g3 => ?_) (fun g3 => ?_)
              · refine g_inc (v := nI (i + 1)) (lv2 := [(4, .int (nI (i + 1))), (2, .long (jL (earN N f (-1) ((List.range 480).take i)))), (0, .ref m), (1, .int (nI f))]) 0 dX10_eldest_73 rfl (nI_add _ 1) (by decide) rfl ?_
                refine g_goto (tgt := 21) dX10_eldest_76 (by decide) ?_
                refine zG.sub [0, 1, 2, 3] ?_ (ih (i + 1) (by omega))
                rw [es]; unfold stE; rw [if_neg (by omega)]; rfl
              · refine g_aload_n 2 dX10_eldest_62 rfl rfl ?_
                refine g_iload 0 dX10_eldest_63 rfl ?_
                refine g_iconst (v := nI 1) dX10_eldest_65 (by decide) ?_
                refine g_invs (M' := mX10_packet0) (As := [.int (nI i), .int (nI 1)]) (rest := [.ref m]) dX10_eldest_66 ml_X10_55 okX10_packet0 stX10_packet0 ⟨(Nat.le_of_ble_eq_true rfl), (Nat.le_of_ble_eq_true rfl)⟩ rfl rfl (Nat.le_of_ble_eq_true rfl) c_packet0 ?_
                rintro _ q10 ⟨rfl, eq10⟩
                subst q10
                show zG l w mX10_eldest 69 [(4, .int (nI i)), (2, .long (jL (earN N f (-1) ((List.range 480).take i)))), (0, .ref m), (1, .int (nI f))] [.int (nI (368 + 8 * i + 1)), .ref m] h _
                refine g_invv (M' := mX10_of) (As := [.int (nI (368 + 8 * i + 1))]) (rest := []) dX10_eldest_69 ml_X10_48 okX10_of imX10_of seX10_of ⟨(Nat.le_of_ble_eq_true rfl), (Nat.le_of_ble_eq_true rfl)⟩ (ci := 10) rfl rfl r.1.1 rfl rfl (Nat.le_of_ble_eq_true rfl) (c_ofN r (by omega) (by unfold nSp; omega)) ?_
                rintro _ q11 ⟨rfl, eq11⟩
                subst q11
                show zG l w mX10_eldest 72 [(4, .int (nI i)), (2, .long (jL (earN N f (-1) ((List.range 480).take i)))), (0, .ref m), (1, .int (nI f))] [.long (jL (nA N (368 + 8 * i + 1)))] h _
                refine g_lstore_n (lv2 := [(2, .long (jL (nA N (368 + 8 * i + 1)))), (4, .int (nI i)), (0, .ref m), (1, .int (nI f))]) dX10_eldest_72 rfl (by decide) rfl ?_
                refine g_inc (v := nI (i + 1)) (lv2 := [(4, .int (nI (i + 1))), (2, .long (jL (nA N (368 + 8 * i + 1)))), (0, .ref m), (1, .int (nI f))]) 1 dX10_eldest_73 rfl (nI_add _ 1) (by decide) rfl ?_
                refine g_goto (tgt := 21) dX10_eldest_76 (by decide) ?_
                refine zG.sub [0, 1, 2, 3] ?_ (ih (i + 1) (by omega))
                rw [es]; unfold stE; rw [if_pos (by omega)]; rfl
    refine g_ldc2J (z := (-1)) dX10_eldest_14 kl_X10_74 (by decide) ?_
    refine g_lstore_n (lv2 := [(2, .long (jL (-1))), (0, .ref m), (1, .int (nI f))]) dX10_eldest_17 rfl (by decide) rfl ?_
    refine g_iconst (v := nI 0) dX10_eldest_18 (by decide) ?_
    refine g_istore (lv2 := [(4, .int (nI 0)), (2, .long (jL (-1))), (0, .ref m), (1, .int (nI f))]) dX10_eldest_19 (by decide) rfl ?_
    have z9 := loop 480 0 (Nat.zero_add _)
    rw [show earN N f (-1) ((List.range 480).take 0) = -1 by rw [List.take_zero]; rfl] at z9
    exact zG.sub [0, 1, 2, 3] rfl z9
  · have d := of_decide_eq_false d
    refine g_aload_n 0 dX10_eldest_8 rfl rfl ?_
    refine g_iconst (v := nI 2) dX10_eldest_9 (by decide) ?_
    refine g_invv (M' := mX10_refuse) (As := [.int (nI 2)]) (rest := []) dX10_eldest_10 ml_X10_289 okX10_refuse imX10_refuse seX10_refuse ⟨(Nat.le_of_ble_eq_true rfl), (Nat.le_of_ble_eq_true rfl)⟩ (ci := 10) rfl rfl r.1.1 rfl rfl (Nat.le_of_ble_eq_true rfl) (c_refuse r.1.1) ?_
    rintro _ q2 ⟨rfl, eq2⟩
    subst q2
    show zG l w mX10_eldest 13 [(0, .ref m), (1, .int (jI z))] [.int (-1)] (zSi h 321 m (nI 2)) _
    refine g_ireturn dX10_eldest_13 rfl ?_
    rw [show qEldest N z = (2, -1) by unfold qEldest; rw [if_neg d]]
    exact ⟨rfl, rfl⟩
theorem c_earlier (c : CX h b π ls N X t) (hL : isL h LN) (el : ls LN = L.map π) (f6 : f < 6) {e : Int} (he : -1 ≤ e ∧ e ≤ 40000) (hl : ∀ p, p ∈ L → liv N p ∧ (1 ≤ nA N (368 + 8 * p + 0) ∧ nA N (368 + 8 * p + 0) ≤ 6) ∧ (0 ≤ nA N (368 + 8 * p + 1) ∧ nA N (368 + 8 * p + 1) ≤ 40000)) : zM l w mX3_earlierSentOf [.ref LN, .int (nI f), .int (jI e)] h (fun u h1 => u = some (.int (jI (earN N f e L))) ∧ h1 = h) := by
  refine zM.of (by decide) (Nat.le_of_ble_eq_true rfl) ?_
  have S := c.2.1.1 LN hL
  rw [el] at S
  have eb : ∀ i, -1 ≤ earN N f e (L.take i) ∧ earN N f e (L.take i) ≤ 40000 := fun i => ear_bd _ he (fun p hp hf => (hl p (List.mem_of_mem_take hp)).2.2)
  have loop : ∀ n j : Nat, j + n = L.length → zG l w mX3_earlierSentOf 8 [(4, rfO (L.map π)[j]?), (3, .int (jI (earN N f e (L.take j)))), (0, .ref LN), (1, .int (nI f)), (2, .int (jI e))] [] h (fun u h1 => u = some (.int (jI (earN N f e L))) ∧ h1 = h) := by
    intro n
    induction n with
    | zero =>
      intro j hj
      rw [show (L.map π)[j]? = none from List.getElem?_eq_none (by rw [List.length_map]; omega)]
      show zG l w mX3_earlierSentOf 8 [(4, .null), (3, .int (jI (earN N f e (L.take j)))), (0, .ref LN), (1, .int (nI f)), (2, .int (jI e))] [] h _
      refine g_aloadN 0 dX3_earlierSentOf_8 rfl ?_
      refine g_ifnullN (tgt := 52) dX3_earlierSentOf_10 (by decide) ?_
      refine g_iload_n 1 dX3_earlierSentOf_52 rfl rfl ?_
      refine g_ireturn dX3_earlierSentOf_53 rfl ?_
      exact ⟨by rw [show j = L.length by omega, List.take_length], rfl⟩
    | succ n ih =>
      intro j hj
      obtain ⟨p, hp⟩ : ∃ p, L[j]? = some p := ⟨_, List.getElem?_eq_getElem (by omega)⟩
      have hm : (L.map π)[j]? = some (π p) := by rw [List.getElem?_map, hp]; rfl
      have pl := hl p (List.mem_of_getElem? hp)
      have hx := pl.1
      have p0 := pl.2.1
      have p1 := pl.2.2
      have nx := (S.2.2.2 j (π p) hm).2
      have es := ear_snoc (N := N) (f := f) (r := e) hp
      have e9 := eb j
      rw [hm]
      show zG l w mX3_earlierSentOf 8 [(4, .ref (π p)), (3, .int (jI (earN N f e (L.take j)))), (0, .ref LN), (1, .int (nI f)), (2, .int (jI e))] [] h _
      refine g_aload 0 dX3_earlierSentOf_8 rfl ?_
      refine g_ifnull dX3_earlierSentOf_10 ?_
      refine g_aload 0 dX3_earlierSentOf_13 rfl ?_
      refine g_geti (f := 192) dX3_earlierSentOf_15 fl_X3_35 (c.2.2.2.2.2.1.1 p hx).2.2 (by decide) rfl ?_
      rw [show zi h 192 (π p) = jI (nA N (368 + 8 * p + 0) - 1) from (c.2.2.2.2.2.1.1 p hx).1.1]
      refine g_iload_n 3 dX3_earlierSentOf_18 rfl rfl ?_
      refine g_zcmp_ne (a := (nA N (368 + 8 * p + 0) - 1)) (b := ((f : Nat) : Int)) (tgt := 42) rfl (jI_nat f).symm dX3_earlierSentOf_19 (by decide) (by omega) (by omega) (fun d => ?_) (fun d => ?_)
      · refine g_aload 0 dX3_earlierSentOf_42 rfl ?_
        cases e2 : (L.map π)[j + 1]? with
        | none =>
          refine g_getrN (f := 201) dX3_earlierSentOf_44 fl_X3_9 (c.2.2.2.2.2.1.1 p hx).2.2 rfl (nx.trans e2) ?_
          refine g_astoreN (lv2 := [(4, .null), (3, .int (jI (earN N f e (L.take j)))), (0, .ref LN), (1, .int (nI f)), (2, .int (jI e))]) dX3_earlierSentOf_47 (by decide) rfl ?_
          refine g_goto (tgt := 8) dX3_earlierSentOf_49 (by decide) ?_
          have z9 := ih (j + 1) (by omega)
          rw [e2] at z9
          refine zG.sub [0, 1, 2, 3, 4] ?_ z9
          rw [es]; unfold stE; rw [if_neg (by omega)]; rfl
        | some q =>
          refine g_getr (f := 201) (b := q) dX3_earlierSentOf_44 fl_X3_9 (c.2.2.2.2.2.1.1 p hx).2.2 rfl (nx.trans e2) ?_
          refine g_astore (lv2 := [(4, .ref q), (3, .int (jI (earN N f e (L.take j)))), (0, .ref LN), (1, .int (nI f)), (2, .int (jI e))]) dX3_earlierSentOf_47 (by decide) rfl ?_
          refine g_goto (tgt := 8) dX3_earlierSentOf_49 (by decide) ?_
          have z9 := ih (j + 1) (by omega)
          rw [e2] at z9
          refine zG.sub [0, 1, 2, 3, 4] ?_ z9
          rw [es]; unfold stE; rw [if_neg (by omega)]; rfl
      · refine g_iload_n 1 dX3_earlierSentOf_22 rfl rfl ?_
        refine g_iconst (v := (-1)) dX3_earlierSentOf_23 (by decide) ?_
        refine g_zcmp_eq (a := (earN N f e (L.take j))) (b := (-1)) (tgt := 36) rfl (by decide) dX3_earlierSentOf_24 (by decide) (by omega) (by omega) (fun g2 => ?_) (fun g2 => ?_)
        · refine g_aload 0 dX3_earlierSentOf_36 rfl ?_
          refine g_geti (f := 193) dX3_earlierSentOf_38 fl_X3_42 (c.2.2.2.2.2.1.1 p hx).2.2 (by decide) rfl ?_
          rw [show zi h 193 (π p) = jI (nA N (368 + 8 * p + 1)) from (c.2.2.2.2.2.1.1 p hx).1.2.1]
          refine g_istore_n (lv2 := [(3, .int (jI (nA N (368 + 8 * p + 1)))), (4, .ref (π p)), (0, .ref LN), (1, .int (nI f)), (2, .int (jI e))]) dX3_earlierSentOf_41 rfl (by decide) rfl ?_
          refine g_aload 1 dX3_earlierSentOf_42 rfl ?_
          cases e2 : (L.map π)[j + 1]? with
          | none =>
            refine g_getrN (f := 201) dX3_earlierSentOf_44 fl_X3_9 (c.2.2.2.2.2.1.1 p hx).2.2 rfl (nx.trans e2) ?_
            refine g_astoreN (lv2 := [(4, .null), (3, .int (jI (nA N (368 + 8 * p + 1)))), (0, .ref LN), (1, .int (nI f)), (2, .int (jI e))]) dX3_earlierSentOf_47 (by decide) rfl ?_
            refine g_goto (tgt := 8) dX3_earlierSentOf_49 (by decide) ?_
            have z9 := ih (j + 1) (by omega)
            rw [e2] at z9
            refine zG.sub [0, 1, 2, 3, 4] ?_ z9
            rw [es]; unfold stE; rw [if_pos (by omega)]; rfl
          | some q =>
            refine g_getr (f := 201) (b := q) dX3_earlierSentOf_44 fl_X3_9 (c.2.2.2.2.2.1.1 p hx).2.2 rfl (nx.trans e2) ?_
            refine g_astore (lv2 := [(4, .ref q), (3, .int (jI (nA N (368 + 8 * p + 1)))), (0, .ref LN), (1, .int (nI f)), (2, .int (jI e))]) dX3_earlierSentOf_47 (by decide) rfl ?_
            refine g_goto (tgt := 8) dX3_earlierSentOf_49 (by decide) ?_
            have z9 := ih (j + 1) (by omega)
            rw [e2] at z9
            refine zG.sub [0, 1, 2, 3, 4] ?_ z9
            rw [es]; unfold stE; rw [if_pos (by omega)]; rfl
        · refine g_aload 0 dX3_earlierSentOf_27 rfl ?_
          refine g_geti (f := 193) dX3_earlierSentOf_29 fl_X3_42 (c.2.2.2.2.2.1.1 p hx).2.2 (by decide) rfl ?_
          rw [show zi h 193 (π p) = jI (nA N (368 + 8 * p + 1)) from (c.2.2.2.2.2.1.1 p hx).1.2.1]
          refine g_iload_n 1 dX3_earlierSentOf_32 rfl rfl ?_
          refine g_zcmp_ge (a := (nA N (368 + 8 * p + 1))) (b := (earN N f e (L.take j))) (tgt := 42) rfl rfl dX3_earlierSentOf_33 (by decide) (by omega) (by omega) (fun g3 => ?_) (fun g3 => ?_)
          · refine g_aload 0 dX3_earlierSentOf_42 rfl ?_
            cases e2 : (L.map π)[j + 1]? with
            | none =>
              refine g_getrN (f := 201) dX3_earlierSentOf_44 fl_X3_9 (c.2.2.2.2.2.1.1 p hx).2.2 rfl (nx.trans e2) ?_
              refine g_astoreN (lv2 := [(4, .null), (3, .int (jI (earN N f e (L.take j)))), (0, .ref LN), (1, .int (nI f)), (2, .int (jI e))]) dX3_earlierSentOf_47 (by decide) rfl ?_
              refine g_goto (tgt := 8) dX3_earlierSentOf_49 (by decide) ?_
              have z9 := ih (j + 1) (by omega)
              rw [e2] at z9
              refine zG.sub [0, 1, 2, 3, 4] ?_ z9
              rw [es]; unfold stE; rw [if_neg (by omega)]; rfl
            | some q =>
              refine g_getr (f := 201) (b := q) dX3_earlierSentOf_44 fl_X3_9 (c.2.2.2.2.2.1.1 p hx).2.2 rfl (nx.trans e2) ?_
              refine g_astore (lv2 := [(4, .ref q), (3, .int (jI (earN N f e (L.take j)))), (0, .ref LN), (1, .int (nI f)), (2, .int (jI e))]) dX3_earlierSentOf_47 (by decide) rfl ?_
              refine g_goto (tgt := 8) dX3_earlierSentOf_49 (by decide) ?_
              have z9 := ih (j + 1) (by omega)
              rw [e2] at z9
              refine zG.sub [0, 1, 2, 3, 4] ?_ z9
              rw [es]; unfold stE; rw [if_neg (by omega)]; rfl
          · refine g_aload 0 dX3_earlierSentOf_36 rfl ?_
            refine g_geti (f := 193) dX3_earlierSentOf_38 fl_X3_42 (c.2.2.2.2.2.1.1 p hx).2.2 (by decide) rfl ?_
            rw [show zi h 193 (π p) = jI (nA N (368 + 8 * p + 1)) from (c.2.2.2.2.2.1.1 p hx).1.2.1]
            refine g_istore_n (lv2 := [(3, .int (jI (nA N (368 + 8 * p + 1)))), (4, .ref (π p)), (0, .ref LN), (1, .int (nI f)), (2, .int (jI e))]) dX3_earlierSentOf_41 rfl (by decide) rfl ?_
            refine g_aload 1 dX3_earlierSentOf_42 rfl ?_
            cases e2 : (L.map π)[j + 1]? with
            | none =>
              refine g_getrN (f := 201) dX3_earlierSentOf_44 fl_X3_9 (c.2.2.2.2.2.1.1 p hx).2.2 rfl (nx.trans e2) ?_
              refine g_astoreN (lv2 := [(4, .null), (3, .int (jI (nA N (368 + 8 * p + 1)))), (0, .ref LN), (1, .int (nI f)), (2, .int (jI e))]) dX3_earlierSentOf_47 (by decide) rfl ?_
              refine g_goto (tgt := 8) dX3_earlierSentOf_49 (by decide) ?_
              have z9 := ih (j + 1) (by omega)
              rw [e2] at z9
              refine zG.sub [0, 1, 2, 3, 4] ?_ z9
              rw [es]; unfold stE; rw [if_pos (by omega)]; rfl
            | some q =>
              refine g_getr (f := 201) (b := q) dX3_earlierSentOf_44 fl_X3_9 (c.2.2.2.2.2.1.1 p hx).2.2 rfl (nx.trans e2) ?_
              refine g_astore (lv2 := [(4, .ref q), (3, .int (jI (nA N (368 + 8 * p + 1)))), (0, .ref LN), (1, .int (nI f)), (2, .int (jI e))]) dX3_earlierSentOf_47 (by decide) rfl ?_
              refine g_goto (tgt := 8) dX3_earlierSentOf_49 (by decide) ?_
              have z9 := ih (j + 1) (by omega)
              rw [e2] at z9
              refine zG.sub [0, 1, 2, 3, 4] ?_ z9
              rw [es]; unfold stE; rw [if_pos (by omega)]; rfl
  refine g_iload_n 2 dX3_earlierSentOf_0 rfl rfl ?_
  refine g_istore_n (lv2 := [(3, .int (jI e)), (0, .ref LN), (1, .int (nI f)), (2, .int (jI e))]) dX3_earlierSentOf_1 rfl (by decide) rfl ?_
  refine g_aload_n 1 dX3_earlierSentOf_2 rfl rfl ?_
  have hd := S.1
  rw [List.head?_eq_getElem?] at hd
  cases e2 : (L.map π)[0]? with
  | none =>
    refine g_getrN (f := 96) dX3_earlierSentOf_3 fl_X3_20 hL.2 rfl (hd.trans e2) ?_
    refine g_astoreN (lv2 := [(4, .null), (3, .int (jI e)), (0, .ref LN), (1, .int (nI f)), (2, .int (jI e))]) dX3_earlierSentOf_6 (by decide) rfl ?_
    have z9 := loop _ 0 (Nat.zero_add _)
    rw [e2] at z9
    exact zG.sub [0, 1, 2, 3, 4] rfl z9
  | some q =>
    refine g_getr (f := 96) (b := q) dX3_earlierSentOf_3 fl_X3_20 hL.2 rfl (hd.trans e2) ?_
    refine g_astore (lv2 := [(4, .ref q), (3, .int (jI e)), (0, .ref LN), (1, .int (nI f)), (2, .int (jI e))]) dX3_earlierSentOf_6 (by decide) rfl ?_
    have z9 := loop _ 0 (Nat.zero_add _)
    rw [e2] at z9
    exact zG.sub [0, 1, 2, 3, 4] rfl z9
theorem iN.lsa (h : iN [] N) {p : Nat} (hp : p < 480 ∧ 0 < nA N (368 + 8 * p + 0)) : liv N p ∧ (1 ≤ nA N (368 + 8 * p + 0) ∧ nA N (368 + 8 * p + 0) ≤ 6) ∧ (0 ≤ nA N (368 + 8 * p + 1) ∧ nA N (368 + 8 * p + 1) ≤ 40000) := by
  have P := (h.P p hp.1 hp.2).2.1
  have H2 := h.H.2.2.1
  exact ⟨hp, (h.lst hp).1, by omega⟩
theorem ear_app {L L' : List Nat} {e : Int} : earN N f e (L ++ L') = earN N f (earN N f e L) L' := List.foldl_append
theorem c_firstSent (c : CX h b π ls N X t) (hI : iN [] N) (f6 : f < 6) : zM l w mX5_firstSentOf [.ref b, .int (nI f)] h (fun u h1 => u = some (.int (jI (earN N f (-1) (clL N (nA N 0).toNat)))) ∧ h1 = h) := by
  refine zM.of (by decide) (Nat.le_of_ble_eq_true rfl) ?_
  have H0 := hI.H.1
  have eb : ∀ i, i ≤ 6 → -1 ≤ earN N f (-1) (clL N i) ∧ earN N f (-1) (clL N i) ≤ 40000 := fun i hi => ear_bd _ (by omega) (fun p hp hf => (hI.lsa (clL_lv hI i p hi hp)).2.2)
  have loop : ∀ n i : Nat, ((i + n : Nat) : Int) = nA N 0 → zG l w mX5_firstSentOf 12 [(3, .int (nI i)), (2, .int (jI (earN N f (-1) (clL N i)))), (0, .ref b), (1, .int (nI f))] [] h (fun u h1 => u = some (.int (jI (earN N f (-1) (clL N (nA N 0).toNat)))) ∧ h1 = h) := by
    intro n
    induction n with
    | zero =>
      intro i hi
      refine g_iload_n 0 dX5_firstSentOf_12 rfl rfl ?_
      refine g_aload_n 2 dX5_firstSentOf_13 rfl rfl ?_
      refine g_geti (f := 161) dX5_firstSentOf_14 fl_X5_49 c.1.1.2 (by decide) rfl ?_
      rw [show zi h 161 b = jI (nA N 0) from c.2.2.1.1]
      refine g_zcmp_ge (a := ((i : Nat) : Int)) (b := (nA N 0)) (tgt := 56) (jI_nat i).symm rfl dX5_firstSentOf_17 (by decide) (by omega) (by omega) (fun g => ?_) (fun g => ?_)
      · refine g_iload_n 1 dX5_firstSentOf_56 rfl rfl ?_
        refine g_ireturn dX5_firstSentOf_57 rfl ?_
        exact ⟨by rw [← show i = (nA N 0).toNat by omega], rfl⟩
      · exact absurd g (by omega)
    | succ n ih =>
      intro i hi
      refine g_iload_n 0 dX5_firstSentOf_12 rfl rfl ?_
      refine g_aload_n 2 dX5_firstSentOf_13 rfl rfl ?_
      refine g_geti (f := 161) dX5_firstSentOf_14 fl_X5_49 c.1.1.2 (by decide) rfl ?_
      rw [show zi h 161 b = jI (nA N 0) from c.2.2.1.1]
      refine g_zcmp_ge (a := ((i : Nat) : Int)) (b := (nA N 0)) (tgt := 56) (jI_nat i).symm rfl dX5_firstSentOf_17 (by decide) (by omega) (by omega) (fun g => ?_) (fun g => ?_)
      · exact absurd g (by omega)
      · have ha : (i : Int) < nA N 0 := by omega
        have i6 : i < 6 := by omega
        have e9 := eb i (by omega)
        refine g_aload_n 2 dX5_firstSentOf_20 rfl rfl ?_
        refine g_getr (f := 160) (b := b + 1) dX5_firstSentOf_21 fl_X5_11 c.1.1.2 rfl c.1.2.1.1 ?_
        refine g_iload_n 0 dX5_firstSentOf_24 rfl rfl ?_
        refine g_aald (t := 5) (b := b + 11 + 7 * i) dX5_firstSentOf_25 c.1.2.1.2.1 rfl (fun _ => rfl) (by decide) (by rw [show zn h (b + 1) = 6 from c.1.2.1.2.2]; exact vp_in_nI (by omega) (by omega)) (by rw [nI_clamp (by omega)]; exact (c.1.2.2.2.2.2.2.2.2.1 i i6).1) ?_
        refine g_getr (f := 132) (b := b + 11 + 7 * i + 1) dX5_firstSentOf_26 fl_X5_73 (c.1.2.2.2.2.2.2.2.2.1 i i6).2.1 rfl (c.1.2.2.2.2.2.2.2.2.1 i i6).2.2.1.1 ?_
        refine g_iload_n 3 dX5_firstSentOf_29 rfl rfl ?_
        refine g_iload_n 1 dX5_firstSentOf_30 rfl rfl ?_
        refine g_invv (M' := mX3_earlierSentOf) (As := [.int (nI f), .int (jI (earN N f (-1) (clL N i)))]) (rest := []) dX5_firstSentOf_31 ml_X5_252 okX3_earlierSentOf imX3_earlierSentOf seX3_earlierSentOf ⟨(Nat.le_of_ble_eq_true rfl), (Nat.le_of_ble_eq_true rfl)⟩ (ci := 3) rfl rfl (c.1.2.2.2.2.2.2.2.2.1 i i6).2.2.1.2 rfl rfl (Nat.le_of_ble_eq_true rfl) (c_earlier c (c.1.iR i6) (c.2.2.2.2.2.1.2.2.2.1 i i6).1 f6 e9 (fun p hp => hI.lsa (hI.C.memR i6 hp))) ?_
        rintro _ q1 ⟨rfl, eq1⟩
        subst q1
        show zG l w mX5_firstSentOf 34 [(3, .int (nI i)), (2, .int (jI (earN N f (-1) (clL N i)))), (0, .ref b), (1, .int (nI f))] [.int (jI (earN N f (earN N f (-1) (clL N i)) (nR N i)))] h _
        have e8 := ear_bd (N := N) (f := f) (nR N i) e9 (fun p hp hf => (hI.lsa (hI.C.memR i6 hp)).2.2)
        refine g_istore_n (lv2 := [(2, .int (jI (earN N f (earN N f (-1) (clL N i)) (nR N i)))), (3, .int (nI i)), (0, .ref b), (1, .int (nI f))]) dX5_firstSentOf_34 rfl (by decide) rfl ?_
        refine g_aload_n 2 dX5_firstSentOf_35 rfl rfl ?_
        refine g_getr (f := 160) (b := b + 1) dX5_firstSentOf_36 fl_X5_11 c.1.1.2 rfl c.1.2.1.1 ?_
        refine g_iload_n 1 dX5_firstSentOf_39 rfl rfl ?_
        refine g_aald (t := 5) (b := b + 11 + 7 * i) dX5_firstSentOf_40 c.1.2.1.2.1 rfl (fun _ => rfl) (by decide) (by rw [show zn h (b + 1) = 6 from c.1.2.1.2.2]; exact vp_in_nI (by omega) (by omega)) (by rw [nI_clamp (by omega)]; exact (c.1.2.2.2.2.2.2.2.2.1 i i6).1) ?_
        refine g_getr (f := 133) (b := b + 11 + 7 * i + 2) dX5_firstSentOf_41 fl_X5_80 (c.1.2.2.2.2.2.2.2.2.1 i i6).2.1 rfl (c.1.2.2.2.2.2.2.2.2.1 i i6).2.2.2.1.1 ?_
        refine g_iload_n 3 dX5_firstSentOf_44 rfl rfl ?_
        refine g_iload_n 0 dX5_firstSentOf_45 rfl rfl ?_
        refine g_invv (M' := mX3_earlierSentOf) (As := [.int (nI f), .int (jI (earN N f (earN N f (-1) (clL N i)) (nR N i)))]) (rest := []) dX5_firstSentOf_46 ml_X5_252 okX3_earlierSentOf imX3_earlierSentOf seX3_earlierSentOf ⟨(Nat.le_of_ble_eq_true rfl), (Nat.le_of_ble_eq_true rfl)⟩ (ci := 3) rfl rfl (c.1.2.2.2.2.2.2.2.2.1 i i6).2.2.2.1.2 rfl rfl (Nat.le_of_ble_eq_true rfl) (c_earlier c (c.1.iW i6) (c.2.2.2.2.2.1.2.2.2.1 i i6).2.1 f6 e8 (fun p hp => hI.lsa (hI.C.memW i6 hp))) ?_
        rintro _ q2 ⟨rfl, eq2⟩
        subst q2
        show zG l w mX5_firstSentOf 49 [(2, .int (jI (earN N f (earN N f (-1) (clL N i)) (nR N i)))), (3, .int (nI i)), (0, .ref b), (1, .int (nI f))] [.int (jI (earN N f (earN N f (earN N f (-1) (clL N i)) (nR N i)) (nW N i)))] h _
        refine g_istore_n (lv2 := [(2, .int (jI (earN N f (earN N f (earN N f (-1) (clL N i)) (nR N i)) (nW N i)))), (3, .int (nI i)), (0, .ref b), (1, .int (nI f))]) dX5_firstSentOf_49 rfl (by decide) rfl ?_
        refine g_inc (v := nI (i + 1)) (lv2 := [(3, .int (nI (i + 1))), (2, .int (jI (earN N f (earN N f (earN N f (-1) (clL N i)) (nR N i)) (nW N i)))), (0, .ref b), (1, .int (nI f))]) 1 dX5_firstSentOf_50 rfl (nI_add _ 1) (by decide) rfl ?_
        refine g_goto (tgt := 12) dX5_firstSentOf_53 (by decide) ?_
        refine zG.sub [0, 1, 2, 3] ?_ (ih (i + 1) (by omega))
        rw [show earN N f (-1) (clL N (i + 1)) = earN N f (earN N f (earN N f (-1) (clL N i)) (nR N i)) (nW N i) by rw [clL, ear_app, ear_app]]; rfl
  refine g_aload_n 0 dX5_firstSentOf_0 rfl rfl ?_
  refine g_getr (f := 165) (b := b + 3) dX5_firstSentOf_1 fl_X5_26 c.1.1.2 rfl c.1.2.2.2.1.1 ?_
  refine g_iload_n 1 dX5_firstSentOf_4 rfl rfl ?_
  refine g_iconst (v := (-1)) dX5_firstSentOf_5 (by decide) ?_
  refine zG.top (show (-1 : Int32) = jI (-1) by decide) ?_
  refine g_invv (M' := mX3_earlierSentOf) (As := [.int (nI f), .int (jI (-1))]) (rest := []) dX5_firstSentOf_6 ml_X5_252 okX3_earlierSentOf imX3_earlierSentOf seX3_earlierSentOf ⟨(Nat.le_of_ble_eq_true rfl), (Nat.le_of_ble_eq_true rfl)⟩ (ci := 3) rfl rfl c.1.2.2.2.1.2 rfl rfl (Nat.le_of_ble_eq_true rfl) (c_earlier c c.1.iK c.2.2.2.2.2.1.2.2.2.2.1.1 f6 (by omega) (fun p hp => hI.lsa (hI.C.memK hp))) ?_
  rintro _ q1 ⟨rfl, eq1⟩
  subst q1
  show zG l w mX5_firstSentOf 9 [(0, .ref b), (1, .int (nI f))] [.int (jI (earN N f (-1) (nK N)))] h _
  refine g_istore_n (lv2 := [(2, .int (jI (earN N f (-1) (nK N)))), (0, .ref b), (1, .int (nI f))]) dX5_firstSentOf_9 rfl (by decide) rfl ?_
  refine g_iconst (v := nI 0) dX5_firstSentOf_10 (by decide) ?_
  refine g_istore_n (lv2 := [(3, .int (nI 0)), (2, .int (jI (earN N f (-1) (nK N)))), (0, .ref b), (1, .int (nI f))]) dX5_firstSentOf_11 rfl (by decide) rfl ?_
  exact zG.sub [0, 1, 2, 3] rfl (loop (nA N 0).toNat 0 (by omega))
theorem c_eldestC (c : CX h b π ls N [] t) (xo : XO h x b) (hI : iN [] N) {z : Int} (zb : -2147483648 ≤ z ∧ z < 2147483648) : zM l w mX9_eldest [.ref x, .int (jI z)] h (fun u h1 => u = some (.int (jI (qEldest N z).2)) ∧ h1 = zSi h 290 x (jI (qEldest N z).1)) := by
  refine zM.of (by decide) (Nat.le_of_ble_eq_true rfl) ?_
  have H1 := hI.H.2.1
  have H0 := hI.H.1
  refine g_aload_n 0 dX9_eldest_0 rfl rfl ?_
  refine g_getr (f := 293) (b := b) dX9_eldest_1 fl_X9_23 xo.1 rfl xo.2 ?_
  refine g_iload_n 1 dX9_eldest_4 rfl rfl ?_
  by_cases d : 0 ≤ z ∧ z < nA N 1
  · rw [show qEldest N z = (if earN N z.toNat (-1) (List.range 480) = -1 then (5, -1) else (0, earN N z.toNat (-1) (List.range 480))) by unfold qEldest; rw [if_pos d]]
    obtain ⟨f, ef⟩ : ∃ f : Nat, z = (f : Int) := ⟨_, (Int.toNat_of_nonneg d.1).symm⟩
    subst ef
    simp only [jI_nat]
    have f6 : f < 6 := by omega
    rw [show (f : Int).toNat = f from rfl, eld_eq hI]
    have eb := ear_bd (N := N) (f := f) (clL N (nA N 0).toNat) (r := -1) (by omega) (fun p hp hf => (hI.lsa (clL_lv hI _ p (by omega) hp)).2.2)
    refine g_invv (M' := mX5_flowAt) (As := [.int (nI f)]) (rest := []) dX9_eldest_5 ml_X9_127 okX5_flowAt imX5_flowAt seX5_flowAt ⟨(Nat.le_of_ble_eq_true rfl), (Nat.le_of_ble_eq_true rfl)⟩ (ci := 5) rfl rfl c.1.1.2 rfl rfl (Nat.le_of_ble_eq_true rfl) (c_flowIn c H1 d.2) ?_
    rintro _ q3 ⟨rfl, eq3⟩
    subst q3
    show zG l w mX9_eldest 8 [(0, .ref x), (1, .int (nI f))] [.ref (b + 53 + 2 * f)] h _
    refine g_ifnonnull (tgt := 17) dX9_eldest_8 (by decide) ?_
    refine g_aload_n 0 dX9_eldest_17 rfl rfl ?_
    refine g_getr (f := 293) (b := b) dX9_eldest_18 fl_X9_23 xo.1 rfl xo.2 ?_
    refine g_iload_n 1 dX9_eldest_21 rfl rfl ?_
    refine g_invv (M' := mX5_firstSentOf) (As := [.int (nI f)]) (rest := []) dX9_eldest_22 ml_X9_195 okX5_firstSentOf imX5_firstSentOf seX5_firstSentOf ⟨(Nat.le_of_ble_eq_true rfl), (Nat.le_of_ble_eq_true rfl)⟩ (ci := 5) rfl rfl c.1.1.2 rfl rfl (Nat.le_of_ble_eq_true rfl) (c_firstSent c hI f6) ?_
    rintro _ q4 ⟨rfl, eq4⟩
    subst q4
    show zG l w mX9_eldest 25 [(0, .ref x), (1, .int (nI f))] [.int (jI (earN N f (-1) (clL N (nA N 0).toNat)))] h _
    refine g_istore_n (lv2 := [(2, .int (jI (earN N f (-1) (clL N (nA N 0).toNat)))), (0, .ref x), (1, .int (nI f))]) dX9_eldest_25 rfl (by decide) rfl ?_
    refine g_iload_n 0 dX9_eldest_26 rfl rfl ?_
    refine g_iconst (v := (-1)) dX9_eldest_27 (by decide) ?_
    refine g_zcmp_ne (a := (earN N f (-1) (clL N (nA N 0).toNat))) (b := (-1)) (tgt := 39) rfl (by decide) dX9_eldest_28 (by decide) (by omega) (by omega) (fun g => ?_) (fun g => ?_)
    · refine g_aload_n 1 dX9_eldest_39 rfl rfl ?_
      refine g_iload_n 0 dX9_eldest_40 rfl rfl ?_
      refine g_invv (M' := mX9_answer) (As := [.int (jI (earN N f (-1) (clL N (nA N 0).toNat)))]) (rest := []) dX9_eldest_41 ml_X9_75 okX9_answer imX9_answer seX9_answer ⟨(Nat.le_of_ble_eq_true rfl), (Nat.le_of_ble_eq_true rfl)⟩ (ci := 9) rfl rfl xo.1 rfl rfl (Nat.le_of_ble_eq_true rfl) (c_ans xo.1) ?_
      rintro _ q5 ⟨rfl, eq5⟩
      subst q5
      show zG l w mX9_eldest 44 [(2, .int (jI (earN N f (-1) (clL N (nA N 0).toNat)))), (0, .ref x), (1, .int (nI f))] [.int (jI (earN N f (-1) (clL N (nA N 0).toNat)))] (zSi h 290 x (nI 0)) _
      refine g_ireturn dX9_eldest_44 rfl ?_
      rw [if_neg g]
      exact ⟨rfl, rfl⟩
    · refine g_aload_n 1 dX9_eldest_31 rfl rfl ?_
      refine g_iconst (v := nI 5) dX9_eldest_32 (by decide) ?_
      refine g_invv (M' := mX9_refuse) (As := [.int (nI 5)]) (rest := []) dX9_eldest_33 ml_X9_58 okX9_refuse imX9_refuse seX9_refuse ⟨(Nat.le_of_ble_eq_true rfl), (Nat.le_of_ble_eq_true rfl)⟩ (ci := 9) rfl rfl xo.1 rfl rfl (Nat.le_of_ble_eq_true rfl) (c_refC xo.1) ?_
      rintro _ q6 ⟨rfl, eq6⟩
      subst q6
      show zG l w mX9_eldest 36 [(2, .int (jI (earN N f (-1) (clL N (nA N 0).toNat)))), (0, .ref x), (1, .int (nI f))] [.int (-1)] (zSi h 290 x (nI 5)) _
      refine g_goto (tgt := 44) dX9_eldest_36 (by decide) ?_
      refine g_ireturn dX9_eldest_44 rfl ?_
      rw [if_pos g]
      exact ⟨rfl, rfl⟩
  · refine g_invv (M' := mX5_flowAt) (As := [.int (jI z)]) (rest := []) dX9_eldest_5 ml_X9_127 okX5_flowAt imX5_flowAt seX5_flowAt ⟨(Nat.le_of_ble_eq_true rfl), (Nat.le_of_ble_eq_true rfl)⟩ (ci := 5) rfl rfl c.1.1.2 rfl rfl (Nat.le_of_ble_eq_true rfl) (c_flowOut c H1 zb d) ?_
    rintro _ q1 ⟨rfl, eq1⟩
    subst q1
    show zG l w mX9_eldest 8 [(0, .ref x), (1, .int (jI z))] [.null] h _
    refine g_ifnonnullN dX9_eldest_8 ?_
    refine g_aload_n 0 dX9_eldest_11 rfl rfl ?_
    refine g_iconst (v := nI 2) dX9_eldest_12 (by decide) ?_
    refine g_invv (M' := mX9_refuse) (As := [.int (nI 2)]) (rest := []) dX9_eldest_13 ml_X9_58 okX9_refuse imX9_refuse seX9_refuse ⟨(Nat.le_of_ble_eq_true rfl), (Nat.le_of_ble_eq_true rfl)⟩ (ci := 9) rfl rfl xo.1 rfl rfl (Nat.le_of_ble_eq_true rfl) (c_refC xo.1) ?_
    rintro _ q2 ⟨rfl, eq2⟩
    subst q2
    show zG l w mX9_eldest 16 [(0, .ref x), (1, .int (jI z))] [.int (-1)] (zSi h 290 x (nI 2)) _
    refine g_ireturn dX9_eldest_16 rfl ?_
    rw [show qEldest N z = (2, -1) by unfold qEldest; rw [if_neg d]]
    exact ⟨rfl, rfl⟩
end QH
