section M13
variable {l : Launch} {w : zW} {h : zH} {m : Nat} {N : nT} {a f : Nat}
/-- ahead of the count's end -/
def catN0 (a : Nat) (N : nT) (f : Nat) : nT := if isN N a f = hasN (nA N (8 + 40 * a + 14)) f then N else evN (uA N (8 + 40 * a + 14) (if isN N a f then nA N (8 + 40 * a + 14) + 2 ^ f else nA N (8 + 40 * a + 14) - 2 ^ f)) (if isN N a f then 1 else 2) a f
theorem catchN_0 : catchN a N f = uA (catN0 a N f) (8 + 40 * a + (20 + f)) 0 := rfl
theorem bI_inj {b c : Bool} (h : bI b = bI c) : b = c := by cases b <;> cases c <;> first | rfl | exact absurd h (by decide)
theorem xor_cal : ∀ s, s < 64 → ∀ f, f < 6 → lN s ^^^ (jL 1 <<< ((nI f).toInt64 &&& 63)) = jL (if hasN (s : Int) f then (s : Int) - 2 ^ f else (s : Int) + 2 ^ f) := by decide +kernel
theorem cat_tail (r : MoN h m N) (hF : nFit N) (hB : nBd N) (ha : a < 6) (hf : f < 6) (hs : 0 ≤ nA N (8 + 40 * a + 14) ∧ nA N (8 + 40 * a + 14) < 64) {e : Int} : zG l w mX10_catches 81 [(7, .long (jL e)), (5, .long (jL (nA N (8 + 40 * a + (32 + f))))), (3, .long (jL (nA N (8 + 40 * a + (20 + f))))), (0, .ref m), (1, .int (nI a)), (2, .int (nI f))] [.int (bI (isN N a f))] h (fun v h1 => v = none ∧ MoN h1 m (catN0 a N f) ∧ FrM m h h1) := by
  obtain ⟨s, es⟩ : ∃ s : Nat, nA N (8 + 40 * a + 14) = (s : Int) := ⟨(nA N (8 + 40 * a + 14)).toNat, (Int.toNat_of_nonneg hs.1).symm⟩
  have hs64 : s < 64 := by omega
  refine g_istore (lv2 := [(9, .int (bI (isN N a f))), (7, .long (jL e)), (5, .long (jL (nA N (8 + 40 * a + (32 + f))))), (3, .long (jL (nA N (8 + 40 * a + (20 + f))))), (0, .ref m), (1, .int (nI a)), (2, .int (nI f))]) dX10_catches_81 (by decide) rfl ?_
  refine g_aload_n 4 dX10_catches_83 rfl rfl ?_
  refine g_iload_n 5 dX10_catches_84 rfl rfl ?_
  refine g_bipush (v := nI 14) dX10_catches_85 (by decide) ?_
  refine g_invv (M' := mX10_ofLink) (As := [.int (nI a), .int (nI 14)]) (rest := []) dX10_catches_87 ml_X10_69 okX10_ofLink imX10_ofLink seX10_ofLink ⟨(Nat.le_of_ble_eq_true rfl), (Nat.le_of_ble_eq_true rfl)⟩ (ci := 10) rfl rfl r.1.1 rfl rfl (Nat.le_of_ble_eq_true rfl) (c_ofLinkN r (by omega) (by unfold nSp; omega)) ?_
  rintro _ q1 ⟨rfl, eq1⟩
  subst q1
  show zG l w mX10_catches 90 [(9, .int (bI (isN N a f))), (7, .long (jL e)), (5, .long (jL (nA N (8 + 40 * a + (32 + f))))), (3, .long (jL (nA N (8 + 40 * a + (20 + f))))), (0, .ref m), (1, .int (nI a)), (2, .int (nI f))] [.long (jL (nA N (8 + 40 * a + 14)))] h _
  refine g_iload_n 6 dX10_catches_90 rfl rfl ?_
  rw [es, jL_nat]
  refine g_invs (M' := mX10_has) (As := [.long (lN s), .int (nI f)]) (rest := []) dX10_catches_91 ml_X10_93 okX10_has stX10_has ⟨(Nat.le_of_ble_eq_true rfl), (Nat.le_of_ble_eq_true rfl)⟩ rfl rfl (Nat.le_of_ble_eq_true rfl) (c_has hs64 hf) ?_
  rintro _ q2 ⟨rfl, eq2⟩
  subst q2
  show zG l w mX10_catches 94 [(9, .int (bI (isN N a f))), (7, .long (jL e)), (5, .long (jL (nA N (8 + 40 * a + (32 + f))))), (3, .long (jL (nA N (8 + 40 * a + (20 + f))))), (0, .ref m), (1, .int (nI a)), (2, .int (nI f))] [.int (bI (hasN s f))] h _
  rw [← es]
  refine g_istore (lv2 := [(10, .int (bI (hasN (nA N (8 + 40 * a + 14)) f))), (9, .int (bI (isN N a f))), (7, .long (jL e)), (5, .long (jL (nA N (8 + 40 * a + (32 + f))))), (3, .long (jL (nA N (8 + 40 * a + (20 + f))))), (0, .ref m), (1, .int (nI a)), (2, .int (nI f))]) dX10_catches_94 (by decide) rfl ?_
  refine g_iload 1 dX10_catches_96 rfl ?_
  refine g_iload 0 dX10_catches_98 rfl ?_
  refine g_icmp_ne (tgt := 104) dX10_catches_100 (by decide) (fun c => ?_) (fun c => ?_)
  · refine g_aload_n 5 dX10_catches_104 rfl rfl ?_
    refine g_iload_n 6 dX10_catches_105 rfl rfl ?_
    refine g_bipush (v := nI 14) dX10_catches_106 (by decide) ?_
    refine g_invs (M' := mX10_link0) (As := [.int (nI a), .int (nI 14)]) (rest := [.ref m]) dX10_catches_108 ml_X10_44 okX10_link0 stX10_link0 ⟨(Nat.le_of_ble_eq_true rfl), (Nat.le_of_ble_eq_true rfl)⟩ rfl rfl (Nat.le_of_ble_eq_true rfl) c_link0 ?_
    rintro _ q3 ⟨rfl, eq3⟩
    subst q3
    show zG l w mX10_catches 111 [(10, .int (bI (hasN (nA N (8 + 40 * a + 14)) f))), (9, .int (bI (isN N a f))), (7, .long (jL e)), (5, .long (jL (nA N (8 + 40 * a + (32 + f))))), (3, .long (jL (nA N (8 + 40 * a + (20 + f))))), (0, .ref m), (1, .int (nI a)), (2, .int (nI f))] [.int (nI (8 + 40 * a + 14)), .ref m] h _
    refine g_aload_n 5 dX10_catches_111 rfl rfl ?_
    refine g_iload_n 6 dX10_catches_112 rfl rfl ?_
    refine g_bipush (v := nI 14) dX10_catches_113 (by decide) ?_
    refine g_invv (M' := mX10_ofLink) (As := [.int (nI a), .int (nI 14)]) (rest := [.int (nI (8 + 40 * a + 14)), .ref m]) dX10_catches_115 ml_X10_69 okX10_ofLink imX10_ofLink seX10_ofLink ⟨(Nat.le_of_ble_eq_true rfl), (Nat.le_of_ble_eq_true rfl)⟩ (ci := 10) rfl rfl r.1.1 rfl rfl (Nat.le_of_ble_eq_true rfl) (c_ofLinkN r (by omega) (by unfold nSp; omega)) ?_
    rintro _ q4 ⟨rfl, eq4⟩
    subst q4
    show zG l w mX10_catches 118 [(10, .int (bI (hasN (nA N (8 + 40 * a + 14)) f))), (9, .int (bI (isN N a f))), (7, .long (jL e)), (5, .long (jL (nA N (8 + 40 * a + (32 + f))))), (3, .long (jL (nA N (8 + 40 * a + (20 + f))))), (0, .ref m), (1, .int (nI a)), (2, .int (nI f))] [.long (jL (nA N (8 + 40 * a + 14))), .int (nI (8 + 40 * a + 14)), .ref m] h _
    refine g_lconst (v := jL 1) dX10_catches_118 (by decide) ?_
    refine g_iload_n 7 dX10_catches_119 rfl rfl ?_
    have c' : ¬ isN N a f = hasN (nA N (8 + 40 * a + 14)) f := fun q => c (by rw [q])
    refine g_lshl dX10_catches_120 ?_
    refine g_lxor dX10_catches_121 ?_
    rw [es, jL_nat, xor_cal s hs64 f hf, ← es]
    rw [show (if hasN (nA N (8 + 40 * a + 14)) f = true then nA N (8 + 40 * a + 14) - 2 ^ f else nA N (8 + 40 * a + 14) + 2 ^ f) = (if isN N a f then nA N (8 + 40 * a + 14) + 2 ^ f else nA N (8 + 40 * a + 14) - 2 ^ f) by cases q1 : isN N a f <;> cases q2 : hasN (nA N (8 + 40 * a + 14)) f <;> simp_all]
    refine g_invv (M' := mX10_puts) (As := [.int (nI (8 + 40 * a + 14)), .long (jL (if isN N a f then nA N (8 + 40 * a + 14) + 2 ^ f else nA N (8 + 40 * a + 14) - 2 ^ f))]) (rest := []) dX10_catches_122 ml_X10_40 okX10_puts imX10_puts seX10_puts ⟨(Nat.le_of_ble_eq_true rfl), (Nat.le_of_ble_eq_true rfl)⟩ (ci := 10) rfl rfl r.1.1 rfl rfl (Nat.le_of_ble_eq_true rfl) (c_putsN r (by omega) (by unfold nSp; omega)) ?_
    rintro _ y5 ⟨rfl, r5, f5⟩
    show zG l w mX10_catches 125 [(10, .int (bI (hasN (nA N (8 + 40 * a + 14)) f))), (9, .int (bI (isN N a f))), (7, .long (jL e)), (5, .long (jL (nA N (8 + 40 * a + (32 + f))))), (3, .long (jL (nA N (8 + 40 * a + (20 + f))))), (0, .ref m), (1, .int (nI a)), (2, .int (nI f))] [] y5 _
    refine g_aload_n 5 dX10_catches_125 rfl rfl ?_
    refine g_iload 1 dX10_catches_126 rfl ?_
    refine g_bif_eq (tgt := 135) dX10_catches_128 (by decide) (fun d => ?_) (fun d => ?_)
    · refine g_iconst (v := nI 2) dX10_catches_135 (by decide) ?_
      refine g_iload_n 6 dX10_catches_136 rfl rfl ?_
      refine g_iload_n 7 dX10_catches_137 rfl rfl ?_
      refine g_invv (M' := mX10_happens) (As := [.int (nI 2), .int (nI a), .int (nI f)]) (rest := []) dX10_catches_138 ml_X10_100 okX10_happens imX10_happens seX10_happens ⟨(Nat.le_of_ble_eq_true rfl), (Nat.le_of_ble_eq_true rfl)⟩ (ci := 10) rfl rfl r5.1.1 rfl rfl (Nat.le_of_ble_eq_true rfl) (c_hapN r5 (nFit_uA hF) (by omega) (by omega) (by omega)) ?_
      rintro _ y6 ⟨rfl, r6, f6⟩
      show zG l w mX10_catches 141 [(10, .int (bI (hasN (nA N (8 + 40 * a + 14)) f))), (9, .int (bI (isN N a f))), (7, .long (jL e)), (5, .long (jL (nA N (8 + 40 * a + (32 + f))))), (3, .long (jL (nA N (8 + 40 * a + (20 + f))))), (0, .ref m), (1, .int (nI a)), (2, .int (nI f))] [] y6 _
      refine g_return dX10_catches_141 rfl ?_
      refine ⟨rfl, ?_, ((FrM.rf.tr f5).tr f6)⟩
      have e9 : catN0 a N f = evN (uA N (8 + 40 * a + 14) (if isN N a f then nA N (8 + 40 * a + 14) + 2 ^ f else nA N (8 + 40 * a + 14) - 2 ^ f)) ((2 : Nat) : Int) a f := by unfold catN0; rw [if_neg c']; simp only [d]; rfl
      rw [e9]
      exact r6
    · refine g_iconst (v := nI 1) dX10_catches_131 (by decide) ?_
      refine g_goto (tgt := 136) dX10_catches_132 (by decide) ?_
      refine g_iload_n 6 dX10_catches_136 rfl rfl ?_
      refine g_iload_n 7 dX10_catches_137 rfl rfl ?_
      refine g_invv (M' := mX10_happens) (As := [.int (nI 1), .int (nI a), .int (nI f)]) (rest := []) dX10_catches_138 ml_X10_100 okX10_happens imX10_happens seX10_happens ⟨(Nat.le_of_ble_eq_true rfl), (Nat.le_of_ble_eq_true rfl)⟩ (ci := 10) rfl rfl r5.1.1 rfl rfl (Nat.le_of_ble_eq_true rfl) (c_hapN r5 (nFit_uA hF) (by omega) (by omega) (by omega)) ?_
      rintro _ y7 ⟨rfl, r7, f7⟩
      show zG l w mX10_catches 141 [(10, .int (bI (hasN (nA N (8 + 40 * a + 14)) f))), (9, .int (bI (isN N a f))), (7, .long (jL e)), (5, .long (jL (nA N (8 + 40 * a + (32 + f))))), (3, .long (jL (nA N (8 + 40 * a + (20 + f))))), (0, .ref m), (1, .int (nI a)), (2, .int (nI f))] [] y7 _
      refine g_return dX10_catches_141 rfl ?_
      refine ⟨rfl, ?_, ((FrM.rf.tr f5).tr f7)⟩
      have e9 : catN0 a N f = evN (uA N (8 + 40 * a + 14) (if isN N a f then nA N (8 + 40 * a + 14) + 2 ^ f else nA N (8 + 40 * a + 14) - 2 ^ f)) ((1 : Nat) : Int) a f := by unfold catN0; rw [if_neg c']; simp only [d]; rfl
      rw [e9]
      exact r7
  · refine g_return dX10_catches_103 rfl ?_
    refine ⟨rfl, ?_, FrM.rf⟩
    unfold catN0; rw [if_pos (bI_inj c)]; exact r
theorem c_catches (r : MoN h m N) (hI : iN [] N) (hW : ∀ a, a < 6 → (nW N a).length ≤ 90) (ha : (a : Int) < nA N 0) (hf : (f : Int) < nA N 1) : zM l w mX10_catches [.ref m, .int (nI a), .int (nI f)] h (fun v h1 => v = none ∧ MoN h1 m (catN0 a N f) ∧ FrM m h h1) := by
  refine zM.of (by decide) (Nat.le_of_ble_eq_true rfl) ?_
  have H0 := hI.H.1
  have H1 := hI.H.2.1
  have a6 : a < 6 := by omega
  have f6 : f < 6 := by omega
  have L := hI.L a ha
  have L3 := L.1.2.2.2
  have Lf := L.2.2.2.2 f f6
  have Lf2 := Lf.2.1
  have Lf3 := Lf.2.2.1
  have Lf1 := Lf.1
  have Lc := L.2.1
  have hF := hI.fit hW
  have hB := hI.B
  have mid : ∀ e : Int, e = (if nA N (8 + 40 * a + (32 + f)) = 0 then 0 else nA N (8 + 40 * a + (26 + f)) * nA N (8 + 40 * a + 3) / (100 * nA N (8 + 40 * a + (32 + f)))) → zG l w mX10_catches 55 [(5, .long (jL (nA N (8 + 40 * a + (32 + f))))), (3, .long (jL (nA N (8 + 40 * a + (20 + f))))), (0, .ref m), (1, .int (nI a)), (2, .int (nI f))] [.long (jL e)] h (fun v h1 => v = none ∧ MoN h1 m (catN0 a N f) ∧ FrM m h h1) := by
    intro e he
    have hp : 0 ≤ nA N (8 + 40 * a + (26 + f)) * nA N (8 + 40 * a + 3) ∧ nA N (8 + 40 * a + (26 + f)) * nA N (8 + 40 * a + 3) ≤ 120000 := ⟨Int.mul_nonneg Lf2.1 (by omega), Int.le_trans (Int.mul_le_mul Lf2.2 L3.2 (by omega) (by omega)) (by decide)⟩
    have eb : 0 ≤ e ∧ e ≤ 120000 := by
      rw [he]
      split
      · omega
      · exact ⟨Int.ediv_nonneg hp.1 (by omega), Int.le_trans (Int.ediv_le_self _ hp.1) hp.2⟩
    refine g_lstore (lv2 := [(7, .long (jL e)), (5, .long (jL (nA N (8 + 40 * a + (32 + f))))), (3, .long (jL (nA N (8 + 40 * a + (20 + f))))), (0, .ref m), (1, .int (nI a)), (2, .int (nI f))]) dX10_catches_55 (by decide) rfl ?_
    refine g_lload_n 2 dX10_catches_57 rfl rfl ?_
    refine g_lload 0 dX10_catches_58 rfl ?_
    refine g_ldc2J (z := 3) dX10_catches_60 kl_X10_134 (by decide) ?_
    refine g_lmul dX10_catches_63 ?_
    rw [jL_mul]
    refine g_ldc2J (z := 2) dX10_catches_64 kl_X10_116 (by decide) ?_
    refine g_ldiv dX10_catches_67 (jL_ne0 (by omega)) ?_
    rw [jL_div (by omega) (by omega)]
    refine g_ldc2J (z := 2) dX10_catches_68 kl_X10_116 (by decide) ?_
    refine g_ladd dX10_catches_71 ?_
    rw [jL_add]
    have b1 := hB (8 + 40 * a + (20 + f)) (by omega)
    refine g_lif_le (a := (nA N (8 + 40 * a + (20 + f)))) (b := (((e * 3) / 2) + 2)) (tgt := 80) dX10_catches_72 rfl dX10_catches_73 (by decide) (by omega) (by omega) (fun d => ?_) (fun d => ?_)
    · refine g_iconst (v := bI false) dX10_catches_80 (by decide) ?_
      have ei : isN N a f = false := by unfold isN; rw [← he]; exact decide_eq_false (by omega)
      rw [← ei]
      exact cat_tail r hF hB a6 f6 L.2.2.2.1.1
    · refine g_iconst (v := bI true) dX10_catches_76 (by decide) ?_
      refine g_goto (tgt := 81) dX10_catches_77 (by decide) ?_
      have ei : isN N a f = true := by unfold isN; rw [← he]; exact decide_eq_true (by omega)
      rw [← ei]
      exact cat_tail r hF hB a6 f6 L.2.2.2.1.1
  refine g_aload_n 0 dX10_catches_0 rfl rfl ?_
  refine g_iload_n 1 dX10_catches_1 rfl rfl ?_
  refine g_bipush (v := nI 20) dX10_catches_2 (by decide) ?_
  refine g_iload_n 2 dX10_catches_4 rfl rfl ?_
  refine g_iadd dX10_catches_5 ?_
  rw [nI_add 20 f]
  refine g_invv (M' := mX10_ofLink) (As := [.int (nI a), .int (nI (20 + f))]) (rest := []) dX10_catches_6 ml_X10_69 okX10_ofLink imX10_ofLink seX10_ofLink ⟨(Nat.le_of_ble_eq_true rfl), (Nat.le_of_ble_eq_true rfl)⟩ (ci := 10) rfl rfl r.1.1 rfl rfl (Nat.le_of_ble_eq_true rfl) (c_ofLinkN r (by omega) (by unfold nSp; omega)) ?_
  rintro _ q1 ⟨rfl, eq1⟩
  subst q1
  show zG l w mX10_catches 9 [(0, .ref m), (1, .int (nI a)), (2, .int (nI f))] [.long (jL (nA N (8 + 40 * a + (20 + f))))] h _
  refine g_lstore_n (lv2 := [(3, .long (jL (nA N (8 + 40 * a + (20 + f))))), (0, .ref m), (1, .int (nI a)), (2, .int (nI f))]) dX10_catches_9 rfl (by decide) rfl ?_
  refine g_aload_n 1 dX10_catches_10 rfl rfl ?_
  refine g_iload_n 2 dX10_catches_11 rfl rfl ?_
  refine g_bipush (v := nI 32) dX10_catches_12 (by decide) ?_
  refine g_iload_n 3 dX10_catches_14 rfl rfl ?_
  refine g_iadd dX10_catches_15 ?_
  rw [nI_add 32 f]
  refine g_invv (M' := mX10_ofLink) (As := [.int (nI a), .int (nI (32 + f))]) (rest := []) dX10_catches_16 ml_X10_69 okX10_ofLink imX10_ofLink seX10_ofLink ⟨(Nat.le_of_ble_eq_true rfl), (Nat.le_of_ble_eq_true rfl)⟩ (ci := 10) rfl rfl r.1.1 rfl rfl (Nat.le_of_ble_eq_true rfl) (c_ofLinkN r (by omega) (by unfold nSp; omega)) ?_
  rintro _ q2 ⟨rfl, eq2⟩
  subst q2
  show zG l w mX10_catches 19 [(3, .long (jL (nA N (8 + 40 * a + (20 + f))))), (0, .ref m), (1, .int (nI a)), (2, .int (nI f))] [.long (jL (nA N (8 + 40 * a + (32 + f))))] h _
  refine g_lstore (lv2 := [(5, .long (jL (nA N (8 + 40 * a + (32 + f))))), (3, .long (jL (nA N (8 + 40 * a + (20 + f))))), (0, .ref m), (1, .int (nI a)), (2, .int (nI f))]) dX10_catches_19 (by decide) rfl ?_
  refine g_lload 0 dX10_catches_21 rfl ?_
  refine g_lconst (v := jL 0) dX10_catches_23 (by decide) ?_
  have b3 := hB (8 + 40 * a + (32 + f)) (by omega)
  refine g_lif_ne (a := (nA N (8 + 40 * a + (32 + f)))) (b := 0) (tgt := 32) dX10_catches_24 rfl dX10_catches_25 (by decide) (by omega) (by omega) (fun g => ?_) (fun g => ?_)
  · have hp : 0 ≤ nA N (8 + 40 * a + (26 + f)) * nA N (8 + 40 * a + 3) ∧ nA N (8 + 40 * a + (26 + f)) * nA N (8 + 40 * a + 3) ≤ 120000 := ⟨Int.mul_nonneg Lf2.1 (by omega), Int.le_trans (Int.mul_le_mul Lf2.2 L3.2 (by omega) (by omega)) (by decide)⟩
    refine g_aload_n 2 dX10_catches_32 rfl rfl ?_
    refine g_iload_n 3 dX10_catches_33 rfl rfl ?_
    refine g_bipush (v := nI 26) dX10_catches_34 (by decide) ?_
    refine g_iload_n 4 dX10_catches_36 rfl rfl ?_
    refine g_iadd dX10_catches_37 ?_
    rw [nI_add 26 f]
    refine g_invv (M' := mX10_ofLink) (As := [.int (nI a), .int (nI (26 + f))]) (rest := []) dX10_catches_38 ml_X10_69 okX10_ofLink imX10_ofLink seX10_ofLink ⟨(Nat.le_of_ble_eq_true rfl), (Nat.le_of_ble_eq_true rfl)⟩ (ci := 10) rfl rfl r.1.1 rfl rfl (Nat.le_of_ble_eq_true rfl) (c_ofLinkN r (by omega) (by unfold nSp; omega)) ?_
    rintro _ q4 ⟨rfl, eq4⟩
    subst q4
    show zG l w mX10_catches 41 [(5, .long (jL (nA N (8 + 40 * a + (32 + f))))), (3, .long (jL (nA N (8 + 40 * a + (20 + f))))), (0, .ref m), (1, .int (nI a)), (2, .int (nI f))] [.long (jL (nA N (8 + 40 * a + (26 + f))))] h _
    refine g_aload_n 2 dX10_catches_41 rfl rfl ?_
    refine g_iload_n 3 dX10_catches_42 rfl rfl ?_
    refine g_iconst (v := nI 3) dX10_catches_43 (by decide) ?_
    refine g_invv (M' := mX10_ofLink) (As := [.int (nI a), .int (nI 3)]) (rest := [.long (jL (nA N (8 + 40 * a + (26 + f))))]) dX10_catches_44 ml_X10_69 okX10_ofLink imX10_ofLink seX10_ofLink ⟨(Nat.le_of_ble_eq_true rfl), (Nat.le_of_ble_eq_true rfl)⟩ (ci := 10) rfl rfl r.1.1 rfl rfl (Nat.le_of_ble_eq_true rfl) (c_ofLinkN r (by omega) (by unfold nSp; omega)) ?_
    rintro _ q5 ⟨rfl, eq5⟩
    subst q5
    show zG l w mX10_catches 47 [(5, .long (jL (nA N (8 + 40 * a + (32 + f))))), (3, .long (jL (nA N (8 + 40 * a + (20 + f))))), (0, .ref m), (1, .int (nI a)), (2, .int (nI f))] [.long (jL (nA N (8 + 40 * a + 3))), .long (jL (nA N (8 + 40 * a + (26 + f))))] h _
    refine g_lmul dX10_catches_47 ?_
    rw [jL_mul]
    refine g_ldc2J (z := 100) dX10_catches_48 kl_X10_122 (by decide) ?_
    refine g_lload 0 dX10_catches_51 rfl ?_
    refine g_lmul dX10_catches_53 ?_
    rw [jL_mul]
    refine g_ldiv dX10_catches_54 (jL_ne0 (by omega)) ?_
    rw [jL_div (by omega) (by omega)]
    exact mid _ (by rw [if_neg g])
  · refine g_lconst (v := jL 0) dX10_catches_28 (by decide) ?_
    refine g_goto (tgt := 55) dX10_catches_29 (by decide) ?_
    exact mid 0 (by rw [if_pos g])
end M13
