section M16
variable {l : Launch} {w : zW} {h : zH} {m : Nat} {N : nT}
theorem jL_rem {a b : Int} (ha : 0 ≤ a ∧ a < 2 ^ 63) (hb : 0 < b ∧ b < 2 ^ 63) : jL a - jL a / jL b * jL b = jL (a % b) := by
  rw [jL_div ha hb, jL_mul, jL_sub, Int.emod_def, Int.mul_comm]
theorem fold_succ {α : Type} (F : α → Nat → α) (x : α) (i : Nat) : (List.range (i + 1)).foldl F x = F ((List.range i).foldl F x) i := by
  rw [List.range_succ, List.foldl_append]
  rfl
theorem tk_5 (h0 : iT N) (ht : nA N 2 < 39990) {h' : zH} {i : Nat} (r' : MoN h' m (tk5 N)) (fr' : FrM m h h') : zG l w mX10_ticks 131 [(1, .int (nI i)), (0, .ref m)] [] h' (fun v h1 => v = none ∧ MoN h1 m (tickN N) ∧ FrM m h h1) := by
  have s := h0.s5 ht (i := (nA N 0).toNat) (by have := h0.1.H.1; omega)
  refine g_aload_n 1 dX10_ticks_131 rfl rfl ?_
  refine g_invv (M' := mX10_remembers) (As := []) (rest := []) dX10_ticks_132 ml_X10_193 okX10_remembers imX10_remembers seX10_remembers ⟨(Nat.le_of_ble_eq_true rfl), (Nat.le_of_ble_eq_true rfl)⟩ (ci := 10) rfl rfl r'.1.1 rfl rfl (Nat.le_of_ble_eq_true rfl) (c_remembers r' (s.1.fit (fun a ha => Nat.le_trans (s.2.1 a ha) (by omega)))) ?_
  rintro _ y1 ⟨rfl, r1, f1⟩
  show zG l w mX10_ticks 135 [(1, .int (nI i)), (0, .ref m)] [] y1 _
  refine g_return dX10_ticks_135 rfl ?_
  exact ⟨rfl, r1, (fr'.tr f1)⟩
theorem tk_4 (h0 : iT N) (ht : nA N 2 < 39990) : ∀ n i : Nat, ((i + n : Nat) : Int) = nA N 0 → ∀ (h' : zH) (N1 : nT), N1 = (List.range i).foldl dueN (tk4 N) → MoN h' m N1 → FrM m h h' → zG l w mX10_ticks 92 [(1, .int (nI i)), (0, .ref m)] [] h' (fun v h1 => v = none ∧ MoN h1 m (tickN N) ∧ FrM m h h1) := by
  have H0 := h0.1.H.1
  have H1 := h0.1.H.2.1
  intro n
  induction n with
  | zero =>
    intro i hi h' N1 hN1 r' fr'
    have s := h0.s5 ht (i := i) (by omega)
    rw [← hN1] at s
    have k0 : nA N1 0 = nA N 0 := s.2.2
    have hW90 : ∀ a, a < 6 → (nW N1 a).length ≤ 90 := fun a ha => Nat.le_trans (s.2.1 a ha) (by omega)
    refine g_iload_n 0 dX10_ticks_92 rfl rfl ?_
    refine g_i2l dX10_ticks_93 ?_
    rw [nI_l (by omega), ← jL_nat]
    refine g_aload_n 1 dX10_ticks_94 rfl rfl ?_
    refine g_iconst (v := nI 0) dX10_ticks_95 (by decide) ?_
    refine g_invv (M' := mX10_of) (As := [.int (nI 0)]) (rest := [.long (jL ((i : Nat) : Int))]) dX10_ticks_96 ml_X10_48 okX10_of imX10_of seX10_of ⟨(Nat.le_of_ble_eq_true rfl), (Nat.le_of_ble_eq_true rfl)⟩ (ci := 10) rfl rfl r'.1.1 rfl rfl (Nat.le_of_ble_eq_true rfl) (c_ofN r' (by omega) (by unfold nSp; omega)) ?_
    rintro _ q1 ⟨rfl, eq1⟩
    subst q1
    show zG l w mX10_ticks 99 [(1, .int (nI i)), (0, .ref m)] [.long (jL (nA N1 0)), .long (jL ((i : Nat) : Int))] h' _
    rw [k0]
    refine g_lif_ge (a := ((i : Nat) : Int)) (b := (nA N 0)) (tgt := 131) dX10_ticks_99 rfl dX10_ticks_100 (by decide) (by omega) (by omega) (fun c => ?_) (fun c => ?_)
    · have ei : i = (nA N 0).toNat := by omega
      subst ei
      exact tk_5 h0 ht (by rw [hN1] at r'; exact r') fr'
    · exact absurd c (by omega)
  | succ n ih =>
    intro i hi h' N1 hN1 r' fr'
    have s := h0.s5 ht (i := i) (by omega)
    rw [← hN1] at s
    have k0 : nA N1 0 = nA N 0 := s.2.2
    have hW90 : ∀ a, a < 6 → (nW N1 a).length ≤ 90 := fun a ha => Nat.le_trans (s.2.1 a ha) (by omega)
    refine g_iload_n 0 dX10_ticks_92 rfl rfl ?_
    refine g_i2l dX10_ticks_93 ?_
    rw [nI_l (by omega), ← jL_nat]
    refine g_aload_n 1 dX10_ticks_94 rfl rfl ?_
    refine g_iconst (v := nI 0) dX10_ticks_95 (by decide) ?_
    refine g_invv (M' := mX10_of) (As := [.int (nI 0)]) (rest := [.long (jL ((i : Nat) : Int))]) dX10_ticks_96 ml_X10_48 okX10_of imX10_of seX10_of ⟨(Nat.le_of_ble_eq_true rfl), (Nat.le_of_ble_eq_true rfl)⟩ (ci := 10) rfl rfl r'.1.1 rfl rfl (Nat.le_of_ble_eq_true rfl) (c_ofN r' (by omega) (by unfold nSp; omega)) ?_
    rintro _ q2 ⟨rfl, eq2⟩
    subst q2
    show zG l w mX10_ticks 99 [(1, .int (nI i)), (0, .ref m)] [.long (jL (nA N1 0)), .long (jL ((i : Nat) : Int))] h' _
    rw [k0]
    refine g_lif_ge (a := ((i : Nat) : Int)) (b := (nA N 0)) (tgt := 131) dX10_ticks_99 rfl dX10_ticks_100 (by decide) (by omega) (by omega) (fun c => ?_) (fun c => ?_)
    · exact absurd c (by omega)
    · have ha : (i : Int) < nA N1 0 := by omega
      have L3 := (s.1.L i ha).1.2.2.2
      have H2 := s.1.H.2.2.1
      have hB := s.1.B
      refine g_aload_n 1 dX10_ticks_103 rfl rfl ?_
      refine g_iconst (v := nI 2) dX10_ticks_104 (by decide) ?_
      refine g_invv (M' := mX10_of) (As := [.int (nI 2)]) (rest := []) dX10_ticks_105 ml_X10_48 okX10_of imX10_of seX10_of ⟨(Nat.le_of_ble_eq_true rfl), (Nat.le_of_ble_eq_true rfl)⟩ (ci := 10) rfl rfl r'.1.1 rfl rfl (Nat.le_of_ble_eq_true rfl) (c_ofN r' (by omega) (by unfold nSp; omega)) ?_
      rintro _ q3 ⟨rfl, eq3⟩
      subst q3
      show zG l w mX10_ticks 108 [(1, .int (nI i)), (0, .ref m)] [.long (jL (nA N1 2))] h' _
      refine g_aload_n 1 dX10_ticks_108 rfl rfl ?_
      refine g_iload_n 0 dX10_ticks_109 rfl rfl ?_
      refine g_iconst (v := nI 3) dX10_ticks_110 (by decide) ?_
      refine g_invv (M' := mX10_ofLink) (As := [.int (nI i), .int (nI 3)]) (rest := [.long (jL (nA N1 2))]) dX10_ticks_111 ml_X10_69 okX10_ofLink imX10_ofLink seX10_ofLink ⟨(Nat.le_of_ble_eq_true rfl), (Nat.le_of_ble_eq_true rfl)⟩ (ci := 10) rfl rfl r'.1.1 rfl rfl (Nat.le_of_ble_eq_true rfl) (c_ofLinkN r' (by omega) (by unfold nSp; omega)) ?_
      rintro _ q4 ⟨rfl, eq4⟩
      subst q4
      show zG l w mX10_ticks 114 [(1, .int (nI i)), (0, .ref m)] [.long (jL (nA N1 (8 + 40 * i + 3))), .long (jL (nA N1 2))] h' _
      refine g_lrem dX10_ticks_114 (jL_ne0 (by omega)) ?_
      rw [jL_rem (by omega) (by omega)]
      have mb : 0 ≤ nA N1 2 % nA N1 (8 + 40 * i + 3) ∧ nA N1 2 % nA N1 (8 + 40 * i + 3) < nA N1 (8 + 40 * i + 3) := ⟨Int.emod_nonneg _ (by omega), Int.emod_lt_of_pos _ (by omega)⟩
      refine g_lconst (v := jL 0) dX10_ticks_115 (by decide) ?_
      have b5 := hB 2 (by omega)
      have b6 := hB (8 + 40 * i + 3) (by omega)
      refine g_lif_ne (a := (nA N1 2 % nA N1 (8 + 40 * i + 3))) (b := 0) (tgt := 125) dX10_ticks_116 rfl dX10_ticks_117 (by decide) (by omega) (by omega) (fun d => ?_) (fun d => ?_)
      · refine g_inc (v := nI (i + 1)) (lv2 := [(1, .int (nI (i + 1))), (0, .ref m)]) 0 dX10_ticks_125 rfl (nI_add _ 1) (by decide) rfl ?_
        refine g_goto (tgt := 92) dX10_ticks_128 (by decide) ?_
        refine zG.sub [0, 1] rfl (ih (i + 1) (by omega) h' _ rfl ?_ fr')
        rw [fold_succ, ← hN1]
        exact (by unfold dueN; rw [if_neg d]; exact r')
      · refine g_aload_n 1 dX10_ticks_120 rfl rfl ?_
        refine g_iload_n 0 dX10_ticks_121 rfl rfl ?_
        refine g_invv (M' := mX10_spanEnds) (As := [.int (nI i)]) (rest := []) dX10_ticks_122 ml_X10_190 okX10_spanEnds imX10_spanEnds seX10_spanEnds ⟨(Nat.le_of_ble_eq_true rfl), (Nat.le_of_ble_eq_true rfl)⟩ (ci := 10) rfl rfl r'.1.1 rfl rfl (Nat.le_of_ble_eq_true rfl) (c_spanEnds r' s.1 hW90 ha) ?_
        rintro _ y7 ⟨rfl, r7, f7⟩
        show zG l w mX10_ticks 125 [(1, .int (nI i)), (0, .ref m)] [] y7 _
        refine g_inc (v := nI (i + 1)) (lv2 := [(1, .int (nI (i + 1))), (0, .ref m)]) 0 dX10_ticks_125 rfl (nI_add _ 1) (by decide) rfl ?_
        refine g_goto (tgt := 92) dX10_ticks_128 (by decide) ?_
        refine zG.sub [0, 1] rfl (ih (i + 1) (by omega) y7 _ rfl ?_ (fr'.tr f7))
        rw [fold_succ, ← hN1]
        exact (by unfold dueN; rw [if_pos d]; exact r7)
theorem tk_3 (h0 : iT N) (ht : nA N 2 < 39990) : ∀ n i : Nat, ((i + n : Nat) : Int) = nA N 0 → ∀ (h' : zH) (N1 : nT), N1 = (List.range i).foldl rowN (tk3 N) → MoN h' m N1 → FrM m h h' → zG l w mX10_ticks 68 [(1, .int (nI i)), (0, .ref m)] [] h' (fun v h1 => v = none ∧ MoN h1 m (tickN N) ∧ FrM m h h1) := by
  have H0 := h0.1.H.1
  have H1 := h0.1.H.2.1
  intro n
  induction n with
  | zero =>
    intro i hi h' N1 hN1 r' fr'
    have s := h0.s4 ht (i := i) (by omega)
    rw [← hN1] at s
    have k0 : nA N1 0 = nA N 0 := s.2.2.1
    have hW90 : ∀ a, a < 6 → (nW N1 a).length ≤ 90 := fun a ha => Nat.le_trans (s.2.1 a ha) (by omega)
    refine g_iload_n 0 dX10_ticks_68 rfl rfl ?_
    refine g_i2l dX10_ticks_69 ?_
    rw [nI_l (by omega), ← jL_nat]
    refine g_aload_n 1 dX10_ticks_70 rfl rfl ?_
    refine g_iconst (v := nI 0) dX10_ticks_71 (by decide) ?_
    refine g_invv (M' := mX10_of) (As := [.int (nI 0)]) (rest := [.long (jL ((i : Nat) : Int))]) dX10_ticks_72 ml_X10_48 okX10_of imX10_of seX10_of ⟨(Nat.le_of_ble_eq_true rfl), (Nat.le_of_ble_eq_true rfl)⟩ (ci := 10) rfl rfl r'.1.1 rfl rfl (Nat.le_of_ble_eq_true rfl) (c_ofN r' (by omega) (by unfold nSp; omega)) ?_
    rintro _ q1 ⟨rfl, eq1⟩
    subst q1
    show zG l w mX10_ticks 75 [(1, .int (nI i)), (0, .ref m)] [.long (jL (nA N1 0)), .long (jL ((i : Nat) : Int))] h' _
    rw [k0]
    refine g_lif_ge (a := ((i : Nat) : Int)) (b := (nA N 0)) (tgt := 90) dX10_ticks_75 rfl dX10_ticks_76 (by decide) (by omega) (by omega) (fun c => ?_) (fun c => ?_)
    · have ei : i = (nA N 0).toNat := by omega
      subst ei
      have hr : N1 = tk4 N := hN1
      refine g_iconst (v := nI 0) dX10_ticks_90 (by decide) ?_
      refine g_istore_n (lv2 := [(1, .int (nI 0)), (0, .ref m)]) dX10_ticks_91 rfl (by decide) rfl ?_
      exact zG.sub [0, 1] rfl (tk_4 h0 ht (nA N 0).toNat 0 (by omega) h' N1 hr r' fr')
    · exact absurd c (by omega)
  | succ n ih =>
    intro i hi h' N1 hN1 r' fr'
    have s := h0.s4 ht (i := i) (by omega)
    rw [← hN1] at s
    have k0 : nA N1 0 = nA N 0 := s.2.2.1
    have hW90 : ∀ a, a < 6 → (nW N1 a).length ≤ 90 := fun a ha => Nat.le_trans (s.2.1 a ha) (by omega)
    refine g_iload_n 0 dX10_ticks_68 rfl rfl ?_
    refine g_i2l dX10_ticks_69 ?_
    rw [nI_l (by omega), ← jL_nat]
    refine g_aload_n 1 dX10_ticks_70 rfl rfl ?_
    refine g_iconst (v := nI 0) dX10_ticks_71 (by decide) ?_
    refine g_invv (M' := mX10_of) (As := [.int (nI 0)]) (rest := [.long (jL ((i : Nat) : Int))]) dX10_ticks_72 ml_X10_48 okX10_of imX10_of seX10_of ⟨(Nat.le_of_ble_eq_true rfl), (Nat.le_of_ble_eq_true rfl)⟩ (ci := 10) rfl rfl r'.1.1 rfl rfl (Nat.le_of_ble_eq_true rfl) (c_ofN r' (by omega) (by unfold nSp; omega)) ?_
    rintro _ q2 ⟨rfl, eq2⟩
    subst q2
    show zG l w mX10_ticks 75 [(1, .int (nI i)), (0, .ref m)] [.long (jL (nA N1 0)), .long (jL ((i : Nat) : Int))] h' _
    rw [k0]
    refine g_lif_ge (a := ((i : Nat) : Int)) (b := (nA N 0)) (tgt := 90) dX10_ticks_75 rfl dX10_ticks_76 (by decide) (by omega) (by omega) (fun c => ?_) (fun c => ?_)
    · exact absurd c (by omega)
    · have ha : (i : Int) < nA N1 0 := by omega
      refine g_aload_n 1 dX10_ticks_79 rfl rfl ?_
      refine g_iload_n 0 dX10_ticks_80 rfl rfl ?_
      refine g_invv (M' := mX10_leaves) (As := [.int (nI i)]) (rest := []) dX10_ticks_81 ml_X10_187 okX10_leaves imX10_leaves seX10_leaves ⟨(Nat.le_of_ble_eq_true rfl), (Nat.le_of_ble_eq_true rfl)⟩ (ci := 10) rfl rfl r'.1.1 rfl rfl (Nat.le_of_ble_eq_true rfl) (c_leaves r' s.1 ha (s.2.2.2 i (by omega) (Nat.le_refl _)) s.2.1) ?_
      rintro _ y3 ⟨rfl, r3, f3⟩
      show zG l w mX10_ticks 84 [(1, .int (nI i)), (0, .ref m)] [] y3 _
      refine g_inc (v := nI (i + 1)) (lv2 := [(1, .int (nI (i + 1))), (0, .ref m)]) 0 dX10_ticks_84 rfl (nI_add _ 1) (by decide) rfl ?_
      refine g_goto (tgt := 68) dX10_ticks_87 (by decide) ?_
      refine zG.sub [0, 1] rfl (ih (i + 1) (by omega) y3 _ rfl ?_ (fr'.tr f3))
      rw [fold_succ, ← hN1]
      exact r3
theorem tk_2 (h0 : iT N) (ht : nA N 2 < 39990) : ∀ n i : Nat, ((i + n : Nat) : Int) = nA N 1 → ∀ (h' : zH) (N1 : nT), N1 = sendAllN (tk2 N) i → MoN h' m N1 → FrM m h h' → zG l w mX10_ticks 36 [(1, .int (nI i)), (0, .ref m)] [] h' (fun v h1 => v = none ∧ MoN h1 m (tickN N) ∧ FrM m h h1) := by
  have H0 := h0.1.H.1
  have H1 := h0.1.H.2.1
  intro n
  induction n with
  | zero =>
    intro i hi h' N1 hN1 r' fr'
    have s := h0.s3 ht (i := i) (by omega)
    rw [← hN1] at s
    have k0 : nA N1 1 = nA N 1 := s.2.2.1
    have hW90 : ∀ a, a < 6 → (nW N1 a).length ≤ 90 := fun a ha => Nat.le_trans (s.2.1 a ha) (by omega)
    refine g_iload_n 0 dX10_ticks_36 rfl rfl ?_
    refine g_i2l dX10_ticks_37 ?_
    rw [nI_l (by omega), ← jL_nat]
    refine g_aload_n 1 dX10_ticks_38 rfl rfl ?_
    refine g_iconst (v := nI 1) dX10_ticks_39 (by decide) ?_
    refine g_invv (M' := mX10_of) (As := [.int (nI 1)]) (rest := [.long (jL ((i : Nat) : Int))]) dX10_ticks_40 ml_X10_48 okX10_of imX10_of seX10_of ⟨(Nat.le_of_ble_eq_true rfl), (Nat.le_of_ble_eq_true rfl)⟩ (ci := 10) rfl rfl r'.1.1 rfl rfl (Nat.le_of_ble_eq_true rfl) (c_ofN r' (by omega) (by unfold nSp; omega)) ?_
    rintro _ q1 ⟨rfl, eq1⟩
    subst q1
    show zG l w mX10_ticks 43 [(1, .int (nI i)), (0, .ref m)] [.long (jL (nA N1 1)), .long (jL ((i : Nat) : Int))] h' _
    rw [k0]
    refine g_lif_ge (a := ((i : Nat) : Int)) (b := (nA N 1)) (tgt := 66) dX10_ticks_43 rfl dX10_ticks_44 (by decide) (by omega) (by omega) (fun c => ?_) (fun c => ?_)
    · have ei : i = (nA N 1).toNat := by omega
      subst ei
      have hr : N1 = tk3 N := hN1
      refine g_iconst (v := nI 0) dX10_ticks_66 (by decide) ?_
      refine g_istore_n (lv2 := [(1, .int (nI 0)), (0, .ref m)]) dX10_ticks_67 rfl (by decide) rfl ?_
      exact zG.sub [0, 1] rfl (tk_3 h0 ht (nA N 0).toNat 0 (by omega) h' N1 hr r' fr')
    · exact absurd c (by omega)
  | succ n ih =>
    intro i hi h' N1 hN1 r' fr'
    have s := h0.s3 ht (i := i) (by omega)
    rw [← hN1] at s
    have k0 : nA N1 1 = nA N 1 := s.2.2.1
    have hW90 : ∀ a, a < 6 → (nW N1 a).length ≤ 90 := fun a ha => Nat.le_trans (s.2.1 a ha) (by omega)
    refine g_iload_n 0 dX10_ticks_36 rfl rfl ?_
    refine g_i2l dX10_ticks_37 ?_
    rw [nI_l (by omega), ← jL_nat]
    refine g_aload_n 1 dX10_ticks_38 rfl rfl ?_
    refine g_iconst (v := nI 1) dX10_ticks_39 (by decide) ?_
    refine g_invv (M' := mX10_of) (As := [.int (nI 1)]) (rest := [.long (jL ((i : Nat) : Int))]) dX10_ticks_40 ml_X10_48 okX10_of imX10_of seX10_of ⟨(Nat.le_of_ble_eq_true rfl), (Nat.le_of_ble_eq_true rfl)⟩ (ci := 10) rfl rfl r'.1.1 rfl rfl (Nat.le_of_ble_eq_true rfl) (c_ofN r' (by omega) (by unfold nSp; omega)) ?_
    rintro _ q2 ⟨rfl, eq2⟩
    subst q2
    show zG l w mX10_ticks 43 [(1, .int (nI i)), (0, .ref m)] [.long (jL (nA N1 1)), .long (jL ((i : Nat) : Int))] h' _
    rw [k0]
    refine g_lif_ge (a := ((i : Nat) : Int)) (b := (nA N 1)) (tgt := 66) dX10_ticks_43 rfl dX10_ticks_44 (by decide) (by omega) (by omega) (fun c => ?_) (fun c => ?_)
    · exact absurd c (by omega)
    · have hf : (i : Int) < nA N1 1 := by omega
      refine g_aload_n 1 dX10_ticks_47 rfl rfl ?_
      refine g_iload_n 0 dX10_ticks_48 rfl rfl ?_
      refine g_invv (M' := mX10_isOn) (As := [.int (nI i)]) (rest := []) dX10_ticks_49 ml_X10_181 okX10_isOn imX10_isOn seX10_isOn ⟨(Nat.le_of_ble_eq_true rfl), (Nat.le_of_ble_eq_true rfl)⟩ (ci := 10) rfl rfl r'.1.1 rfl rfl (Nat.le_of_ble_eq_true rfl) (c_isOn r' s.1.B (by omega)) ?_
      rintro _ q3 ⟨rfl, eq3⟩
      subst q3
      show zG l w mX10_ticks 52 [(1, .int (nI i)), (0, .ref m)] [.int (bI (decide (nA N1 (248 + 20 * i + 3) = 1)))] h' _
      refine g_bif_eq (tgt := 60) dX10_ticks_52 (by decide) (fun d => ?_) (fun d => ?_)
      · refine g_inc (v := nI (i + 1)) (lv2 := [(1, .int (nI (i + 1))), (0, .ref m)]) 0 dX10_ticks_60 rfl (nI_add _ 1) (by decide) rfl ?_
        refine g_goto (tgt := 36) dX10_ticks_63 (by decide) ?_
        refine zG.sub [0, 1] rfl (ih (i + 1) (by omega) h' _ rfl ?_ fr')
        rw [sendAllN_succ, ← hN1, if_neg (of_decide_eq_false d)]
        exact r'
      · refine g_aload_n 1 dX10_ticks_55 rfl rfl ?_
        refine g_iload_n 0 dX10_ticks_56 rfl rfl ?_
        refine g_invv (M' := mX10_sends) (As := [.int (nI i)]) (rest := []) dX10_ticks_57 ml_X10_184 okX10_sends imX10_sends seX10_sends ⟨(Nat.le_of_ble_eq_true rfl), (Nat.le_of_ble_eq_true rfl)⟩ (ci := 10) rfl rfl r'.1.1 rfl rfl (Nat.le_of_ble_eq_true rfl) (c_sends r' s.1 hW90 hf (s.2.2.2 i (by omega))) ?_
        rintro _ y4 ⟨rfl, r4, f4⟩
        show zG l w mX10_ticks 60 [(1, .int (nI i)), (0, .ref m)] [] y4 _
        refine g_inc (v := nI (i + 1)) (lv2 := [(1, .int (nI (i + 1))), (0, .ref m)]) 0 dX10_ticks_60 rfl (nI_add _ 1) (by decide) rfl ?_
        refine g_goto (tgt := 36) dX10_ticks_63 (by decide) ?_
        refine zG.sub [0, 1] rfl (ih (i + 1) (by omega) y4 _ rfl ?_ (fr'.tr f4))
        rw [sendAllN_succ, ← hN1, if_pos (of_decide_eq_true d)]
        exact r4
theorem tk_1 (h0 : iT N) (ht : nA N 2 < 39990) : ∀ n i : Nat, ((i + n : Nat) : Int) = nA N 0 → ∀ (h' : zH) (N1 : nT), N1 = (List.range i).foldl wireN (tk1 N) → MoN h' m N1 → FrM m h h' → zG l w mX10_ticks 12 [(1, .int (nI i)), (0, .ref m)] [] h' (fun v h1 => v = none ∧ MoN h1 m (tickN N) ∧ FrM m h h1) := by
  have H0 := h0.1.H.1
  have H1 := h0.1.H.2.1
  intro n
  induction n with
  | zero =>
    intro i hi h' N1 hN1 r' fr'
    have s := h0.s2 ht (i := i) (by omega)
    rw [← hN1] at s
    have k0 : nA N1 0 = nA N 0 := s.2.2
    have hW90 : ∀ a, a < 6 → (nW N1 a).length ≤ 90 := fun a ha => Nat.le_trans (s.2.1 a ha) (by omega)
    refine g_iload_n 0 dX10_ticks_12 rfl rfl ?_
    refine g_i2l dX10_ticks_13 ?_
    rw [nI_l (by omega), ← jL_nat]
    refine g_aload_n 1 dX10_ticks_14 rfl rfl ?_
    refine g_iconst (v := nI 0) dX10_ticks_15 (by decide) ?_
    refine g_invv (M' := mX10_of) (As := [.int (nI 0)]) (rest := [.long (jL ((i : Nat) : Int))]) dX10_ticks_16 ml_X10_48 okX10_of imX10_of seX10_of ⟨(Nat.le_of_ble_eq_true rfl), (Nat.le_of_ble_eq_true rfl)⟩ (ci := 10) rfl rfl r'.1.1 rfl rfl (Nat.le_of_ble_eq_true rfl) (c_ofN r' (by omega) (by unfold nSp; omega)) ?_
    rintro _ q1 ⟨rfl, eq1⟩
    subst q1
    show zG l w mX10_ticks 19 [(1, .int (nI i)), (0, .ref m)] [.long (jL (nA N1 0)), .long (jL ((i : Nat) : Int))] h' _
    rw [k0]
    refine g_lif_ge (a := ((i : Nat) : Int)) (b := (nA N 0)) (tgt := 34) dX10_ticks_19 rfl dX10_ticks_20 (by decide) (by omega) (by omega) (fun c => ?_) (fun c => ?_)
    · have ei : i = (nA N 0).toNat := by omega
      subst ei
      have hr : N1 = sendAllN (tk2 N) 0 := hN1
      refine g_iconst (v := nI 0) dX10_ticks_34 (by decide) ?_
      refine g_istore_n (lv2 := [(1, .int (nI 0)), (0, .ref m)]) dX10_ticks_35 rfl (by decide) rfl ?_
      exact zG.sub [0, 1] rfl (tk_2 h0 ht (nA N 1).toNat 0 (by omega) h' N1 hr r' fr')
    · exact absurd c (by omega)
  | succ n ih =>
    intro i hi h' N1 hN1 r' fr'
    have s := h0.s2 ht (i := i) (by omega)
    rw [← hN1] at s
    have k0 : nA N1 0 = nA N 0 := s.2.2
    have hW90 : ∀ a, a < 6 → (nW N1 a).length ≤ 90 := fun a ha => Nat.le_trans (s.2.1 a ha) (by omega)
    refine g_iload_n 0 dX10_ticks_12 rfl rfl ?_
    refine g_i2l dX10_ticks_13 ?_
    rw [nI_l (by omega), ← jL_nat]
    refine g_aload_n 1 dX10_ticks_14 rfl rfl ?_
    refine g_iconst (v := nI 0) dX10_ticks_15 (by decide) ?_
    refine g_invv (M' := mX10_of) (As := [.int (nI 0)]) (rest := [.long (jL ((i : Nat) : Int))]) dX10_ticks_16 ml_X10_48 okX10_of imX10_of seX10_of ⟨(Nat.le_of_ble_eq_true rfl), (Nat.le_of_ble_eq_true rfl)⟩ (ci := 10) rfl rfl r'.1.1 rfl rfl (Nat.le_of_ble_eq_true rfl) (c_ofN r' (by omega) (by unfold nSp; omega)) ?_
    rintro _ q2 ⟨rfl, eq2⟩
    subst q2
    show zG l w mX10_ticks 19 [(1, .int (nI i)), (0, .ref m)] [.long (jL (nA N1 0)), .long (jL ((i : Nat) : Int))] h' _
    rw [k0]
    refine g_lif_ge (a := ((i : Nat) : Int)) (b := (nA N 0)) (tgt := 34) dX10_ticks_19 rfl dX10_ticks_20 (by decide) (by omega) (by omega) (fun c => ?_) (fun c => ?_)
    · exact absurd c (by omega)
    · refine g_aload_n 1 dX10_ticks_23 rfl rfl ?_
      refine g_iload_n 0 dX10_ticks_24 rfl rfl ?_
      refine g_invv (M' := mX10_arrives) (As := [.int (nI i)]) (rest := []) dX10_ticks_25 ml_X10_178 okX10_arrives imX10_arrives seX10_arrives ⟨(Nat.le_of_ble_eq_true rfl), (Nat.le_of_ble_eq_true rfl)⟩ (ci := 10) rfl rfl r'.1.1 rfl rfl (Nat.le_of_ble_eq_true rfl) (c_arrives r' (by omega) s.1 hW90) ?_
      rintro _ y3 ⟨rfl, r3, f3⟩
      show zG l w mX10_ticks 28 [(1, .int (nI i)), (0, .ref m)] [] y3 _
      refine g_inc (v := nI (i + 1)) (lv2 := [(1, .int (nI (i + 1))), (0, .ref m)]) 0 dX10_ticks_28 rfl (nI_add _ 1) (by decide) rfl ?_
      refine g_goto (tgt := 12) dX10_ticks_31 (by decide) ?_
      refine zG.sub [0, 1] rfl (ih (i + 1) (by omega) y3 _ rfl ?_ (fr'.tr f3))
      rw [fold_succ, ← hN1]
      exact r3
theorem c_ticks (r : MoN h m N) (h0 : iT N) (ht : nA N 2 < 39990) : zM l w mX10_ticks [.ref m] h (fun v h1 => v = none ∧ MoN h1 m (tickN N) ∧ FrM m h h1) := by
  refine zM.of (by decide) (Nat.le_of_ble_eq_true rfl) ?_
  have H0 := h0.1.H.1
  refine g_aload_n 0 dX10_ticks_0 rfl rfl ?_
  refine g_iconst (v := nI 2) dX10_ticks_1 (by decide) ?_
  refine g_lconst (v := jL 1) dX10_ticks_2 (by decide) ?_
  refine g_invv (M' := mX10_adds) (As := [.int (nI 2), .long (jL 1)]) (rest := []) dX10_ticks_3 ml_X10_76 okX10_adds imX10_adds seX10_adds ⟨(Nat.le_of_ble_eq_true rfl), (Nat.le_of_ble_eq_true rfl)⟩ (ci := 10) rfl rfl r.1.1 rfl rfl (Nat.le_of_ble_eq_true rfl) (c_addsN r (by omega) (by unfold nSp; omega)) ?_
  rintro _ y1 ⟨rfl, r1, f1⟩
  show zG l w mX10_ticks 6 [(0, .ref m)] [] y1 _
  refine g_aload_n 0 dX10_ticks_6 rfl rfl ?_
  have r2 : MoN y1 m (tk0 N) := r1
  refine g_invv (M' := mX10_allReturn) (As := []) (rest := []) dX10_ticks_7 ml_X10_175 okX10_allReturn imX10_allReturn seX10_allReturn ⟨(Nat.le_of_ble_eq_true rfl), (Nat.le_of_ble_eq_true rfl)⟩ (ci := 10) rfl rfl r2.1.1 rfl rfl (Nat.le_of_ble_eq_true rfl) (c_allReturn r2 (h0.go0 ht).1 (fun a ha => Nat.le_trans (h0.s0 a ha) (by omega))) ?_
  rintro _ y2 ⟨rfl, r2, f2⟩
  show zG l w mX10_ticks 10 [(0, .ref m)] [] y2 _
  refine g_iconst (v := nI 0) dX10_ticks_10 (by decide) ?_
  refine g_istore_n (lv2 := [(1, .int (nI 0)), (0, .ref m)]) dX10_ticks_11 rfl (by decide) rfl ?_
  exact zG.sub [0, 1] rfl (tk_1 h0 ht (nA N 0).toNat 0 (by omega) y2 (tk1 N) rfl r2 ((FrM.rf.tr f1).tr f2))
theorem ticks_in (h0 : iT N) : ∀ i : Nat, nA N 2 + i < 39991 → iT (ticksN N i) ∧ nA (ticksN N i) 2 = nA N 2 + i ∧ ∀ k, stK k → nA (ticksN N i) k = nA N k := by
  intro i
  induction i with
  | zero => intro _; exact ⟨h0, by show nA N 2 = nA N 2 + ((0 : Nat) : Int); omega, fun _ _ => rfl⟩
  | succ i ih =>
    intro hi
    have q := ih (by omega)
    have t := q.1.tick (by omega)
    exact ⟨t.1, by show nA (tickN (ticksN N i)) 2 = _; rw [t.2.1, q.2.1]; omega, fun k hk => (t.2.2 k hk).trans (q.2.2 k hk)⟩
theorem c_ticksI (r : MoN h m N) (h0 : iT N) {n : Nat} (ht : nA N 2 + n < 39991) : zM l w mX10_ticks_ [.ref m, .int (nI n)] h (fun v h1 => v = none ∧ MoN h1 m (ticksN N n) ∧ FrM m h h1) := by
  refine zM.of (by decide) (Nat.le_of_ble_eq_true rfl) ?_
  have H2 := h0.1.H.2.2.1
  have loop : ∀ k i : Nat, i + k = n → ∀ h' N1, N1 = ticksN N i → MoN h' m N1 → FrM m h h' → zG l w mX10_ticks_ 2 [(2, .int (nI i)), (0, .ref m), (1, .int (nI n))] [] h' (fun v h1 => v = none ∧ MoN h1 m (ticksN N n) ∧ FrM m h h1) := by
    intro k
    induction k with
    | zero =>
      intro i hi h' N1 hN1 r' fr'
      refine g_iload_n 0 dX10_ticks__2 rfl rfl ?_
      refine g_iload_n 2 dX10_ticks__3 rfl rfl ?_
      refine g_ncmp_ge (tgt := 17) dX10_ticks__4 (by decide) (by omega) (by omega) (fun c => ?_) (fun c => ?_)
      · refine g_return dX10_ticks__17 rfl ?_
        exact ⟨rfl, by rw [← show i = n by omega, ← hN1]; exact r', fr'⟩
      · exact absurd c (by omega)
    | succ k ih =>
      intro i hi h' N1 hN1 r' fr'
      have T := ticks_in h0 i (by omega)
      rw [← hN1] at T
      refine g_iload_n 0 dX10_ticks__2 rfl rfl ?_
      refine g_iload_n 2 dX10_ticks__3 rfl rfl ?_
      refine g_ncmp_ge (tgt := 17) dX10_ticks__4 (by decide) (by omega) (by omega) (fun c => ?_) (fun c => ?_)
      · exact absurd c (by omega)
      · refine g_aload_n 1 dX10_ticks__7 rfl rfl ?_
        refine g_invv (M' := mX10_ticks) (As := []) (rest := []) dX10_ticks__8 ml_X10_196 okX10_ticks imX10_ticks seX10_ticks ⟨(Nat.le_of_ble_eq_true rfl), (Nat.le_of_ble_eq_true rfl)⟩ (ci := 10) rfl rfl r'.1.1 rfl rfl (Nat.le_of_ble_eq_true rfl) (c_ticks r' T.1 (by omega)) ?_
        rintro _ y1 ⟨rfl, r1, f1⟩
        show zG l w mX10_ticks_ 11 [(2, .int (nI i)), (0, .ref m), (1, .int (nI n))] [] y1 _
        refine g_inc (v := nI (i + 1)) (lv2 := [(2, .int (nI (i + 1))), (0, .ref m), (1, .int (nI n))]) 0 dX10_ticks__11 rfl (nI_add _ 1) (by decide) rfl ?_
        refine g_goto (tgt := 2) dX10_ticks__14 (by decide) ?_
        refine zG.sub [0, 1, 2] rfl (ih (i + 1) (by omega) y1 _ rfl ?_ (fr'.tr f1))
        show MoN _ m (tickN (ticksN N i))
        rw [← hN1]
        exact r1
  refine g_iconst (v := nI 0) dX10_ticks__0 (by decide) ?_
  refine g_istore_n (lv2 := [(2, .int (nI 0)), (0, .ref m), (1, .int (nI n))]) dX10_ticks__1 rfl (by decide) rfl ?_
  exact loop n 0 (Nat.zero_add _) h N rfl r FrM.rf
end M16
