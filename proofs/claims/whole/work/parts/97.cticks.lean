section DA2
variable {N : nT}
theorem iT.s2W (h : iT N) (ht : nA N 2 < 39990) {i : Nat} (hi : (i : Int) < nA N 0) : iW ((List.range i).foldl wireN (tk1 N)) i (nA N 2 + 1) (nA N 2 + nA N (8 + 40 * i + 1)) ∧ nA ((List.range i).foldl wireN (tk1 N)) 2 = nA N 2 + 1 := by
  have h0 := h.1.H.1
  have g0 := h.go0 ht
  have g1 := h.go1 ht
  have e2 : nA (tk1 N) 2 = nA N 2 + 1 := (g1.2.1.1 2 (Or.inr rfl)).trans g0.2.1
  have w := g1.1.wires (hi := fun a => nA N 2 + nA N (8 + 40 * a + 1)) (fun a ha => by rw [e2]; exact g1.2.1.W ha (g0.2.2.2 a ha)) i (by omega)
  obtain ⟨w0, w1, w2, w3, w4⟩ := w
  have q := w4 i (Nat.le_refl _) (by omega)
  rw [e2] at q
  exact ⟨q, (w1.1 2 (Or.inr rfl)).trans e2⟩
theorem iT.n3 (h : iT N) (ht : nA N 2 < 39990) {i : Nat} (hi : (i : Int) ≤ nA N 0) : nA ((List.range i).foldl rowN (tk3 N)) 2 = nA N 2 + 1 := by
  have h0 := h.1.H.1
  have g0 := h.go0 ht
  have g3 := h.go3 ht
  have e2 : nA (tk3 N) 2 = nA N 2 + 1 := (g3.2.1.1 2 (Or.inr rfl)).trans g0.2.1
  have e0 : nA (tk3 N) 0 = nA N 0 := (g3.2.1.1 0 (Or.inl (by unfold stK; omega))).trans (g0.2.2.1 0 (by omega))
  have el : ∀ a, a < 6 → nA (tk3 N) (8 + 40 * a + 1) = nA N (8 + 40 * a + 1) := fun a ha => (g3.2.1.1 _ (Or.inl (by unfold stK; omega))).trans (g0.2.2.1 _ (by omega))
  have e16 : ∀ a, a < 6 → nA (tk3 N) (8 + 40 * a + 16) = nA N (8 + 40 * a + 16) := fun a ha => (g3.2.1.2.1 a ha).trans (g0.2.2.1 _ (by omega))
  obtain ⟨r0, r1, -⟩ := g3.1.rows (fun a ha => by rw [e16 a ha]; have := h.2.2.1 a ha; omega) (fun a ha => by
    have ha6 : a < 6 := by omega
    rw [e2, el a ha6, show nA N 2 + 1 + 1 = nA N 2 + 2 by omega, show nA N 2 + 1 - 1 = nA N 2 by omega]
    exact g3.2.2.2 a ha6) i (by omega)
  exact (r1.1 2 (Or.inr rfl)).trans e2
end DA2
section DA3
variable {l : Launch} {w : zW} {h : zH} {b : Nat} {π : Nat → Nat} {ls : Nat → List Nat} {N : nT} {t m k : Nat} {Q : Option Value → zH → Prop}
theorem pt_5 (h0 : iT N) (ht : nA N 2 < 39990) (h2 : nA N 2 = ((t : Nat) : Int)) (K : ∀ (h1 : zH) (π1 : Nat → Nat) (ls1 : Nat → List Nat), CX h1 b π1 ls1 (tickN N) [] (t + 1) → CSt b ls h ls1 h1 → zG l w mX5_passTicks 137 [(2, .int (nI k)), (0, .ref b), (1, .int (nI m))] [] h1 Q) {h' : zH} {i : Nat} {π' : Nat → Nat} {ls' : Nat → List Nat} (c' : CX h' b π' ls' (tk5 N) [] t) (s' : CSt b ls h ls' h') : zG l w mX5_passTicks 133 [(3, .int (nI i)), (2, .int (nI k)), (0, .ref b), (1, .int (nI m))] [] h' Q := by
  have s := h0.s5 ht (i := (nA N 0).toNat) (by have := h0.1.H.1; omega)
  have n2 : nA (tk5 N) 2 = ((t + 1 : Nat) : Int) := by have q := (h0.tick ht).2.1; have e : nA (tickN N) 2 = nA (tk5 N) 2 := rfl; rw [← e, q, h2]; rfl
  refine g_aload_n 2 dX5_passTicks_133 rfl rfl ?_
  refine g_invv (M' := mX5_keepWindows) (As := []) (rest := []) dX5_passTicks_134 ml_X5_160 okX5_keepWindows imX5_keepWindows seX5_keepWindows ⟨(Nat.le_of_ble_eq_true rfl), (Nat.le_of_ble_eq_true rfl)⟩ (ci := 5) rfl rfl c'.1.1.2 rfl rfl (Nat.le_of_ble_eq_true rfl) (c_keepWindows c' s.1 n2) ?_
  rintro _ y1 ⟨rfl, k1, k2⟩
  show zG l w mX5_passTicks 137 [(3, .int (nI i)), (2, .int (nI k)), (0, .ref b), (1, .int (nI m))] [] y1 _
  exact zG.sub [1, 2, 3] rfl (K _ _ _ k1 (s'.tr k2))
theorem pt_4 (h0 : iT N) (ht : nA N 2 < 39990) (h2 : nA N 2 = ((t : Nat) : Int)) (K : ∀ (h1 : zH) (π1 : Nat → Nat) (ls1 : Nat → List Nat), CX h1 b π1 ls1 (tickN N) [] (t + 1) → CSt b ls h ls1 h1 → zG l w mX5_passTicks 137 [(2, .int (nI k)), (0, .ref b), (1, .int (nI m))] [] h1 Q) : ∀ n i : Nat, ((i + n : Nat) : Int) = nA N 0 → ∀ (h' : zH) (N1 : nT) (π' : Nat → Nat) (ls' : Nat → List Nat), N1 = (List.range i).foldl dueN (tk4 N) → CX h' b π' ls' N1 [] t → CSt b ls h ls' h' → zG l w mX5_passTicks 108 [(3, .int (nI i)), (2, .int (nI k)), (0, .ref b), (1, .int (nI m))] [] h' Q := by
  have H0 := h0.1.H.1
  have H1 := h0.1.H.2.1
  have H2 := h0.1.H.2.2.1
  intro n
  induction n with
  | zero =>
    intro i hi h' N1 π' ls' hN1 c' s'
    have s := h0.s5 ht (i := i) (by omega)
    rw [← hN1] at s
    have k0 : nA N1 0 = nA N 0 := s.2.2
    refine g_iload_n 0 dX5_passTicks_108 rfl rfl ?_
    refine g_aload_n 2 dX5_passTicks_109 rfl rfl ?_
    refine g_geti (f := 161) dX5_passTicks_110 fl_X5_49 c'.1.1.2 (by decide) rfl ?_
    rw [show zi h' 161 b = jI (nA N1 0) from c'.2.2.1.1]
    rw [k0]
    refine g_zcmp_ge (a := ((i : Nat) : Int)) (b := (nA N 0)) (tgt := 133) (jI_nat i).symm rfl dX5_passTicks_113 (by decide) (by omega) (by omega) (fun q => ?_) (fun q => ?_)
    · have ei : i = (nA N 0).toNat := by omega
      subst ei
      exact pt_5 h0 ht h2 K (by rw [hN1] at c'; exact c') s'
    · exact absurd q (by omega)
  | succ n ih =>
    intro i hi h' N1 π' ls' hN1 c' s'
    have s := h0.s5 ht (i := i) (by omega)
    rw [← hN1] at s
    have k0 : nA N1 0 = nA N 0 := s.2.2
    refine g_iload_n 0 dX5_passTicks_108 rfl rfl ?_
    refine g_aload_n 2 dX5_passTicks_109 rfl rfl ?_
    refine g_geti (f := 161) dX5_passTicks_110 fl_X5_49 c'.1.1.2 (by decide) rfl ?_
    rw [show zi h' 161 b = jI (nA N1 0) from c'.2.2.1.1]
    rw [k0]
    refine g_zcmp_ge (a := ((i : Nat) : Int)) (b := (nA N 0)) (tgt := 133) (jI_nat i).symm rfl dX5_passTicks_113 (by decide) (by omega) (by omega) (fun q => ?_) (fun q => ?_)
    · exact absurd q (by omega)
    · have i6 : i < 6 := by omega
      have ha : (i : Int) < nA N1 0 := by omega
      refine g_aload_n 2 dX5_passTicks_116 rfl rfl ?_
      refine g_iload_n 0 dX5_passTicks_117 rfl rfl ?_
      refine g_aload_n 2 dX5_passTicks_118 rfl rfl ?_
      refine g_getr (f := 160) (b := b + 1) dX5_passTicks_119 fl_X5_11 c'.1.1.2 rfl c'.1.2.1.1 ?_
      refine g_iload_n 0 dX5_passTicks_122 rfl rfl ?_
      refine g_aald (t := 5) (b := b + 11 + 7 * i) dX5_passTicks_123 c'.1.2.1.2.1 rfl (fun _ => rfl) (by decide) (by rw [show zn h' (b + 1) = 6 from c'.1.2.1.2.2]; exact vp_in_nI (by omega) (by omega)) (by rw [nI_clamp (by omega)]; exact (c'.1.2.2.2.2.2.2.2.2.1 i i6).1) ?_
      refine g_invv (M' := mX5_endSpanIfDue) (As := [.int (nI i), .ref (b + 11 + 7 * i)]) (rest := []) dX5_passTicks_124 ml_X5_156 okX5_endSpanIfDue imX5_endSpanIfDue seX5_endSpanIfDue ⟨(Nat.le_of_ble_eq_true rfl), (Nat.le_of_ble_eq_true rfl)⟩ (ci := 5) rfl rfl c'.1.1.2 rfl rfl (Nat.le_of_ble_eq_true rfl) (c_endIfDue c' s.1 ha) ?_
      rintro _ y1 ⟨rfl, cx1, sx1⟩
      show zG l w mX5_passTicks 127 [(3, .int (nI i)), (2, .int (nI k)), (0, .ref b), (1, .int (nI m))] [] y1 _
      refine g_inc (v := nI (i + 1)) (lv2 := [(3, .int (nI (i + 1))), (2, .int (nI k)), (0, .ref b), (1, .int (nI m))]) 0 dX5_passTicks_127 rfl (nI_add _ 1) (by decide) rfl ?_
      refine g_goto (tgt := 108) dX5_passTicks_130 (by decide) ?_
      refine zG.sub [0, 1, 2, 3] rfl (ih (i + 1) (by omega) y1 _ π' ls' rfl ?_ (s'.tr sx1))
      rw [fold_succ, ← hN1]
      exact cx1
theorem pt_3 (h0 : iT N) (ht : nA N 2 < 39990) (h2 : nA N 2 = ((t : Nat) : Int)) (K : ∀ (h1 : zH) (π1 : Nat → Nat) (ls1 : Nat → List Nat), CX h1 b π1 ls1 (tickN N) [] (t + 1) → CSt b ls h ls1 h1 → zG l w mX5_passTicks 137 [(2, .int (nI k)), (0, .ref b), (1, .int (nI m))] [] h1 Q) : ∀ n i : Nat, ((i + n : Nat) : Int) = nA N 0 → ∀ (h' : zH) (N1 : nT) (π' : Nat → Nat) (ls' : Nat → List Nat), N1 = (List.range i).foldl rowN (tk3 N) → CX h' b π' ls' N1 [] t → CSt b ls h ls' h' → zG l w mX5_passTicks 79 [(3, .int (nI i)), (2, .int (nI k)), (0, .ref b), (1, .int (nI m))] [] h' Q := by
  have H0 := h0.1.H.1
  have H1 := h0.1.H.2.1
  have H2 := h0.1.H.2.2.1
  intro n
  induction n with
  | zero =>
    intro i hi h' N1 π' ls' hN1 c' s'
    have s := h0.s4 ht (i := i) (by omega)
    rw [← hN1] at s
    have k0 : nA N1 0 = nA N 0 := s.2.2.1
    refine g_iload_n 0 dX5_passTicks_79 rfl rfl ?_
    refine g_aload_n 2 dX5_passTicks_80 rfl rfl ?_
    refine g_geti (f := 161) dX5_passTicks_81 fl_X5_49 c'.1.1.2 (by decide) rfl ?_
    rw [show zi h' 161 b = jI (nA N1 0) from c'.2.2.1.1]
    rw [k0]
    refine g_zcmp_ge (a := ((i : Nat) : Int)) (b := (nA N 0)) (tgt := 106) (jI_nat i).symm rfl dX5_passTicks_84 (by decide) (by omega) (by omega) (fun q => ?_) (fun q => ?_)
    · have ei : i = (nA N 0).toNat := by omega
      subst ei
      have hr : N1 = tk4 N := hN1
      refine g_iconst (v := nI 0) dX5_passTicks_106 (by decide) ?_
      refine g_istore_n (lv2 := [(3, .int (nI 0)), (2, .int (nI k)), (0, .ref b), (1, .int (nI m))]) dX5_passTicks_107 rfl (by decide) rfl ?_
      exact zG.sub [0, 1, 2, 3] rfl (pt_4 h0 ht h2 K (nA N 0).toNat 0 (by omega) h' N1 π' ls' hr c' s')
    · exact absurd q (by omega)
  | succ n ih =>
    intro i hi h' N1 π' ls' hN1 c' s'
    have s := h0.s4 ht (i := i) (by omega)
    rw [← hN1] at s
    have k0 : nA N1 0 = nA N 0 := s.2.2.1
    refine g_iload_n 0 dX5_passTicks_79 rfl rfl ?_
    refine g_aload_n 2 dX5_passTicks_80 rfl rfl ?_
    refine g_geti (f := 161) dX5_passTicks_81 fl_X5_49 c'.1.1.2 (by decide) rfl ?_
    rw [show zi h' 161 b = jI (nA N1 0) from c'.2.2.1.1]
    rw [k0]
    refine g_zcmp_ge (a := ((i : Nat) : Int)) (b := (nA N 0)) (tgt := 106) (jI_nat i).symm rfl dX5_passTicks_84 (by decide) (by omega) (by omega) (fun q => ?_) (fun q => ?_)
    · exact absurd q (by omega)
    · have i6 : i < 6 := by omega
      have ha : (i : Int) < nA N1 0 := by omega
      refine g_aload_n 2 dX5_passTicks_87 rfl rfl ?_
      refine g_getr (f := 160) (b := b + 1) dX5_passTicks_88 fl_X5_11 c'.1.1.2 rfl c'.1.2.1.1 ?_
      refine g_iload_n 0 dX5_passTicks_91 rfl rfl ?_
      refine g_aald (t := 5) (b := b + 11 + 7 * i) dX5_passTicks_92 c'.1.2.1.2.1 rfl (fun _ => rfl) (by decide) (by rw [show zn h' (b + 1) = 6 from c'.1.2.1.2.2]; exact vp_in_nI (by omega) (by omega)) (by rw [nI_clamp (by omega)]; exact (c'.1.2.2.2.2.2.2.2.2.1 i i6).1) ?_
      refine g_aload_n 2 dX5_passTicks_93 rfl rfl ?_
      refine g_geti (f := 164) dX5_passTicks_94 fl_X5_56 c'.1.1.2 (by decide) rfl ?_
      rw [show zi h' 164 b = jI (nA N1 2) from c'.2.2.1.2.2.1]
      refine g_invv (M' := mX4_serveRow) (As := [.int (jI (nA N1 2))]) (rest := []) dX5_passTicks_97 ml_X5_152 okX4_serveRow imX4_serveRow seX4_serveRow ⟨(Nat.le_of_ble_eq_true rfl), (Nat.le_of_ble_eq_true rfl)⟩ (ci := 4) rfl rfl (c'.1.2.2.2.2.2.2.2.2.1 i i6).2.1 rfl rfl (Nat.le_of_ble_eq_true rfl) (c_serveRow c' s.1 ha (s.2.2.2 i i6 (Nat.le_refl _))) ?_
      rintro _ y1 ⟨rfl, ls1, cx1, sx1⟩
      show zG l w mX5_passTicks 100 [(3, .int (nI i)), (2, .int (nI k)), (0, .ref b), (1, .int (nI m))] [] y1 _
      refine g_inc (v := nI (i + 1)) (lv2 := [(3, .int (nI (i + 1))), (2, .int (nI k)), (0, .ref b), (1, .int (nI m))]) 0 dX5_passTicks_100 rfl (nI_add _ 1) (by decide) rfl ?_
      refine g_goto (tgt := 79) dX5_passTicks_103 (by decide) ?_
      refine zG.sub [0, 1, 2, 3] rfl (ih (i + 1) (by omega) y1 _ π' ls1 rfl ?_ (s'.tr sx1))
      rw [fold_succ, ← hN1]
      exact cx1
theorem pt_2 (h0 : iT N) (ht : nA N 2 < 39990) (h2 : nA N 2 = ((t : Nat) : Int)) (K : ∀ (h1 : zH) (π1 : Nat → Nat) (ls1 : Nat → List Nat), CX h1 b π1 ls1 (tickN N) [] (t + 1) → CSt b ls h ls1 h1 → zG l w mX5_passTicks 137 [(2, .int (nI k)), (0, .ref b), (1, .int (nI m))] [] h1 Q) : ∀ n i : Nat, ((i + n : Nat) : Int) = nA N 1 → ∀ (h' : zH) (N1 : nT) (π' : Nat → Nat) (ls' : Nat → List Nat), N1 = sendAllN (tk2 N) i → CX h' b π' ls' N1 [] t → CSt b ls h ls' h' → zG l w mX5_passTicks 52 [(3, .int (nI i)), (2, .int (nI k)), (0, .ref b), (1, .int (nI m))] [] h' Q := by
  have H0 := h0.1.H.1
  have H1 := h0.1.H.2.1
  have H2 := h0.1.H.2.2.1
  intro n
  induction n with
  | zero =>
    intro i hi h' N1 π' ls' hN1 c' s'
    have s := h0.s3 ht (i := i) (by omega)
    rw [← hN1] at s
    have k0 : nA N1 1 = nA N 1 := s.2.2.1
    refine g_iload_n 0 dX5_passTicks_52 rfl rfl ?_
    refine g_aload_n 2 dX5_passTicks_53 rfl rfl ?_
    refine g_geti (f := 163) dX5_passTicks_54 fl_X5_53 c'.1.1.2 (by decide) rfl ?_
    rw [show zi h' 163 b = jI (nA N1 1) from c'.2.2.1.2.1]
    rw [k0]
    refine g_zcmp_ge (a := ((i : Nat) : Int)) (b := (nA N 1)) (tgt := 77) (jI_nat i).symm rfl dX5_passTicks_57 (by decide) (by omega) (by omega) (fun q => ?_) (fun q => ?_)
    · have ei : i = (nA N 1).toNat := by omega
      subst ei
      have hr : N1 = tk3 N := hN1
      refine g_iconst (v := nI 0) dX5_passTicks_77 (by decide) ?_
      refine g_istore_n (lv2 := [(3, .int (nI 0)), (2, .int (nI k)), (0, .ref b), (1, .int (nI m))]) dX5_passTicks_78 rfl (by decide) rfl ?_
      exact zG.sub [0, 1, 2, 3] rfl (pt_3 h0 ht h2 K (nA N 0).toNat 0 (by omega) h' N1 π' ls' hr c' s')
    · exact absurd q (by omega)
  | succ n ih =>
    intro i hi h' N1 π' ls' hN1 c' s'
    have s := h0.s3 ht (i := i) (by omega)
    rw [← hN1] at s
    have k0 : nA N1 1 = nA N 1 := s.2.2.1
    refine g_iload_n 0 dX5_passTicks_52 rfl rfl ?_
    refine g_aload_n 2 dX5_passTicks_53 rfl rfl ?_
    refine g_geti (f := 163) dX5_passTicks_54 fl_X5_53 c'.1.1.2 (by decide) rfl ?_
    rw [show zi h' 163 b = jI (nA N1 1) from c'.2.2.1.2.1]
    rw [k0]
    refine g_zcmp_ge (a := ((i : Nat) : Int)) (b := (nA N 1)) (tgt := 77) (jI_nat i).symm rfl dX5_passTicks_57 (by decide) (by omega) (by omega) (fun q => ?_) (fun q => ?_)
    · exact absurd q (by omega)
    · have i6 : i < 6 := by omega
      have hf : (i : Int) < nA N1 1 := by omega
      refine g_aload_n 2 dX5_passTicks_60 rfl rfl ?_
      refine g_iload_n 0 dX5_passTicks_61 rfl rfl ?_
      refine g_aload_n 2 dX5_passTicks_62 rfl rfl ?_
      refine g_getr (f := 162) (b := b + 2) dX5_passTicks_63 fl_X5_19 c'.1.1.2 rfl c'.1.2.2.1.1 ?_
      refine g_iload_n 0 dX5_passTicks_66 rfl rfl ?_
      refine g_aald (t := 4) (b := b + 53 + 2 * i) dX5_passTicks_67 c'.1.2.2.1.2.1 rfl (fun _ => rfl) (by decide) (by rw [show zn h' (b + 2) = 6 from c'.1.2.2.1.2.2]; exact vp_in_nI (by omega) (by omega)) (by rw [nI_clamp (by omega)]; exact (c'.1.2.2.2.2.2.2.2.2.2 i i6).1) ?_
      refine g_invv (M' := mX5_sendFrom) (As := [.int (nI i), .ref (b + 53 + 2 * i)]) (rest := []) dX5_passTicks_68 ml_X5_148 okX5_sendFrom imX5_sendFrom seX5_sendFrom ⟨(Nat.le_of_ble_eq_true rfl), (Nat.le_of_ble_eq_true rfl)⟩ (ci := 5) rfl rfl c'.1.1.2 rfl rfl (Nat.le_of_ble_eq_true rfl) (c_sendFrom c' s.1 hf (s.2.2.2 i i6)) ?_
      rintro _ y1 ⟨rfl, π1, ls1, c1, s1⟩
      show zG l w mX5_passTicks 71 [(3, .int (nI i)), (2, .int (nI k)), (0, .ref b), (1, .int (nI m))] [] y1 _
      refine g_inc (v := nI (i + 1)) (lv2 := [(3, .int (nI (i + 1))), (2, .int (nI k)), (0, .ref b), (1, .int (nI m))]) 0 dX5_passTicks_71 rfl (nI_add _ 1) (by decide) rfl ?_
      refine g_goto (tgt := 52) dX5_passTicks_74 (by decide) ?_
      refine zG.sub [0, 1, 2, 3] rfl (ih (i + 1) (by omega) y1 _ π1 ls1 rfl ?_ (s'.tr s1))
      rw [sendAllN_succ, ← hN1]
      exact c1
theorem pt_1 (h0 : iT N) (ht : nA N 2 < 39990) (h2 : nA N 2 = ((t : Nat) : Int)) (K : ∀ (h1 : zH) (π1 : Nat → Nat) (ls1 : Nat → List Nat), CX h1 b π1 ls1 (tickN N) [] (t + 1) → CSt b ls h ls1 h1 → zG l w mX5_passTicks 137 [(2, .int (nI k)), (0, .ref b), (1, .int (nI m))] [] h1 Q) : ∀ n i : Nat, ((i + n : Nat) : Int) = nA N 0 → ∀ (h' : zH) (N1 : nT) (π' : Nat → Nat) (ls' : Nat → List Nat), N1 = (List.range i).foldl wireN (tk1 N) → CX h' b π' ls' N1 [] t → CSt b ls h ls' h' → zG l w mX5_passTicks 23 [(3, .int (nI i)), (2, .int (nI k)), (0, .ref b), (1, .int (nI m))] [] h' Q := by
  have H0 := h0.1.H.1
  have H1 := h0.1.H.2.1
  have H2 := h0.1.H.2.2.1
  intro n
  induction n with
  | zero =>
    intro i hi h' N1 π' ls' hN1 c' s'
    have s := h0.s2 ht (i := i) (by omega)
    rw [← hN1] at s
    have k0 : nA N1 0 = nA N 0 := s.2.2
    refine g_iload_n 0 dX5_passTicks_23 rfl rfl ?_
    refine g_aload_n 2 dX5_passTicks_24 rfl rfl ?_
    refine g_geti (f := 161) dX5_passTicks_25 fl_X5_49 c'.1.1.2 (by decide) rfl ?_
    rw [show zi h' 161 b = jI (nA N1 0) from c'.2.2.1.1]
    rw [k0]
    refine g_zcmp_ge (a := ((i : Nat) : Int)) (b := (nA N 0)) (tgt := 50) (jI_nat i).symm rfl dX5_passTicks_28 (by decide) (by omega) (by omega) (fun q => ?_) (fun q => ?_)
    · have ei : i = (nA N 0).toNat := by omega
      subst ei
      have hr : N1 = sendAllN (tk2 N) 0 := hN1
      refine g_iconst (v := nI 0) dX5_passTicks_50 (by decide) ?_
      refine g_istore_n (lv2 := [(3, .int (nI 0)), (2, .int (nI k)), (0, .ref b), (1, .int (nI m))]) dX5_passTicks_51 rfl (by decide) rfl ?_
      exact zG.sub [0, 1, 2, 3] rfl (pt_2 h0 ht h2 K (nA N 1).toNat 0 (by omega) h' N1 π' ls' hr c' s')
    · exact absurd q (by omega)
  | succ n ih =>
    intro i hi h' N1 π' ls' hN1 c' s'
    have s := h0.s2 ht (i := i) (by omega)
    rw [← hN1] at s
    have k0 : nA N1 0 = nA N 0 := s.2.2
    refine g_iload_n 0 dX5_passTicks_23 rfl rfl ?_
    refine g_aload_n 2 dX5_passTicks_24 rfl rfl ?_
    refine g_geti (f := 161) dX5_passTicks_25 fl_X5_49 c'.1.1.2 (by decide) rfl ?_
    rw [show zi h' 161 b = jI (nA N1 0) from c'.2.2.1.1]
    rw [k0]
    refine g_zcmp_ge (a := ((i : Nat) : Int)) (b := (nA N 0)) (tgt := 50) (jI_nat i).symm rfl dX5_passTicks_28 (by decide) (by omega) (by omega) (fun q => ?_) (fun q => ?_)
    · exact absurd q (by omega)
    · have i6 : i < 6 := by omega
      have ha : (i : Int) < nA N1 0 := by omega
      have W := h0.s2W ht (i := i) (by omega)
      rw [← hN1] at W
      have lg := h0.1.lag (a := i) (by omega)
      have sp := (s.1.wire (hi := nA N 2 + nA N (8 + 40 * i + 1)) i6 (by rw [W.2]; exact W.1)).2.2.2.2
      refine g_aload_n 2 dX5_passTicks_31 rfl rfl ?_
      refine g_aload_n 2 dX5_passTicks_32 rfl rfl ?_
      refine g_getr (f := 160) (b := b + 1) dX5_passTicks_33 fl_X5_11 c'.1.1.2 rfl c'.1.2.1.1 ?_
      refine g_iload_n 0 dX5_passTicks_36 rfl rfl ?_
      refine g_aald (t := 5) (b := b + 11 + 7 * i) dX5_passTicks_37 c'.1.2.1.2.1 rfl (fun _ => rfl) (by decide) (by rw [show zn h' (b + 1) = 6 from c'.1.2.1.2.2]; exact vp_in_nI (by omega) (by omega)) (by rw [nI_clamp (by omega)]; exact (c'.1.2.2.2.2.2.2.2.2.1 i i6).1) ?_
      refine g_getr (f := 133) (b := b + 11 + 7 * i + 2) dX5_passTicks_38 fl_X5_80 (c'.1.2.2.2.2.2.2.2.2.1 i i6).2.1 rfl (c'.1.2.2.2.2.2.2.2.2.1 i i6).2.2.2.1.1 ?_
      refine g_invv (M' := mX5_emptyWire) (As := [.ref (b + 11 + 7 * i + 2)]) (rest := []) dX5_passTicks_41 ml_X5_145 okX5_emptyWire imX5_emptyWire seX5_emptyWire ⟨(Nat.le_of_ble_eq_true rfl), (Nat.le_of_ble_eq_true rfl)⟩ (ci := 5) rfl rfl c'.1.1.2 rfl rfl (Nat.le_of_ble_eq_true rfl) (c_emptyWire c' s.1 i6 (Nat.le_trans (s.2.1 i i6) (by omega)) sp (fun p hp => by have q := W.1.2.1 p hp; omega)) ?_
      rintro _ y1 ⟨rfl, ls1, cx1, sx1⟩
      show zG l w mX5_passTicks 44 [(3, .int (nI i)), (2, .int (nI k)), (0, .ref b), (1, .int (nI m))] [] y1 _
      refine g_inc (v := nI (i + 1)) (lv2 := [(3, .int (nI (i + 1))), (2, .int (nI k)), (0, .ref b), (1, .int (nI m))]) 0 dX5_passTicks_44 rfl (nI_add _ 1) (by decide) rfl ?_
      refine g_goto (tgt := 23) dX5_passTicks_47 (by decide) ?_
      refine zG.sub [0, 1, 2, 3] rfl (ih (i + 1) (by omega) y1 _ π' ls1 rfl ?_ (s'.tr sx1))
      rw [fold_succ, ← hN1]
      exact cx1
theorem pt_tick (h0 : iT N) (ht : nA N 2 < 39990) (h2 : nA N 2 = ((t : Nat) : Int)) (K : ∀ (h1 : zH) (π1 : Nat → Nat) (ls1 : Nat → List Nat), CX h1 b π1 ls1 (tickN N) [] (t + 1) → CSt b ls h ls1 h1 → zG l w mX5_passTicks 137 [(2, .int (nI k)), (0, .ref b), (1, .int (nI m))] [] h1 Q) (c : CX h b π ls N [] t) : zG l w mX5_passTicks 7 [(2, .int (nI k)), (0, .ref b), (1, .int (nI m))] [] h Q := by
  have H0 := h0.1.H.1
  refine g_aload_n 1 dX5_passTicks_7 rfl rfl ?_
  refine g_dup dX5_passTicks_8 rfl ?_
  refine g_geti (f := 164) dX5_passTicks_9 fl_X5_56 c.1.1.2 (by decide) rfl ?_
  rw [show zi h 164 b = jI (nA N 2) from c.2.2.1.2.2.1]
  refine g_iconst (v := nI 1) dX5_passTicks_12 (by decide) ?_
  refine g_iadd dX5_passTicks_13 ?_
  refine zG.top (show (jI (nA N 2)) + (nI 1) = jI ((nA N 2) + 1) by rw [show nI 1 = jI 1 from (by decide), jI_add]) ?_
  refine g_puti (f := 164) dX5_passTicks_14 fl_X5_56 (Or.inl rfl) c.1.1.2 rfl ?_
  have cx1 : CX (zSi h 164 b (jI ((nA N 2) + 1))) b π ls (uA N 2 ((nA N 2) + 1)) [] t ∧ CSt b ls h ls (zSi h 164 b (jI ((nA N 2) + 1))) := c.setNow
  generalize zSi h 164 b (jI ((nA N 2) + 1)) = y1 at cx1 ⊢
  refine g_aload_n 1 dX5_passTicks_17 rfl rfl ?_
  have c0 : CX y1 b π ls (tk0 N) [] t := cx1.1
  refine g_invv (M' := mX5_takeReturns) (As := []) (rest := []) dX5_passTicks_18 ml_X5_142 okX5_takeReturns imX5_takeReturns seX5_takeReturns ⟨(Nat.le_of_ble_eq_true rfl), (Nat.le_of_ble_eq_true rfl)⟩ (ci := 5) rfl rfl cx1.1.1.1.2 rfl rfl (Nat.le_of_ble_eq_true rfl) (c_takeReturns c0 (h0.go0 ht).1) ?_
  rintro _ y9 ⟨rfl, ls9, c9, s9⟩
  show zG l w mX5_passTicks 21 [(2, .int (nI k)), (0, .ref b), (1, .int (nI m))] [] y9 _
  refine g_iconst (v := nI 0) dX5_passTicks_21 (by decide) ?_
  refine g_istore_n (lv2 := [(3, .int (nI 0)), (2, .int (nI k)), (0, .ref b), (1, .int (nI m))]) dX5_passTicks_22 rfl (by decide) rfl ?_
  exact zG.sub [0, 1, 2, 3] rfl (pt_1 h0 ht h2 K (nA N 0).toNat 0 (by omega) y9 (tk1 N) π ls9 rfl c9 ((CSt.rf.tr cx1.2).tr s9))
theorem c_passTicks (c : CX h b π ls N [] t) (h0 : iT N) (h2 : nA N 2 = ((t : Nat) : Int)) (ht : nA N 2 + m < 39991) : zM l w mX5_passTicks [.ref b, .int (nI m)] h (fun v h1 => v = none ∧ ∃ π1 ls1, CX h1 b π1 ls1 (ticksN N m) [] (t + m) ∧ CSt b ls h ls1 h1) := by
  refine zM.of (by decide) (Nat.le_of_ble_eq_true rfl) ?_
  have H2 := h0.1.H.2.2.1
  have loop : ∀ n k : Nat, k + n = m → ∀ (h' : zH) (π' : Nat → Nat) (ls' : Nat → List Nat), CX h' b π' ls' (ticksN N k) [] (t + k) → CSt b ls h ls' h' → zG l w mX5_passTicks 2 [(2, .int (nI k)), (0, .ref b), (1, .int (nI m))] [] h' (fun v h1 => v = none ∧ ∃ π1 ls1, CX h1 b π1 ls1 (ticksN N m) [] (t + m) ∧ CSt b ls h ls1 h1) := by
    intro n
    induction n with
    | zero =>
      intro k hk h' π' ls' c' s'
      refine g_iload_n 0 dX5_passTicks_2 rfl rfl ?_
      refine g_iload_n 2 dX5_passTicks_3 rfl rfl ?_
      refine g_zcmp_ge (a := ((k : Nat) : Int)) (b := ((m : Nat) : Int)) (tgt := 143) (jI_nat k).symm (jI_nat m).symm dX5_passTicks_4 (by decide) (by omega) (by omega) (fun q => ?_) (fun q => ?_)
      · refine g_return dX5_passTicks_143 rfl ?_
        have e : k = m := by omega
        subst e
        exact ⟨rfl, π', ls', c', s'⟩
      · exact absurd q (by omega)
    | succ n ih =>
      intro k hk h' π' ls' c' s'
      have T := ticks_in h0 k (by omega)
      refine g_iload_n 0 dX5_passTicks_2 rfl rfl ?_
      refine g_iload_n 2 dX5_passTicks_3 rfl rfl ?_
      refine g_zcmp_ge (a := ((k : Nat) : Int)) (b := ((m : Nat) : Int)) (tgt := 143) (jI_nat k).symm (jI_nat m).symm dX5_passTicks_4 (by decide) (by omega) (by omega) (fun q => ?_) (fun q => ?_)
      · exact absurd q (by omega)
      · refine pt_tick (N := ticksN N k) (t := t + k) (π := π') (ls := ls') T.1 (by omega) (by rw [T.2.1, h2]; rfl) ?_ c'
        intro h1 π1 ls1 c1 s1
        refine g_inc (v := nI (k + 1)) (lv2 := [(2, .int (nI (k + 1))), (0, .ref b), (1, .int (nI m))]) 0 dX5_passTicks_137 rfl (nI_add _ 1) (by decide) rfl ?_
        refine g_goto (tgt := 2) dX5_passTicks_140 (by decide) ?_
        exact zG.sub [0, 1, 2] rfl (ih (k + 1) (by omega) h1 π1 ls1 c1 (s'.tr s1))
  refine g_iconst (v := nI 0) dX5_passTicks_0 (by decide) ?_
  refine g_istore_n (lv2 := [(2, .int (nI 0)), (0, .ref b), (1, .int (nI m))]) dX5_passTicks_1 rfl (by decide) rfl ?_
  exact zG.sub [0, 1, 2] rfl (loop m 0 (Nat.zero_add _) h π ls c CSt.rf)
end DA3
