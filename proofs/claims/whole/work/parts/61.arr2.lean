section M10
variable {l : Launch} {w : zW} {h : zH} {m : Nat} {N : nT} {a : Nat}
/-- what holds of a packet that stands on a wire whose tick it is -/
theorem iN.due {M : nT} {p : Nat} {rest : List Nat} (h : iN [] M) (ha : a < 6) (hW : nW M a = p :: rest) : p < 480 ∧ nA M (368 + 8 * p + 0) = (flN M p : Int) + 1 ∧ flN M p < 6 ∧ nPa (uA M (368 + 8 * p + 2) (nA M (368 + 8 * p + 2) + 1)) (flN M p) ∧ (nK M).length < 480 ∧ (0 ≤ nA M (368 + 8 * p + 2) ∧ nA M (368 + 8 * p + 2) < nA M (248 + 20 * (flN M p) + 0) ∧ nA M (248 + 20 * (flN M p) + 0) ≤ 4) ∧ (nA M (368 + 8 * p + 2) + 1 < nA M (248 + 20 * (flN M p) + 0) → 0 ≤ nA M (248 + 20 * (flN M p) + (12 + (nA M (368 + 8 * p + 2) + 1).toNat)) ∧ hopN M (flN M p) (nA M (368 + 8 * p + 2) + 1).toNat < 6 ∧ (0 ≤ nA M (8 + 40 * (hopN M (flN M p) (nA M (368 + 8 * p + 2) + 1).toNat) + 14) ∧ nA M (8 + 40 * (hopN M (flN M p) (nA M (368 + 8 * p + 2) + 1).toNat) + 14) < 64) ∧ nA M (8 + 40 * (hopN M (flN M p) (nA M (368 + 8 * p + 2) + 1).toNat) + 2) ≤ 60) ∧ 0 ≤ nA M (368 + 8 * p + 4) ∧ 0 < nA M (368 + 8 * p + 3) := by
  have hp := h.C.memW ha (x := p) (by rw [hW]; exact List.mem_cons_self)
  have hf := h.fl hp.1 hp.2
  have h1 := h.offW ha hW
  have hh := h.O a ha p (Or.inr (by rw [hW]; exact List.mem_cons_self))
  have h2 := h1.hop hh
  have P := h.P p hp.1 hp.2
  have P2 := P.2.2.1
  have F := h.F _ hf.2.1
  have F1 := F.1
  have hl := h1.C.lenK
  have H0 := h.H.1
  refine ⟨hp.1, hf.1, hf.2.2, ?_, ?_, ⟨P2.1, hh, F1.2⟩, ?_, P.2.2.2.2.1.1, ?_⟩
  · have q := h2.pa (f := flN M p) (by rw [nA_ne (by omega)]; exact hf.2.1)
    exact q
  · have e : (nK (uW M a rest)).length = (nK M).length := rfl
    rw [List.length_singleton] at hl
    omega
  · intro c
    have F2 := F.2.1 (nA M (368 + 8 * p + 2) + 1).toNat (by omega)
    have hb : (hopN M (flN M p) (nA M (368 + 8 * p + 2) + 1).toNat : Int) < nA M 0 := by unfold hopN; omega
    have L := h.L _ hb
    exact ⟨F2.1, by omega, L.2.2.2.1.1, L.1.2.2.1.2⟩
  · have q := P.2.2.2.1.1
    omega
theorem c_arrives (r : MoN h m N) (ha : a < 6) (hI : iN [] N) (hW : ∀ a, a < 6 → (nW N a).length ≤ 90) : zM l w mX10_arrives [.ref m, .int (nI a)] h (fun v h1 => v = none ∧ MoN h1 m (wireN N a) ∧ FrM m h h1) := by
  refine zM.of (by decide) (Nat.le_of_ble_eq_true rfl) ?_
  have hW90 := hW a ha
  have loop : ∀ n i : Nat, i + n = (nW N a).length → ∀ h' N1, N1 = wr N a i → MoN h' m N1 → FrM m h h' → zG l w mX10_arrives 15 [(4, .int (nI i)), (3, .int (nI (nW N a).length)), (2, .int (nI (wrK N a i).length)), (0, .ref m), (1, .int (nI a))] [] h' (fun v h1 => v = none ∧ MoN h1 m (wireN N a) ∧ FrM m h h1) := by
    intro n
    induction n with
    | zero =>
      intro i hi h' N1 hN1 r' fr'
      have hj := @wrK_le N a i
      refine g_iload 0 dX10_arrives_15 rfl ?_
      refine g_iload_n 1 dX10_arrives_17 rfl rfl ?_
      refine g_ncmp_ge (tgt := 159) dX10_arrives_18 (by decide) (by omega) (by omega) (fun c => ?_) (fun c => ?_)
      · refine g_aload_n 3 dX10_arrives_159 rfl rfl ?_
        refine g_iload_n 4 dX10_arrives_160 rfl rfl ?_
        refine g_iconst (v := nI 5) dX10_arrives_161 (by decide) ?_
        refine g_invs (M' := mX10_link0) (As := [.int (nI a), .int (nI 5)]) (rest := [.ref m]) dX10_arrives_162 ml_X10_44 okX10_link0 stX10_link0 ⟨(Nat.le_of_ble_eq_true rfl), (Nat.le_of_ble_eq_true rfl)⟩ rfl rfl (Nat.le_of_ble_eq_true rfl) c_link0 ?_
        rintro _ q1 ⟨rfl, eq1⟩
        subst q1
        show zG l w mX10_arrives 165 [(4, .int (nI i)), (3, .int (nI (nW N a).length)), (2, .int (nI (wrK N a i).length)), (0, .ref m), (1, .int (nI a))] [.int (nI (8 + 40 * a + 5)), .ref m] h' _
        refine g_iload_n 2 dX10_arrives_165 rfl rfl ?_
        refine g_i2l dX10_arrives_166 ?_
        rw [nI_l (by omega), ← jL_nat]
        have hF : nFit N1 := by rw [hN1]; exact wr_fit hI ha hW (by omega)
        refine g_invv (M' := mX10_puts) (As := [.int (nI (8 + 40 * a + 5)), .long (jL (((wrK N a i).length : Nat) : Int))]) (rest := []) dX10_arrives_167 ml_X10_40 okX10_puts imX10_puts seX10_puts ⟨(Nat.le_of_ble_eq_true rfl), (Nat.le_of_ble_eq_true rfl)⟩ (ci := 10) rfl rfl r'.1.1 rfl rfl (Nat.le_of_ble_eq_true rfl) (c_putsWc ha r' hF (A := wrK N a i) (B := (nW N a).drop (wrK N a i).length) (by rw [hN1]; unfold wr; rw [nW_uW, if_pos rfl])) ?_
        rintro _ y2 ⟨rfl, r2, f2⟩
        show zG l w mX10_arrives 170 [(4, .int (nI i)), (3, .int (nI (nW N a).length)), (2, .int (nI (wrK N a i).length)), (0, .ref m), (1, .int (nI a))] [] y2 _
        refine g_return dX10_arrives_170 rfl ?_
        refine ⟨rfl, ?_, (fr'.tr f2)⟩
        rw [← wr_end, ← show i = (nW N a).length by omega, ← hN1]
        exact r2
      · exact absurd hi (by omega)
    | succ n ih =>
      intro i hi h' N1 hN1 r' fr'
      have hj := @wrK_le N a i
      obtain ⟨p, hp⟩ : ∃ p, (nW N a)[i]? = some p := ⟨_, List.getElem?_eq_getElem (by omega)⟩
      have hF : nFit N1 := by rw [hN1]; exact wr_fit hI ha hW (by omega)
      have hM := wr_in hI ha i
      have hB : nBd N1 := by rw [hN1]; exact hM.1.B
      have hdr : (nW N a).drop i = p :: (nW N a).drop (i + 1) := by rw [List.drop_eq_getElem_cons (by omega)]; congr 1; rw [List.getElem?_eq_getElem (by omega)] at hp; exact Option.some.inj hp
      have hWd : nW (uW (wrM N a i) a ((nW N a).drop i ++ wrK N a i)) a = p :: ((nW N a).drop (i + 1) ++ wrK N a i) := by rw [nW_uW, if_pos rfl, hdr, List.cons_append]
      have D := hM.1.due ha hWd
      have eA : ∀ k, nA (uW (wrM N a i) a ((nW N a).drop i ++ wrK N a i)) k = nA N1 k := fun k => by rw [hN1]; rfl
      have ef : ∀ x, flN (uW (wrM N a i) a ((nW N a).drop i ++ wrK N a i)) x = flN N1 x := fun x => by unfold flN; rw [eA]
      have eh : ∀ x y, hopN (uW (wrM N a i) a ((nW N a).drop i ++ wrK N a i)) x y = hopN N1 x y := fun x y => by unfold hopN; rw [eA]
      have eK : nK (uW (wrM N a i) a ((nW N a).drop i ++ wrK N a i)) = nK N1 := by rw [hN1]; rfl
      have eP : nPa (uA (uW (wrM N a i) a ((nW N a).drop i ++ wrK N a i)) (368 + 8 * p + 2) (nA N1 (368 + 8 * p + 2) + 1)) (flN N1 p) ↔ nPa (uA N1 (368 + 8 * p + 2) (nA N1 (368 + 8 * p + 2) + 1)) (flN N1 p) := by rw [hN1]; exact Iff.rfl
      simp only [eA, ef, eh, eK] at D
      rw [eP] at D
      have h6 : nA N1 (368 + 8 * p + 6) = nA N (368 + 8 * p + 6) := by rw [← eA]; exact hM.2.2.2 p (by rw [hWd]; exact List.mem_cons_self)
      have h2 : nA N1 2 = nA N 2 := by rw [← eA]; exact hM.2.1 2 (Or.inr rfl)
      obtain ⟨D1, D2, D3, D4, D5, D6, D7, D8, D9⟩ := D
      refine g_iload 0 dX10_arrives_15 rfl ?_
      refine g_iload_n 1 dX10_arrives_17 rfl rfl ?_
      refine g_ncmp_ge (tgt := 159) dX10_arrives_18 (by decide) (by omega) (by omega) (fun c => ?_) (fun c => ?_)
      · exact absurd c (by omega)
      · refine g_aload_n 3 dX10_arrives_21 rfl rfl ?_
        refine g_sipush (v := nI 4568) dX10_arrives_22 (by decide) ?_
        refine g_bipush (v := nI 90) dX10_arrives_25 (by decide) ?_
        refine g_iload_n 4 dX10_arrives_27 rfl rfl ?_
        refine g_imul dX10_arrives_28 ?_
        rw [pk_mul 90 a]
        refine g_iadd dX10_arrives_29 ?_
        rw [nI_add 4568 (90 * a)]
        refine g_iload 0 dX10_arrives_30 rfl ?_
        refine g_iadd dX10_arrives_32 ?_
        rw [nI_add (4568 + 90 * a) i]
        refine g_invv (M' := mX10_at) (As := [.int (nI (4568 + 90 * a + i))]) (rest := []) dX10_arrives_33 ml_X10_58 okX10_at imX10_at seX10_at ⟨(Nat.le_of_ble_eq_true rfl), (Nat.le_of_ble_eq_true rfl)⟩ (ci := 10) rfl rfl r'.1.1 rfl rfl (Nat.le_of_ble_eq_true rfl) (c_atWire r' ha (by omega) (by rw [hN1]; exact wr_at hp)) ?_
        rintro _ q3 ⟨rfl, eq3⟩
        subst q3
        show zG l w mX10_arrives 36 [(4, .int (nI i)), (3, .int (nI (nW N a).length)), (2, .int (nI (wrK N a i).length)), (0, .ref m), (1, .int (nI a))] [.int (nI p)] h' _
        refine g_istore (lv2 := [(5, .int (nI p)), (4, .int (nI i)), (3, .int (nI (nW N a).length)), (2, .int (nI (wrK N a i).length)), (0, .ref m), (1, .int (nI a))]) dX10_arrives_36 (by decide) rfl ?_
        refine g_aload_n 4 dX10_arrives_38 rfl rfl ?_
        refine g_iload 0 dX10_arrives_39 rfl ?_
        refine g_bipush (v := nI 6) dX10_arrives_41 (by decide) ?_
        refine g_invs (M' := mX10_packet0) (As := [.int (nI p), .int (nI 6)]) (rest := [.ref m]) dX10_arrives_43 ml_X10_55 okX10_packet0 stX10_packet0 ⟨(Nat.le_of_ble_eq_true rfl), (Nat.le_of_ble_eq_true rfl)⟩ rfl rfl (Nat.le_of_ble_eq_true rfl) c_packet0 ?_
        rintro _ q4 ⟨rfl, eq4⟩
        subst q4
        show zG l w mX10_arrives 46 [(5, .int (nI p)), (4, .int (nI i)), (3, .int (nI (nW N a).length)), (2, .int (nI (wrK N a i).length)), (0, .ref m), (1, .int (nI a))] [.int (nI (368 + 8 * p + 6)), .ref m] h' _
        refine g_invv (M' := mX10_of) (As := [.int (nI (368 + 8 * p + 6))]) (rest := []) dX10_arrives_46 ml_X10_48 okX10_of imX10_of seX10_of ⟨(Nat.le_of_ble_eq_true rfl), (Nat.le_of_ble_eq_true rfl)⟩ (ci := 10) rfl rfl r'.1.1 rfl rfl (Nat.le_of_ble_eq_true rfl) (c_ofN r' (by omega) (by unfold nSp; omega)) ?_
        rintro _ q5 ⟨rfl, eq5⟩
        subst q5
        show zG l w mX10_arrives 49 [(5, .int (nI p)), (4, .int (nI i)), (3, .int (nI (nW N a).length)), (2, .int (nI (wrK N a i).length)), (0, .ref m), (1, .int (nI a))] [.long (jL (nA N1 (368 + 8 * p + 6)))] h' _
        refine g_aload_n 4 dX10_arrives_49 rfl rfl ?_
        refine g_iconst (v := nI 2) dX10_arrives_50 (by decide) ?_
        refine g_invv (M' := mX10_of) (As := [.int (nI 2)]) (rest := [.long (jL (nA N1 (368 + 8 * p + 6)))]) dX10_arrives_51 ml_X10_48 okX10_of imX10_of seX10_of ⟨(Nat.le_of_ble_eq_true rfl), (Nat.le_of_ble_eq_true rfl)⟩ (ci := 10) rfl rfl r'.1.1 rfl rfl (Nat.le_of_ble_eq_true rfl) (c_ofN r' (by omega) (by unfold nSp; omega)) ?_
        rintro _ q6 ⟨rfl, eq6⟩
        subst q6
        show zG l w mX10_arrives 54 [(5, .int (nI p)), (4, .int (nI i)), (3, .int (nI (nW N a).length)), (2, .int (nI (wrK N a i).length)), (0, .ref m), (1, .int (nI a))] [.long (jL (nA N1 2)), .long (jL (nA N1 (368 + 8 * p + 6)))] h' _
        have b7 := hB (368 + 8 * p + 6) (by omega)
        have b8 := hB 2 (by omega)
        refine g_lif_eq (a := (nA N1 (368 + 8 * p + 6))) (b := (nA N1 2)) (tgt := 81) dX10_arrives_54 rfl dX10_arrives_55 (by decide) (by omega) (by omega) (fun d => ?_) (fun d => ?_)
        · refine g_aload_n 4 dX10_arrives_81 rfl rfl ?_
          refine g_iload 0 dX10_arrives_82 rfl ?_
          refine g_invv (M' := mX10_flowOf) (As := [.int (nI p)]) (rest := []) dX10_arrives_84 ml_X10_79 okX10_flowOf imX10_flowOf seX10_flowOf ⟨(Nat.le_of_ble_eq_true rfl), (Nat.le_of_ble_eq_true rfl)⟩ (ci := 10) rfl rfl r'.1.1 rfl rfl (Nat.le_of_ble_eq_true rfl) (c_flowOf r' D1 D2) ?_
          rintro _ q10 ⟨rfl, eq10⟩
          subst q10
          show zG l w mX10_arrives 87 [(5, .int (nI p)), (4, .int (nI i)), (3, .int (nI (nW N a).length)), (2, .int (nI (wrK N a i).length)), (0, .ref m), (1, .int (nI a))] [.int (nI (flN N1 p))] h' _
          refine g_istore (lv2 := [(6, .int (nI (flN N1 p))), (5, .int (nI p)), (4, .int (nI i)), (3, .int (nI (nW N a).length)), (2, .int (nI (wrK N a i).length)), (0, .ref m), (1, .int (nI a))]) dX10_arrives_87 (by decide) rfl ?_
          refine g_aload_n 5 dX10_arrives_89 rfl rfl ?_
          refine g_iload 1 dX10_arrives_90 rfl ?_
          refine g_iconst (v := nI 2) dX10_arrives_92 (by decide) ?_
          refine g_invs (M' := mX10_packet0) (As := [.int (nI p), .int (nI 2)]) (rest := [.ref m]) dX10_arrives_93 ml_X10_55 okX10_packet0 stX10_packet0 ⟨(Nat.le_of_ble_eq_true rfl), (Nat.le_of_ble_eq_true rfl)⟩ rfl rfl (Nat.le_of_ble_eq_true rfl) c_packet0 ?_
          rintro _ q11 ⟨rfl, eq11⟩
          subst q11
          show zG l w mX10_arrives 96 [(6, .int (nI (flN N1 p))), (5, .int (nI p)), (4, .int (nI i)), (3, .int (nI (nW N a).length)), (2, .int (nI (wrK N a i).length)), (0, .ref m), (1, .int (nI a))] [.int (nI (368 + 8 * p + 2)), .ref m] h' _
          refine g_lconst (v := jL 1) dX10_arrives_96 (by decide) ?_
          refine g_invv (M' := mX10_adds) (As := [.int (nI (368 + 8 * p + 2)), .long (jL 1)]) (rest := []) dX10_arrives_97 ml_X10_76 okX10_adds imX10_adds seX10_adds ⟨(Nat.le_of_ble_eq_true rfl), (Nat.le_of_ble_eq_true rfl)⟩ (ci := 10) rfl rfl r'.1.1 rfl rfl (Nat.le_of_ble_eq_true rfl) (c_addsN r' (by omega) (by unfold nSp; omega)) ?_
          rintro _ y12 ⟨rfl, r12, f12⟩
          show zG l w mX10_arrives 100 [(6, .int (nI (flN N1 p))), (5, .int (nI p)), (4, .int (nI i)), (3, .int (nI (nW N a).length)), (2, .int (nI (wrK N a i).length)), (0, .ref m), (1, .int (nI a))] [] y12 _
          refine g_aload_n 5 dX10_arrives_100 rfl rfl ?_
          refine g_iload 1 dX10_arrives_101 rfl ?_
          refine g_iconst (v := nI 2) dX10_arrives_103 (by decide) ?_
          refine g_invs (M' := mX10_packet0) (As := [.int (nI p), .int (nI 2)]) (rest := [.ref m]) dX10_arrives_104 ml_X10_55 okX10_packet0 stX10_packet0 ⟨(Nat.le_of_ble_eq_true rfl), (Nat.le_of_ble_eq_true rfl)⟩ rfl rfl (Nat.le_of_ble_eq_true rfl) c_packet0 ?_
          rintro _ q13 ⟨rfl, eq13⟩
          subst q13
          show zG l w mX10_arrives 107 [(6, .int (nI (flN N1 p))), (5, .int (nI p)), (4, .int (nI i)), (3, .int (nI (nW N a).length)), (2, .int (nI (wrK N a i).length)), (0, .ref m), (1, .int (nI a))] [.int (nI (368 + 8 * p + 2)), .ref m] y12 _
          refine g_invv (M' := mX10_of) (As := [.int (nI (368 + 8 * p + 2))]) (rest := []) dX10_arrives_107 ml_X10_48 okX10_of imX10_of seX10_of ⟨(Nat.le_of_ble_eq_true rfl), (Nat.le_of_ble_eq_true rfl)⟩ (ci := 10) rfl rfl r12.1.1 rfl rfl (Nat.le_of_ble_eq_true rfl) (c_ofN r12 (by omega) (by unfold nSp; omega)) ?_
          rintro _ q14 ⟨rfl, eq14⟩
          subst q14
          show zG l w mX10_arrives 110 [(6, .int (nI (flN N1 p))), (5, .int (nI p)), (4, .int (nI i)), (3, .int (nI (nW N a).length)), (2, .int (nI (wrK N a i).length)), (0, .ref m), (1, .int (nI a))] [.long (jL (nA (uA N1 (368 + 8 * p + 2) (nA N1 (368 + 8 * p + 2) + 1)) (368 + 8 * p + 2)))] y12 _
          rw [show nA (uA N1 (368 + 8 * p + 2) (nA N1 (368 + 8 * p + 2) + 1)) (368 + 8 * p + 2) = nA N1 (368 + 8 * p + 2) + 1 by rw [nA_eq]]
          refine g_aload_n 5 dX10_arrives_110 rfl rfl ?_
          refine g_iload 0 dX10_arrives_111 rfl ?_
          refine g_iconst (v := nI 0) dX10_arrives_113 (by decide) ?_
          refine g_invv (M' := mX10_ofFlow) (As := [.int (nI (flN N1 p)), .int (nI 0)]) (rest := [.long (jL (nA N1 (368 + 8 * p + 2) + 1))]) dX10_arrives_114 ml_X10_62 okX10_ofFlow imX10_ofFlow seX10_ofFlow ⟨(Nat.le_of_ble_eq_true rfl), (Nat.le_of_ble_eq_true rfl)⟩ (ci := 10) rfl rfl r12.1.1 rfl rfl (Nat.le_of_ble_eq_true rfl) (c_ofFlowN r12 (by omega)) ?_
          rintro _ q15 ⟨rfl, eq15⟩
          subst q15
          show zG l w mX10_arrives 117 [(6, .int (nI (flN N1 p))), (5, .int (nI p)), (4, .int (nI i)), (3, .int (nI (nW N a).length)), (2, .int (nI (wrK N a i).length)), (0, .ref m), (1, .int (nI a))] [.long (jL (nA (uA N1 (368 + 8 * p + 2) (nA N1 (368 + 8 * p + 2) + 1)) (248 + 20 * (flN N1 p) + 0))), .long (jL (nA N1 (368 + 8 * p + 2) + 1))] y12 _
          rw [show nA (uA N1 (368 + 8 * p + 2) (nA N1 (368 + 8 * p + 2) + 1)) (248 + 20 * (flN N1 p) + 0) = nA N1 (248 + 20 * (flN N1 p) + 0) by rw [nA_ne (by omega)]]
          have k := wr_due hp (by rw [← h6, ← h2]; exact d)
          have b16 := hB (368 + 8 * p + 2) (by omega)
          have b17 := hB (248 + 20 * (flN N1 p) + 0) (by omega)
          refine g_lif_ne (a := (nA N1 (368 + 8 * p + 2) + 1)) (b := (nA N1 (248 + 20 * (flN N1 p) + 0))) (tgt := 131) dX10_arrives_117 rfl dX10_arrives_118 (by decide) (by omega) (by omega) (fun g => ?_) (fun g => ?_)
          · refine g_aload_n 5 dX10_arrives_131 rfl rfl ?_
            refine g_iload 1 dX10_arrives_132 rfl ?_
            refine g_aload_n 5 dX10_arrives_134 rfl rfl ?_
            refine g_iload 0 dX10_arrives_135 rfl ?_
            refine g_aload_n 5 dX10_arrives_137 rfl rfl ?_
            refine g_iload 1 dX10_arrives_138 rfl ?_
            refine g_iconst (v := nI 2) dX10_arrives_140 (by decide) ?_
            refine g_invs (M' := mX10_packet0) (As := [.int (nI p), .int (nI 2)]) (rest := [.ref m, .int (nI (flN N1 p)), .ref m, .int (nI p), .ref m]) dX10_arrives_141 ml_X10_55 okX10_packet0 stX10_packet0 ⟨(Nat.le_of_ble_eq_true rfl), (Nat.le_of_ble_eq_true rfl)⟩ rfl rfl (Nat.le_of_ble_eq_true rfl) c_packet0 ?_
            rintro _ q19 ⟨rfl, eq19⟩
            subst q19
            show zG l w mX10_arrives 144 [(6, .int (nI (flN N1 p))), (5, .int (nI p)), (4, .int (nI i)), (3, .int (nI (nW N a).length)), (2, .int (nI (wrK N a i).length)), (0, .ref m), (1, .int (nI a))] [.int (nI (368 + 8 * p + 2)), .ref m, .int (nI (flN N1 p)), .ref m, .int (nI p), .ref m] y12 _
            refine g_invv (M' := mX10_at) (As := [.int (nI (368 + 8 * p + 2))]) (rest := [.int (nI (flN N1 p)), .ref m, .int (nI p), .ref m]) dX10_arrives_144 ml_X10_58 okX10_at imX10_at seX10_at ⟨(Nat.le_of_ble_eq_true rfl), (Nat.le_of_ble_eq_true rfl)⟩ (ci := 10) rfl rfl r12.1.1 rfl rfl (Nat.le_of_ble_eq_true rfl) (c_atN r12 (by omega) (by unfold nSp; omega)) ?_
            rintro _ q20 ⟨rfl, eq20⟩
            subst q20
            show zG l w mX10_arrives 147 [(6, .int (nI (flN N1 p))), (5, .int (nI p)), (4, .int (nI i)), (3, .int (nI (nW N a).length)), (2, .int (nI (wrK N a i).length)), (0, .ref m), (1, .int (nI a))] [.int (jI (nA (uA N1 (368 + 8 * p + 2) (nA N1 (368 + 8 * p + 2) + 1)) (368 + 8 * p + 2))), .int (nI (flN N1 p)), .ref m, .int (nI p), .ref m] y12 _
            rw [show nA (uA N1 (368 + 8 * p + 2) (nA N1 (368 + 8 * p + 2) + 1)) (368 + 8 * p + 2) = nA N1 (368 + 8 * p + 2) + 1 by rw [nA_eq]]
            have D7 := D7 (by omega)
            rw [show jI (nA N1 (368 + 8 * p + 2) + 1) = nI (nA N1 (368 + 8 * p + 2) + 1).toNat by rw [← jI_nat, Int.toNat_of_nonneg (by omega)]]
            have eh2 : hopN (uA N1 (368 + 8 * p + 2) (nA N1 (368 + 8 * p + 2) + 1)) (flN N1 p) (nA N1 (368 + 8 * p + 2) + 1).toNat = hopN N1 (flN N1 p) (nA N1 (368 + 8 * p + 2) + 1).toNat := by unfold hopN; rw [nA_ne (by omega)]
            refine g_invv (M' := mX10_hop) (As := [.int (nI (flN N1 p)), .int (nI (nA N1 (368 + 8 * p + 2) + 1).toNat)]) (rest := [.int (nI p), .ref m]) dX10_arrives_147 ml_X10_66 okX10_hop imX10_hop seX10_hop ⟨(Nat.le_of_ble_eq_true rfl), (Nat.le_of_ble_eq_true rfl)⟩ (ci := 10) rfl rfl r12.1.1 rfl rfl (Nat.le_of_ble_eq_true rfl) (c_hop r12 D3 (by omega) (by rw [nA_ne (by omega)]; exact D7.1)) ?_
            rintro _ q21 ⟨rfl, eq21⟩
            subst q21
            show zG l w mX10_arrives 150 [(6, .int (nI (flN N1 p))), (5, .int (nI p)), (4, .int (nI i)), (3, .int (nI (nW N a).length)), (2, .int (nI (wrK N a i).length)), (0, .ref m), (1, .int (nI a))] [.int (nI (hopN (uA N1 (368 + 8 * p + 2) (nA N1 (368 + 8 * p + 2) + 1)) (flN N1 p) (nA N1 (368 + 8 * p + 2) + 1).toNat)), .int (nI p), .ref m] y12 _
            rw [eh2]
            obtain ⟨D71, D72, D73, D74⟩ := D7
            have hB2 := nBd_uA (k := 368 + 8 * p + 2) (z := nA N1 (368 + 8 * p + 2) + 1) hB (by omega)
            refine g_invv (M' := mX10_comes) (As := [.int (nI p), .int (nI (hopN N1 (flN N1 p) (nA N1 (368 + 8 * p + 2) + 1).toNat))]) (rest := []) dX10_arrives_150 ml_X10_130 okX10_comes imX10_comes seX10_comes ⟨(Nat.le_of_ble_eq_true rfl), (Nat.le_of_ble_eq_true rfl)⟩ (ci := 10) rfl rfl r12.1.1 rfl rfl (Nat.le_of_ble_eq_true rfl) (c_comes r12 hF hB2 (f := flN N1 p) D1 (by rw [nA_ne (by omega)]; exact D2) D3 D72 D4 D5 (by rw [nA_ne (by omega)]; exact D73) (by rw [nA_ne (by omega)]; exact D74) (by rw [nA_ne (by omega)]; exact D8) (by rw [nA_ne (by omega)]; exact D9)) ?_
            rintro _ y22 ⟨rfl, r22, f22⟩
            show zG l w mX10_arrives 153 [(6, .int (nI (flN N1 p))), (5, .int (nI p)), (4, .int (nI i)), (3, .int (nI (nW N a).length)), (2, .int (nI (wrK N a i).length)), (0, .ref m), (1, .int (nI a))] [] y22 _
            refine g_inc (v := nI (i + 1)) (lv2 := [(4, .int (nI (i + 1))), (6, .int (nI (flN N1 p))), (5, .int (nI p)), (3, .int (nI (nW N a).length)), (2, .int (nI (wrK N a i).length)), (0, .ref m), (1, .int (nI a))]) 2 dX10_arrives_153 rfl (nI_add _ 1) (by decide) rfl ?_
            refine g_goto (tgt := 15) dX10_arrives_156 (by decide) ?_
            refine zG.sub [0, 3, 4, 5, 6] ?_ (ih (i + 1) (by omega) y22 _ rfl ?_ ((fr'.tr f12).tr f22))
            · rw [k.2]; rfl
            · rw [k.1, ← hN1]; unfold arrN; simp only []; rw [if_neg g]; exact r22
          · refine g_aload_n 5 dX10_arrives_121 rfl rfl ?_
            refine g_iload 1 dX10_arrives_122 rfl ?_
            refine g_iconst (v := nI 0) dX10_arrives_124 (by decide) ?_
            refine g_invv (M' := mX10_comesBack) (As := [.int (nI p), .int (nI 0)]) (rest := []) dX10_arrives_125 ml_X10_104 okX10_comesBack imX10_comesBack seX10_comesBack ⟨(Nat.le_of_ble_eq_true rfl), (Nat.le_of_ble_eq_true rfl)⟩ (ci := 10) rfl rfl r12.1.1 rfl rfl (Nat.le_of_ble_eq_true rfl) (c_comesBack (b := false) r12 hF (f := flN N1 p) D1 (by rw [nA_ne (by omega)]; exact D2) D3 D4 D5) ?_
            rintro _ y18 ⟨rfl, r18, f18⟩
            show zG l w mX10_arrives 128 [(6, .int (nI (flN N1 p))), (5, .int (nI p)), (4, .int (nI i)), (3, .int (nI (nW N a).length)), (2, .int (nI (wrK N a i).length)), (0, .ref m), (1, .int (nI a))] [] y18 _
            refine g_goto (tgt := 153) dX10_arrives_128 (by decide) ?_
            refine g_inc (v := nI (i + 1)) (lv2 := [(4, .int (nI (i + 1))), (6, .int (nI (flN N1 p))), (5, .int (nI p)), (3, .int (nI (nW N a).length)), (2, .int (nI (wrK N a i).length)), (0, .ref m), (1, .int (nI a))]) 2 dX10_arrives_153 rfl (nI_add _ 1) (by decide) rfl ?_
            refine g_goto (tgt := 15) dX10_arrives_156 (by decide) ?_
            refine zG.sub [0, 3, 4, 5, 6] ?_ (ih (i + 1) (by omega) y18 _ rfl ?_ ((fr'.tr f12).tr f18))
            · rw [k.2]; rfl
            · rw [k.1, ← hN1]; unfold arrN; simp only []; rw [if_pos g]; exact r18
        · refine g_aload_n 4 dX10_arrives_58 rfl rfl ?_
          refine g_sipush (v := nI 4568) dX10_arrives_59 (by decide) ?_
          refine g_bipush (v := nI 90) dX10_arrives_62 (by decide) ?_
          refine g_iload_n 5 dX10_arrives_64 rfl rfl ?_
          refine g_imul dX10_arrives_65 ?_
          rw [pk_mul 90 a]
          refine g_iadd dX10_arrives_66 ?_
          rw [nI_add 4568 (90 * a)]
          refine g_iload_n 3 dX10_arrives_67 rfl rfl ?_
          refine g_iadd dX10_arrives_68 ?_
          rw [nI_add (4568 + 90 * a) ((wrK N a i).length)]
          refine g_iload 0 dX10_arrives_69 rfl ?_
          refine g_i2l dX10_arrives_71 ?_
          rw [nI_l (by omega), ← jL_nat]
          refine g_invv (M' := mX10_puts) (As := [.int (nI (4568 + 90 * a + (wrK N a i).length)), .long (jL ((p : Nat) : Int))]) (rest := []) dX10_arrives_72 ml_X10_40 okX10_puts imX10_puts seX10_puts ⟨(Nat.le_of_ble_eq_true rfl), (Nat.le_of_ble_eq_true rfl)⟩ (ci := 10) rfl rfl r'.1.1 rfl rfl (Nat.le_of_ble_eq_true rfl) (c_putsWs ha r' hF (A := wrK N a i) (q := (nW N a)[(wrK N a i).length]) (B := (nW N a).drop ((wrK N a i).length + 1)) (by rw [hN1]; unfold wr; rw [nW_uW, if_pos rfl, List.drop_eq_getElem_cons (by omega)])) ?_
          rintro _ y9 ⟨rfl, r9, f9⟩
          show zG l w mX10_arrives 75 [(5, .int (nI p)), (4, .int (nI i)), (3, .int (nI (nW N a).length)), (2, .int (nI (wrK N a i).length)), (0, .ref m), (1, .int (nI a))] [] y9 _
          refine g_inc (v := nI ((wrK N a i).length + 1)) (lv2 := [(2, .int (nI ((wrK N a i).length + 1))), (5, .int (nI p)), (4, .int (nI i)), (3, .int (nI (nW N a).length)), (0, .ref m), (1, .int (nI a))]) 3 dX10_arrives_75 rfl (nI_add _ 1) (by decide) rfl ?_
          refine g_goto (tgt := 153) dX10_arrives_78 (by decide) ?_
          refine g_inc (v := nI (i + 1)) (lv2 := [(4, .int (nI (i + 1))), (2, .int (nI ((wrK N a i).length + 1))), (5, .int (nI p)), (3, .int (nI (nW N a).length)), (0, .ref m), (1, .int (nI a))]) 2 dX10_arrives_153 rfl (nI_add _ 1) (by decide) rfl ?_
          refine g_goto (tgt := 15) dX10_arrives_156 (by decide) ?_
          have k := wr_keep hp (by rw [← h6, ← h2]; exact d)
          refine zG.sub [0, 3, 1, 4, 5] ?_ (ih (i + 1) (by omega) y9 _ rfl ?_ (fr'.tr f9))
          · rw [k.2, List.length_append]; rfl
          · rw [k.1, ← hN1]; exact r9
  refine g_iconst (v := nI 0) dX10_arrives_0 (by decide) ?_
  refine g_istore_n (lv2 := [(2, .int (nI 0)), (0, .ref m), (1, .int (nI a))]) dX10_arrives_1 rfl (by decide) rfl ?_
  refine g_aload_n 1 dX10_arrives_2 rfl rfl ?_
  refine g_iload_n 2 dX10_arrives_3 rfl rfl ?_
  refine g_iconst (v := nI 5) dX10_arrives_4 (by decide) ?_
  refine g_invs (M' := mX10_link0) (As := [.int (nI a), .int (nI 5)]) (rest := [.ref m]) dX10_arrives_5 ml_X10_44 okX10_link0 stX10_link0 ⟨(Nat.le_of_ble_eq_true rfl), (Nat.le_of_ble_eq_true rfl)⟩ rfl rfl (Nat.le_of_ble_eq_true rfl) c_link0 ?_
  rintro _ q1 ⟨rfl, eq1⟩
  subst q1
  show zG l w mX10_arrives 8 [(2, .int (nI 0)), (0, .ref m), (1, .int (nI a))] [.int (nI (8 + 40 * a + 5)), .ref m] h _
  refine g_invv (M' := mX10_at) (As := [.int (nI (8 + 40 * a + 5))]) (rest := []) dX10_arrives_8 ml_X10_58 okX10_at imX10_at seX10_at ⟨(Nat.le_of_ble_eq_true rfl), (Nat.le_of_ble_eq_true rfl)⟩ (ci := 10) rfl rfl r.1.1 rfl rfl (Nat.le_of_ble_eq_true rfl) (c_atWired r (by omega)) ?_
  rintro _ q2 ⟨rfl, eq2⟩
  subst q2
  show zG l w mX10_arrives 11 [(2, .int (nI 0)), (0, .ref m), (1, .int (nI a))] [.int (nI (nW N a).length)] h _
  refine g_istore_n (lv2 := [(3, .int (nI (nW N a).length)), (2, .int (nI 0)), (0, .ref m), (1, .int (nI a))]) dX10_arrives_11 rfl (by decide) rfl ?_
  refine g_iconst (v := nI 0) dX10_arrives_12 (by decide) ?_
  refine g_istore (lv2 := [(4, .int (nI 0)), (3, .int (nI (nW N a).length)), (2, .int (nI 0)), (0, .ref m), (1, .int (nI a))]) dX10_arrives_13 (by decide) rfl ?_
  exact loop _ 0 (Nat.zero_add _) h N (by unfold wr wrM wrK; rw [List.take_zero]; exact (uW_nW N a).symm) r FrM.rf
end M10
