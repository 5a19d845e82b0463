section CZ3
variable {N : nT} {X : List Nat} {a p : Nat} {r : List Nat}
theorem iC.nt (h : iC (p :: X) N) : ntin N p := by
  have hc := h p
  have h1 : nC (p :: X) N p ≤ 1 := by rw [hc]; split <;> omega
  have c1 : 1 ≤ (p :: X).count p := by rw [List.count_cons_self]; omega
  unfold nC at h1
  refine ⟨fun a ha => ⟨fun hm => ?_, fun hm => ?_⟩, fun hm => ?_⟩
  · have := count_pos hm
    have h6 : a = 0 ∨ a = 1 ∨ a = 2 ∨ a = 3 ∨ a = 4 ∨ a = 5 := by omega
    rcases h6 with rfl | rfl | rfl | rfl | rfl | rfl <;> omega
  · have := count_pos hm
    have h6 : a = 0 ∨ a = 1 ∨ a = 2 ∨ a = 3 ∨ a = 4 ∨ a = 5 := by omega
    rcases h6 with rfl | rfl | rfl | rfl | rfl | rfl <;> omega
  · have := count_pos hm
    omega
theorem iC.offR (h : iC X N) (ha : a < 6) (hR : nR N a = p :: r) : iC (p :: X) (uR N a r) := by
  intro x
  have c1 := h x
  have c2 := @nC_uR X N x a r ha
  rw [nC_cons]
  rw [hR, List.count_cons] at c2
  simp only [beq_iff_eq] at c2
  show nC X (uR N a r) x + _ = if x < 480 ∧ 0 < nA N (368 + 8 * x + 0) then 1 else 0
  omega
end CZ3
section CZ4
variable {l : Launch} {w : zW} {h : zH} {b : Nat} {π : Nat → Nat} {ls : Nat → List Nat} {N : nT} {X : List Nat} {t a : Nat}
theorem c_giveShareF (c : CX h b π ls N X t) (ha : (a : Int) < nA N 0) (a6 : a < 6) (hB : nBd N) {p : Nat} (hq : nLq N a) (h4 : 0 ≤ nA N (368 + 8 * p + 4)) (h3 : 0 < nA N (368 + 8 * p + 3)) : zM l w mX7_giveShare [.ref (b + 11 + 7 * a + 6), .long (jL (partN N p))] h (fun v h1 => v = some (.int (jI (shareN N a p))) ∧ CX h1 b π ls (uA (uA N (8 + 40 * a + 12) (gotN N a p)) (8 + 40 * a + 13) (tookN N a)) X t ∧ CSt b ls h ls h1 ∧ FrSc b h h1) := by
  refine zM.of (by decide) (Nat.le_of_ble_eq_true rfl) ?_
  refine g_aload_n 0 dX7_giveShare_0 rfl rfl ?_
  refine g_lload_n 1 dX7_giveShare_1 rfl rfl ?_
  refine g_invv (M' := mX7_shareOf) (As := [.long (jL (partN N p))]) (rest := []) dX7_giveShare_2 ml_X7_60 okX7_shareOf imX7_shareOf seX7_shareOf ⟨(Nat.le_of_ble_eq_true rfl), (Nat.le_of_ble_eq_true rfl)⟩ (ci := 7) rfl rfl (c.1.2.2.2.2.2.2.2.2.1 a a6).2.2.2.2.2.2 rfl rfl (Nat.le_of_ble_eq_true rfl) (c_shareC c ha a6 hB hq h4 h3) ?_
  rintro _ q1 ⟨rfl, eq1⟩
  subst q1
  show zG l w mX7_giveShare 5 [(0, .ref (b + 11 + 7 * a + 6)), (1, .long (jL (partN N p)))] [.int (jI (shareN N a p))] h _
  refine g_istore_n (lv2 := [(3, .int (jI (shareN N a p))), (0, .ref (b + 11 + 7 * a + 6)), (1, .long (jL (partN N p)))]) dX7_giveShare_5 rfl (by decide) rfl ?_
  refine g_aload_n 1 dX7_giveShare_6 rfl rfl ?_
  refine g_aload_n 1 dX7_giveShare_7 rfl rfl ?_
  refine g_lload_n 2 dX7_giveShare_8 rfl rfl ?_
  refine g_invv (M' := mX7_gotWith) (As := [.long (jL (partN N p))]) (rest := [.ref (b + 11 + 7 * a + 6)]) dX7_giveShare_9 ml_X7_47 okX7_gotWith imX7_gotWith seX7_gotWith ⟨(Nat.le_of_ble_eq_true rfl), (Nat.le_of_ble_eq_true rfl)⟩ (ci := 7) rfl rfl (c.1.2.2.2.2.2.2.2.2.1 a a6).2.2.2.2.2.2 rfl rfl (Nat.le_of_ble_eq_true rfl) (c_gotC c ha a6 hB hq h4 h3) ?_
  rintro _ q2 ⟨rfl, eq2⟩
  subst q2
  show zG l w mX7_giveShare 12 [(3, .int (jI (shareN N a p))), (0, .ref (b + 11 + 7 * a + 6)), (1, .long (jL (partN N p)))] [.long (jL (gotN N a p)), .ref (b + 11 + 7 * a + 6)] h _
  refine g_putl (f := 228) dX7_giveShare_12 fl_X7_22 (Or.inl rfl) (c.1.2.2.2.2.2.2.2.2.1 a a6).2.2.2.2.2.2 rfl ?_
  have cx3 : CX (zSl h 228 (b + 11 + 7 * a + 6) (jL (gotN N a p))) b π ls (uA N (8 + 40 * a + 12) (gotN N a p)) X t ∧ CSt b ls h ls (zSl h 228 (b + 11 + 7 * a + 6) (jL (gotN N a p))) := c.setS (j := 12) a6 (by omega) (by omega)
  have fs3 : FrSc b h (zSl h 228 (b + 11 + 7 * a + 6) (jL (gotN N a p))) := FrSc.sl (by omega) (by omega)
  generalize zSl h 228 (b + 11 + 7 * a + 6) (jL (gotN N a p)) = y3 at cx3 fs3 ⊢
  refine g_aload_n 1 dX7_giveShare_15 rfl rfl ?_
  refine g_aload_n 1 dX7_giveShare_16 rfl rfl ?_
  have b12 : -17592186044416 ≤ gotN N a p ∧ gotN N a p < 17592186044416 := by have q := gotN_bd hB hq h4 h3; have q2 := hB (8 + 40 * a + 10) (by omega); omega
  have hB2 := nBd_uA (k := 8 + 40 * a + 12) (z := gotN N a p) hB b12
  refine g_invv (M' := mX7_tookWithOne) (As := []) (rest := [.ref (b + 11 + 7 * a + 6)]) dX7_giveShare_17 ml_X7_53 okX7_tookWithOne imX7_tookWithOne seX7_tookWithOne ⟨(Nat.le_of_ble_eq_true rfl), (Nat.le_of_ble_eq_true rfl)⟩ (ci := 7) rfl rfl (cx3.1.1.2.2.2.2.2.2.2.2.1 a a6).2.2.2.2.2.2 rfl rfl (Nat.le_of_ble_eq_true rfl) (c_tookC cx3.1 (by rw [nA_ne (by omega)]; exact ha) a6 hB2) ?_
  rintro _ q4 ⟨rfl, eq4⟩
  subst q4
  show zG l w mX7_giveShare 20 [(3, .int (jI (shareN N a p))), (0, .ref (b + 11 + 7 * a + 6)), (1, .long (jL (partN N p)))] [.long (jL (tookN (uA N (8 + 40 * a + 12) (gotN N a p)) a)), .ref (b + 11 + 7 * a + 6)] y3 _
  rw [show tookN (uA N (8 + 40 * a + 12) (gotN N a p)) a = tookN N a by unfold tookN; rw [nA_ne (by omega), nA_ne (by omega)]]
  refine g_putl (f := 229) dX7_giveShare_20 fl_X7_25 (Or.inl rfl) (cx3.1.1.2.2.2.2.2.2.2.2.1 a a6).2.2.2.2.2.2 rfl ?_
  have cx5 : CX (zSl y3 229 (b + 11 + 7 * a + 6) (jL (tookN N a))) b π ls (uA (uA N (8 + 40 * a + 12) (gotN N a p)) (8 + 40 * a + 13) (tookN N a)) X t ∧ CSt b ls y3 ls (zSl y3 229 (b + 11 + 7 * a + 6) (jL (tookN N a))) := cx3.1.setS (j := 13) a6 (by omega) (by omega)
  have fs5 : FrSc b y3 (zSl y3 229 (b + 11 + 7 * a + 6) (jL (tookN N a))) := FrSc.sl (by omega) (by omega)
  generalize zSl y3 229 (b + 11 + 7 * a + 6) (jL (tookN N a)) = y5 at cx5 fs5 ⊢
  refine g_iload_n 0 dX7_giveShare_23 rfl rfl ?_
  refine g_ireturn dX7_giveShare_24 rfl ?_
  exact ⟨rfl, cx5.1, ((CSt.rf.tr cx3.2).tr cx5.2), ((FrSc.rf.tr fs3).tr fs5)⟩
theorem c_serveRow (c : CX h b π ls N [] t) (hI : iN [] N) (ha : (a : Int) < nA N 0) (hw : nA N (8 + 40 * a + 16) ≤ 359990) : zM l w mX4_serveRow [.ref (b + 11 + 7 * a), .int (jI (nA N 2))] h (fun v h1 => v = none ∧ ∃ ls1, CX h1 b π ls1 (rowN N a) [] t ∧ CSt b ls h ls1 h1) := by
  refine zM.of (by decide) (Nat.le_of_ble_eq_true rfl) ?_
  have H0 := hI.H.1
  have a6 : a < 6 := by omega
  have L0 := (hI.L a ha).1.1
  have hR60 := (hI.L a ha).2.1.1
  have tb := hI.H.2.2.1
  have h9 : rowC N a ≤ 9 := by unfold rowC; omega
  have hRl : rowC N a ≤ (nR N a).length := by unfold rowC; omega
  have hC : ((rowC N a : Nat) : Int) = nA N (8 + 40 * a + 0) ∨ rowC N a = (nR N a).length := by unfold rowC; omega
  have hC0 : ((rowC N a : Nat) : Int) ≤ nA N (8 + 40 * a + 0) := by unfold rowC; omega
  have fin : ∀ (h' : zH) (ls' : Nat → List Nat), CX h' b π ls' (uR (lw N a (rowC N a)) a ((nR N a).drop (rowC N a))) [] t → CSt b ls h ls' h' → zG l w mX4_serveRow 91 [(0, .ref (b + 11 + 7 * a)), (1, .int (jI (nA N 2)))] [] h' (fun v h1 => v = none ∧ ∃ ls1, CX h1 b π ls1 (rowN N a) [] t ∧ CSt b ls h ls1 h1) := by
    intro h' ls' c' s'
    have K := lq_in hI ha hw h9
    have e0 : nA (lw N a (rowC N a)) 0 = nA N 0 := K.2.1 0 (by omega) (by omega) (by omega) (by omega) (by omega)
    have ha' : (a : Int) < nA (uR (lw N a (rowC N a)) a ((nR N a).drop (rowC N a))) 0 := by rw [nA_uR, e0]; exact ha
    have L7 := (hI.L a ha).2.1
    have e7 : nA (uR (lw N a (rowC N a)) a ((nR N a).drop (rowC N a))) (8 + 40 * a + 7) = nA N (8 + 40 * a + 7) := by rw [nA_uR]; exact lw_7 hI ha
    have eS : (ls' (b + 11 + 7 * a + 1)).length = (nR N a).length - rowC N a := by rw [(c'.2.2.2.2.2.1.2.2.2.1 a a6).1, List.length_map, nR_uR, if_pos rfl, List.length_drop]
    refine g_aload_n 0 dX4_serveRow_91 rfl rfl ?_
    refine g_aload_n 0 dX4_serveRow_92 rfl rfl ?_
    refine g_geti (f := 135) dX4_serveRow_93 fl_X4_69 (c'.1.2.2.2.2.2.2.2.2.1 a a6).2.1 (by decide) rfl ?_
    rw [show zi h' 135 (b + 11 + 7 * a) = jI (nA (uR (lw N a (rowC N a)) a ((nR N a).drop (rowC N a))) (8 + 40 * a + 7)) from (c'.2.2.2.1 a ha' a6).1 7 (by unfold lkJ; omega)]
    refine g_aload_n 0 dX4_serveRow_96 rfl rfl ?_
    refine g_getr (f := 132) (b := b + 11 + 7 * a + 1) dX4_serveRow_97 fl_X4_12 (c'.1.2.2.2.2.2.2.2.2.1 a a6).2.1 rfl (c'.1.2.2.2.2.2.2.2.2.1 a a6).2.2.1.1 ?_
    refine g_geti (f := 98) dX4_serveRow_100 fl_X4_89 (c'.1.2.2.2.2.2.2.2.2.1 a a6).2.2.1.2 (by decide) rfl ?_
    rw [show zi h' 98 (b + 11 + 7 * a + 1) = nI (ls' (b + 11 + 7 * a + 1)).length from (c'.2.1.1 _ (c'.1.iR a6)).2.2.1]
    rw [e7, eS]
    refine zG.top (show nI ((nR N a).length - rowC N a) = jI (((nR N a).length - rowC N a : Nat) : Int) from (jI_nat _).symm) ?_
    refine g_invs (M' := mJ9_min_7cf53) (As := [.int (jI (nA N (8 + 40 * a + 7))), .int (jI (((nR N a).length - rowC N a : Nat) : Int))]) (rest := [.ref (b + 11 + 7 * a)]) dX4_serveRow_103 ml_X4_125 okJ9_min_7cf53 stJ9_min_7cf53 ⟨(Nat.le_of_ble_eq_true rfl), (Nat.le_of_ble_eq_true rfl)⟩ rfl rfl (Nat.le_of_ble_eq_true rfl) (c_minI (by omega) (by omega)) ?_
    rintro _ q1 ⟨rfl, eq1⟩
    subst q1
    show zG l w mX4_serveRow 106 [(0, .ref (b + 11 + 7 * a)), (1, .int (jI (nA N 2)))] [.int (jI (min (nA N (8 + 40 * a + 7)) (((nR N a).length - rowC N a : Nat) : Int))), .ref (b + 11 + 7 * a)] h' _
    refine g_puti (f := 135) dX4_serveRow_106 fl_X4_69 (Or.inl rfl) (c'.1.2.2.2.2.2.2.2.2.1 a a6).2.1 rfl ?_
    have cx2 : CX (zSi h' 135 (b + 11 + 7 * a) (jI (min (nA N (8 + 40 * a + 7)) (((nR N a).length - rowC N a : Nat) : Int)))) b π ls' (uA (uR (lw N a (rowC N a)) a ((nR N a).drop (rowC N a))) (8 + 40 * a + 7) (min (nA N (8 + 40 * a + 7)) (((nR N a).length - rowC N a : Nat) : Int))) [] t ∧ CSt b ls' h' ls' (zSi h' 135 (b + 11 + 7 * a) (jI (min (nA N (8 + 40 * a + 7)) (((nR N a).length - rowC N a : Nat) : Int)))) := c'.setL (j := 7) a6 (by unfold lkJ; omega) (by omega)
    generalize zSi h' 135 (b + 11 + 7 * a) (jI (min (nA N (8 + 40 * a + 7)) (((nR N a).length - rowC N a : Nat) : Int))) = y2 at cx2 ⊢
    refine g_return dX4_serveRow_109 rfl ?_
    refine ⟨rfl, ls', ?_, (s'.tr cx2.2)⟩
    rw [rowN_eq]
    exact cx2.1
  have loop : ∀ n i : Nat, i + n = rowC N a → ∀ (h' : zH) (ls' : Nat → List Nat), CX h' b π ls' (uR (lw N a i) a ((nR N a).drop i)) [] t → CSt b ls h ls' h' → zG l w mX4_serveRow 2 [(2, .int (nI i)), (0, .ref (b + 11 + 7 * a)), (1, .int (jI (nA N 2)))] [] h' (fun v h1 => v = none ∧ ∃ ls1, CX h1 b π ls1 (rowN N a) [] t ∧ CSt b ls h ls1 h1) := by
    intro n
    induction n with
    | zero =>
      intro i hi h' ls' c' s'
      have K := lq_in hI ha hw (i := i) (by omega)
      have e0 : nA (lw N a i) 0 = nA N 0 := K.2.1 0 (by omega) (by omega) (by omega) (by omega) (by omega)
      have e00 : nA (lw N a i) (8 + 40 * a + 0) = nA N (8 + 40 * a + 0) := K.2.1 _ (by omega) (by omega) (by omega) (by omega) (by omega)
      have ha' : (a : Int) < nA (uR (lw N a i) a ((nR N a).drop i)) 0 := by rw [nA_uR, e0]; exact ha
      refine g_iload_n 0 dX4_serveRow_2 rfl rfl ?_
      refine g_aload_n 1 dX4_serveRow_3 rfl rfl ?_
      refine g_geti (f := 128) dX4_serveRow_4 fl_X4_38 (c'.1.2.2.2.2.2.2.2.2.1 a a6).2.1 (by decide) rfl ?_
      rw [show zi h' 128 (b + 11 + 7 * a) = jI (nA (uR (lw N a i) a ((nR N a).drop i)) (8 + 40 * a + 0)) from (c'.2.2.2.1 a ha' a6).1 0 (by unfold lkJ; omega)]
      rw [show nA (uR (lw N a i) a ((nR N a).drop i)) (8 + 40 * a + 0) = nA N (8 + 40 * a + 0) by rw [nA_uR]; exact e00]
      refine g_zcmp_ge (a := ((i : Nat) : Int)) (b := (nA N (8 + 40 * a + 0))) (tgt := 91) (jI_nat i).symm rfl dX4_serveRow_7 (by decide) (by omega) (by omega) (fun q => ?_) (fun q => ?_)
      · have ei : i = rowC N a := by omega
        subst ei
        exact zG.sub [1, 2] rfl (fin h' ls' c' s')
      · have ei : i = rowC N a := by omega
        have er : nR N a = (nR N a).take (rowC N a) ∧ (nR N a).drop (rowC N a) = [] := by
          have : rowC N a = (nR N a).length := by omega
          rw [this, List.take_length, List.drop_length]; exact ⟨rfl, rfl⟩
        have eL : ls' (b + 11 + 7 * a + 1) = [] := by rw [(c'.2.2.2.2.2.1.2.2.2.1 a a6).1, nR_uR, if_pos rfl, ei, er.2]; rfl
        refine g_aload_n 1 dX4_serveRow_10 rfl rfl ?_
        refine g_getr (f := 132) (b := b + 11 + 7 * a + 1) dX4_serveRow_11 fl_X4_12 (c'.1.2.2.2.2.2.2.2.2.1 a a6).2.1 rfl (c'.1.2.2.2.2.2.2.2.2.1 a a6).2.2.1.1 ?_
        refine g_invv (M' := mX3_takeFirst) (As := []) (rest := []) dX4_serveRow_14 ml_X4_114 okX3_takeFirst imX3_takeFirst seX3_takeFirst ⟨(Nat.le_of_ble_eq_true rfl), (Nat.le_of_ble_eq_true rfl)⟩ (ci := 3) rfl rfl (c'.1.2.2.2.2.2.2.2.2.1 a a6).2.2.1.2 rfl rfl (Nat.le_of_ble_eq_true rfl) (c_takeNone c'.2.1 (c'.1.iR a6) eL) ?_
        rintro _ q1 ⟨rfl, e1⟩
        subst q1
        show zG l w mX4_serveRow 17 [(2, .int (nI i)), (0, .ref (b + 11 + 7 * a)), (1, .int (jI (nA N 2)))] [.null] h' _
        refine g_astore_nN (lv2 := [(3, .null), (2, .int (nI i)), (0, .ref (b + 11 + 7 * a)), (1, .int (jI (nA N 2)))]) dX4_serveRow_17 rfl (by decide) rfl ?_
        refine g_aload_nN 0 dX4_serveRow_18 rfl rfl ?_
        refine g_ifnonnullN dX4_serveRow_19 ?_
        refine g_goto (tgt := 91) dX4_serveRow_22 (by decide) ?_
        subst ei
        exact zG.sub [2, 3] rfl (fin h' ls' c' s')
    | succ n ih =>
      intro i hi h' ls' c' s'
      have K := lq_in hI ha hw (i := i) (by omega)
      have e0 : nA (lw N a i) 0 = nA N 0 := K.2.1 0 (by omega) (by omega) (by omega) (by omega) (by omega)
      have e00 : nA (lw N a i) (8 + 40 * a + 0) = nA N (8 + 40 * a + 0) := K.2.1 _ (by omega) (by omega) (by omega) (by omega) (by omega)
      have ha' : (a : Int) < nA (uR (lw N a i) a ((nR N a).drop i)) 0 := by rw [nA_uR, e0]; exact ha
      refine g_iload_n 0 dX4_serveRow_2 rfl rfl ?_
      refine g_aload_n 1 dX4_serveRow_3 rfl rfl ?_
      refine g_geti (f := 128) dX4_serveRow_4 fl_X4_38 (c'.1.2.2.2.2.2.2.2.2.1 a a6).2.1 (by decide) rfl ?_
      rw [show zi h' 128 (b + 11 + 7 * a) = jI (nA (uR (lw N a i) a ((nR N a).drop i)) (8 + 40 * a + 0)) from (c'.2.2.2.1 a ha' a6).1 0 (by unfold lkJ; omega)]
      rw [show nA (uR (lw N a i) a ((nR N a).drop i)) (8 + 40 * a + 0) = nA N (8 + 40 * a + 0) by rw [nA_uR]; exact e00]
      refine g_zcmp_ge (a := ((i : Nat) : Int)) (b := (nA N (8 + 40 * a + 0))) (tgt := 91) (jI_nat i).symm rfl dX4_serveRow_7 (by decide) (by omega) (by omega) (fun q => ?_) (fun q => ?_)
      · exact absurd q (by omega)
      · obtain ⟨p, hp⟩ : ∃ p, (nR N a)[i]? = some p := ⟨_, List.getElem?_eq_getElem (by omega)⟩
        have hdr := drop_some hp
        have hR : nR (uR (lw N a i) a ((nR N a).drop i)) a = p :: (nR N a).drop (i + 1) := by rw [nR_uR, if_pos rfl, hdr]
        have hm : p ∈ nR (uR (lw N a i) a ((nR N a).drop i)) a := by rw [hR]; exact List.mem_cons_self
        have lvp : liv (uR (uR (lw N a i) a ((nR N a).drop i)) a ((nR N a).drop (i + 1))) p := K.1.C.memR a6 hm
        have nt : ntin (uR (uR (lw N a i) a ((nR N a).drop i)) a ((nR N a).drop (i + 1))) p := (K.1.C.offR a6 hR).nt
        have P := K.1.P p lvp.1 lvp.2
        have Lk := K.1.L a ha'
        have sh := Lk.share K.1.B P
        have pk := (c'.2.2.2.2.2.1.2.2.2.1 a a6).2.2.1 p hm
        have eL : ls' (b + 11 + 7 * a + 1) = π p :: ((nR N a).drop (i + 1)).map π := by rw [(c'.2.2.2.2.2.1.2.2.2.1 a a6).1, hR, List.map_cons]
        have p480 := lvp.1
        have e2 : nA (lw N a i) 2 = nA N 2 := K.2.1 2 (by omega) (by omega) (by omega) (by omega) (by omega)
        have P5 := P.2.2.2.2.2.1
        refine g_aload_n 1 dX4_serveRow_10 rfl rfl ?_
        refine g_getr (f := 132) (b := b + 11 + 7 * a + 1) dX4_serveRow_11 fl_X4_12 (c'.1.2.2.2.2.2.2.2.2.1 a a6).2.1 rfl (c'.1.2.2.2.2.2.2.2.2.1 a a6).2.2.1.1 ?_
        refine g_invv (M' := mX3_takeFirst) (As := []) (rest := []) dX4_serveRow_14 ml_X4_114 okX3_takeFirst imX3_takeFirst seX3_takeFirst ⟨(Nat.le_of_ble_eq_true rfl), (Nat.le_of_ble_eq_true rfl)⟩ (ci := 3) rfl rfl (c'.1.2.2.2.2.2.2.2.2.1 a a6).2.2.1.2 rfl rfl (Nat.le_of_ble_eq_true rfl) (c_takeFirst c'.2.1 (c'.1.iR a6) eL) ?_
        rintro _ y1 ⟨rfl, t1, f1⟩
        show zG l w mX4_serveRow 17 [(2, .int (nI i)), (0, .ref (b + 11 + 7 * a)), (1, .int (jI (nA N 2)))] [.ref (π p)] y1 _
        have k1 := c'.takeR a6 hR f1 t1
        have hop1 : zi y1 194 (π p) = jI (nA (uR (uR (lw N a i) a ((nR N a).drop i)) a ((nR N a).drop (i + 1))) (368 + 8 * p + 2)) := (f1.2.2.2.2.1 194 _ (by omega)).trans pk.1
        refine g_astore_n (lv2 := [(3, .ref (π p)), (2, .int (nI i)), (0, .ref (b + 11 + 7 * a)), (1, .int (jI (nA N 2)))]) dX4_serveRow_17 rfl (by decide) rfl ?_
        refine g_aload_n 0 dX4_serveRow_18 rfl rfl ?_
        refine g_ifnonnull (tgt := 25) dX4_serveRow_19 (by decide) ?_
        refine g_aload_n 0 dX4_serveRow_25 rfl rfl ?_
        refine g_aload_n 0 dX4_serveRow_26 rfl rfl ?_
        refine g_geti (f := 198) dX4_serveRow_27 fl_X4_118 (k1.1.2.2.2.2.2.1.1 p lvp).2.2 (by decide) rfl ?_
        rw [show zi y1 198 (π p) = jI (nA (uR (uR (lw N a i) a ((nR N a).drop i)) a ((nR N a).drop (i + 1))) (368 + 8 * p + 5)) from (k1.1.2.2.2.2.2.1.1 p lvp).1.2.2.2.2.2.1]
        refine g_aload_n 2 dX4_serveRow_30 rfl rfl ?_
        refine g_getr (f := 140) (b := b + 11 + 7 * a + 6) dX4_serveRow_31 fl_X4_34 (k1.1.1.2.2.2.2.2.2.2.2.1 a a6).2.1 rfl (k1.1.1.2.2.2.2.2.2.2.2.1 a a6).2.2.2.2.2.1 ?_
        refine g_aload_n 0 dX4_serveRow_34 rfl rfl ?_
        refine g_getl (f := 197) dX4_serveRow_35 fl_X4_100 (k1.1.2.2.2.2.2.1.1 p lvp).2.2 rfl ?_
        rw [show zl y1 197 (π p) = jL (partN (uR (uR (lw N a i) a ((nR N a).drop i)) a ((nR N a).drop (i + 1))) p) from (k1.1.2.2.2.2.2.1.1 p lvp).1.2.2.2.2.1]
        refine g_invv (M' := mX7_giveShare) (As := [.long (jL (partN (uR (uR (lw N a i) a ((nR N a).drop i)) a ((nR N a).drop (i + 1))) p))]) (rest := [.int (jI (nA (uR (uR (lw N a i) a ((nR N a).drop i)) a ((nR N a).drop (i + 1))) (368 + 8 * p + 5))), .ref (π p)]) dX4_serveRow_38 ml_X4_121 okX7_giveShare imX7_giveShare seX7_giveShare ⟨(Nat.le_of_ble_eq_true rfl), (Nat.le_of_ble_eq_true rfl)⟩ (ci := 7) rfl rfl (k1.1.1.2.2.2.2.2.2.2.2.1 a a6).2.2.2.2.2.2 rfl rfl (Nat.le_of_ble_eq_true rfl) (c_giveShareF k1.1 ha' a6 K.1.B Lk.q P.2.2.2.2.1.1 (Int.lt_of_lt_of_le (by decide) P.2.2.2.1.1)) ?_
        rintro _ y2 ⟨rfl, c2, s2, f2⟩
        show zG l w mX4_serveRow 41 [(3, .ref (π p)), (2, .int (nI i)), (0, .ref (b + 11 + 7 * a)), (1, .int (jI (nA N 2)))] [.int (jI (shareN (uR (uR (lw N a i) a ((nR N a).drop i)) a ((nR N a).drop (i + 1))) a p)), .int (jI (nA (uR (uR (lw N a i) a ((nR N a).drop i)) a ((nR N a).drop (i + 1))) (368 + 8 * p + 5))), .ref (π p)] y2 _
        have sh' : -15011000 ≤ shareN (uR (uR (lw N a i) a ((nR N a).drop i)) a ((nR N a).drop (i + 1))) a p ∧ shareN (uR (uR (lw N a i) a ((nR N a).drop i)) a ((nR N a).drop (i + 1))) a p ≤ 15011000 := sh
        have P5' : -20000000 ≤ nA (uR (uR (lw N a i) a ((nR N a).drop i)) a ((nR N a).drop (i + 1))) (368 + 8 * p + 5) ∧ nA (uR (uR (lw N a i) a ((nR N a).drop i)) a ((nR N a).drop (i + 1))) (368 + 8 * p + 5) ≤ 1000 := P5
        refine g_invs (M' := mJ9_min_7cf53) (As := [.int (jI (nA (uR (uR (lw N a i) a ((nR N a).drop i)) a ((nR N a).drop (i + 1))) (368 + 8 * p + 5))), .int (jI (shareN (uR (uR (lw N a i) a ((nR N a).drop i)) a ((nR N a).drop (i + 1))) a p))]) (rest := [.ref (π p)]) dX4_serveRow_41 ml_X4_125 okJ9_min_7cf53 stJ9_min_7cf53 ⟨(Nat.le_of_ble_eq_true rfl), (Nat.le_of_ble_eq_true rfl)⟩ rfl rfl (Nat.le_of_ble_eq_true rfl) (c_minI (by omega) (by omega)) ?_
        rintro _ q2 ⟨rfl, eq2⟩
        subst q2
        show zG l w mX4_serveRow 44 [(3, .ref (π p)), (2, .int (nI i)), (0, .ref (b + 11 + 7 * a)), (1, .int (jI (nA N 2)))] [.int (jI (min (nA (uR (uR (lw N a i) a ((nR N a).drop i)) a ((nR N a).drop (i + 1))) (368 + 8 * p + 5)) (shareN (uR (uR (lw N a i) a ((nR N a).drop i)) a ((nR N a).drop (i + 1))) a p))), .ref (π p)] y2 _
        have hop2 : zi y2 194 (π p) = jI (nA (uR (uR (lw N a i) a ((nR N a).drop i)) a ((nR N a).drop (i + 1))) (368 + 8 * p + 2)) := (f2.2.2.2.2.1 194 _ (by omega)).trans hop1
        refine g_puti (f := 198) dX4_serveRow_44 fl_X4_118 (Or.inl rfl) (c2.2.2.2.2.2.1.1 p (liv_mk lvp.1 (by rw [nA_ne (by omega), nA_ne (by omega)]; exact lvp.2))).2.2 rfl ?_
        have cx3 : CX (zSi y2 198 (π p) (jI (min (nA (uR (uR (lw N a i) a ((nR N a).drop i)) a ((nR N a).drop (i + 1))) (368 + 8 * p + 5)) (shareN (uR (uR (lw N a i) a ((nR N a).drop i)) a ((nR N a).drop (i + 1))) a p)))) b π (updF ls' (b + 11 + 7 * a + 1) (((nR N a).drop (i + 1)).map π)) (uA (uA (uA (uR (uR (lw N a i) a ((nR N a).drop i)) a ((nR N a).drop (i + 1))) (8 + 40 * a + 12) (gotN (uR (uR (lw N a i) a ((nR N a).drop i)) a ((nR N a).drop (i + 1))) a p)) (8 + 40 * a + 13) (tookN (uR (uR (lw N a i) a ((nR N a).drop i)) a ((nR N a).drop (i + 1))) a)) (368 + 8 * p + 5) (min (nA (uR (uR (lw N a i) a ((nR N a).drop i)) a ((nR N a).drop (i + 1))) (368 + 8 * p + 5)) (shareN (uR (uR (lw N a i) a ((nR N a).drop i)) a ((nR N a).drop (i + 1))) a p))) [p] t ∧ CSt b (updF ls' (b + 11 + 7 * a + 1) (((nR N a).drop (i + 1)).map π)) y2 (updF ls' (b + 11 + 7 * a + 1) (((nR N a).drop (i + 1)).map π)) (zSi y2 198 (π p) (jI (min (nA (uR (uR (lw N a i) a ((nR N a).drop i)) a ((nR N a).drop (i + 1))) (368 + 8 * p + 5)) (shareN (uR (uR (lw N a i) a ((nR N a).drop i)) a ((nR N a).drop (i + 1))) a p)))) := c2.setFeed (liv_mk lvp.1 (by rw [nA_ne (by omega), nA_ne (by omega)]; exact lvp.2)) nt
        have hop3 : zi (zSi y2 198 (π p) (jI (min (nA (uR (uR (lw N a i) a ((nR N a).drop i)) a ((nR N a).drop (i + 1))) (368 + 8 * p + 5)) (shareN (uR (uR (lw N a i) a ((nR N a).drop i)) a ((nR N a).drop (i + 1))) a p)))) 194 (π p) = jI (nA (uR (uR (lw N a i) a ((nR N a).drop i)) a ((nR N a).drop (i + 1))) (368 + 8 * p + 2)) := by rw [zi_Si, if_neg (by omega)]; exact hop2
        generalize zSi y2 198 (π p) (jI (min (nA (uR (uR (lw N a i) a ((nR N a).drop i)) a ((nR N a).drop (i + 1))) (368 + 8 * p + 5)) (shareN (uR (uR (lw N a i) a ((nR N a).drop i)) a ((nR N a).drop (i + 1))) a p))) = y3 at cx3 hop3 ⊢
        refine g_aload_n 0 dX4_serveRow_47 rfl rfl ?_
        refine g_dup dX4_serveRow_48 rfl ?_
        refine g_geti (f := 194) dX4_serveRow_49 fl_X4_131 (cx3.1.2.2.2.2.2.1.1 p (liv_mk lvp.1 (by rw [nA_ne (by omega), nA_ne (by omega), nA_ne (by omega)]; exact lvp.2))).2.2 (by decide) rfl ?_
        rw [show zi y3 194 (π p) = jI (nA (uR (uR (lw N a i) a ((nR N a).drop i)) a ((nR N a).drop (i + 1))) (368 + 8 * p + 2)) from hop3]
        refine g_iconst (v := nI 1) dX4_serveRow_52 (by decide) ?_
        refine g_iadd dX4_serveRow_53 ?_
        refine zG.top (show (jI (nA (uR (uR (lw N a i) a ((nR N a).drop i)) a ((nR N a).drop (i + 1))) (368 + 8 * p + 2))) + (nI 1) = jI ((nA (uR (uR (lw N a i) a ((nR N a).drop i)) a ((nR N a).drop (i + 1))) (368 + 8 * p + 2)) + 1) by rw [show nI 1 = jI 1 from (by decide), jI_add]) ?_
        refine g_puti (f := 194) dX4_serveRow_54 fl_X4_131 (Or.inl rfl) (cx3.1.2.2.2.2.2.1.1 p (liv_mk lvp.1 (by rw [nA_ne (by omega), nA_ne (by omega), nA_ne (by omega)]; exact lvp.2))).2.2 rfl ?_
        have cx4 : CX (zSi y3 194 (π p) (jI ((nA (uR (uR (lw N a i) a ((nR N a).drop i)) a ((nR N a).drop (i + 1))) (368 + 8 * p + 2)) + 1))) b π (updF ls' (b + 11 + 7 * a + 1) (((nR N a).drop (i + 1)).map π)) (uA (uA (uA (uR (uR (lw N a i) a ((nR N a).drop i)) a ((nR N a).drop (i + 1))) (8 + 40 * a + 12) (gotN (uR (uR (lw N a i) a ((nR N a).drop i)) a ((nR N a).drop (i + 1))) a p)) (8 + 40 * a + 13) (tookN (uR (uR (lw N a i) a ((nR N a).drop i)) a ((nR N a).drop (i + 1))) a)) (368 + 8 * p + 5) (min (nA (uR (uR (lw N a i) a ((nR N a).drop i)) a ((nR N a).drop (i + 1))) (368 + 8 * p + 5)) (shareN (uR (uR (lw N a i) a ((nR N a).drop i)) a ((nR N a).drop (i + 1))) a p))) [p] t ∧ CSt b (updF ls' (b + 11 + 7 * a + 1) (((nR N a).drop (i + 1)).map π)) y3 (updF ls' (b + 11 + 7 * a + 1) (((nR N a).drop (i + 1)).map π)) (zSi y3 194 (π p) (jI ((nA (uR (uR (lw N a i) a ((nR N a).drop i)) a ((nR N a).drop (i + 1))) (368 + 8 * p + 2)) + 1))) := cx3.1.setHops (liv_mk lvp.1 (by rw [nA_ne (by omega), nA_ne (by omega), nA_ne (by omega)]; exact lvp.2)) nt
        have hop4 : zi (zSi y3 194 (π p) (jI ((nA (uR (uR (lw N a i) a ((nR N a).drop i)) a ((nR N a).drop (i + 1))) (368 + 8 * p + 2)) + 1))) 194 (π p) = jI ((nA (uR (uR (lw N a i) a ((nR N a).drop i)) a ((nR N a).drop (i + 1))) (368 + 8 * p + 2)) + 1) := by rw [zi_Si, if_pos ⟨rfl, rfl⟩]
        generalize zSi y3 194 (π p) (jI ((nA (uR (uR (lw N a i) a ((nR N a).drop i)) a ((nR N a).drop (i + 1))) (368 + 8 * p + 2)) + 1)) = y4 at cx4 hop4 ⊢
        refine g_aload_n 0 dX4_serveRow_57 rfl rfl ?_
        refine g_iload_n 3 dX4_serveRow_58 rfl rfl ?_
        refine g_aload_n 2 dX4_serveRow_59 rfl rfl ?_
        refine g_geti (f := 129) dX4_serveRow_60 fl_X4_63 (cx4.1.1.2.2.2.2.2.2.2.2.1 a a6).2.1 (by decide) rfl ?_
        rw [show zi y4 129 (b + 11 + 7 * a) = jI (nA (uA (uA (uA (uR (uR (lw N a i) a ((nR N a).drop i)) a ((nR N a).drop (i + 1))) (8 + 40 * a + 12) (gotN (uR (uR (lw N a i) a ((nR N a).drop i)) a ((nR N a).drop (i + 1))) a p)) (8 + 40 * a + 13) (tookN (uR (uR (lw N a i) a ((nR N a).drop i)) a ((nR N a).drop (i + 1))) a)) (368 + 8 * p + 5) (min (nA (uR (uR (lw N a i) a ((nR N a).drop i)) a ((nR N a).drop (i + 1))) (368 + 8 * p + 5)) (shareN (uR (uR (lw N a i) a ((nR N a).drop i)) a ((nR N a).drop (i + 1))) a p))) (8 + 40 * a + 1)) from (cx4.1.2.2.2.1 a (by rw [nA_ne (by omega), nA_ne (by omega), nA_ne (by omega)]; exact ha') a6).1 1 (by unfold lkJ; omega)]
        rw [show nA (uA (uA (uA (uR (uR (lw N a i) a ((nR N a).drop i)) a ((nR N a).drop (i + 1))) (8 + 40 * a + 12) (gotN (uR (uR (lw N a i) a ((nR N a).drop i)) a ((nR N a).drop (i + 1))) a p)) (8 + 40 * a + 13) (tookN (uR (uR (lw N a i) a ((nR N a).drop i)) a ((nR N a).drop (i + 1))) a)) (368 + 8 * p + 5) (min (nA (uR (uR (lw N a i) a ((nR N a).drop i)) a ((nR N a).drop (i + 1))) (368 + 8 * p + 5)) (shareN (uR (uR (lw N a i) a ((nR N a).drop i)) a ((nR N a).drop (i + 1))) a p))) (8 + 40 * a + 1) = nA (uR (uR (lw N a i) a ((nR N a).drop i)) a ((nR N a).drop (i + 1))) (8 + 40 * a + 1) by rw [nA_ne (by omega), nA_ne (by omega), nA_ne (by omega)]]
        refine g_iadd dX4_serveRow_63 ?_
        refine zG.top (show (jI (nA N 2)) + (jI (nA (uR (uR (lw N a i) a ((nR N a).drop i)) a ((nR N a).drop (i + 1))) (8 + 40 * a + 1))) = jI ((nA N 2) + (nA (uR (uR (lw N a i) a ((nR N a).drop i)) a ((nR N a).drop (i + 1))) (8 + 40 * a + 1))) by rw [jI_add]) ?_
        refine g_puti (f := 199) dX4_serveRow_64 fl_X4_134 (Or.inl rfl) (cx4.1.2.2.2.2.2.1.1 p (liv_mk lvp.1 (by rw [nA_ne (by omega), nA_ne (by omega), nA_ne (by omega)]; exact lvp.2))).2.2 rfl ?_
        have cx5 : CX (zSi y4 199 (π p) (jI ((nA N 2) + (nA (uR (uR (lw N a i) a ((nR N a).drop i)) a ((nR N a).drop (i + 1))) (8 + 40 * a + 1))))) b π (updF ls' (b + 11 + 7 * a + 1) (((nR N a).drop (i + 1)).map π)) (uA (uA (uA (uA (uR (uR (lw N a i) a ((nR N a).drop i)) a ((nR N a).drop (i + 1))) (8 + 40 * a + 12) (gotN (uR (uR (lw N a i) a ((nR N a).drop i)) a ((nR N a).drop (i + 1))) a p)) (8 + 40 * a + 13) (tookN (uR (uR (lw N a i) a ((nR N a).drop i)) a ((nR N a).drop (i + 1))) a)) (368 + 8 * p + 5) (min (nA (uR (uR (lw N a i) a ((nR N a).drop i)) a ((nR N a).drop (i + 1))) (368 + 8 * p + 5)) (shareN (uR (uR (lw N a i) a ((nR N a).drop i)) a ((nR N a).drop (i + 1))) a p))) (368 + 8 * p + 6) ((nA N 2) + (nA (uR (uR (lw N a i) a ((nR N a).drop i)) a ((nR N a).drop (i + 1))) (8 + 40 * a + 1)))) [p] t ∧ CSt b (updF ls' (b + 11 + 7 * a + 1) (((nR N a).drop (i + 1)).map π)) y4 (updF ls' (b + 11 + 7 * a + 1) (((nR N a).drop (i + 1)).map π)) (zSi y4 199 (π p) (jI ((nA N 2) + (nA (uR (uR (lw N a i) a ((nR N a).drop i)) a ((nR N a).drop (i + 1))) (8 + 40 * a + 1))))) := cx4.1.setDue (liv_mk lvp.1 (by rw [nA_ne (by omega), nA_ne (by omega), nA_ne (by omega)]; exact lvp.2)) nt
        have hop5 : zi (zSi y4 199 (π p) (jI ((nA N 2) + (nA (uR (uR (lw N a i) a ((nR N a).drop i)) a ((nR N a).drop (i + 1))) (8 + 40 * a + 1))))) 194 (π p) = jI (nA (uR (uR (lw N a i) a ((nR N a).drop i)) a ((nR N a).drop (i + 1))) (368 + 8 * p + 2) + 1) := by rw [zi_Si, if_neg (by omega)]; exact hop4
        have due5 : zi (zSi y4 199 (π p) (jI ((nA N 2) + (nA (uR (uR (lw N a i) a ((nR N a).drop i)) a ((nR N a).drop (i + 1))) (8 + 40 * a + 1))))) 199 (π p) = jI ((nA N 2) + (nA (uR (uR (lw N a i) a ((nR N a).drop i)) a ((nR N a).drop (i + 1))) (8 + 40 * a + 1))) := by rw [zi_Si, if_pos ⟨rfl, rfl⟩]
        generalize zSi y4 199 (π p) (jI ((nA N 2) + (nA (uR (uR (lw N a i) a ((nR N a).drop i)) a ((nR N a).drop (i + 1))) (8 + 40 * a + 1)))) = y5 at cx5 hop5 due5 ⊢
        refine g_aload_n 2 dX4_serveRow_67 rfl rfl ?_
        refine g_getr (f := 133) (b := b + 11 + 7 * a + 2) dX4_serveRow_68 fl_X4_18 (cx5.1.1.2.2.2.2.2.2.2.2.1 a a6).2.1 rfl (cx5.1.1.2.2.2.2.2.2.2.2.1 a a6).2.2.2.1.1 ?_
        refine g_aload_n 0 dX4_serveRow_71 rfl rfl ?_
        refine g_invv (M' := mX3_append) (As := [.ref (π p)]) (rest := []) dX4_serveRow_72 ml_X4_96 okX3_append imX3_append seX3_append ⟨(Nat.le_of_ble_eq_true rfl), (Nat.le_of_ble_eq_true rfl)⟩ (ci := 3) rfl rfl (cx5.1.1.2.2.2.2.2.2.2.2.1 a a6).2.2.2.1.2 rfl rfl (Nat.le_of_ble_eq_true rfl) (c_append cx5.1.2.1 (cx5.1.1.iW a6) (cx5.1.2.2.2.2.2.1.1 p (liv_mk lvp.1 (by rw [nA_ne (by omega), nA_ne (by omega), nA_ne (by omega), nA_ne (by omega)]; exact lvp.2))).2 cx5.1.outX) ?_
        rintro _ y6 ⟨rfl, a6_, f6_⟩
        show zG l w mX4_serveRow 75 [(3, .ref (π p)), (2, .int (nI i)), (0, .ref (b + 11 + 7 * a)), (1, .int (jI (nA N 2)))] [] y6 _
        have cx6 := cx5.1.appW (liv_mk lvp.1 (by rw [nA_ne (by omega), nA_ne (by omega), nA_ne (by omega), nA_ne (by omega)]; exact lvp.2)) a6 f6_ a6_ (by rw [nA_ne (by omega), nA_ne (by omega), nA_ne (by omega), nA_ne (by omega)]; exact hop5) (by rw [nA_eq]; exact due5) (by rw [nA_ne (by omega), nA_ne (by omega), nA_ne (by omega), nA_ne (by omega)]; exact pk.2)
        refine g_aload_n 2 dX4_serveRow_75 rfl rfl ?_
        refine g_dup dX4_serveRow_76 rfl ?_
        refine g_geti (f := 143) dX4_serveRow_77 fl_X4_86 (cx6.1.1.2.2.2.2.2.2.2.2.1 a a6).2.1 (by decide) rfl ?_
        rw [show zi y6 143 (b + 11 + 7 * a) = jI (nA (uW (uA (uA (uA (uA (uR (uR (lw N a i) a ((nR N a).drop i)) a ((nR N a).drop (i + 1))) (8 + 40 * a + 12) (gotN (uR (uR (lw N a i) a ((nR N a).drop i)) a ((nR N a).drop (i + 1))) a p)) (8 + 40 * a + 13) (tookN (uR (uR (lw N a i) a ((nR N a).drop i)) a ((nR N a).drop (i + 1))) a)) (368 + 8 * p + 5) (min (nA (uR (uR (lw N a i) a ((nR N a).drop i)) a ((nR N a).drop (i + 1))) (368 + 8 * p + 5)) (shareN (uR (uR (lw N a i) a ((nR N a).drop i)) a ((nR N a).drop (i + 1))) a p))) (368 + 8 * p + 6) ((nA N 2) + (nA (uR (uR (lw N a i) a ((nR N a).drop i)) a ((nR N a).drop (i + 1))) (8 + 40 * a + 1)))) a (nW (uA (uA (uA (uA (uR (uR (lw N a i) a ((nR N a).drop i)) a ((nR N a).drop (i + 1))) (8 + 40 * a + 12) (gotN (uR (uR (lw N a i) a ((nR N a).drop i)) a ((nR N a).drop (i + 1))) a p)) (8 + 40 * a + 13) (tookN (uR (uR (lw N a i) a ((nR N a).drop i)) a ((nR N a).drop (i + 1))) a)) (368 + 8 * p + 5) (min (nA (uR (uR (lw N a i) a ((nR N a).drop i)) a ((nR N a).drop (i + 1))) (368 + 8 * p + 5)) (shareN (uR (uR (lw N a i) a ((nR N a).drop i)) a ((nR N a).drop (i + 1))) a p))) (368 + 8 * p + 6) ((nA N 2) + (nA (uR (uR (lw N a i) a ((nR N a).drop i)) a ((nR N a).drop (i + 1))) (8 + 40 * a + 1)))) a ++ [p])) (8 + 40 * a + 16)) from (cx6.1.2.2.2.1 a (by rw [nA_uW, nA_ne (by omega), nA_ne (by omega), nA_ne (by omega), nA_ne (by omega)]; exact ha') a6).1 16 (by unfold lkJ; omega)]
        rw [show nA (uW (uA (uA (uA (uA (uR (uR (lw N a i) a ((nR N a).drop i)) a ((nR N a).drop (i + 1))) (8 + 40 * a + 12) (gotN (uR (uR (lw N a i) a ((nR N a).drop i)) a ((nR N a).drop (i + 1))) a p)) (8 + 40 * a + 13) (tookN (uR (uR (lw N a i) a ((nR N a).drop i)) a ((nR N a).drop (i + 1))) a)) (368 + 8 * p + 5) (min (nA (uR (uR (lw N a i) a ((nR N a).drop i)) a ((nR N a).drop (i + 1))) (368 + 8 * p + 5)) (shareN (uR (uR (lw N a i) a ((nR N a).drop i)) a ((nR N a).drop (i + 1))) a p))) (368 + 8 * p + 6) ((nA N 2) + (nA (uR (uR (lw N a i) a ((nR N a).drop i)) a ((nR N a).drop (i + 1))) (8 + 40 * a + 1)))) a (nW (uA (uA (uA (uA (uR (uR (lw N a i) a ((nR N a).drop i)) a ((nR N a).drop (i + 1))) (8 + 40 * a + 12) (gotN (uR (uR (lw N a i) a ((nR N a).drop i)) a ((nR N a).drop (i + 1))) a p)) (8 + 40 * a + 13) (tookN (uR (uR (lw N a i) a ((nR N a).drop i)) a ((nR N a).drop (i + 1))) a)) (368 + 8 * p + 5) (min (nA (uR (uR (lw N a i) a ((nR N a).drop i)) a ((nR N a).drop (i + 1))) (368 + 8 * p + 5)) (shareN (uR (uR (lw N a i) a ((nR N a).drop i)) a ((nR N a).drop (i + 1))) a p))) (368 + 8 * p + 6) ((nA N 2) + (nA (uR (uR (lw N a i) a ((nR N a).drop i)) a ((nR N a).drop (i + 1))) (8 + 40 * a + 1)))) a ++ [p])) (8 + 40 * a + 16) = nA (uR (uR (lw N a i) a ((nR N a).drop i)) a ((nR N a).drop (i + 1))) (8 + 40 * a + 16) by rw [nA_uW, nA_ne (by omega), nA_ne (by omega), nA_ne (by omega), nA_ne (by omega)]]
        refine g_iconst (v := nI 1) dX4_serveRow_80 (by decide) ?_
        refine g_iadd dX4_serveRow_81 ?_
        refine zG.top (show (jI (nA (uR (uR (lw N a i) a ((nR N a).drop i)) a ((nR N a).drop (i + 1))) (8 + 40 * a + 16))) + (nI 1) = jI ((nA (uR (uR (lw N a i) a ((nR N a).drop i)) a ((nR N a).drop (i + 1))) (8 + 40 * a + 16)) + 1) by rw [show nI 1 = jI 1 from (by decide), jI_add]) ?_
        refine g_puti (f := 143) dX4_serveRow_82 fl_X4_86 (Or.inl rfl) (cx6.1.1.2.2.2.2.2.2.2.2.1 a a6).2.1 rfl ?_
        have cx7 : CX (zSi y6 143 (b + 11 + 7 * a) (jI ((nA (uR (uR (lw N a i) a ((nR N a).drop i)) a ((nR N a).drop (i + 1))) (8 + 40 * a + 16)) + 1))) b π (updF (updF ls' (b + 11 + 7 * a + 1) (((nR N a).drop (i + 1)).map π)) (b + 11 + 7 * a + 2) ((updF ls' (b + 11 + 7 * a + 1) (((nR N a).drop (i + 1)).map π)) (b + 11 + 7 * a + 2) ++ [π p])) (uA (uW (uA (uA (uA (uA (uR (uR (lw N a i) a ((nR N a).drop i)) a ((nR N a).drop (i + 1))) (8 + 40 * a + 12) (gotN (uR (uR (lw N a i) a ((nR N a).drop i)) a ((nR N a).drop (i + 1))) a p)) (8 + 40 * a + 13) (tookN (uR (uR (lw N a i) a ((nR N a).drop i)) a ((nR N a).drop (i + 1))) a)) (368 + 8 * p + 5) (min (nA (uR (uR (lw N a i) a ((nR N a).drop i)) a ((nR N a).drop (i + 1))) (368 + 8 * p + 5)) (shareN (uR (uR (lw N a i) a ((nR N a).drop i)) a ((nR N a).drop (i + 1))) a p))) (368 + 8 * p + 6) ((nA N 2) + (nA (uR (uR (lw N a i) a ((nR N a).drop i)) a ((nR N a).drop (i + 1))) (8 + 40 * a + 1)))) a (nW (uA (uA (uA (uA (uR (uR (lw N a i) a ((nR N a).drop i)) a ((nR N a).drop (i + 1))) (8 + 40 * a + 12) (gotN (uR (uR (lw N a i) a ((nR N a).drop i)) a ((nR N a).drop (i + 1))) a p)) (8 + 40 * a + 13) (tookN (uR (uR (lw N a i) a ((nR N a).drop i)) a ((nR N a).drop (i + 1))) a)) (368 + 8 * p + 5) (min (nA (uR (uR (lw N a i) a ((nR N a).drop i)) a ((nR N a).drop (i + 1))) (368 + 8 * p + 5)) (shareN (uR (uR (lw N a i) a ((nR N a).drop i)) a ((nR N a).drop (i + 1))) a p))) (368 + 8 * p + 6) ((nA N 2) + (nA (uR (uR (lw N a i) a ((nR N a).drop i)) a ((nR N a).drop (i + 1))) (8 + 40 * a + 1)))) a ++ [p])) (8 + 40 * a + 16) ((nA (uR (uR (lw N a i) a ((nR N a).drop i)) a ((nR N a).drop (i + 1))) (8 + 40 * a + 16)) + 1)) [] t ∧ CSt b (updF (updF ls' (b + 11 + 7 * a + 1) (((nR N a).drop (i + 1)).map π)) (b + 11 + 7 * a + 2) ((updF ls' (b + 11 + 7 * a + 1) (((nR N a).drop (i + 1)).map π)) (b + 11 + 7 * a + 2) ++ [π p])) y6 (updF (updF ls' (b + 11 + 7 * a + 1) (((nR N a).drop (i + 1)).map π)) (b + 11 + 7 * a + 2) ((updF ls' (b + 11 + 7 * a + 1) (((nR N a).drop (i + 1)).map π)) (b + 11 + 7 * a + 2) ++ [π p])) (zSi y6 143 (b + 11 + 7 * a) (jI ((nA (uR (uR (lw N a i) a ((nR N a).drop i)) a ((nR N a).drop (i + 1))) (8 + 40 * a + 16)) + 1))) := cx6.1.setL (j := 16) a6 (by unfold lkJ; omega) (by omega)
        generalize zSi y6 143 (b + 11 + 7 * a) (jI ((nA (uR (uR (lw N a i) a ((nR N a).drop i)) a ((nR N a).drop (i + 1))) (8 + 40 * a + 16)) + 1)) = y7 at cx7 ⊢
        refine g_inc (v := nI (i + 1)) (lv2 := [(2, .int (nI (i + 1))), (3, .ref (π p)), (0, .ref (b + 11 + 7 * a)), (1, .int (jI (nA N 2)))]) 1 dX4_serveRow_85 rfl (nI_add _ 1) (by decide) rfl ?_
        refine g_goto (tgt := 2) dX4_serveRow_88 (by decide) ?_
        refine zG.sub [0, 2, 3] rfl (ih (i + 1) (by omega) y7 _ ?_ (((((((s'.tr k1.2).tr s2).tr cx3.2).tr cx4.2).tr cx5.2).tr cx6.2).tr cx7.2))
        have z := cx7.1
        rw [lw_succ hp]
        rw [uA_swap (k := 8 + 40 * a + 13) (j := 368 + 8 * p + 5) (by omega), uA_swap (k := 8 + 40 * a + 12) (j := 368 + 8 * p + 5) (by omega), uR_uR] at z
        rw [← e2] at z
        exact z
  refine g_iconst (v := nI 0) dX4_serveRow_0 (by decide) ?_
  refine g_istore_n (lv2 := [(2, .int (nI 0)), (0, .ref (b + 11 + 7 * a)), (1, .int (jI (nA N 2)))]) dX4_serveRow_1 rfl (by decide) rfl ?_
  refine zG.sub [0, 1, 2] rfl (loop _ 0 (Nat.zero_add _) h ls ?_ CSt.rf)
  have z := c
  rw [← show uR (lw N a 0) a ((nR N a).drop 0) = N from by unfold lw; rw [List.take_zero, List.drop_zero]; exact uR_nR N a] at z
  exact z
end CZ4
