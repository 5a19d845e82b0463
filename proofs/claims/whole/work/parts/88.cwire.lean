section CY9
variable {l : Launch} {w : zW} {h : zH} {b : Nat} {π : Nat → Nat} {ls : Nat → List Nat} {N : nT} {a : Nat} {t : Nat}
theorem c_emptyWire (c : CX h b π ls N [] t) (hI : iN [] N) (a6 : a < 6) (hl : (nW N a).length ≤ 90) (hs : nW N a = ((nW N a).filter fun p => decide (nA N (368 + 8 * p + 6) = nA N 2)) ++ (nW N a).filter fun p => !decide (nA N (368 + 8 * p + 6) = nA N 2)) (hdue : ∀ p, p ∈ nW N a → 0 ≤ nA N (368 + 8 * p + 6) ∧ nA N (368 + 8 * p + 6) < 100000) : zM l w mX5_emptyWire [.ref b, .ref (b + 11 + 7 * a + 2)] h (fun v h1 => v = none ∧ ∃ ls1, CX h1 b π ls1 (wireN N a) [] t ∧ CSt b ls h ls1 h1) := by
  refine zM.of (by decide) (Nat.le_of_ble_eq_true rfl) ?_
  have l90 := hl
  have H1 := hI.H.2.1
  have tb := hI.H.2.2.1
  have loop : ∀ n i : Nat, i + n = (nW N a).length → wrK N a i = [] → ∀ (h' : zH) (ls' : Nat → List Nat), CX h' b π ls' (uW (wrM N a i) a ((nW N a).drop i)) [] t → CSt b ls h ls' h' → zG l w mX5_emptyWire 5 [(2, .int (nI n)), (0, .ref b), (1, .ref (b + 11 + 7 * a + 2))] [] h' (fun v h1 => v = none ∧ ∃ ls1, CX h1 b π ls1 (wireN N a) [] t ∧ CSt b ls h ls1 h1) := by
    intro n
    induction n with
    | zero =>
      intro i hi hk h' ls' c' s'
      refine g_iload_n 0 dX5_emptyWire_5 rfl rfl ?_
      refine g_zif_le (a := 0) (tgt := 61) (by decide) dX5_emptyWire_6 (by decide) (by omega) (fun q => ?_) (fun q => ?_)
      · refine g_return dX5_emptyWire_61 rfl ?_
        have ei : i = (nW N a).length := by omega
        refine ⟨rfl, ls', ?_, s'⟩
        rw [← wr_last (by rw [← ei]; exact hk), ← ei]
        exact c'
      · exact absurd q (by omega)
    | succ n ih =>
      intro i hi hk h' ls' c' s'
      obtain ⟨p, hp⟩ : ∃ p, (nW N a)[i]? = some p := ⟨_, List.getElem?_eq_getElem (by omega)⟩
      have W0 := wr_in hI a6 i
      rw [hk, List.append_nil] at W0
      have hdr := drop_some hp
      have hW : nW (uW (wrM N a i) a ((nW N a).drop i)) a = p :: (nW N a).drop (i + 1) := by rw [nW_uW, if_pos rfl, hdr]
      have hm : p ∈ nW (uW (wrM N a i) a ((nW N a).drop i)) a := by rw [hW]; exact List.mem_cons_self
      have hI1 := W0.1.offW a6 hW
      have hop := W0.1.O a a6 p (Or.inr hm)
      have hI2 := hI1.hop hop
      have h6 : nA (uW (wrM N a i) a ((nW N a).drop i)) (368 + 8 * p + 6) = nA N (368 + 8 * p + 6) := W0.2.2.2 p hm
      have h2 : nA (uW (wrM N a i) a ((nW N a).drop i)) 2 = nA N 2 := W0.2.1 2 (Or.inr rfl)
      have pb := hdue p (List.mem_of_getElem? hp)
      have eL : ls' (b + 11 + 7 * a + 2) = π p :: ((nW N a).drop (i + 1)).map π := by rw [(c'.2.2.2.2.2.1.2.2.2.1 a a6).2.1, hW, List.map_cons]
      have pk := (c'.2.2.2.2.2.1.2.2.2.1 a a6).2.2.2 p hm
      have fst : zr h' 96 (b + 11 + 7 * a + 2) = some (π p) := by rw [(c'.2.1.1 _ (c'.1.iW a6)).1, eL]; rfl
      have d0 : zi h' 199 (π p) = jI (nA N (368 + 8 * p + 6)) := by rw [pk.2.1, h6]
      have n0 : zi h' 164 b = jI (nA N 2) := by rw [c'.2.2.1.2.2.1, h2]
      have lvp := W0.1.C.memW a6 hm
      refine g_iload_n 0 dX5_emptyWire_5 rfl rfl ?_
      refine g_zif_le (a := ((n + 1 : Nat) : Int)) (tgt := 61) (jI_nat (n + 1)).symm dX5_emptyWire_6 (by decide) (by omega) (fun q => ?_) (fun q => ?_)
      · exact absurd q (by omega)
      · refine g_aload_n 2 dX5_emptyWire_9 rfl rfl ?_
        refine g_getr (f := 96) (b := π p) dX5_emptyWire_10 fl_X5_99 (c'.1.2.2.2.2.2.2.2.2.1 a a6).2.2.2.1.2 rfl fst ?_
        refine g_ifnull dX5_emptyWire_13 ?_
        refine g_aload_n 2 dX5_emptyWire_16 rfl rfl ?_
        refine g_getr (f := 96) (b := π p) dX5_emptyWire_17 fl_X5_99 (c'.1.2.2.2.2.2.2.2.2.1 a a6).2.2.2.1.2 rfl fst ?_
        refine g_geti (f := 199) dX5_emptyWire_20 fl_X5_166 (c'.2.2.2.2.2.1.1 p lvp).2.2 (by decide) rfl ?_
        rw [show zi h' 199 (π p) = jI (nA N (368 + 8 * p + 6)) from d0]
        refine g_aload_n 1 dX5_emptyWire_23 rfl rfl ?_
        refine g_geti (f := 164) dX5_emptyWire_24 fl_X5_56 c'.1.1.2 (by decide) rfl ?_
        rw [show zi h' 164 b = jI (nA N 2) from n0]
        refine g_zcmp_eq (a := (nA N (368 + 8 * p + 6))) (b := (nA N 2)) (tgt := 33) rfl rfl dX5_emptyWire_27 (by decide) (by omega) (by omega) (fun d => ?_) (fun d => ?_)
        · refine g_aload_n 2 dX5_emptyWire_33 rfl rfl ?_
          refine g_invv (M' := mX3_takeFirst) (As := []) (rest := []) dX5_emptyWire_34 ml_X5_118 okX3_takeFirst imX3_takeFirst seX3_takeFirst ⟨(Nat.le_of_ble_eq_true rfl), (Nat.le_of_ble_eq_true rfl)⟩ (ci := 3) rfl rfl (c'.1.2.2.2.2.2.2.2.2.1 a a6).2.2.2.1.2 rfl rfl (Nat.le_of_ble_eq_true rfl) (c_takeFirst c'.2.1 (c'.1.iW a6) eL) ?_
          rintro _ y1 ⟨rfl, t1, f1⟩
          show zG l w mX5_emptyWire 37 [(2, .int (nI (n + 1))), (0, .ref b), (1, .ref (b + 11 + 7 * a + 2))] [.ref (π p)] y1 _
          have k1 := c'.takeW a6 hW f1 t1
          have k2 : CX y1 b π (updF ls' (b + 11 + 7 * a + 2) (((nW N a).drop (i + 1)).map π)) (uA (uW (uW (wrM N a i) a ((nW N a).drop i)) a ((nW N a).drop (i + 1))) (368 + 8 * p + 2) (nA (uW (uW (wrM N a i) a ((nW N a).drop i)) a ((nW N a).drop (i + 1))) (368 + 8 * p + 2) + 1)) [p] t := k1.1.setHopN hI1.lv hI1.nt
          have lv2 := hI2.lv
          have q2 := hI2.fl lv2.1 lv2.2
          have hfl := q2.1
          have hf := q2.2.1
          have f6 := q2.2.2
          have H12 := hI2.H.2.1
          have hh : zi y1 194 (π p) = jI (nA (uA (uW (uW (wrM N a i) a ((nW N a).drop i)) a ((nW N a).drop (i + 1))) (368 + 8 * p + 2) (nA (uW (uW (wrM N a i) a ((nW N a).drop i)) a ((nW N a).drop (i + 1))) (368 + 8 * p + 2) + 1)) (368 + 8 * p + 2)) := by rw [nA_eq, f1.2.2.2.2.1 194 _ (by omega), pk.1]; rfl
          have h7 : nA (uA (uW (uW (wrM N a i) a ((nW N a).drop i)) a ((nW N a).drop (i + 1))) (368 + 8 * p + 2) (nA (uW (uW (wrM N a i) a ((nW N a).drop i)) a ((nW N a).drop (i + 1))) (368 + 8 * p + 2) + 1)) (368 + 8 * p + 7) = 0 := by rw [nA_ne (by omega)]; exact pk.2.2
          have p4 := (W0.1.F _ (W0.1.fl lvp.1 lvp.2).2.1).1
          have ga : goN (uA (uW (uW (wrM N a i) a ((nW N a).drop i)) a ((nW N a).drop (i + 1))) (368 + 8 * p + 2) (nA (uW (uW (wrM N a i) a ((nW N a).drop i)) a ((nW N a).drop (i + 1))) (368 + 8 * p + 2) + 1)) p = arrN (uW (uW (wrM N a i) a ((nW N a).drop i)) a ((nW N a).drop (i + 1))) p := go_arr (W0.1.fl lvp.1 lvp.2).2.2 (by show nA (uW (wrM N a i) a ((nW N a).drop i)) (368 + 8 * p + 2) + 1 ≤ 4; omega)
          have G := c_goOn (l := l) (w := w) k2 hI2 hh h7
          rw [ga] at G
          generalize flN (uA (uW (uW (wrM N a i) a ((nW N a).drop i)) a ((nW N a).drop (i + 1))) (368 + 8 * p + 2) (nA (uW (uW (wrM N a i) a ((nW N a).drop i)) a ((nW N a).drop (i + 1))) (368 + 8 * p + 2) + 1)) p = f at hfl hf f6 G
          refine g_astore_n (lv2 := [(3, .ref (π p)), (2, .int (nI (n + 1))), (0, .ref b), (1, .ref (b + 11 + 7 * a + 2))]) dX5_emptyWire_37 rfl (by decide) rfl ?_
          refine g_aload_n 0 dX5_emptyWire_38 rfl rfl ?_
          refine g_ifnull dX5_emptyWire_39 ?_
          refine g_aload_n 2 dX5_emptyWire_42 rfl rfl ?_
          refine g_aload_n 0 dX5_emptyWire_43 rfl rfl ?_
          refine g_aload_n 2 dX5_emptyWire_44 rfl rfl ?_
          refine g_aload_n 0 dX5_emptyWire_45 rfl rfl ?_
          refine g_geti (f := 192) dX5_emptyWire_46 fl_X5_172 (k2.2.2.2.2.2.1.1 p lv2).2.2 (by decide) rfl ?_
          rw [show zi y1 192 (π p) = nI f from (by rw [(k2.2.2.2.2.2.1.1 p lv2).1.1, hfl, Int.add_sub_cancel, jI_nat])]
          refine g_invv (M' := mX5_flowAt) (As := [.int (nI f)]) (rest := [.ref (π p), .ref b]) dX5_emptyWire_49 ml_X5_175 okX5_flowAt imX5_flowAt seX5_flowAt ⟨(Nat.le_of_ble_eq_true rfl), (Nat.le_of_ble_eq_true rfl)⟩ (ci := 5) rfl rfl k2.1.1.2 rfl rfl (Nat.le_of_ble_eq_true rfl) (c_flowIn k2 H12 hf) ?_
          rintro _ q1 ⟨rfl, eq1⟩
          subst q1
          show zG l w mX5_emptyWire 52 [(3, .ref (π p)), (2, .int (nI (n + 1))), (0, .ref b), (1, .ref (b + 11 + 7 * a + 2))] [.ref (b + 53 + 2 * f), .ref (π p), .ref b] y1 _
          refine g_invv (M' := mX5_goOn) (As := [.ref (π p), .ref (b + 53 + 2 * f)]) (rest := []) dX5_emptyWire_52 ml_X5_191 okX5_goOn imX5_goOn seX5_goOn ⟨(Nat.le_of_ble_eq_true rfl), (Nat.le_of_ble_eq_true rfl)⟩ (ci := 5) rfl rfl k2.1.1.2 rfl rfl (Nat.le_of_ble_eq_true rfl) G ?_
          rintro _ y2 ⟨rfl, ls2, cx2, sx2⟩
          show zG l w mX5_emptyWire 55 [(3, .ref (π p)), (2, .int (nI (n + 1))), (0, .ref b), (1, .ref (b + 11 + 7 * a + 2))] [] y2 _
          have e := wrK_due hp d
          refine g_inc (v := nI n) (lv2 := [(2, .int (nI n)), (3, .ref (π p)), (0, .ref b), (1, .ref (b + 11 + 7 * a + 2))]) 1 dX5_emptyWire_55 rfl (nI_dec n) (by decide) rfl ?_
          refine g_goto (tgt := 5) dX5_emptyWire_58 (by decide) ?_
          refine zG.sub [0, 2, 3] rfl (ih (i + 1) (by omega) (by rw [e.2]; exact hk) y2 _ ?_ ((s'.tr k1.2).tr sx2))
          rw [e.1]
          have z := cx2
          rw [arrN_uW, arrN_uW, uW_uW] at z
          exact z
        · refine g_goto (tgt := 61) dX5_emptyWire_30 (by decide) ?_
          refine g_return dX5_emptyWire_61 rfl ?_
          refine ⟨rfl, ls', ?_, s'⟩
          rw [← wr_stop hs hk hp d]
          exact c'
  have eS : (ls (b + 11 + 7 * a + 2)).length = (nW N a).length := by rw [(c.2.2.2.2.2.1.2.2.2.1 a a6).2.1, List.length_map]
  refine g_aload_n 1 dX5_emptyWire_0 rfl rfl ?_
  refine g_geti (f := 98) dX5_emptyWire_1 fl_X5_163 (c.1.2.2.2.2.2.2.2.2.1 a a6).2.2.2.1.2 (by decide) rfl ?_
  rw [show zi h 98 (b + 11 + 7 * a + 2) = nI (ls (b + 11 + 7 * a + 2)).length from (c.2.1.1 _ (c.1.iW a6)).2.2.1]
  rw [eS]
  refine g_istore_n (lv2 := [(2, .int (nI (nW N a).length)), (0, .ref b), (1, .ref (b + 11 + 7 * a + 2))]) dX5_emptyWire_4 rfl (by decide) rfl ?_
  refine zG.sub [0, 1, 2] rfl (loop _ 0 (Nat.zero_add _) (by unfold wrK; rw [List.take_zero]; rfl) h ls ?_ CSt.rf)
  have z := c
  rw [← show uW (wrM N a 0) a ((nW N a).drop 0) = N from by unfold wrM; rw [List.take_zero, List.drop_zero]; exact uW_nW N a] at z
  exact z
end CY9
