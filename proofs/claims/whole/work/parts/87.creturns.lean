section CY8
variable {l : Launch} {w : zW} {h : zH} {b : Nat} {π : Nat → Nat} {ls : Nat → List Nat} {N : nT} {X : List Nat} {t : Nat}
theorem c_takeReturn {x : Nat} (c : CX h b π ls N [x] t) (hI : iN [x] N) : zM l w mX5_takeReturn [.ref b, .ref (π x)] h (fun v h1 => v = none ∧ ∃ ls1, CX h1 b π ls1 (retN N x) [] t ∧ CSt b ls h ls1 h1) := by
  refine zM.of (by decide) (Nat.le_of_ble_eq_true rfl) ?_
  have hx := hI.lv
  have hn := hI.nt
  have H1 := hI.H.2.1
  have H7 := hI.H.2.2.2
  have q0 := hI.fl hx.1 hx.2
  have hfl := q0.1
  have hf := q0.2.1
  have f6 := q0.2.2
  have P := hI.P x hx.1 hx.2
  have F0 := hI.F _ hf
  have Y0 := hI.Y _ f6
  have rn := retN_note (N := N) (p := x) f6 (by have q := F0.2.2.2.2.2.1; omega)
  rw [rn]
  generalize flN N x = f at hfl hf f6 F0 Y0 ⊢
  have F1 := F0.2.2.1
  have x480 := hx.1
  refine g_aload_n 0 dX5_takeReturn_0 rfl rfl ?_
  refine g_aload_n 1 dX5_takeReturn_1 rfl rfl ?_
  refine g_geti (f := 192) dX5_takeReturn_2 fl_X5_172 (c.2.2.2.2.2.1.1 x hx).2.2 (by decide) rfl ?_
  rw [show zi h 192 (π x) = nI f from (by rw [(c.2.2.2.2.2.1.1 x hx).1.1, hfl, Int.add_sub_cancel, jI_nat])]
  refine g_invv (M' := mX5_flowAt) (As := [.int (nI f)]) (rest := []) dX5_takeReturn_5 ml_X5_175 okX5_flowAt imX5_flowAt seX5_flowAt ⟨(Nat.le_of_ble_eq_true rfl), (Nat.le_of_ble_eq_true rfl)⟩ (ci := 5) rfl rfl c.1.1.2 rfl rfl (Nat.le_of_ble_eq_true rfl) (c_flowIn c H1 hf) ?_
  rintro _ q1 ⟨rfl, eq1⟩
  subst q1
  show zG l w mX5_takeReturn 8 [(0, .ref b), (1, .ref (π x))] [.ref (b + 53 + 2 * f)] h _
  refine g_astore_n (lv2 := [(2, .ref (b + 53 + 2 * f)), (0, .ref b), (1, .ref (π x))]) dX5_takeReturn_8 rfl (by decide) rfl ?_
  refine g_aload_n 0 dX5_takeReturn_9 rfl rfl ?_
  refine g_ifnull dX5_takeReturn_10 ?_
  refine g_aload_n 0 dX5_takeReturn_13 rfl rfl ?_
  refine g_aload_n 2 dX5_takeReturn_14 rfl rfl ?_
  refine g_aload_n 1 dX5_takeReturn_15 rfl rfl ?_
  refine g_geti (f := 164) dX5_takeReturn_16 fl_X5_56 c.1.1.2 (by decide) rfl ?_
  rw [show zi h 164 b = jI (nA N 2) from c.2.2.1.2.2.1]
  refine g_aload_n 1 dX5_takeReturn_19 rfl rfl ?_
  refine g_geti (f := 171) dX5_takeReturn_20 fl_X5_65 c.1.1.2 (by decide) rfl ?_
  rw [show zi h 171 b = jI (nA N 7) from c.2.2.1.2.2.2.2]
  refine g_invv (M' := mX2_noteReturn) (As := [.ref (π x), .int (jI (nA N 2)), .int (jI (nA N 7))]) (rest := []) dX5_takeReturn_23 ml_X5_179 okX2_noteReturn imX2_noteReturn seX2_noteReturn ⟨(Nat.le_of_ble_eq_true rfl), (Nat.le_of_ble_eq_true rfl)⟩ (ci := 2) rfl rfl (c.1.2.2.2.2.2.2.2.2.2 f f6).2.1 rfl rfl (Nat.le_of_ble_eq_true rfl) (c_noteReturn c hf f6 hx F0 P H7) ?_
  rintro _ y2 ⟨rfl, cx2, sx2⟩
  show zG l w mX5_takeReturn 26 [(2, .ref (b + 53 + 2 * f)), (0, .ref b), (1, .ref (π x))] [] y2 _
  have hx2 : liv (noteN N f x) x := liv_mk hx.1 (by rw [noteN_ne (by omega)]; exact hx.2)
  have hfl2 : nA (noteN N f x) (368 + 8 * x + 0) = (f : Int) + 1 := by rw [noteN_ne (by omega)]; exact hfl
  have hf2 : (f : Int) < nA (noteN N f x) 1 := by rw [noteN_ne (by omega)]; exact hf
  have n1 := noteN_1 (N := N) (f := f) (x := x)
  have n6 := noteN_6 (N := N) (f := f) (x := x)
  have nL := noteN_L (N := N) (f := f) (x := x)
  have hn2 := ntin_L hn nL.1 nL.2.1 nL.2.2.1
  refine g_aload_n 0 dX5_takeReturn_26 rfl rfl ?_
  refine g_invv (M' := mX2_isThrough) (As := []) (rest := []) dX5_takeReturn_27 ml_X5_183 okX2_isThrough imX2_isThrough seX2_isThrough ⟨(Nat.le_of_ble_eq_true rfl), (Nat.le_of_ble_eq_true rfl)⟩ (ci := 2) rfl rfl (cx2.1.2.2.2.2.2.2.2.2.2 f f6).2.1 rfl rfl (Nat.le_of_ble_eq_true rfl) (c_thruF cx2 hf2 f6 (by rw [n1]; split <;> omega) (by rw [n6]; omega)) ?_
  rintro _ q3 ⟨rfl, eq3⟩
  subst q3
  show zG l w mX5_takeReturn 30 [(2, .ref (b + 53 + 2 * f)), (0, .ref b), (1, .ref (π x))] [.int (bI (decide (nA (noteN N f x) (248 + 20 * f + 1) = 0 ∧ nA (noteN N f x) (248 + 20 * f + 6) = 0)))] y2 _
  refine g_bif_eq (tgt := 50) dX5_takeReturn_30 (by decide) (fun q => ?_) (fun q => ?_)
  · have q := of_decide_eq_false q
    rw [n1, n6] at q
    refine g_aload_n 1 dX5_takeReturn_50 rfl rfl ?_
    refine g_getr (f := 166) (b := b + 4) dX5_takeReturn_51 fl_X5_30 cx2.1.1.2 rfl cx2.1.2.2.2.2.1.1 ?_
    refine g_aload_n 2 dX5_takeReturn_54 rfl rfl ?_
    refine g_invv (M' := mX3_append) (As := [.ref (π x)]) (rest := []) dX5_takeReturn_55 ml_X5_112 okX3_append imX3_append seX3_append ⟨(Nat.le_of_ble_eq_true rfl), (Nat.le_of_ble_eq_true rfl)⟩ (ci := 3) rfl rfl cx2.1.2.2.2.2.1.2 rfl rfl (Nat.le_of_ble_eq_true rfl) (c_append cx2.2.1 cx2.1.iS (cx2.2.2.2.2.2.1.1 x hx2).2 cx2.outX) ?_
    rintro _ y4 ⟨rfl, ap4, fp4⟩
    show zG l w mX5_takeReturn 58 [(2, .ref (b + 53 + 2 * f)), (0, .ref b), (1, .ref (π x))] [] y4 _
    have cx4 := cx2.kill hx2 hn2.1 hn2.2 fp4 ap4
    refine g_return dX5_takeReturn_58 rfl ?_
    refine ⟨rfl, _, ?_, ((CSt.rf.tr sx2).tr cx4.2)⟩
    rw [if_neg (fun z => q (by rw [if_neg z.1]; exact z.2))]
    exact cx4.1
  · have q := of_decide_eq_true q
    rw [n1, n6] at q
    refine g_aload_n 1 dX5_takeReturn_33 rfl rfl ?_
    refine g_getr (f := 168) (b := b + 5) dX5_takeReturn_34 fl_X5_36 cx2.1.1.2 rfl cx2.1.2.2.2.2.2.1.1 ?_
    refine g_iconst (v := nI 4) dX5_takeReturn_37 (by decide) ?_
    refine g_aload_n 1 dX5_takeReturn_38 rfl rfl ?_
    refine g_geti (f := 164) dX5_takeReturn_39 fl_X5_56 cx2.1.1.2 (by decide) rfl ?_
    rw [show zi y2 164 b = jI (nA (noteN N f x) 2) from cx2.2.2.1.2.2.1]
    refine g_iconst (v := (-1)) dX5_takeReturn_42 (by decide) ?_
    refine g_aload_n 2 dX5_takeReturn_43 rfl rfl ?_
    refine g_geti (f := 192) dX5_takeReturn_44 fl_X5_172 (cx2.2.2.2.2.2.1.1 x hx2).2.2 (by decide) rfl ?_
    rw [show zi y2 192 (π x) = nI f from (by rw [(cx2.2.2.2.2.2.1.1 x hx2).1.1, hfl2, Int.add_sub_cancel, jI_nat])]
    refine g_invv (M' := mX1_add) (As := [.int (nI 4), .int (jI (nA (noteN N f x) 2)), .int (-1), .int (nI f)]) (rest := []) dX5_takeReturn_47 ml_X5_187 okX1_add imX1_add seX1_add ⟨(Nat.le_of_ble_eq_true rfl), (Nat.le_of_ble_eq_true rfl)⟩ (ci := 1) rfl rfl cx2.1.2.2.2.2.2.1.2 rfl rfl (Nat.le_of_ble_eq_true rfl) (c_evM cx2 (k := 4) (f := f) (by rw [nL.2.2.2]; exact hI.E.1)) ?_
    rintro _ y5 ⟨rfl, cx5, sx5⟩
    show zG l w mX5_takeReturn 50 [(2, .ref (b + 53 + 2 * f)), (0, .ref b), (1, .ref (π x))] [] y5 _
    refine g_aload_n 1 dX5_takeReturn_50 rfl rfl ?_
    refine g_getr (f := 166) (b := b + 4) dX5_takeReturn_51 fl_X5_30 cx5.1.1.2 rfl cx5.1.2.2.2.2.1.1 ?_
    refine g_aload_n 2 dX5_takeReturn_54 rfl rfl ?_
    refine g_invv (M' := mX3_append) (As := [.ref (π x)]) (rest := []) dX5_takeReturn_55 ml_X5_112 okX3_append imX3_append seX3_append ⟨(Nat.le_of_ble_eq_true rfl), (Nat.le_of_ble_eq_true rfl)⟩ (ci := 3) rfl rfl cx5.1.2.2.2.2.1.2 rfl rfl (Nat.le_of_ble_eq_true rfl) (c_append cx5.2.1 cx5.1.iS (cx5.2.2.2.2.2.1.1 x (liv_mk hx2.1 (by rw [nA_ev]; exact hx2.2))).2 cx5.outX) ?_
    rintro _ y6 ⟨rfl, ap6, fp6⟩
    show zG l w mX5_takeReturn 58 [(2, .ref (b + 53 + 2 * f)), (0, .ref b), (1, .ref (π x))] [] y6 _
    have cx6 := cx5.kill (liv_mk hx2.1 (by rw [nA_ev]; exact hx2.2)) hn2.1 hn2.2 fp6 ap6
    refine g_return dX5_takeReturn_58 rfl ?_
    refine ⟨rfl, _, ?_, (((CSt.rf.tr sx2).tr sx5).tr cx6.2)⟩
    have c7 : ¬ nA N (368 + 8 * x + 7) = 1 := by intro z; rw [if_pos z] at q; omega
    rw [if_neg c7] at q
    rw [if_pos ⟨c7, q⟩]
    exact cx6.1
theorem nI_dec (n : Nat) : nI (n + 1) + Int32.ofInt (-1) = nI n := by
  rw [show Int32.ofInt (-1) = jI (-1) from rfl, ← jI_nat, ← jI_nat, jI_add]
  congr 1
  omega
theorem c_takeReturns (c : CX h b π ls N [] t) (hI : iN [] N) : zM l w mX5_takeReturns [.ref b] h (fun v h1 => v = none ∧ ∃ ls1, CX h1 b π ls1 (allRetN N) [] t ∧ CSt b ls h ls1 h1) := by
  refine zM.of (by decide) (Nat.le_of_ble_eq_true rfl) ?_
  have l480 : (nK N).length ≤ 480 := by have q := hI.C.lenK; simp at q; omega
  have loop : ∀ n i : Nat, i + n = (nK N).length → ∀ (h' : zH) (ls' : Nat → List Nat), CX h' b π ls' (uK (arM N i) ((nK N).drop i ++ arK N i)) [] t → CSt b ls h ls' h' → zG l w mX5_takeReturns 8 [(1, .int (nI n)), (0, .ref b)] [] h' (fun v h1 => v = none ∧ ∃ ls1, CX h1 b π ls1 (allRetN N) [] t ∧ CSt b ls h ls1 h1) := by
    intro n
    induction n with
    | zero =>
      intro i hi h' ls' c' s'
      refine g_iload_n 0 dX5_takeReturns_8 rfl rfl ?_
      refine g_zif_le (a := 0) (tgt := 60) (by decide) dX5_takeReturns_9 (by decide) (by omega) (fun q => ?_) (fun q => ?_)
      · refine g_return dX5_takeReturns_60 rfl ?_
        refine ⟨rfl, ls', ?_, s'⟩
        rw [← arM_end, ← show i = (nK N).length by omega]
        exact c'
      · exact absurd q (by omega)
    | succ n ih =>
      intro i hi h' ls' c' s'
      obtain ⟨p, hp⟩ : ∃ p, (nK N)[i]? = some p := ⟨_, List.getElem?_eq_getElem (by omega)⟩
      have hM := ar_in hI i
      have hdr := drop_some hp
      have hK : nK (uK (arM N i) ((nK N).drop i ++ arK N i)) = p :: ((nK N).drop (i + 1) ++ arK N i) := by show (nK N).drop i ++ arK N i = _; rw [hdr, List.cons_append]
      have hI1 := hM.1.offK hK
      have h6 : nA (arM N i) (368 + 8 * p + 6) = nA N (368 + 8 * p + 6) := ar_px hI i p
      have h2 : nA (arM N i) 2 = nA N 2 := hM.2.1 2 (Or.inr rfl)
      have pk := c'.2.2.2.2.2.1.2.2.2.2.1.2 p (by rw [hK]; exact List.mem_cons_self)
      have pb : 0 ≤ nA N (368 + 8 * p + 6) ∧ nA N (368 + 8 * p + 6) < 100000 := by rw [← h6]; exact pk.2
      have tb := hI.H.2.2.1
      have d0 : zi h' 199 (π p) = jI (nA N (368 + 8 * p + 6)) := by rw [pk.1]; exact congrArg jI h6
      have n0 : zi h' 164 b = jI (nA N 2) := by rw [c'.2.2.1.2.2.1]; exact congrArg jI h2
      refine g_iload_n 0 dX5_takeReturns_8 rfl rfl ?_
      refine g_zif_le (a := ((n + 1 : Nat) : Int)) (tgt := 60) (jI_nat (n + 1)).symm dX5_takeReturns_9 (by decide) (by omega) (fun q => ?_) (fun q => ?_)
      · exact absurd q (by omega)
      · refine g_aload_n 1 dX5_takeReturns_12 rfl rfl ?_
        refine g_getr (f := 165) (b := b + 3) dX5_takeReturns_13 fl_X5_26 c'.1.1.2 rfl c'.1.2.2.2.1.1 ?_
        have eL : ls' (b + 3) = π p :: ((nK N).drop (i + 1) ++ arK N i).map π := by rw [c'.2.2.2.2.2.1.2.2.2.2.1.1, hK, List.map_cons]
        refine g_invv (M' := mX3_takeFirst) (As := []) (rest := []) dX5_takeReturns_16 ml_X5_118 okX3_takeFirst imX3_takeFirst seX3_takeFirst ⟨(Nat.le_of_ble_eq_true rfl), (Nat.le_of_ble_eq_true rfl)⟩ (ci := 3) rfl rfl c'.1.2.2.2.1.2 rfl rfl (Nat.le_of_ble_eq_true rfl) (c_takeFirst c'.2.1 c'.1.iK eL) ?_
        rintro _ y1 ⟨rfl, t1, f1⟩
        show zG l w mX5_takeReturns 19 [(1, .int (nI (n + 1))), (0, .ref b)] [.ref (π p)] y1 _
        have k1 := c'.takeK hK f1 t1
        have d1 : zi y1 199 (π p) = jI (nA N (368 + 8 * p + 6)) := (f1.2.2.2.2.1 199 _ (by omega)).trans d0
        have n1 : zi y1 164 b = jI (nA N 2) := (f1.2.2.2.2.1 164 _ (by omega)).trans n0
        refine g_astore_n (lv2 := [(2, .ref (π p)), (1, .int (nI (n + 1))), (0, .ref b)]) dX5_takeReturns_19 rfl (by decide) rfl ?_
        refine g_aload_n 0 dX5_takeReturns_20 rfl rfl ?_
        refine g_ifnonnull (tgt := 27) dX5_takeReturns_21 (by decide) ?_
        refine g_aload_n 0 dX5_takeReturns_27 rfl rfl ?_
        refine g_geti (f := 199) dX5_takeReturns_28 fl_X5_166 (k1.1.2.2.2.2.2.1.1 p hI1.lv).2.2 (by decide) rfl ?_
        rw [show zi y1 199 (π p) = jI (nA N (368 + 8 * p + 6)) from d1]
        refine g_aload_n 2 dX5_takeReturns_31 rfl rfl ?_
        refine g_geti (f := 164) dX5_takeReturns_32 fl_X5_56 k1.1.1.1.2 (by decide) rfl ?_
        rw [show zi y1 164 b = jI (nA N 2) from n1]
        refine g_zcmp_ne (a := (nA N (368 + 8 * p + 6))) (b := (nA N 2)) (tgt := 46) rfl rfl dX5_takeReturns_35 (by decide) (by omega) (by omega) (fun d => ?_) (fun d => ?_)
        · refine g_aload_n 2 dX5_takeReturns_46 rfl rfl ?_
          refine g_getr (f := 165) (b := b + 3) dX5_takeReturns_47 fl_X5_26 k1.1.1.1.2 rfl k1.1.1.2.2.2.1.1 ?_
          refine g_aload_n 0 dX5_takeReturns_50 rfl rfl ?_
          refine g_invv (M' := mX3_append) (As := [.ref (π p)]) (rest := []) dX5_takeReturns_51 ml_X5_112 okX3_append imX3_append seX3_append ⟨(Nat.le_of_ble_eq_true rfl), (Nat.le_of_ble_eq_true rfl)⟩ (ci := 3) rfl rfl k1.1.1.2.2.2.1.2 rfl rfl (Nat.le_of_ble_eq_true rfl) (c_append k1.1.2.1 k1.1.1.iK (k1.1.2.2.2.2.2.1.1 p hI1.lv).2 k1.1.outX) ?_
          rintro _ y2 ⟨rfl, a2, f2⟩
          show zG l w mX5_takeReturns 54 [(2, .ref (π p)), (1, .int (nI (n + 1))), (0, .ref b)] [] y2 _
          have k2 := k1.1.appK hI1.lv f2 a2 (d1.trans (congrArg jI h6.symm)) pk.2
          have e := arM_keep hp d
          refine g_inc (v := nI n) (lv2 := [(1, .int (nI n)), (2, .ref (π p)), (0, .ref b)]) 1 dX5_takeReturns_54 rfl (nI_dec n) (by decide) rfl ?_
          refine g_goto (tgt := 8) dX5_takeReturns_57 (by decide) ?_
          refine zG.sub [0, 2] rfl (ih (i + 1) (by omega) y2 _ ?_ ((s'.tr k1.2).tr k2.2))
          rw [e.1, e.2]
          have z := k2.1
          rw [show nK (uK (uK (arM N i) ((nK N).drop i ++ arK N i)) ((nK N).drop (i + 1) ++ arK N i)) ++ [p] = (nK N).drop (i + 1) ++ (arK N i ++ [p]) from List.append_assoc _ _ _] at z
          exact z
        · refine g_aload_n 2 dX5_takeReturns_38 rfl rfl ?_
          refine g_aload_n 0 dX5_takeReturns_39 rfl rfl ?_
          refine g_invv (M' := mX5_takeReturn) (As := [.ref (π p)]) (rest := []) dX5_takeReturns_40 ml_X5_169 okX5_takeReturn imX5_takeReturn seX5_takeReturn ⟨(Nat.le_of_ble_eq_true rfl), (Nat.le_of_ble_eq_true rfl)⟩ (ci := 5) rfl rfl k1.1.1.1.2 rfl rfl (Nat.le_of_ble_eq_true rfl) (c_takeReturn k1.1 hI1) ?_
          rintro _ y2 ⟨rfl, ls2, cx2, sx2⟩
          show zG l w mX5_takeReturns 43 [(2, .ref (π p)), (1, .int (nI (n + 1))), (0, .ref b)] [] y2 _
          refine g_goto (tgt := 54) dX5_takeReturns_43 (by decide) ?_
          have e := arM_due hp d
          refine g_inc (v := nI n) (lv2 := [(1, .int (nI n)), (2, .ref (π p)), (0, .ref b)]) 1 dX5_takeReturns_54 rfl (nI_dec n) (by decide) rfl ?_
          refine g_goto (tgt := 8) dX5_takeReturns_57 (by decide) ?_
          refine zG.sub [0, 2] rfl (ih (i + 1) (by omega) y2 _ ?_ ((s'.tr k1.2).tr sx2))
          rw [e.1, e.2]
          have z := cx2
          rw [retN_uK, retN_uK] at z
          exact z
  have eS : (ls (b + 3)).length = (nK N).length := by rw [c.2.2.2.2.2.1.2.2.2.2.1.1, List.length_map]
  refine g_aload_n 0 dX5_takeReturns_0 rfl rfl ?_
  refine g_getr (f := 165) (b := b + 3) dX5_takeReturns_1 fl_X5_26 c.1.1.2 rfl c.1.2.2.2.1.1 ?_
  refine g_geti (f := 98) dX5_takeReturns_4 fl_X5_163 c.1.2.2.2.1.2 (by decide) rfl ?_
  rw [show zi h 98 (b + 3) = nI (ls (b + 3)).length from (c.2.1.1 _ c.1.iK).2.2.1]
  rw [eS]
  refine g_istore_n (lv2 := [(1, .int (nI (nK N).length)), (0, .ref b)]) dX5_takeReturns_7 rfl (by decide) rfl ?_
  exact zG.sub [0, 1] rfl (loop _ 0 (Nat.zero_add _) h ls (by have z := c; rw [← show uK (arM N 0) ((nK N).drop 0 ++ arK N 0) = N from by unfold arM arK; rw [List.take_zero]; show uK N ((nK N).drop 0 ++ []) = N; rw [List.append_nil, List.drop_zero]; rfl] at z; exact z) CSt.rf)
end CY8
