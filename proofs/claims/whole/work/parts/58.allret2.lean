section M8
variable {l : Launch} {w : zW} {h : zH} {m : Nat} {N : nT}
theorem ret_fold_px (g : Nat → Bool) {x : Nat} : ∀ (A : List Nat) (M : nT) (kept : List Nat), nK M = A ++ kept → iN [] M → nA ((A.filter g).foldl retN M) (368 + 8 * x + 6) = nA M (368 + 8 * x + 6) := by
  intro A
  induction A with
  | nil => intro M kept hK h; rfl
  | cons p A ih =>
    intro M kept hK h
    cases c : g p
    · have i := ih (uK M ((A ++ kept) ++ [p])) (kept ++ [p]) (by rw [nK_uK, List.append_assoc]) (h.rotK hK)
      rw [List.filter_cons_of_neg (by rw [c]; decide)]
      rw [foldl_ret_uK] at i
      exact i
    · have h1 := h.offK hK
      have hp := h1.C.memX (List.mem_cons_self)
      have hf := h1.fl hp.1 hp.2
      have h2 := h1.ret
      rw [retN_uK] at h2
      have i := ih (uK (retN M p) (A ++ kept)) kept rfl h2
      rw [List.filter_cons_of_pos c, List.foldl_cons]
      rw [foldl_ret_uK] at i
      exact i.trans (retN_px (N := M) hf.2.2 (by omega) (by omega))
/-- those that came back so far; those that are kept so far -/
def arM (N : nT) (i : Nat) : nT := (((nK N).take i).filter (fun p => decide (nA N (368 + 8 * p + 6) = nA N 2))).foldl retN N
def arK (N : nT) (i : Nat) : List Nat := ((nK N).take i).filter (fun p => !decide (nA N (368 + 8 * p + 6) = nA N 2))
def ar (N : nT) (i : Nat) : nT := uK (arM N i) (arK N i ++ (nK N).drop (arK N i).length)
theorem arK_le {i : Nat} : (arK N i).length ≤ i := Nat.le_trans (List.length_filter_le _ _) (List.length_take_le _ _)
theorem ar_in (h : iN [] N) (i : Nat) : iN [] (uK (arM N i) ((nK N).drop i ++ arK N i)) ∧ kp N (arM N i) := by
  have f := ret_fold (X := []) (fun p => decide (nA N (368 + 8 * p + 6) = nA N 2)) ((nK N).take i) N ((nK N).drop i) (List.take_append_drop _ _).symm h
  exact ⟨f.1, f.2.1⟩
theorem ar_px (h : iN [] N) (i x : Nat) : nA (ar N i) (368 + 8 * x + 6) = nA N (368 + 8 * x + 6) := ret_fold_px (fun p => decide (nA N (368 + 8 * p + 6) = nA N 2)) ((nK N).take i) N ((nK N).drop i) (List.take_append_drop _ _).symm h
theorem ar_fit (h : iN [] N) (hW : ∀ a, a < 6 → (nW N a).length ≤ 90) {i : Nat} (hi : i ≤ (nK N).length) : nFit (ar N i) := by
  have q := ar_in h i
  have f := q.1.fit (fun a ha => Nat.le_trans (q.2.2.2.1 a ha).1.length_le (hW a ha))
  refine ⟨f.1, ?_, f.2.2⟩
  have hl := h.C.lenK
  have hk := @arK_le N i
  show (arK N i ++ (nK N).drop (arK N i).length).length ≤ 480
  rw [List.length_append, List.length_drop]
  simp at hl
  omega
theorem ar_at {i p : Nat} (hp : (nK N)[i]? = some p) : (nK (ar N i))[i]? = some p := by
  show (arK N i ++ (nK N).drop (arK N i).length)[i]? = some p
  have hk := @arK_le N i
  rw [List.getElem?_append_right hk, List.getElem?_drop, show (arK N i).length + (i - (arK N i).length) = i by omega]
  exact hp
theorem take_succ_some {L : List Nat} {i p : Nat} (hp : L[i]? = some p) : L.take (i + 1) = L.take i ++ [p] := by
  rw [List.take_succ, hp]; rfl
theorem ar_due {i p : Nat} (hp : (nK N)[i]? = some p) (hd : nA N (368 + 8 * p + 6) = nA N 2) : ar N (i + 1) = retN (ar N i) p ∧ arK N (i + 1) = arK N i := by
  have e1 : arK N (i + 1) = arK N i := by
    unfold arK
    rw [take_succ_some hp, List.filter_append, List.filter_cons_of_neg (by simpa using hd), List.filter_nil, List.append_nil]
  refine ⟨?_, e1⟩
  unfold ar
  rw [e1, retN_uK]
  unfold arM
  rw [take_succ_some hp, List.filter_append, List.filter_cons_of_pos (by simpa using hd), List.filter_nil, List.foldl_append]
  rfl
theorem ar_keep {i p : Nat} (hp : (nK N)[i]? = some p) (hd : ¬ nA N (368 + 8 * p + 6) = nA N 2) : ar N (i + 1) = uK (ar N i) (arK N i ++ p :: (nK N).drop ((arK N i).length + 1)) ∧ arK N (i + 1) = arK N i ++ [p] := by
  have e1 : arK N (i + 1) = arK N i ++ [p] := by
    unfold arK
    rw [take_succ_some hp, List.filter_append, List.filter_cons_of_pos (by simpa using hd), List.filter_nil]
  have e2 : arM N (i + 1) = arM N i := by
    unfold arM
    rw [take_succ_some hp, List.filter_append, List.filter_cons_of_neg (by simpa using hd), List.filter_nil, List.append_nil]
  refine ⟨?_, e1⟩
  show uK (arM N (i + 1)) (arK N (i + 1) ++ (nK N).drop (arK N (i + 1)).length) = uK (arM N i) (arK N i ++ p :: (nK N).drop ((arK N i).length + 1))
  rw [e1, e2, List.length_append, List.length_singleton, List.append_assoc, List.singleton_append]
theorem ar_end : uK (ar N (nK N).length) (arK N (nK N).length) = allRetN N := by
  show uK (arM N (nK N).length) (arK N (nK N).length) = allRetN N
  unfold arM arK
  rw [List.take_length]
  rfl
theorem c_allReturn (r : MoN h m N) (hI : iN [] N) (hW : ∀ a, a < 6 → (nW N a).length ≤ 90) : zM l w mX10_allReturn [.ref m] h (fun v h1 => v = none ∧ MoN h1 m (allRetN N) ∧ FrM m h h1) := by
  refine zM.of (by decide) (Nat.le_of_ble_eq_true rfl) ?_
  have hK480 : (nK N).length ≤ 480 := by have q := hI.C.lenK; simp at q; omega
  have loop : ∀ n i : Nat, i + n = (nK N).length → ∀ h' N1, N1 = ar N i → MoN h' m N1 → FrM m h h' → zG l w mX10_allReturn 10 [(3, .int (nI i)), (2, .int (nI (nK N).length)), (1, .int (nI (arK N i).length)), (0, .ref m)] [] h' (fun v h1 => v = none ∧ MoN h1 m (allRetN N) ∧ FrM m h h1) := by
    intro n
    induction n with
    | zero =>
      intro i hi h' N1 hN1 r' fr'
      have hj := @arK_le N i
      refine g_iload_n 0 dX10_allReturn_10 rfl rfl ?_
      refine g_iload_n 1 dX10_allReturn_11 rfl rfl ?_
      refine g_ncmp_ge (tgt := 76) dX10_allReturn_12 (by decide) (by omega) (by omega) (fun c => ?_) (fun c => ?_)
      · refine g_aload_n 3 dX10_allReturn_76 rfl rfl ?_
        refine g_iconst (v := nI 5) dX10_allReturn_77 (by decide) ?_
        refine g_iload_n 2 dX10_allReturn_78 rfl rfl ?_
        refine g_i2l dX10_allReturn_79 ?_
        rw [nI_l (by omega), ← jL_nat]
        have hF : nFit N1 := by rw [hN1]; exact ar_fit hI hW (by omega)
        refine g_invv (M' := mX10_puts) (As := [.int (nI 5), .long (jL (((arK N i).length : Nat) : Int))]) (rest := []) dX10_allReturn_80 ml_X10_40 okX10_puts imX10_puts seX10_puts ⟨(Nat.le_of_ble_eq_true rfl), (Nat.le_of_ble_eq_true rfl)⟩ (ci := 10) rfl rfl r'.1.1 rfl rfl (Nat.le_of_ble_eq_true rfl) (c_putsKc r' hF (A := arK N i) (B := (nK N).drop (arK N i).length) (by rw [hN1]; rfl)) ?_
        rintro _ y1 ⟨rfl, r1, f1⟩
        show zG l w mX10_allReturn 83 [(3, .int (nI i)), (2, .int (nI (nK N).length)), (1, .int (nI (arK N i).length)), (0, .ref m)] [] y1 _
        refine g_return dX10_allReturn_83 rfl ?_
        refine ⟨rfl, ?_, (fr'.tr f1)⟩
        rw [← ar_end, ← show i = (nK N).length by omega, ← hN1]
        exact r1
      · exact absurd hi (by omega)
    | succ n ih =>
      intro i hi h' N1 hN1 r' fr'
      have hj := @arK_le N i
      obtain ⟨p, hp⟩ : ∃ p, (nK N)[i]? = some p := ⟨_, List.getElem?_eq_getElem (by omega)⟩
      have hF : nFit N1 := by rw [hN1]; exact ar_fit hI hW (by omega)
      have hM := ar_in hI i
      have hB : nBd N1 := by rw [hN1]; exact hM.1.B
      have hL := hM.1.C.memK (x := p) (List.mem_append_left _ (List.mem_of_getElem? (i := 0) (by rw [List.getElem?_drop, Nat.add_zero]; exact hp)))
      have hfl := hM.1.fl hL.1 hL.2
      have hFf := hM.1.F _ hfl.2.1
      have h6 : nA N1 (368 + 8 * p + 6) = nA N (368 + 8 * p + 6) := by rw [hN1]; exact ar_px hI i p
      have h2 : nA N1 2 = nA N 2 := by rw [hN1]; exact hM.2.1 2 (Or.inr rfl)
      have hpl := hL.1
      refine g_iload_n 0 dX10_allReturn_10 rfl rfl ?_
      refine g_iload_n 1 dX10_allReturn_11 rfl rfl ?_
      refine g_ncmp_ge (tgt := 76) dX10_allReturn_12 (by decide) (by omega) (by omega) (fun c => ?_) (fun c => ?_)
      · exact absurd c (by omega)
      · refine g_aload_n 3 dX10_allReturn_15 rfl rfl ?_
        refine g_sipush (v := nI 5108) dX10_allReturn_16 (by decide) ?_
        refine g_iload_n 0 dX10_allReturn_19 rfl rfl ?_
        refine g_iadd dX10_allReturn_20 ?_
        rw [nI_add 5108 i]
        refine g_invv (M' := mX10_at) (As := [.int (nI (5108 + i))]) (rest := []) dX10_allReturn_21 ml_X10_58 okX10_at imX10_at seX10_at ⟨(Nat.le_of_ble_eq_true rfl), (Nat.le_of_ble_eq_true rfl)⟩ (ci := 10) rfl rfl r'.1.1 rfl rfl (Nat.le_of_ble_eq_true rfl) (c_atK r' (by omega) (by rw [hN1]; exact ar_at hp)) ?_
        rintro _ q2 ⟨rfl, eq2⟩
        subst q2
        show zG l w mX10_allReturn 24 [(3, .int (nI i)), (2, .int (nI (nK N).length)), (1, .int (nI (arK N i).length)), (0, .ref m)] [.int (nI p)] h' _
        refine g_istore (lv2 := [(4, .int (nI p)), (3, .int (nI i)), (2, .int (nI (nK N).length)), (1, .int (nI (arK N i).length)), (0, .ref m)]) dX10_allReturn_24 (by decide) rfl ?_
        refine g_aload_n 4 dX10_allReturn_26 rfl rfl ?_
        refine g_iload 0 dX10_allReturn_27 rfl ?_
        refine g_bipush (v := nI 6) dX10_allReturn_29 (by decide) ?_
        refine g_invs (M' := mX10_packet0) (As := [.int (nI p), .int (nI 6)]) (rest := [.ref m]) dX10_allReturn_31 ml_X10_55 okX10_packet0 stX10_packet0 ⟨(Nat.le_of_ble_eq_true rfl), (Nat.le_of_ble_eq_true rfl)⟩ rfl rfl (Nat.le_of_ble_eq_true rfl) c_packet0 ?_
        rintro _ q3 ⟨rfl, eq3⟩
        subst q3
        show zG l w mX10_allReturn 34 [(4, .int (nI p)), (3, .int (nI i)), (2, .int (nI (nK N).length)), (1, .int (nI (arK N i).length)), (0, .ref m)] [.int (nI (368 + 8 * p + 6)), .ref m] h' _
        refine g_invv (M' := mX10_of) (As := [.int (nI (368 + 8 * p + 6))]) (rest := []) dX10_allReturn_34 ml_X10_48 okX10_of imX10_of seX10_of ⟨(Nat.le_of_ble_eq_true rfl), (Nat.le_of_ble_eq_true rfl)⟩ (ci := 10) rfl rfl r'.1.1 rfl rfl (Nat.le_of_ble_eq_true rfl) (c_ofN r' (by omega) (by unfold nSp; omega)) ?_
        rintro _ q4 ⟨rfl, eq4⟩
        subst q4
        show zG l w mX10_allReturn 37 [(4, .int (nI p)), (3, .int (nI i)), (2, .int (nI (nK N).length)), (1, .int (nI (arK N i).length)), (0, .ref m)] [.long (jL (nA N1 (368 + 8 * p + 6)))] h' _
        refine g_aload_n 4 dX10_allReturn_37 rfl rfl ?_
        refine g_iconst (v := nI 2) dX10_allReturn_38 (by decide) ?_
        refine g_invv (M' := mX10_of) (As := [.int (nI 2)]) (rest := [.long (jL (nA N1 (368 + 8 * p + 6)))]) dX10_allReturn_39 ml_X10_48 okX10_of imX10_of seX10_of ⟨(Nat.le_of_ble_eq_true rfl), (Nat.le_of_ble_eq_true rfl)⟩ (ci := 10) rfl rfl r'.1.1 rfl rfl (Nat.le_of_ble_eq_true rfl) (c_ofN r' (by omega) (by unfold nSp; omega)) ?_
        rintro _ q5 ⟨rfl, eq5⟩
        subst q5
        show zG l w mX10_allReturn 42 [(4, .int (nI p)), (3, .int (nI i)), (2, .int (nI (nK N).length)), (1, .int (nI (arK N i).length)), (0, .ref m)] [.long (jL (nA N1 2)), .long (jL (nA N1 (368 + 8 * p + 6)))] h' _
        have b6 := hB (368 + 8 * p + 6) (by omega)
        have b7 := hB 2 (by omega)
        refine g_lif_ne (a := (nA N1 (368 + 8 * p + 6))) (b := (nA N1 2)) (tgt := 55) dX10_allReturn_42 rfl dX10_allReturn_43 (by decide) (by omega) (by omega) (fun d => ?_) (fun d => ?_)
        · refine g_aload_n 4 dX10_allReturn_55 rfl rfl ?_
          refine g_sipush (v := nI 5108) dX10_allReturn_56 (by decide) ?_
          refine g_iload_n 3 dX10_allReturn_59 rfl rfl ?_
          refine g_iadd dX10_allReturn_60 ?_
          rw [nI_add 5108 ((arK N i).length)]
          refine g_iload 0 dX10_allReturn_61 rfl ?_
          refine g_i2l dX10_allReturn_63 ?_
          rw [nI_l (by omega), ← jL_nat]
          refine g_invv (M' := mX10_puts) (As := [.int (nI (5108 + (arK N i).length)), .long (jL ((p : Nat) : Int))]) (rest := []) dX10_allReturn_64 ml_X10_40 okX10_puts imX10_puts seX10_puts ⟨(Nat.le_of_ble_eq_true rfl), (Nat.le_of_ble_eq_true rfl)⟩ (ci := 10) rfl rfl r'.1.1 rfl rfl (Nat.le_of_ble_eq_true rfl) (c_putsKs r' hF (A := arK N i) (q := (nK N)[(arK N i).length]) (B := (nK N).drop ((arK N i).length + 1)) (by rw [hN1]; show arK N i ++ (nK N).drop (arK N i).length = _; rw [List.drop_eq_getElem_cons (by omega)])) ?_
          rintro _ y8 ⟨rfl, r8, f8⟩
          show zG l w mX10_allReturn 67 [(4, .int (nI p)), (3, .int (nI i)), (2, .int (nI (nK N).length)), (1, .int (nI (arK N i).length)), (0, .ref m)] [] y8 _
          refine g_inc (v := nI ((arK N i).length + 1)) (lv2 := [(1, .int (nI ((arK N i).length + 1))), (4, .int (nI p)), (3, .int (nI i)), (2, .int (nI (nK N).length)), (0, .ref m)]) 3 dX10_allReturn_67 rfl (nI_add _ 1) (by decide) rfl ?_
          refine g_inc (v := nI (i + 1)) (lv2 := [(3, .int (nI (i + 1))), (1, .int (nI ((arK N i).length + 1))), (4, .int (nI p)), (2, .int (nI (nK N).length)), (0, .ref m)]) 2 dX10_allReturn_70 rfl (nI_add _ 1) (by decide) rfl ?_
          refine g_goto (tgt := 10) dX10_allReturn_73 (by decide) ?_
          have k := ar_keep hp (by rw [← h6, ← h2]; exact d)
          refine zG.sub [0, 3, 1, 4] ?_ (ih (i + 1) (by omega) y8 _ rfl ?_ (fr'.tr f8))
          · rw [k.2, List.length_append]; rfl
          · rw [k.1, ← hN1]; exact r8
        · refine g_aload_n 4 dX10_allReturn_46 rfl rfl ?_
          refine g_iload 0 dX10_allReturn_47 rfl ?_
          refine g_invv (M' := mX10_returns) (As := [.int (nI p)]) (rest := []) dX10_allReturn_49 ml_X10_126 okX10_returns imX10_returns seX10_returns ⟨(Nat.le_of_ble_eq_true rfl), (Nat.le_of_ble_eq_true rfl)⟩ (ci := 10) rfl rfl r'.1.1 rfl rfl (Nat.le_of_ble_eq_true rfl) (c_returns r' hF hB hpl (by rw [hN1]; exact hfl.1) hfl.2.2 (by rw [hN1]; exact hFf.2.2.2.2.2.1) (by rw [hN1]; exact hM.1.H.2.2.2)) ?_
          rintro _ y9 ⟨rfl, r9, f9⟩
          show zG l w mX10_allReturn 52 [(4, .int (nI p)), (3, .int (nI i)), (2, .int (nI (nK N).length)), (1, .int (nI (arK N i).length)), (0, .ref m)] [] y9 _
          refine g_goto (tgt := 70) dX10_allReturn_52 (by decide) ?_
          refine g_inc (v := nI (i + 1)) (lv2 := [(3, .int (nI (i + 1))), (4, .int (nI p)), (2, .int (nI (nK N).length)), (1, .int (nI (arK N i).length)), (0, .ref m)]) 1 dX10_allReturn_70 rfl (nI_add _ 1) (by decide) rfl ?_
          refine g_goto (tgt := 10) dX10_allReturn_73 (by decide) ?_
          have k := ar_due hp (by rw [← h6, ← h2]; exact d)
          refine zG.sub [0, 2, 3, 4] ?_ (ih (i + 1) (by omega) y9 _ rfl ?_ (fr'.tr f9))
          · rw [k.2]; rfl
          · rw [k.1, ← hN1]; exact r9
  refine g_iconst (v := nI 0) dX10_allReturn_0 (by decide) ?_
  refine g_istore_n (lv2 := [(1, .int (nI 0)), (0, .ref m)]) dX10_allReturn_1 rfl (by decide) rfl ?_
  refine g_aload_n 1 dX10_allReturn_2 rfl rfl ?_
  refine g_iconst (v := nI 5) dX10_allReturn_3 (by decide) ?_
  refine g_invv (M' := mX10_at) (As := [.int (nI 5)]) (rest := []) dX10_allReturn_4 ml_X10_58 okX10_at imX10_at seX10_at ⟨(Nat.le_of_ble_eq_true rfl), (Nat.le_of_ble_eq_true rfl)⟩ (ci := 10) rfl rfl r.1.1 rfl rfl (Nat.le_of_ble_eq_true rfl) (c_atBack r) ?_
  rintro _ q1 ⟨rfl, eq1⟩
  subst q1
  show zG l w mX10_allReturn 7 [(1, .int (nI 0)), (0, .ref m)] [.int (nI (nK N).length)] h _
  refine g_istore_n (lv2 := [(2, .int (nI (nK N).length)), (1, .int (nI 0)), (0, .ref m)]) dX10_allReturn_7 rfl (by decide) rfl ?_
  refine g_iconst (v := nI 0) dX10_allReturn_8 (by decide) ?_
  refine g_istore_n (lv2 := [(3, .int (nI 0)), (2, .int (nI (nK N).length)), (1, .int (nI 0)), (0, .ref m)]) dX10_allReturn_9 rfl (by decide) rfl ?_
  exact loop _ 0 (Nat.zero_add _) h N rfl r FrM.rf
end M8
