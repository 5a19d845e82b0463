section M7
variable {l : Launch} {w : zW} {h : zH} {m : Nat} {N : nT}
theorem c_freePlace (r : MoN h m N) (hB : nBd N) (hq : freeN N < 480 ∧ ¬ 0 < nA N (368 + 8 * (freeN N) + 0) ∧ ∀ x, x < freeN N → 0 < nA N (368 + 8 * x + 0)) : zM l w mX10_freePlace [.ref m] h (fun v h1 => v = some (.int (nI (freeN N))) ∧ h1 = h) := by
  refine zM.of (by decide) (Nat.le_of_ble_eq_true rfl) ?_
  have loop : ∀ n i : Nat, i + n = freeN N → zG l w mX10_freePlace 2 [(1, .int (nI i)), (0, .ref m)] [] h (fun v h1 => v = some (.int (nI (freeN N))) ∧ h1 = h) := by
    intro n
    induction n with
    | zero =>
      intro i hi
      have hfr := hq.1
      refine g_aload_n 1 dX10_freePlace_2 rfl rfl ?_
      refine g_iload_n 0 dX10_freePlace_3 rfl rfl ?_
      refine g_iconst (v := nI 0) dX10_freePlace_4 (by decide) ?_
      refine g_invs (M' := mX10_packet0) (As := [.int (nI i), .int (nI 0)]) (rest := [.ref m]) dX10_freePlace_5 ml_X10_55 okX10_packet0 stX10_packet0 ⟨(Nat.le_of_ble_eq_true rfl), (Nat.le_of_ble_eq_true rfl)⟩ rfl rfl (Nat.le_of_ble_eq_true rfl) c_packet0 ?_
      rintro _ q1 ⟨rfl, eq1⟩
      subst q1
      show zG l w mX10_freePlace 8 [(1, .int (nI i)), (0, .ref m)] [.int (nI (368 + 8 * i + 0)), .ref m] h _
      refine g_invv (M' := mX10_of) (As := [.int (nI (368 + 8 * i + 0))]) (rest := []) dX10_freePlace_8 ml_X10_48 okX10_of imX10_of seX10_of ⟨(Nat.le_of_ble_eq_true rfl), (Nat.le_of_ble_eq_true rfl)⟩ (ci := 10) rfl rfl r.1.1 rfl rfl (Nat.le_of_ble_eq_true rfl) (c_ofN r (by omega) (by unfold nSp; omega)) ?_
      rintro _ q2 ⟨rfl, eq2⟩
      subst q2
      show zG l w mX10_freePlace 11 [(1, .int (nI i)), (0, .ref m)] [.long (jL (nA N (368 + 8 * i + 0)))] h _
      refine g_lconst (v := jL 0) dX10_freePlace_11 (by decide) ?_
      have b3 := hB (368 + 8 * i + 0) (by omega)
      refine g_lif_le (a := (nA N (368 + 8 * i + 0))) (b := 0) (tgt := 22) dX10_freePlace_12 rfl dX10_freePlace_13 (by decide) (by omega) (by omega) (fun c => ?_) (fun c => ?_)
      · refine g_iload_n 0 dX10_freePlace_22 rfl rfl ?_
        refine g_ireturn dX10_freePlace_23 rfl ?_
        exact ⟨by rw [show i = freeN N by omega], rfl⟩
      · exact absurd (show 0 < nA N (368 + 8 * (freeN N) + 0) by rw [← show i = freeN N by omega]; omega) hq.2.1
    | succ n ih =>
      intro i hi
      have hfr := hq.1
      have hl := hq.2.2 i (by omega)
      refine g_aload_n 1 dX10_freePlace_2 rfl rfl ?_
      refine g_iload_n 0 dX10_freePlace_3 rfl rfl ?_
      refine g_iconst (v := nI 0) dX10_freePlace_4 (by decide) ?_
      refine g_invs (M' := mX10_packet0) (As := [.int (nI i), .int (nI 0)]) (rest := [.ref m]) dX10_freePlace_5 ml_X10_55 okX10_packet0 stX10_packet0 ⟨(Nat.le_of_ble_eq_true rfl), (Nat.le_of_ble_eq_true rfl)⟩ rfl rfl (Nat.le_of_ble_eq_true rfl) c_packet0 ?_
      rintro _ q4 ⟨rfl, eq4⟩
      subst q4
      show zG l w mX10_freePlace 8 [(1, .int (nI i)), (0, .ref m)] [.int (nI (368 + 8 * i + 0)), .ref m] h _
      refine g_invv (M' := mX10_of) (As := [.int (nI (368 + 8 * i + 0))]) (rest := []) dX10_freePlace_8 ml_X10_48 okX10_of imX10_of seX10_of ⟨(Nat.le_of_ble_eq_true rfl), (Nat.le_of_ble_eq_true rfl)⟩ (ci := 10) rfl rfl r.1.1 rfl rfl (Nat.le_of_ble_eq_true rfl) (c_ofN r (by omega) (by unfold nSp; omega)) ?_
      rintro _ q5 ⟨rfl, eq5⟩
      subst q5
      show zG l w mX10_freePlace 11 [(1, .int (nI i)), (0, .ref m)] [.long (jL (nA N (368 + 8 * i + 0)))] h _
      refine g_lconst (v := jL 0) dX10_freePlace_11 (by decide) ?_
      have b6 := hB (368 + 8 * i + 0) (by omega)
      refine g_lif_le (a := (nA N (368 + 8 * i + 0))) (b := 0) (tgt := 22) dX10_freePlace_12 rfl dX10_freePlace_13 (by decide) (by omega) (by omega) (fun c => ?_) (fun c => ?_)
      · exact absurd c (by omega)
      · refine g_inc (v := nI (i + 1)) (lv2 := [(1, .int (nI (i + 1))), (0, .ref m)]) 0 dX10_freePlace_16 rfl (nI_add _ 1) (by decide) rfl ?_
        refine g_goto (tgt := 2) dX10_freePlace_19 (by decide) ?_
        exact ih (i + 1) (by omega)
  refine g_iconst (v := nI 0) dX10_freePlace_0 (by decide) ?_
  refine g_istore_n (lv2 := [(1, .int (nI 0)), (0, .ref m)]) dX10_freePlace_1 rfl (by decide) rfl ?_
  exact loop _ 0 (Nat.zero_add _)
/-- the places of dues stay as packets return -/
theorem foldl_ret_px {x : Nat} : ∀ (L : List Nat) (M : nT) (kept : List Nat), nK M = L ++ kept → iN [] M → nA (L.foldl retN M) (368 + 8 * x + 6) = nA M (368 + 8 * x + 6) := by
  intro L
  induction L with
  | nil => intro M _ _ _; rfl
  | cons p L ih =>
    intro M kept hK hM
    have h1 := hM.offK hK
    have hp := h1.C.memX (List.mem_cons_self)
    have hf := h1.fl hp.1 hp.2
    have h2 := h1.ret
    rw [retN_uK] at h2
    have i := ih (uK (retN M p) (L ++ kept)) kept rfl h2
    rw [foldl_ret_uK] at i
    rw [List.foldl_cons]
    exact i.trans (retN_px (N := M) hf.2.2 (by omega) (by omega))
end M7
