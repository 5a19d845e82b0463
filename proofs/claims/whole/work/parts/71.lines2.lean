section CL2
variable {l : Launch} {w : zW} {h : zH} {ls : Nat → List Nat} {L p : Nat}
theorem c_append (s : lnS h ls) (hL : isL h L) (hp : p < zx h ∧ zk h p = 6) (ho : outL h ls p) : zM l w mX3_append [.ref L, .ref p] h (fun v h1 => v = none ∧ appS h h1 ls L p ∧ FrLn h h1) := by
  refine zM.of (by decide) (Nat.le_of_ble_eq_true rfl) ?_
  obtain ⟨s1, s2, s3, s4⟩ := s.1 L hL
  cases e : (ls L).getLast? with
  | none =>
    rw [e] at s2
    have en : ls L = [] := List.getLast?_eq_none_iff.mp e
    refine g_aload_n 1 dX3_append_0 rfl rfl ?_
    refine g_null dX3_append_1 ?_
    refine g_putrN (f := 201) dX3_append_2 fl_X3_9 (Or.inl rfl) hp.2 rfl ?_
    refine g_aload_n 0 dX3_append_5 rfl rfl ?_
    refine g_getrN (f := 97) dX3_append_6 fl_X3_15 hL.2 rfl s2 ?_
    refine g_ifnonnullN dX3_append_9 ?_
    refine g_aload_n 0 dX3_append_12 rfl rfl ?_
    refine g_aload_n 1 dX3_append_13 rfl rfl ?_
    refine g_putr (f := 96) dX3_append_14 fl_X3_20 (Or.inl rfl) hL.2 rfl ?_
    refine g_goto (tgt := 28) dX3_append_17 (by decide) ?_
    refine g_aload_n 0 dX3_append_28 rfl rfl ?_
    refine g_aload_n 1 dX3_append_29 rfl rfl ?_
    refine g_putr (f := 97) dX3_append_30 fl_X3_15 (Or.inl rfl) hL.2 rfl ?_
    refine g_aload_n 0 dX3_append_33 rfl rfl ?_
    refine g_dup dX3_append_34 rfl ?_
    refine g_geti (f := 98) dX3_append_35 fl_X3_23 hL.2 (by decide) rfl ?_
    refine g_iconst (v := nI 1) dX3_append_38 (by decide) ?_
    refine g_iadd dX3_append_39 ?_
    refine g_puti (f := 98) dX3_append_40 fl_X3_23 (Or.inl rfl) hL.2 rfl ?_
    refine g_return dX3_append_43 rfl ?_
    refine ⟨rfl, ⟨fun a => ?_, fun a => ?_, fun a => ?_, fun a => ?_⟩, rfl, rfl, fun _ => rfl, fun _ => rfl, fun f a hf => ?_, fun _ _ => rfl, fun f a h1 h2 h3 => ?_, fun _ _ => rfl, fun _ _ => rfl, fun _ _ => rfl⟩
    · rw [zr_Si, zr_Sr, zr_Sr, zr_Sr, if_neg (fun g => absurd g.1 (by decide))]
      by_cases c : a = L
      · rw [if_pos ⟨rfl, c⟩, if_pos ⟨c, en⟩]
      · rw [if_neg (fun g => c g.2), if_neg (fun g => absurd g.1 (by decide)), if_neg (fun g => c g.1)]
    · rw [zr_Si, zr_Sr]
      by_cases c : a = L
      · rw [if_pos ⟨rfl, c⟩, if_pos c]
      · rw [if_neg (fun g => c g.2), if_neg c, zr_Sr, if_neg (fun g => absurd g.1 (by decide)), zr_Sr, if_neg (fun g => absurd g.1 (by decide))]
    · rw [zi_Si]
      by_cases c : a = L
      · rw [if_pos ⟨rfl, c⟩, if_pos c, zi_Sr, zi_Sr, zi_Sr, s3, nI_add]
      · rw [if_neg (fun g => c g.2), if_neg c]; rfl
    · rw [zr_Si, zr_Sr, if_neg (fun g => absurd g.1 (by decide)), zr_Sr]
      rw [if_neg (fun g => absurd g.1 (by decide)), zr_Sr]
      by_cases c : a = p
      · rw [if_pos ⟨rfl, c⟩, if_pos c]
      · rw [if_neg (fun g => c g.2), if_neg c, if_neg (fun g => by rw [e] at g; exact absurd g (by simp))]
    · rw [zi_Si, if_neg (fun g => hf g.1)]; rfl
    · rw [zr_Si, zr_Sr, zr_Sr, zr_Sr, if_neg (fun g => by omega), if_neg (fun g => by omega), if_neg (fun g => by omega)]
  | some q =>
    rw [e] at s2
    have hq := ((s4 _ q (getq_last e)).1)
    refine g_aload_n 1 dX3_append_0 rfl rfl ?_
    refine g_null dX3_append_1 ?_
    refine g_putrN (f := 201) dX3_append_2 fl_X3_9 (Or.inl rfl) hp.2 rfl ?_
    refine g_aload_n 0 dX3_append_5 rfl rfl ?_
    refine g_getr (f := 97) (b := q) dX3_append_6 fl_X3_15 hL.2 rfl s2 ?_
    refine g_ifnonnull (tgt := 20) dX3_append_9 (by decide) ?_
    refine g_aload_n 0 dX3_append_20 rfl rfl ?_
    refine g_getr (f := 97) (b := q) dX3_append_21 fl_X3_15 hL.2 rfl s2 ?_
    refine g_aload_n 1 dX3_append_24 rfl rfl ?_
    refine g_putr (f := 201) dX3_append_25 fl_X3_9 (Or.inl rfl) hq.2 rfl ?_
    refine g_aload_n 0 dX3_append_28 rfl rfl ?_
    refine g_aload_n 1 dX3_append_29 rfl rfl ?_
    refine g_putr (f := 97) dX3_append_30 fl_X3_15 (Or.inl rfl) hL.2 rfl ?_
    refine g_aload_n 0 dX3_append_33 rfl rfl ?_
    refine g_dup dX3_append_34 rfl ?_
    refine g_geti (f := 98) dX3_append_35 fl_X3_23 hL.2 (by decide) rfl ?_
    refine g_iconst (v := nI 1) dX3_append_38 (by decide) ?_
    refine g_iadd dX3_append_39 ?_
    refine g_puti (f := 98) dX3_append_40 fl_X3_23 (Or.inl rfl) hL.2 rfl ?_
    refine g_return dX3_append_43 rfl ?_
    refine ⟨rfl, ⟨fun a => ?_, fun a => ?_, fun a => ?_, fun a => ?_⟩, rfl, rfl, fun _ => rfl, fun _ => rfl, fun f a hf => ?_, fun _ _ => rfl, fun f a h1 h2 h3 => ?_, fun _ _ => rfl, fun _ _ => rfl, fun _ _ => rfl⟩
    · rw [zr_Si, zr_Sr, zr_Sr, zr_Sr, if_neg (fun g => absurd g.1 (by decide)), if_neg (fun g => absurd g.1 (by decide)), if_neg (fun g => absurd g.1 (by decide)), if_neg (fun g => by rw [g.2] at e; exact absurd e (by simp))]
    · rw [zr_Si, zr_Sr]
      by_cases c : a = L
      · rw [if_pos ⟨rfl, c⟩, if_pos c]
      · rw [if_neg (fun g => c g.2), if_neg c, zr_Sr, if_neg (fun g => absurd g.1 (by decide)), zr_Sr, if_neg (fun g => absurd g.1 (by decide))]
    · rw [zi_Si]
      by_cases c : a = L
      · rw [if_pos ⟨rfl, c⟩, if_pos c, zi_Sr, zi_Sr, zi_Sr, s3, nI_add]
      · rw [if_neg (fun g => c g.2), if_neg c]; rfl
    · rw [zr_Si, zr_Sr, if_neg (fun g => absurd g.1 (by decide)), zr_Sr]
      by_cases c : a = p
      · have cq : ¬ p = q := fun g => ho L hL (by rw [g]; exact List.mem_of_getElem? (getq_last e))
        rw [if_pos c, c, if_neg (fun g => cq g.2), zr_Sr, if_pos ⟨rfl, rfl⟩]
      · rw [if_neg c]
        by_cases d : a = q
        · rw [if_pos ⟨rfl, d⟩, if_pos (by rw [d]; exact e)]
        · rw [if_neg (fun g => d g.2), zr_Sr, if_neg (fun g => c g.2), if_neg (fun g => d (Option.some.inj (g.symm.trans e)))]
    · rw [zi_Si, if_neg (fun g => hf g.1)]; rfl
    · rw [zr_Si, zr_Sr, zr_Sr, zr_Sr, if_neg (fun g => by omega), if_neg (fun g => by omega), if_neg (fun g => by omega)]
theorem c_takeFirst (s : lnS h ls) (hL : isL h L) {r : List Nat} (e : ls L = p :: r) : zM l w mX3_takeFirst [.ref L] h (fun v h1 => v = some (.ref p) ∧ takS h h1 L p r ∧ FrLn h h1) := by
  refine zM.of (by decide) (Nat.le_of_ble_eq_true rfl) ?_
  obtain ⟨s1, s2, s3, s4⟩ := s.1 L hL
  rw [e] at s1 s2 s3
  have hp := (s4 0 p (by rw [e]; rfl)).1
  have hn := (s4 0 p (by rw [e]; rfl)).2
  rw [e, List.getElem?_cons_succ, ← List.head?_eq_getElem?] at hn
  refine g_aload_n 0 dX3_takeFirst_0 rfl rfl ?_
  refine g_getr (f := 96) (b := p) dX3_takeFirst_1 fl_X3_20 hL.2 rfl s1 ?_
  refine g_astore_n (lv2 := [(1, .ref p), (0, .ref L)]) dX3_takeFirst_4 rfl (by decide) rfl ?_
  refine g_aload_n 0 dX3_takeFirst_5 rfl rfl ?_
  refine g_ifnonnull (tgt := 11) dX3_takeFirst_6 (by decide) ?_
  cases g : r with
  | nil =>
    rw [g] at hn
    refine g_aload_n 1 dX3_takeFirst_11 rfl rfl ?_
    refine g_aload_n 0 dX3_takeFirst_12 rfl rfl ?_
    refine g_getrN (f := 201) dX3_takeFirst_13 fl_X3_9 hp.2 rfl hn ?_
    refine g_putrN (f := 96) dX3_takeFirst_16 fl_X3_20 (Or.inl rfl) hL.2 rfl ?_
    refine g_aload_n 1 dX3_takeFirst_19 rfl rfl ?_
    refine g_getrN (f := 96) dX3_takeFirst_20 fl_X3_20 hL.2 rfl (by rw [zr_Sr, if_pos ⟨rfl, rfl⟩]) ?_
    refine g_ifnonnullN dX3_takeFirst_23 ?_
    refine g_aload_n 1 dX3_takeFirst_26 rfl rfl ?_
    refine g_null dX3_takeFirst_27 ?_
    refine g_putrN (f := 97) dX3_takeFirst_28 fl_X3_15 (Or.inl rfl) hL.2 rfl ?_
    refine g_aload_n 0 dX3_takeFirst_31 rfl rfl ?_
    refine g_null dX3_takeFirst_32 ?_
    refine g_putrN (f := 201) dX3_takeFirst_33 fl_X3_9 (Or.inl rfl) hp.2 rfl ?_
    refine g_aload_n 1 dX3_takeFirst_36 rfl rfl ?_
    refine g_dup dX3_takeFirst_37 rfl ?_
    refine g_geti (f := 98) dX3_takeFirst_38 fl_X3_23 hL.2 (by decide) rfl ?_
    refine g_iconst (v := nI 1) dX3_takeFirst_41 (by decide) ?_
    refine g_isub dX3_takeFirst_42 ?_
    refine g_puti (f := 98) dX3_takeFirst_43 fl_X3_23 (Or.inl rfl) hL.2 rfl ?_
    refine g_aload_n 0 dX3_takeFirst_46 rfl rfl ?_
    refine g_areturn dX3_takeFirst_47 rfl (Or.inl ⟨_, rfl⟩) (Or.inr ⟨_, rfl⟩) ?_
    refine ⟨rfl, ⟨fun a => ?_, fun a => ?_, fun a => ?_, fun a => ?_⟩, rfl, rfl, fun _ => rfl, fun _ => rfl, fun f a hf => ?_, fun _ _ => rfl, fun f a h1 h2 h3 => ?_, fun _ _ => rfl, fun _ _ => rfl, fun _ _ => rfl⟩
    · rw [zr_Si, zr_Sr, if_neg (fun q => absurd q.1 (by decide)), zr_Sr, if_neg (fun q => absurd q.1 (by decide)), zr_Sr]
      by_cases c : a = L
      · rw [if_pos ⟨rfl, c⟩, if_pos c]; rfl
      · rw [if_neg (fun q => c q.2), if_neg c]
    · rw [zr_Si, zr_Sr, if_neg (fun q => absurd q.1 (by decide)), zr_Sr]
      by_cases c : a = L
      · rw [if_pos ⟨rfl, c⟩, if_pos ⟨c, rfl⟩]
      · rw [if_neg (fun q => c q.2), if_neg (fun q => c q.1), zr_Sr, if_neg (fun q => absurd q.1 (by decide))]
    · rw [zi_Si]
      by_cases c : a = L
      · rw [if_pos ⟨rfl, c⟩, if_pos c]
        show zi h 98 L - nI 1 = _
        rw [s3, g, List.length_cons, ← nI_add]; exact Int32.add_sub_cancel _ _
      · rw [if_neg (fun q => c q.2), if_neg c]; rfl
    · rw [zr_Si, zr_Sr]
      by_cases c : a = p
      · rw [if_pos ⟨rfl, c⟩, if_pos c]
      · rw [if_neg (fun q => c q.2), if_neg c, zr_Sr, if_neg (fun q => absurd q.1 (by decide)), zr_Sr, if_neg (fun q => absurd q.1 (by decide))]
    · rw [zi_Si, if_neg (fun q => hf q.1)]; rfl
    · rw [zr_Si, zr_Sr, if_neg (fun q => by omega), zr_Sr, if_neg (fun q => by omega), zr_Sr, if_neg (fun q => by omega)]
  | cons q r2 =>
    rw [g] at hn
    refine g_aload_n 1 dX3_takeFirst_11 rfl rfl ?_
    refine g_aload_n 0 dX3_takeFirst_12 rfl rfl ?_
    refine g_getr (f := 201) (b := q) dX3_takeFirst_13 fl_X3_9 hp.2 rfl hn ?_
    refine g_putr (f := 96) dX3_takeFirst_16 fl_X3_20 (Or.inl rfl) hL.2 rfl ?_
    refine g_aload_n 1 dX3_takeFirst_19 rfl rfl ?_
    refine g_getr (f := 96) (b := q) dX3_takeFirst_20 fl_X3_20 hL.2 rfl (by rw [zr_Sr, if_pos ⟨rfl, rfl⟩]) ?_
    refine g_ifnonnull (tgt := 31) dX3_takeFirst_23 (by decide) ?_
    refine g_aload_n 0 dX3_takeFirst_31 rfl rfl ?_
    refine g_null dX3_takeFirst_32 ?_
    refine g_putrN (f := 201) dX3_takeFirst_33 fl_X3_9 (Or.inl rfl) hp.2 rfl ?_
    refine g_aload_n 1 dX3_takeFirst_36 rfl rfl ?_
    refine g_dup dX3_takeFirst_37 rfl ?_
    refine g_geti (f := 98) dX3_takeFirst_38 fl_X3_23 hL.2 (by decide) rfl ?_
    refine g_iconst (v := nI 1) dX3_takeFirst_41 (by decide) ?_
    refine g_isub dX3_takeFirst_42 ?_
    refine g_puti (f := 98) dX3_takeFirst_43 fl_X3_23 (Or.inl rfl) hL.2 rfl ?_
    refine g_aload_n 0 dX3_takeFirst_46 rfl rfl ?_
    refine g_areturn dX3_takeFirst_47 rfl (Or.inl ⟨_, rfl⟩) (Or.inr ⟨_, rfl⟩) ?_
    refine ⟨rfl, ⟨fun a => ?_, fun a => ?_, fun a => ?_, fun a => ?_⟩, rfl, rfl, fun _ => rfl, fun _ => rfl, fun f a hf => ?_, fun _ _ => rfl, fun f a h1 h2 h3 => ?_, fun _ _ => rfl, fun _ _ => rfl, fun _ _ => rfl⟩
    · rw [zr_Si, zr_Sr, if_neg (fun q => absurd q.1 (by decide)), zr_Sr]
      by_cases c : a = L
      · rw [if_pos ⟨rfl, c⟩, if_pos c]; rfl
      · rw [if_neg (fun q => c q.2), if_neg c]
    · rw [zr_Si, zr_Sr, if_neg (fun q => absurd q.1 (by decide)), zr_Sr, if_neg (fun q => absurd q.1 (by decide)), if_neg (fun q => absurd q.2 (by simp))]
    · rw [zi_Si]
      by_cases c : a = L
      · rw [if_pos ⟨rfl, c⟩, if_pos c]
        show zi h 98 L - nI 1 = _
        rw [s3, g, List.length_cons, ← nI_add]; exact Int32.add_sub_cancel _ _
      · rw [if_neg (fun q => c q.2), if_neg c]; rfl
    · rw [zr_Si, zr_Sr]
      by_cases c : a = p
      · rw [if_pos ⟨rfl, c⟩, if_pos c]
      · rw [if_neg (fun q => c q.2), if_neg c, zr_Sr, if_neg (fun q => absurd q.1 (by decide))]
    · rw [zi_Si, if_neg (fun q => hf q.1)]; rfl
    · rw [zr_Si, zr_Sr, if_neg (fun q => by omega), zr_Sr, if_neg (fun q => by omega)]
theorem c_takeNone (s : lnS h ls) (hL : isL h L) (e : ls L = []) : zM l w mX3_takeFirst [.ref L] h (fun v h1 => v = some .null ∧ h1 = h) := by
  refine zM.of (by decide) (Nat.le_of_ble_eq_true rfl) ?_
  obtain ⟨s1, s2, s3, s4⟩ := s.1 L hL
  rw [e] at s1
  refine g_aload_n 0 dX3_takeFirst_0 rfl rfl ?_
  refine g_getrN (f := 96) dX3_takeFirst_1 fl_X3_20 hL.2 rfl s1 ?_
  refine g_astore_nN (lv2 := [(1, .null), (0, .ref L)]) dX3_takeFirst_4 rfl (by decide) rfl ?_
  refine g_aload_nN 0 dX3_takeFirst_5 rfl rfl ?_
  refine g_ifnonnullN dX3_takeFirst_6 ?_
  refine g_null dX3_takeFirst_9 ?_
  refine g_areturn dX3_takeFirst_10 rfl (Or.inl ⟨_, rfl⟩) (Or.inl rfl) ?_
  exact ⟨rfl, rfl⟩
end CL2
