section QM8
variable {l : Launch} {w : zW} {h : zH} {m : Nat} {g g' : Nat → Int64} {N : nT}
theorem MoR.cg (r : MoR g N) (f : nFit N) (e : ∀ k, k < 5804 → g' k = g k) : MoR g' N := by
  obtain ⟨r1, r2, r3, r4, r5, r6, r7, r8⟩ := r
  obtain ⟨f1, f2, f3, f4⟩ := f
  have len : ∀ {α : Type} {L : List α} {i : Nat} {p : α}, L[i]? = some p → i < L.length := fun hp => (List.getElem?_eq_some_iff.mp hp).1
  refine ⟨fun k hk hs => (e k (by omega)).trans (r1 k hk hs), ⟨(e _ (by omega)).trans r2.1, (e _ (by omega)).trans r2.2.1, (e _ (by omega)).trans r2.2.2⟩, fun a ha => ⟨(e _ (by omega)).trans (r3 a ha).1, (e _ (by omega)).trans (r3 a ha).2⟩, fun a ha i p hp => ?_, fun a ha i p hp => ?_, fun i p hp => ?_, fun i p hp => ?_, fun i q hq j hj => ?_⟩
  · have := len hp; have := (f1 a ha).1
    exact (e _ (by omega)).trans (r4 a ha i p hp)
  · have := len hp; have := (f1 a ha).2
    exact (e _ (by omega)).trans (r5 a ha i p hp)
  · have := len hp
    exact (e _ (by omega)).trans (r6 i p hp)
  · have := len hp
    obtain ⟨q1, q2, q3, q4⟩ := r7 i p hp
    exact ⟨(e _ (by omega)).trans q1, (e _ (by omega)).trans q2, (e _ (by omega)).trans q3, (e _ (by omega)).trans q4⟩
  · have := len hq
    exact (e _ (by omega)).trans (r8 i q hq j hj)
/-- the nets that stand marked -/
def MkR (g : Nat → Int64) (n : Nat) (Ns : Nat → nT) : Prop := ∀ j, j < n → nFit (Ns j) ∧ MoR (fun k => g (11608 + 5804 * j + k)) (Ns j)
def updN (Ns : Nat → nT) (n : Nat) (N : nT) : Nat → nT := fun j => if j = n then N else Ns j
theorem MkR.cg {n : Nat} {Ns : Nat → nT} (k : MkR g n Ns) (e : ∀ j, 11608 ≤ j → j < 11608 + 5804 * n → g' j = g j) : MkR g' n Ns := fun j hj => ⟨(k j hj).1, (k j hj).2.cg (k j hj).1 (fun q hq => e _ (by omega) (by omega))⟩
theorem MkR.less {n n' : Nat} {Ns : Nat → nT} (k : MkR g n Ns) (e : n' ≤ n) : MkR g n' Ns := fun j hj => k j (by omega)
theorem MkR.mark {n : Nat} {Ns : Nat → nT} (k : MkR g n Ns) (r : MoR g N) (f : nFit N) : MkR (cpG g 0 (11608 + 5804 * n) 5804) (n + 1) (updN Ns n N) := by
  intro j hj
  by_cases e : j = n
  · subst e
    have e2 : updN Ns j N j = N := if_pos rfl
    rw [e2]
    refine ⟨f, r.cg f (fun q hq => ?_)⟩
    show cpG g 0 (11608 + 5804 * j) 5804 (11608 + 5804 * j + q) = g q
    unfold cpG
    rw [if_pos (by omega), show 11608 + 5804 * j + q - (11608 + 5804 * j) + 0 = q by omega]
  · have e2 : updN Ns n N j = Ns j := if_neg e
    rw [e2]
    refine ⟨(k j (by omega)).1, (k j (by omega)).2.cg (k j (by omega)).1 (fun q hq => ?_)⟩
    show cpG g 0 (11608 + 5804 * n) 5804 (11608 + 5804 * j + q) = g (11608 + 5804 * j + q)
    unfold cpG
    rw [if_neg (by omega)]
theorem MoN.cp {c : Nat} (r : MoN h m N) (f : nFit N) (hc : 5804 ≤ c) {a : Nat} : MoN (zSG h (m + 1) (cpG (zL h (m + 1)) a c 5804)) m N :=
  ⟨r.1, by rw [zL_SG]; exact r.2.1.cg f (fun k hk => by unfold cpG; rw [if_neg (by omega)]), r.2.2.1, r.2.2.2⟩
theorem c_markM (hM : Mo h m) {n : Nat} (hn : zi h 322 m = nI n) (n3 : n ≤ 3) : zM l w mX10_mark [.ref m] h (fun u h1 => if n = 3 then u = some (.int (-1)) ∧ h1 = zSi h 321 m (nI 3) else u = some (.int (nI (n + 1))) ∧ h1 = zSi (zSi (zSG h (m + 1) (cpG (zL h (m + 1)) 0 (11608 + 5804 * n) 5804)) 322 m (nI (n + 1))) 321 m (nI 0)) := by
  refine zM.of (by decide) (Nat.le_of_ble_eq_true rfl) ?_
  refine g_aload_n 0 dX10_mark_0 rfl rfl ?_
  refine g_geti (f := 322) dX10_mark_1 fl_X10_302 hM.1 (by decide) rfl ?_
  rw [show zi h 322 m = nI n from hn]
  refine g_iconst (v := nI 3) dX10_mark_4 (by decide) ?_
  refine g_ncmp_ne (tgt := 14) dX10_mark_5 (by decide) (by omega) (by omega) (fun g => ?_) (fun g => ?_)
  · refine g_aload_n 0 dX10_mark_14 rfl rfl ?_
    refine g_iconst (v := nI 0) dX10_mark_15 (by decide) ?_
    refine g_sipush (v := nI 11608) dX10_mark_16 (by decide) ?_
    refine g_sipush (v := nI 5804) dX10_mark_19 (by decide) ?_
    refine g_aload_n 0 dX10_mark_22 rfl rfl ?_
    refine g_geti (f := 322) dX10_mark_23 fl_X10_302 hM.1 (by decide) rfl ?_
    rw [show zi h 322 m = nI n from hn]
    refine g_imul dX10_mark_26 ?_
    rw [pk_mul 5804 n]
    refine g_iadd dX10_mark_27 ?_
    rw [nI_add 11608 (5804 * n)]
    refine g_invv (M' := mX10_copies) (As := [.int (nI 0), .int (nI (11608 + 5804 * n))]) (rest := []) dX10_mark_28 ml_X10_292 okX10_copies imX10_copies seX10_copies ⟨(Nat.le_of_ble_eq_true rfl), (Nat.le_of_ble_eq_true rfl)⟩ (ci := 10) rfl rfl hM.1 rfl rfl (Nat.le_of_ble_eq_true rfl) (c_copies hM (a := 0) (c := 11608 + 5804 * n) (by omega) (by omega) (by omega)) ?_
    rintro _ q5 ⟨rfl, eq5⟩
    subst q5
    show zG l w mX10_mark 31 [(0, .ref m)] [] (zSG h (m + 1) (cpG (zL h (m + 1)) 0 (11608 + 5804 * n) 5804)) _
    have hM2 : zk (zSG h (m + 1) (cpG (zL h (m + 1)) 0 (11608 + 5804 * n) 5804)) m = 10 := hM.1
    have hn2 : zi (zSG h (m + 1) (cpG (zL h (m + 1)) 0 (11608 + 5804 * n) 5804)) 322 m = nI n := hn
    generalize zSG h (m + 1) (cpG (zL h (m + 1)) 0 (11608 + 5804 * n) 5804) = y at hM2 hn2 ⊢
    refine g_aload_n 0 dX10_mark_31 rfl rfl ?_
    refine g_dup dX10_mark_32 rfl ?_
    refine g_geti (f := 322) dX10_mark_33 fl_X10_302 hM2 (by decide) rfl ?_
    rw [hn2]
    refine g_iconst (v := nI 1) dX10_mark_36 (by decide) ?_
    refine g_iadd dX10_mark_37 ?_
    rw [nI_add n 1]
    refine g_puti (f := 322) dX10_mark_38 fl_X10_302 (Or.inl rfl) hM2 rfl ?_
    refine g_aload_n 0 dX10_mark_41 rfl rfl ?_
    refine g_aload_n 0 dX10_mark_42 rfl rfl ?_
    refine g_geti (f := 322) dX10_mark_43 fl_X10_302 hM2 (by decide) rfl ?_
    rw [zi_same]
    refine g_i2l dX10_mark_46 ?_
    rw [nI_l (by omega), ← jL_nat]
    refine g_invv (M' := mX10_gives) (As := [.long (jL ((n + 1 : Nat) : Int))]) (rest := []) dX10_mark_47 ml_X10_298 okX10_gives imX10_gives seX10_gives ⟨(Nat.le_of_ble_eq_true rfl), (Nat.le_of_ble_eq_true rfl)⟩ (ci := 10) rfl rfl hM2 rfl rfl (Nat.le_of_ble_eq_true rfl) (c_gives hM2) ?_
    rintro _ q2 ⟨rfl, eq2⟩
    subst q2
    show zG l w mX10_mark 50 [(0, .ref m)] [.int (jI ((n + 1 : Nat) : Int))] (zSi (zSi y 322 m (nI (n + 1))) 321 m (nI 0)) _
    refine g_ireturn dX10_mark_50 rfl ?_
    rw [if_neg g]
    exact ⟨by rw [jI_nat], rfl⟩
  · refine g_aload_n 0 dX10_mark_8 rfl rfl ?_
    refine g_iconst (v := nI 3) dX10_mark_9 (by decide) ?_
    refine g_invv (M' := mX10_refuse) (As := [.int (nI 3)]) (rest := []) dX10_mark_10 ml_X10_289 okX10_refuse imX10_refuse seX10_refuse ⟨(Nat.le_of_ble_eq_true rfl), (Nat.le_of_ble_eq_true rfl)⟩ (ci := 10) rfl rfl hM.1 rfl rfl (Nat.le_of_ble_eq_true rfl) (c_refuse hM.1) ?_
    rintro _ q1 ⟨rfl, eq1⟩
    subst q1
    show zG l w mX10_mark 13 [(0, .ref m)] [.int (-1)] (zSi h 321 m (nI 3)) _
    refine g_ireturn dX10_mark_13 rfl ?_
    rw [if_pos (by omega)]
    exact ⟨rfl, rfl⟩
theorem c_backM (hM : Mo h m) {n : Nat} (hn : zi h 322 m = nI n) (n3 : n ≤ 3) : zM l w mX10_back [.ref m] h (fun u h1 => if n = 0 then u = some (.int (-1)) ∧ h1 = zSi h 321 m (nI 5) else u = some (.int (nI (n - 1))) ∧ h1 = zSi (zSG (zSi h 322 m (nI (n - 1))) (m + 1) (cpG (zL h (m + 1)) (11608 + 5804 * (n - 1)) 0 5804)) 321 m (nI 0)) := by
  refine zM.of (by decide) (Nat.le_of_ble_eq_true rfl) ?_
  refine g_aload_n 0 dX10_back_0 rfl rfl ?_
  refine g_geti (f := 322) dX10_back_1 fl_X10_302 hM.1 (by decide) rfl ?_
  rw [show zi h 322 m = nI n from hn]
  refine g_zif_ne (a := ((n : Nat) : Int)) (tgt := 13) (jI_nat n).symm dX10_back_4 (by decide) (by omega) (fun g => ?_) (fun g => ?_)
  · refine g_aload_n 0 dX10_back_13 rfl rfl ?_
    refine g_dup dX10_back_14 rfl ?_
    refine g_geti (f := 322) dX10_back_15 fl_X10_302 hM.1 (by decide) rfl ?_
    rw [hn]
    refine g_iconst (v := nI 1) dX10_back_18 (by decide) ?_
    refine g_isub dX10_back_19 ?_
    refine zG.top (nI_sub (a := n) (c := 1) (by omega)) ?_
    refine g_puti (f := 322) dX10_back_20 fl_X10_302 (Or.inl rfl) hM.1 rfl ?_
    have hM2 : Mo (zSi h 322 m (nI (n - 1))) m := hM
    have hn2 : zi (zSi h 322 m (nI (n - 1))) 322 m = nI (n - 1) := zi_same
    have hL2 : zL (zSi h 322 m (nI (n - 1))) (m + 1) = zL h (m + 1) := rfl
    generalize zSi h 322 m (nI (n - 1)) = y at hM2 hn2 hL2 ⊢
    refine g_aload_n 0 dX10_back_23 rfl rfl ?_
    refine g_sipush (v := nI 11608) dX10_back_24 (by decide) ?_
    refine g_sipush (v := nI 5804) dX10_back_27 (by decide) ?_
    refine g_aload_n 0 dX10_back_30 rfl rfl ?_
    refine g_geti (f := 322) dX10_back_31 fl_X10_302 hM2.1 (by decide) rfl ?_
    rw [hn2]
    refine g_imul dX10_back_34 ?_
    rw [pk_mul 5804 (n - 1)]
    refine g_iadd dX10_back_35 ?_
    rw [nI_add 11608 (5804 * (n - 1))]
    refine g_iconst (v := nI 0) dX10_back_36 (by decide) ?_
    refine g_invv (M' := mX10_copies) (As := [.int (nI (11608 + 5804 * (n - 1))), .int (nI 0)]) (rest := []) dX10_back_37 ml_X10_292 okX10_copies imX10_copies seX10_copies ⟨(Nat.le_of_ble_eq_true rfl), (Nat.le_of_ble_eq_true rfl)⟩ (ci := 10) rfl rfl hM2.1 rfl rfl (Nat.le_of_ble_eq_true rfl) (c_copies hM2 (a := 11608 + 5804 * (n - 1)) (c := 0) (by omega) (by omega) (by omega)) ?_
    rintro _ q5 ⟨rfl, eq5⟩
    subst q5
    show zG l w mX10_back 40 [(0, .ref m)] [] (zSG y (m + 1) (cpG (zL y (m + 1)) (11608 + 5804 * (n - 1)) 0 5804)) _
    rw [hL2]
    have hM3 : zk (zSG y (m + 1) (cpG (zL h (m + 1)) (11608 + 5804 * (n - 1)) 0 5804)) m = 10 := hM2.1
    have hn3 : zi (zSG y (m + 1) (cpG (zL h (m + 1)) (11608 + 5804 * (n - 1)) 0 5804)) 322 m = nI (n - 1) := hn2
    generalize zSG y (m + 1) (cpG (zL h (m + 1)) (11608 + 5804 * (n - 1)) 0 5804) = y2 at hM3 hn3 ⊢
    refine g_aload_n 0 dX10_back_40 rfl rfl ?_
    refine g_aload_n 0 dX10_back_41 rfl rfl ?_
    refine g_geti (f := 322) dX10_back_42 fl_X10_302 hM3 (by decide) rfl ?_
    rw [hn3]
    refine g_i2l dX10_back_45 ?_
    rw [nI_l (by omega), ← jL_nat]
    refine g_invv (M' := mX10_gives) (As := [.long (jL ((n - 1 : Nat) : Int))]) (rest := []) dX10_back_46 ml_X10_298 okX10_gives imX10_gives seX10_gives ⟨(Nat.le_of_ble_eq_true rfl), (Nat.le_of_ble_eq_true rfl)⟩ (ci := 10) rfl rfl hM3 rfl rfl (Nat.le_of_ble_eq_true rfl) (c_gives hM3) ?_
    rintro _ q2 ⟨rfl, eq2⟩
    subst q2
    show zG l w mX10_back 49 [(0, .ref m)] [.int (jI ((n - 1 : Nat) : Int))] (zSi y2 321 m (nI 0)) _
    refine g_ireturn dX10_back_49 rfl ?_
    rw [if_neg (by omega)]
    exact ⟨by rw [jI_nat], rfl⟩
  · refine g_aload_n 0 dX10_back_7 rfl rfl ?_
    refine g_iconst (v := nI 5) dX10_back_8 (by decide) ?_
    refine g_invv (M' := mX10_refuse) (As := [.int (nI 5)]) (rest := []) dX10_back_9 ml_X10_289 okX10_refuse imX10_refuse seX10_refuse ⟨(Nat.le_of_ble_eq_true rfl), (Nat.le_of_ble_eq_true rfl)⟩ (ci := 10) rfl rfl hM.1 rfl rfl (Nat.le_of_ble_eq_true rfl) (c_refuse hM.1) ?_
    rintro _ q1 ⟨rfl, eq1⟩
    subst q1
    show zG l w mX10_back 12 [(0, .ref m)] [.int (-1)] (zSi h 321 m (nI 5)) _
    refine g_ireturn dX10_back_12 rfl ?_
    rw [if_pos (by omega)]
    exact ⟨rfl, rfl⟩
theorem MoR.back {n : Nat} {Ns : Nat → nT} (k : MkR g n Ns) (hn : 0 < n) : MoR (cpG g (11608 + 5804 * (n - 1)) 0 5804) (Ns (n - 1)) ∧ MkR (cpG g (11608 + 5804 * (n - 1)) 0 5804) (n - 1) Ns := by
  refine ⟨(k (n - 1) (by omega)).2.cg (k (n - 1) (by omega)).1 (fun q hq => ?_), (k.less (by omega)).cg (fun j h1 h2 => ?_)⟩
  · unfold cpG
    rw [if_pos (by omega), show q - 0 + (11608 + 5804 * (n - 1)) = 11608 + 5804 * (n - 1) + q by omega]
  · unfold cpG
    rw [if_neg (by omega)]
end QM8
