section M15
variable {l : Launch} {w : zW} {h : zH} {m : Nat} {N : nT} {g : Nat → Int64}
theorem c_ofFlowG (hM : Mo h m) {a k : Nat} (hk : 248 + 20 * a + k < 29020) : zM l w mX10_ofFlow [.ref m, .int (nI a), .int (nI k)] (zSG h (m + 1) g) (fun v h1 => v = some (.long (g (248 + 20 * a + k))) ∧ h1 = zSG h (m + 1) g) := by
  have q := c_ofFlow (l := l) (w := w) (h := zSG h (m + 1) g) (m := m) (a := a) hM hk
  rw [zL_SG] at q
  exact q
/-- the windows as they are, written behind the past -/
def cpF (g : Nat → Int64) (n i : Nat) : Nat → Int64 := fun k => if 5684 + 6 * n ≤ k ∧ k < 5684 + 6 * n + i then g (248 + 20 * (k - (5684 + 6 * n)) + 5) else g k
theorem cpF_0 {n : Nat} : cpF g n 0 = g := by funext k; unfold cpF; rw [if_neg (by omega)]
theorem cpF_ne {n i k : Nat} (hk : k < 5684 + 6 * n ∨ 5684 + 6 * n + i ≤ k) : cpF g n i k = g k := by unfold cpF; rw [if_neg (by omega)]
theorem cpF_in {n i f : Nat} (hf : f < i) : cpF g n i (5684 + 6 * n + f) = g (248 + 20 * f + 5) := by unfold cpF; rw [if_pos (by omega), show 5684 + 6 * n + f - (5684 + 6 * n) = f by omega]
theorem cpF_succ {n i : Nat} (hi : i < 6) : updL (cpF g n i) (5684 + 6 * n + i) (cpF g n i (248 + 20 * i + 5)) = cpF g n (i + 1) := by
  funext k
  rw [cpF_ne (k := 248 + 20 * i + 5) (by omega)]
  by_cases e : k = 5684 + 6 * n + i
  · subst e
    rw [updL_eq, cpF_in (by omega)]
  · rw [updL_ne e]
    by_cases e2 : 5684 + 6 * n ≤ k ∧ k < 5684 + 6 * n + i
    · unfold cpF; rw [if_pos e2, if_pos (by omega)]
    · rw [cpF_ne (by omega), cpF_ne (by omega)]
theorem MoR.pushP (r : MoR g N) (hF : nFit N) (hP : (nP N).length < 20) : MoR (updL (cpF g (nP N).length 6) 4 (lN ((nP N).length + 1))) (uP N (nP N ++ [fun f => nA N (248 + 20 * f + 5)])) := by
  obtain ⟨r1, r2, r3, r4, r5, r6, r7, r8⟩ := r
  have lt : ∀ {α : Type} {L : List α} {i : Nat} {x : α}, L[i]? = some x → i < L.length := fun h => (List.getElem?_eq_some_iff.mp h).1
  have ne : ∀ j, j ≠ 4 → j < 5684 → updL (cpF g (nP N).length 6) 4 (lN ((nP N).length + 1)) j = g j := fun j hj h2 => by rw [updL_ne hj, cpF_ne (by omega)]
  refine ⟨fun j hj hs => ?_, ⟨?_, ?_, ?_⟩, fun l hl => ⟨?_, ?_⟩, fun l hl i q hq => ?_, fun l hl i q hq => ?_, fun i q hq => ?_, fun i q hq => ?_, fun i q hq f hf => ?_⟩
  · rw [ne j (fun c => hs (by unfold nSp; omega)) (by omega)]; exact r1 j hj hs
  · rw [ne 3 (by omega) (by omega)]; exact r2.1
  · show _ = lN (nP N ++ [_]).length
    rw [updL_eq, List.length_append]; rfl
  · rw [ne 5 (by omega) (by omega)]; exact r2.2.2
  · rw [ne _ (by omega) (by omega)]; exact (r3 l hl).1
  · rw [ne _ (by omega) (by omega)]; exact (r3 l hl).2
  · have h9 : i < (nR N l).length := lt hq
    have := (hF.1 l hl).1
    rw [ne _ (by omega) (by omega)]; exact r4 l hl i q hq
  · have h9 : i < (nW N l).length := lt hq
    have := (hF.1 l hl).2
    rw [ne _ (by omega) (by omega)]; exact r5 l hl i q hq
  · have h9 : i < (nK N).length := lt hq
    have := hF.2.1
    rw [ne _ (by omega) (by omega)]; exact r6 i q hq
  · have h9 : i < (nE N).length := lt hq
    have := hF.2.2.1
    rw [ne _ (by omega) (by omega), ne _ (by omega) (by omega), ne _ (by omega) (by omega), ne _ (by omega) (by omega)]; exact r7 i q hq
  · have hq' : (nP N ++ [fun f => nA N (248 + 20 * f + 5)])[i]? = some q := hq
    rw [List.getElem?_append] at hq'
    by_cases c : i < (nP N).length
    · rw [if_pos c] at hq'
      rw [updL_ne (by omega), cpF_ne (by omega)]
      exact r8 i q hq' f hf
    · rw [if_neg c] at hq'
      have hi : i = (nP N).length := by
        have := lt hq'
        rw [List.length_singleton] at this
        omega
      subst hi
      rw [Nat.sub_self] at hq'
      have e : q = fun f => nA N (248 + 20 * f + 5) := by simpa using hq'.symm
      rw [e, updL_ne (by omega), cpF_in hf]
      exact r1 _ (by omega) (by unfold nSp; omega)
theorem MoR.dropP (r : MoR g N) (hF : nFit N) (hP : (nP N).length = 20) : MoR (updL (shG g 5684 6 114) 4 (lN 19)) (uP N ((nP N).drop 1)) := by
  obtain ⟨r1, r2, r3, r4, r5, r6, r7, r8⟩ := r
  have lt : ∀ {α : Type} {L : List α} {i : Nat} {x : α}, L[i]? = some x → i < L.length := fun h => (List.getElem?_eq_some_iff.mp h).1
  have ne : ∀ j, j ≠ 4 → j < 5684 → updL (shG g 5684 6 114) 4 (lN 19) j = g j := fun j hj h2 => by rw [updL_ne hj, shG_ne (by omega)]
  refine ⟨fun j hj hs => ?_, ⟨?_, ?_, ?_⟩, fun l hl => ⟨?_, ?_⟩, fun l hl i q hq => ?_, fun l hl i q hq => ?_, fun i q hq => ?_, fun i q hq => ?_, fun i q hq f hf => ?_⟩
  · rw [ne j (fun c => hs (by unfold nSp; omega)) (by omega)]; exact r1 j hj hs
  · rw [ne 3 (by omega) (by omega)]; exact r2.1
  · show _ = lN ((nP N).drop 1).length
    rw [updL_eq, List.length_drop, hP]
  · rw [ne 5 (by omega) (by omega)]; exact r2.2.2
  · rw [ne _ (by omega) (by omega)]; exact (r3 l hl).1
  · rw [ne _ (by omega) (by omega)]; exact (r3 l hl).2
  · have h9 : i < (nR N l).length := lt hq
    have := (hF.1 l hl).1
    rw [ne _ (by omega) (by omega)]; exact r4 l hl i q hq
  · have h9 : i < (nW N l).length := lt hq
    have := (hF.1 l hl).2
    rw [ne _ (by omega) (by omega)]; exact r5 l hl i q hq
  · have h9 : i < (nK N).length := lt hq
    have := hF.2.1
    rw [ne _ (by omega) (by omega)]; exact r6 i q hq
  · have h9 : i < (nE N).length := lt hq
    have := hF.2.2.1
    rw [ne _ (by omega) (by omega), ne _ (by omega) (by omega), ne _ (by omega) (by omega), ne _ (by omega) (by omega)]; exact r7 i q hq
  · have hq' : ((nP N).drop 1)[i]? = some q := hq
    have hi := lt hq'
    rw [List.length_drop, hP] at hi
    rw [List.getElem?_drop] at hq'
    have h8 := r8 (1 + i) q hq' f hf
    rw [updL_ne (by omega), shG_in (by omega), ← h8]
    congr 1
    omega
theorem rem_tail {Q : Option Value → zH → Prop} (hM : Mo h m) {n : Nat} (hn : g 4 = lN n) (h20 : n < 20) (hQ : Q none (zSG h (m + 1) (updL (cpF g n 6) 4 (lN (n + 1))))) : zG l w mX10_remembers 50 [(0, .ref m)] [] (zSG h (m + 1) g) Q := by
  have loop : ∀ k i : Nat, i + k = 6 → zG l w mX10_remembers 52 [(1, .int (nI i)), (0, .ref m)] [] (zSG h (m + 1) (cpF g n i)) Q := by
    intro k
    induction k with
    | zero =>
      intro i hi
      refine g_iload_n 0 dX10_remembers_52 rfl rfl ?_
      refine g_bipush (v := nI 6) dX10_remembers_53 (by decide) ?_
      refine g_ncmp_ge (tgt := 88) dX10_remembers_55 (by decide) (by omega) (by omega) (fun c => ?_) (fun c => ?_)
      · have hi' : i = 6 := by omega
        subst hi'
        refine g_aload_n 1 dX10_remembers_88 rfl rfl ?_
        refine g_iconst (v := nI 4) dX10_remembers_89 (by decide) ?_
        refine g_lconst (v := lN 1) dX10_remembers_90 (by decide) ?_
        refine g_invv (M' := mX10_adds) (As := [.int (nI 4), .long (lN 1)]) (rest := []) dX10_remembers_91 ml_X10_76 okX10_adds imX10_adds seX10_adds ⟨(Nat.le_of_ble_eq_true rfl), (Nat.le_of_ble_eq_true rfl)⟩ (ci := 10) rfl rfl hM.1 rfl rfl (Nat.le_of_ble_eq_true rfl) (c_addsG hM (by omega)) ?_
        rintro _ q1 ⟨rfl, eq1⟩
        subst q1
        show zG l w mX10_remembers 94 [(1, .int (nI 6)), (0, .ref m)] [] (zSG h (m + 1) (updL (cpF g n 6) 4 (cpF g n 6 4 + lN 1))) _
        rw [cpF_ne (k := 4) (by omega), hn, lN_add]
        refine g_return dX10_remembers_94 rfl ?_
        exact hQ
      · exact absurd c (by omega)
    | succ k ih =>
      intro i hi
      refine g_iload_n 0 dX10_remembers_52 rfl rfl ?_
      refine g_bipush (v := nI 6) dX10_remembers_53 (by decide) ?_
      refine g_ncmp_ge (tgt := 88) dX10_remembers_55 (by decide) (by omega) (by omega) (fun c => ?_) (fun c => ?_)
      · exact absurd c (by omega)
      · refine g_aload_n 1 dX10_remembers_58 rfl rfl ?_
        refine g_sipush (v := nI 5684) dX10_remembers_59 (by decide) ?_
        refine g_bipush (v := nI 6) dX10_remembers_62 (by decide) ?_
        refine g_aload_n 1 dX10_remembers_64 rfl rfl ?_
        refine g_iconst (v := nI 4) dX10_remembers_65 (by decide) ?_
        refine g_invv (M' := mX10_at) (As := [.int (nI 4)]) (rest := [.int (nI 6), .int (nI 5684), .ref m]) dX10_remembers_66 ml_X10_58 okX10_at imX10_at seX10_at ⟨(Nat.le_of_ble_eq_true rfl), (Nat.le_of_ble_eq_true rfl)⟩ (ci := 10) rfl rfl hM.1 rfl rfl (Nat.le_of_ble_eq_true rfl) (c_atG hM (by omega)) ?_
        rintro _ q2 ⟨rfl, eq2⟩
        subst q2
        show zG l w mX10_remembers 69 [(1, .int (nI i)), (0, .ref m)] [.int ((cpF g n i 4).toInt32), .int (nI 6), .int (nI 5684), .ref m] (zSG h (m + 1) (cpF g n i)) _
        rw [cpF_ne (k := 4) (by omega), hn, lN_i]
        refine g_imul dX10_remembers_69 ?_
        rw [pk_mul 6 n]
        refine g_iadd dX10_remembers_70 ?_
        rw [nI_add 5684 (6 * n)]
        refine g_iload_n 0 dX10_remembers_71 rfl rfl ?_
        refine g_iadd dX10_remembers_72 ?_
        rw [nI_add (5684 + 6 * n) i]
        refine g_aload_n 1 dX10_remembers_73 rfl rfl ?_
        refine g_iload_n 0 dX10_remembers_74 rfl rfl ?_
        refine g_iconst (v := nI 5) dX10_remembers_75 (by decide) ?_
        refine g_invv (M' := mX10_ofFlow) (As := [.int (nI i), .int (nI 5)]) (rest := [.int (nI (5684 + 6 * n + i)), .ref m]) dX10_remembers_76 ml_X10_62 okX10_ofFlow imX10_ofFlow seX10_ofFlow ⟨(Nat.le_of_ble_eq_true rfl), (Nat.le_of_ble_eq_true rfl)⟩ (ci := 10) rfl rfl hM.1 rfl rfl (Nat.le_of_ble_eq_true rfl) (c_ofFlowG hM (by omega)) ?_
        rintro _ q3 ⟨rfl, eq3⟩
        subst q3
        show zG l w mX10_remembers 79 [(1, .int (nI i)), (0, .ref m)] [.long (cpF g n i (248 + 20 * i + 5)), .int (nI (5684 + 6 * n + i)), .ref m] (zSG h (m + 1) (cpF g n i)) _
        refine g_invv (M' := mX10_puts) (As := [.int (nI (5684 + 6 * n + i)), .long (cpF g n i (248 + 20 * i + 5))]) (rest := []) dX10_remembers_79 ml_X10_40 okX10_puts imX10_puts seX10_puts ⟨(Nat.le_of_ble_eq_true rfl), (Nat.le_of_ble_eq_true rfl)⟩ (ci := 10) rfl rfl hM.1 rfl rfl (Nat.le_of_ble_eq_true rfl) (c_putsG hM (by omega)) ?_
        rintro _ q4 ⟨rfl, eq4⟩
        subst q4
        show zG l w mX10_remembers 82 [(1, .int (nI i)), (0, .ref m)] [] (zSG h (m + 1) (updL (cpF g n i) (5684 + 6 * n + i) (cpF g n i (248 + 20 * i + 5)))) _
        rw [cpF_succ (by omega)]
        refine g_inc (v := nI (i + 1)) (lv2 := [(1, .int (nI (i + 1))), (0, .ref m)]) 0 dX10_remembers_82 rfl (nI_add _ 1) (by decide) rfl ?_
        refine g_goto (tgt := 52) dX10_remembers_85 (by decide) ?_
        exact ih (i + 1) (by omega)
  refine g_iconst (v := nI 0) dX10_remembers_50 (by decide) ?_
  refine g_istore_n (lv2 := [(1, .int (nI 0)), (0, .ref m)]) dX10_remembers_51 rfl (by decide) rfl ?_
  have q := loop 6 0 rfl
  rw [cpF_0] at q
  exact q
theorem c_remembers (r : MoN h m N) (hF : nFit N) : zM l w mX10_remembers [.ref m] h (fun v h1 => v = none ∧ MoN h1 m (pastN N) ∧ FrM m h h1) := by
  refine zM.of (by decide) (Nat.le_of_ble_eq_true rfl) ?_
  have hM := r.1
  have h20 := hF.2.2.2
  refine g_aload_n 0 dX10_remembers_0 rfl rfl ?_
  refine g_iconst (v := nI 4) dX10_remembers_1 (by decide) ?_
  refine g_invv (M' := mX10_of) (As := [.int (nI 4)]) (rest := []) dX10_remembers_2 ml_X10_48 okX10_of imX10_of seX10_of ⟨(Nat.le_of_ble_eq_true rfl), (Nat.le_of_ble_eq_true rfl)⟩ (ci := 10) rfl rfl r.1.1 rfl rfl (Nat.le_of_ble_eq_true rfl) (c_ofPm r) ?_
  rintro _ q1 ⟨rfl, eq1⟩
  subst q1
  show zG l w mX10_remembers 5 [(0, .ref m)] [.long (lN (nP N).length)] h _
  rw [← jL_nat]
  refine g_ldc2J (z := 20) dX10_remembers_5 kl_X10_173 (by decide) ?_
  refine g_lif_ne (a := (((nP N).length : Nat) : Int)) (b := 20) (tgt := 50) dX10_remembers_8 rfl dX10_remembers_9 (by decide) (by omega) (by omega) (fun c => ?_) (fun c => ?_)
  · refine (fun (k : ∀ h0, h0 = zSG h (m + 1) (zL h (m + 1)) → zG l w mX10_remembers 50 [(0, .ref m)] [] h0 (fun v h1 => v = none ∧ MoN h1 m (pastN N) ∧ FrM m h h1)) => k h (zSG_id h (m + 1)).symm) ?_
    intro h0 e0
    subst e0
    refine rem_tail r.1 (n := (nP N).length) r.2.1.2.1.2.1 (by omega) ?_
    have f : FrM m h (zSG h (m + 1) (updL (cpF (zL h (m + 1)) (nP N).length 6) 4 (lN ((nP N).length + 1)))) := FrM.sg (fun i hi => by rw [updL_ne (by omega), cpF_ne (by omega)])
    refine ⟨rfl, ⟨r.1.fr f, ?_, r.2.2⟩, f⟩
    rw [zL_SG]
    have q := r.2.1.pushP hF (by omega)
    unfold pastN
    rw [if_neg (by omega)]
    exact q
  · refine (fun (k : ∀ h0, h0 = zSG h (m + 1) (zL h (m + 1)) → zG l w mX10_remembers 12 [(0, .ref m)] [] h0 (fun v h1 => v = none ∧ MoN h1 m (pastN N) ∧ FrM m h h1)) => k h (zSG_id h (m + 1)).symm) ?_
    intro h0 e0
    subst e0
    have hl : (nP N).length = 20 := by omega
    have loop : ∀ k j : Nat, j + k = 114 → zG l w mX10_remembers 16 [(1, .int (nI (5684 + j))), (0, .ref m)] [] (zSG h (m + 1) (shG (zL h (m + 1)) 5684 6 j)) (fun v h1 => v = none ∧ MoN h1 m (pastN N) ∧ FrM m h h1) := by
      intro k
      induction k with
      | zero =>
        intro j hj
        refine g_iload_n 0 dX10_remembers_16 rfl rfl ?_
        refine g_sipush (v := nI 5798) dX10_remembers_17 (by decide) ?_
        refine g_ncmp_ge (tgt := 42) dX10_remembers_20 (by decide) (by omega) (by omega) (fun d => ?_) (fun d => ?_)
        · have hj' : j = 114 := by omega
          subst hj'
          refine g_aload_n 1 dX10_remembers_42 rfl rfl ?_
          refine g_iconst (v := nI 4) dX10_remembers_43 (by decide) ?_
          refine g_ldc2J (z := (-1)) dX10_remembers_44 kl_X10_74 (by decide) ?_
          refine g_invv (M' := mX10_adds) (As := [.int (nI 4), .long (jL (-1))]) (rest := []) dX10_remembers_47 ml_X10_76 okX10_adds imX10_adds seX10_adds ⟨(Nat.le_of_ble_eq_true rfl), (Nat.le_of_ble_eq_true rfl)⟩ (ci := 10) rfl rfl hM.1 rfl rfl (Nat.le_of_ble_eq_true rfl) (c_addsG hM (by omega)) ?_
          rintro _ q1 ⟨rfl, eq1⟩
          subst q1
          show zG l w mX10_remembers 50 [(1, .int (nI (5684 + 114))), (0, .ref m)] [] (zSG h (m + 1) (updL (shG (zL h (m + 1)) 5684 6 114) 4 (shG (zL h (m + 1)) 5684 6 114 4 + jL (-1)))) _
          rw [show shG (zL h (m + 1)) 5684 6 114 4 + jL (-1) = lN 19 by rw [shG_ne (by omega), r.2.1.2.1.2.1, hl]; decide]
          refine zG.sub [1] rfl ?_
          have D := r.2.1.dropP hF hl
          refine rem_tail r.1 (n := 19) updL_eq (by omega) ?_
          have f : FrM m h (zSG h (m + 1) (updL (cpF (updL (shG (zL h (m + 1)) 5684 6 114) 4 (lN 19)) 19 6) 4 (lN (19 + 1)))) := FrM.sg (fun i hi => by rw [updL_ne (by omega), cpF_ne (by omega), updL_ne (by omega), shG_ne (by omega)])
          refine ⟨rfl, ⟨r.1.fr f, ?_, r.2.2⟩, f⟩
          rw [zL_SG]
          have l19 : (nP (uP N ((nP N).drop 1))).length = 19 := by show ((nP N).drop 1).length = 19; rw [List.length_drop, hl]
          have q := D.pushP (N := uP N ((nP N).drop 1)) ⟨hF.1, hF.2.1, hF.2.2.1, by rw [l19]; omega⟩ (by rw [l19]; omega)
          rw [l19] at q
          unfold pastN
          rw [if_pos hl]
          exact q
        · exact absurd d (by omega)
      | succ k ih =>
        intro j hj
        refine g_iload_n 0 dX10_remembers_16 rfl rfl ?_
        refine g_sipush (v := nI 5798) dX10_remembers_17 (by decide) ?_
        refine g_ncmp_ge (tgt := 42) dX10_remembers_20 (by decide) (by omega) (by omega) (fun d => ?_) (fun d => ?_)
        · exact absurd d (by omega)
        · refine g_aload_n 1 dX10_remembers_23 rfl rfl ?_
          refine g_iload_n 0 dX10_remembers_24 rfl rfl ?_
          refine g_aload_n 1 dX10_remembers_25 rfl rfl ?_
          refine g_iload_n 0 dX10_remembers_26 rfl rfl ?_
          refine g_bipush (v := nI 6) dX10_remembers_27 (by decide) ?_
          refine g_iadd dX10_remembers_29 ?_
          rw [nI_add (5684 + j) 6]
          refine g_invv (M' := mX10_of) (As := [.int (nI (5684 + j + 6))]) (rest := [.int (nI (5684 + j)), .ref m]) dX10_remembers_30 ml_X10_48 okX10_of imX10_of seX10_of ⟨(Nat.le_of_ble_eq_true rfl), (Nat.le_of_ble_eq_true rfl)⟩ (ci := 10) rfl rfl hM.1 rfl rfl (Nat.le_of_ble_eq_true rfl) (c_ofG hM (by omega)) ?_
          rintro _ q2 ⟨rfl, eq2⟩
          subst q2
          show zG l w mX10_remembers 33 [(1, .int (nI (5684 + j))), (0, .ref m)] [.long (shG (zL h (m + 1)) 5684 6 j (5684 + j + 6)), .int (nI (5684 + j)), .ref m] (zSG h (m + 1) (shG (zL h (m + 1)) 5684 6 j)) _
          refine g_invv (M' := mX10_puts) (As := [.int (nI (5684 + j)), .long (shG (zL h (m + 1)) 5684 6 j (5684 + j + 6))]) (rest := []) dX10_remembers_33 ml_X10_40 okX10_puts imX10_puts seX10_puts ⟨(Nat.le_of_ble_eq_true rfl), (Nat.le_of_ble_eq_true rfl)⟩ (ci := 10) rfl rfl hM.1 rfl rfl (Nat.le_of_ble_eq_true rfl) (c_putsG hM (by omega)) ?_
          rintro _ q3 ⟨rfl, eq3⟩
          subst q3
          show zG l w mX10_remembers 36 [(1, .int (nI (5684 + j))), (0, .ref m)] [] (zSG h (m + 1) (updL (shG (zL h (m + 1)) 5684 6 j) (5684 + j) (shG (zL h (m + 1)) 5684 6 j (5684 + j + 6)))) _
          rw [shG_succ]
          refine g_inc (v := nI ((5684 + j) + 1)) (lv2 := [(1, .int (nI ((5684 + j) + 1))), (0, .ref m)]) 0 dX10_remembers_36 rfl (nI_add _ 1) (by decide) rfl ?_
          refine g_goto (tgt := 16) dX10_remembers_39 (by decide) ?_
          exact ih (j + 1) (by omega)
    refine g_sipush (v := nI 5684) dX10_remembers_12 (by decide) ?_
    refine g_istore_n (lv2 := [(1, .int (nI 5684)), (0, .ref m)]) dX10_remembers_15 rfl (by decide) rfl ?_
    have q := loop 114 0 rfl
    rw [shG_0] at q
    exact q
end M15
