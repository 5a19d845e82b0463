section CZ6
variable {l : Launch} {w : zW} {h : zH} {b : Nat} {π : Nat → Nat} {ls : Nat → List Nat} {N : nT} {X : List Nat} {t a : Nat}
theorem zSF_id (h : zH) (a : Nat) : zSF h a (zI h a) = h := by
  unfold zSF zI
  congr 4
  funext c i
  by_cases e : c = a
  · rw [if_pos e, e]
  · rw [if_neg e]
theorem zSI_SF (h : zH) (a k : Nat) (g : Nat → Int32) (v : Int32) : zSI (zSF h a g) a k v = zSF h a (fun j => if j = k then v else g j) := by
  unfold zSF zSI zu
  congr 4
  funext c i
  by_cases e : c = a
  · subst e
    by_cases e2 : i = k
    · simp [e2]
    · simp [e2]
  · simp [e]
def fl6 (g : Nat → Int32) (v : Int32) (n : Nat) : Nat → Int32 := fun i => if i < n then v else g i
theorem fl6_0 {g : Nat → Int32} {v : Int32} : fl6 g v 0 = g := by funext i; unfold fl6; rw [if_neg (by omega)]
theorem fl6_in {g : Nat → Int32} {v : Int32} {n i : Nat} (hi : i < n) : fl6 g v n i = v := if_pos hi
theorem fl6_succ {g : Nat → Int32} {v : Int32} {n : Nat} : (fun j => if j = n then v else fl6 g v n j) = fl6 g v (n + 1) := by
  funext j
  unfold fl6
  by_cases e : j = n
  · rw [if_pos e, if_pos (by omega)]
  · rw [if_neg e]
    by_cases e2 : j < n
    · rw [if_pos e2, if_pos (by omega)]
    · rw [if_neg e2, if_neg (by omega)]
theorem c_fill {r : Nat} {v : Int32} (hk : zk h r = 21) (hn : zn h r = 6) : zM l w mJ7_fill_53178 [.ref r, .int v] h (fun u h1 => u = none ∧ h1 = zSF h r (fl6 (zI h r) v 6)) := by
  refine zM.ofF (by decide +kernel) (Nat.le_of_ble_eq_true rfl) ?_
  have loop : ∀ k i : Nat, i + k = 6 → zG l w mJ7_fill_53178 5 [(2, .int (nI i)), (3, .int (nI 6)), (0, .ref r), (1, .int v)] [] (zSF h r (fl6 (zI h r) v i)) (fun u h1 => u = none ∧ h1 = zSF h r (fl6 (zI h r) v 6)) := by
    intro k
    induction k with
    | zero =>
      intro i hi
      refine g_iload_n 0 dJ7_fill_53178_5 rfl rfl ?_
      refine g_iload_n 1 dJ7_fill_53178_6 rfl rfl ?_
      refine g_ncmp_ge (tgt := 20) dJ7_fill_53178_7 (by decide) (by omega) (by omega) (fun c => ?_) (fun c => ?_)
      · have e : i = 6 := by omega
        subst e
        refine g_return dJ7_fill_53178_20 rfl ?_
        exact ⟨rfl, rfl⟩
      · exact absurd c (by omega)
    | succ k ih =>
      intro i hi
      refine g_iload_n 0 dJ7_fill_53178_5 rfl rfl ?_
      refine g_iload_n 1 dJ7_fill_53178_6 rfl rfl ?_
      refine g_ncmp_ge (tgt := 20) dJ7_fill_53178_7 (by decide) (by omega) (by omega) (fun c => ?_) (fun c => ?_)
      · exact absurd c (by omega)
      · refine g_aload_n 2 dJ7_fill_53178_10 rfl rfl ?_
        refine g_iload_n 0 dJ7_fill_53178_11 rfl rfl ?_
        refine g_iload_n 3 dJ7_fill_53178_12 rfl rfl ?_
        refine g_iast (n := i) dJ7_fill_53178_13 hk (by rw [show zn (zSF h r (fl6 (zI h r) v i)) r = 6 from hn]; exact vp_in_nI (by omega) (by omega)) (nI_clamp (by omega)) ?_
        rw [zSI_SF, fl6_succ]
        refine g_inc (v := nI (i + 1)) (lv2 := [(2, .int (nI (i + 1))), (3, .int (nI 6)), (0, .ref r), (1, .int v)]) 0 dJ7_fill_53178_14 rfl (nI_add _ 1) (by decide) rfl ?_
        refine g_goto (tgt := 5) dJ7_fill_53178_17 (by decide) ?_
        exact ih (i + 1) (by omega)
  refine g_iconst (v := nI 0) dJ7_fill_53178_0 (by decide) ?_
  refine g_istore_n (lv2 := [(2, .int (nI 0)), (0, .ref r), (1, .int v)]) dJ7_fill_53178_1 rfl (by decide) rfl ?_
  refine g_aload_n 1 dJ7_fill_53178_2 rfl rfl ?_
  refine g_alen (t := 1) (v := nI 6) dJ7_fill_53178_3 hk rfl (fun _ => rfl) (congrArg Int32.ofNat hn) ?_
  refine g_istore_n (lv2 := [(3, .int (nI 6)), (2, .int (nI 0)), (0, .ref r), (1, .int v)]) dJ7_fill_53178_4 rfl (by decide) rfl ?_
  have q := loop 6 0 rfl
  rw [fl6_0, zSF_id] at q
  exact zG.sub [1, 0, 2, 3] rfl q
theorem c_abs {q : Int} (hq : -2 ^ 63 ≤ q ∧ q < 2 ^ 63) : zM l w mJ9_abs_067f4 [.long (jL q)] h (fun v h1 => v = some (.long (jL (if q < 0 then -q else q))) ∧ h1 = h) := by
  refine zM.ofF (by decide +kernel) (Nat.le_of_ble_eq_true rfl) ?_
  refine g_lload_n 0 dJ9_abs_067f4_0 rfl rfl ?_
  refine g_lconst (v := jL 0) dJ9_abs_067f4_1 (by decide) ?_
  refine g_lif_ge (a := q) (b := 0) (tgt := 11) dJ9_abs_067f4_2 rfl dJ9_abs_067f4_3 (by decide) (by omega) (by omega) (fun c => ?_) (fun c => ?_)
  · refine g_lload_n 0 dJ9_abs_067f4_11 rfl rfl ?_
    refine g_lreturn dJ9_abs_067f4_12 rfl ?_
    exact ⟨by rw [if_neg (by omega)], rfl⟩
  · refine g_lload_n 0 dJ9_abs_067f4_6 rfl rfl ?_
    refine g_lneg dJ9_abs_067f4_7 ?_
    rw [jL_neg]
    refine g_goto (tgt := 12) dJ9_abs_067f4_8 (by decide) ?_
    refine g_lreturn dJ9_abs_067f4_12 rfl ?_
    exact ⟨by rw [if_pos (by omega)], rfl⟩
theorem CX.setZ {g3 g4 g5 : Nat → Int32} (c : CX h b π ls N X t) (a6 : a < 6) (z3 : ∀ i, i < 6 → g3 i = 0) (z4 : ∀ i, i < 6 → g4 i = 0) (z5 : ∀ i, i < 6 → g5 i = 0) : CX (zSF (zSF (zSF h (b + 11 + 7 * a + 3) g3) (b + 11 + 7 * a + 4) g4) (b + 11 + 7 * a + 5) g5) b π ls (z20 N a) X t ∧ CSt b ls h ls (zSF (zSF (zSF h (b + 11 + 7 * a + 3) g3) (b + 11 + 7 * a + 4) g4) (b + 11 + 7 * a + 5) g5) := by
  have fr : FrSc b h (zSF (zSF (zSF h (b + 11 + 7 * a + 3) g3) (b + 11 + 7 * a + 4) g4) (b + 11 + 7 * a + 5) g5) := (FrSc.sF (by omega)).tr ((FrSc.sF (by omega)).tr (FrSc.sF (by omega)))
  refine ⟨c.scal fr (fun k hk => z20_ne (by omega)) (z20_ne (by omega)) rfl rfl rfl rfl rfl ?_ ?_ ?_, fr.st⟩
  · obtain ⟨n1, n2, n3, n4, n5⟩ := c.2.2.1
    refine ⟨?_, ?_, ?_, ?_, ?_⟩
    · rw [z20_ne (by omega)]; exact n1
    · rw [z20_ne (by omega)]; exact n2
    · rw [z20_ne (by omega)]; exact n3
    · rw [z20_ne (by omega)]; exact n4
    · rw [z20_ne (by omega)]; exact n5
  · intro g hg g6
    rw [z20_ne (by omega)] at hg
    have q := c.2.2.2.1 g hg g6
    by_cases e : g = a
    · subst e
      obtain ⟨c1, c2, c3, c4⟩ := q
      refine ⟨fun i hi => ?_, ?_, fun i i8 i14 => ?_, fun d hd => ?_⟩
      · have : i < 18 := by unfold lkJ at hi; omega
        rw [z20_ne (by omega)]; exact c1 i hi
      · rw [z20_ne (by omega)]; exact c2
      · rw [z20_ne (by omega)]; exact c3 i i8 i14
      · rw [zI_SF, if_neg (by omega), zI_SF, if_neg (by omega), zI_SF, if_pos rfl, zI_SF, if_neg (by omega), zI_SF, if_pos rfl, zI_SF, if_pos rfl, z20_in (by omega), z3 d hd, z4 d hd, z5 d hd]
        exact ⟨by decide, fun _ => ⟨rfl, rfl⟩, fun q => absurd rfl q⟩
    · exact q.congr (fun i hi => rfl) rfl (fun _ _ _ => rfl) (fun d i h3 h6 => by rw [zI_SF, if_neg (by omega), zI_SF, if_neg (by omega), zI_SF, if_neg (by omega)]) (fun k h1 h2 => z20_ne (by omega))
  · intro g hg g6
    rw [z20_ne (by omega)] at hg
    exact (c.2.2.2.2.1 g hg g6).congr (fun i hi => rfl) (fun i => by rw [zI_SF, if_neg (by omega), zI_SF, if_neg (by omega), zI_SF, if_neg (by omega)]) (fun k h1 h2 => z20_ne (by omega)) (fun k hk => z20_ne (by omega))
theorem c_renew (c : CX h b π ls N X t) (ha : (a : Int) < nA N 0) (a6 : a < 6) (hL : iL N a) : zM l w mX7_renew [.ref (b + 11 + 7 * a + 6), .long (jL (spT N a - nA N (8 + 40 * a + 6))), .long (jL (nA N (8 + 40 * a + 7))), .long (jL (nA N (8 + 40 * a + 6))), .long (jL (nA N (8 + 40 * a + 18)))] h (fun v h1 => v = none ∧ CX h1 b π ls (sp1 N a) X t ∧ CSt b ls h ls h1) := by
  refine zM.of (by decide) (Nat.le_of_ble_eq_true rfl) ?_
  have tb := spT_bd hL
  have L6 := hL.2.1
  have b1 := sp_bd hL
  have qb : -15000000 ≤ spQ N a ∧ spQ N a ≤ 15000000 := by unfold spQ; omega
  refine g_ldc2J (z := 40) dX7_renew_0 kl_X7_28 (by decide) ?_
  refine g_lload_n 1 dX7_renew_3 rfl rfl ?_
  refine g_lmul dX7_renew_4 ?_
  rw [jL_mul]
  refine g_ldc2J (z := 23) dX7_renew_5 kl_X7_30 (by decide) ?_
  refine g_lload_n 2 dX7_renew_8 rfl rfl ?_
  refine g_lmul dX7_renew_9 ?_
  rw [jL_mul]
  refine g_lsub dX7_renew_10 ?_
  rw [jL_sub]
  rw [show 40 * (spT N a - nA N (8 + 40 * a + 6)) - 23 * nA N (8 + 40 * a + 7) = spQ N a from rfl]
  refine g_lstore (lv2 := [(9, .long (jL (spQ N a))), (0, .ref (b + 11 + 7 * a + 6)), (1, .long (jL (spT N a - nA N (8 + 40 * a + 6)))), (3, .long (jL (nA N (8 + 40 * a + 7)))), (5, .long (jL (nA N (8 + 40 * a + 6)))), (7, .long (jL (nA N (8 + 40 * a + 18))))]) dX7_renew_11 (by decide) rfl ?_
  refine g_lconst (v := jL 0) dX7_renew_13 (by decide) ?_
  refine g_ldc2J (z := 10) dX7_renew_14 kl_X7_32 (by decide) ?_
  refine g_lload 4 dX7_renew_17 rfl ?_
  refine g_lmul dX7_renew_19 ?_
  rw [jL_mul]
  refine g_lload 0 dX7_renew_20 rfl ?_
  refine g_invs (M' := mJ9_abs_067f4) (As := [.long (jL (spQ N a))]) (rest := [.long (jL (10 * (nA N (8 + 40 * a + 6)))), .long (jL 0)]) dX7_renew_22 ml_X7_34 okJ9_abs_067f4 stJ9_abs_067f4 ⟨(Nat.le_of_ble_eq_true rfl), (Nat.le_of_ble_eq_true rfl)⟩ rfl rfl (Nat.le_of_ble_eq_true rfl) (c_abs (by omega)) ?_
  rintro _ q1 ⟨rfl, eq1⟩
  subst q1
  show zG l w mX7_renew 25 [(9, .long (jL (spQ N a))), (0, .ref (b + 11 + 7 * a + 6)), (1, .long (jL (spT N a - nA N (8 + 40 * a + 6)))), (3, .long (jL (nA N (8 + 40 * a + 7)))), (5, .long (jL (nA N (8 + 40 * a + 6)))), (7, .long (jL (nA N (8 + 40 * a + 18))))] [.long (jL (if spQ N a < 0 then -spQ N a else spQ N a)), .long (jL (10 * (nA N (8 + 40 * a + 6)))), .long (jL 0)] h _
  have ab : 0 ≤ (if spQ N a < 0 then -spQ N a else spQ N a) ∧ (if spQ N a < 0 then -spQ N a else spQ N a) ≤ 15000000 := by split <;> omega
  refine g_lsub dX7_renew_25 ?_
  rw [jL_sub]
  refine g_invs (M' := mJ9_max_f86c9) (As := [.long (jL 0), .long (jL ((10 * (nA N (8 + 40 * a + 6))) - (if spQ N a < 0 then -spQ N a else spQ N a)))]) (rest := []) dX7_renew_26 ml_X7_40 okJ9_max_f86c9 stJ9_max_f86c9 ⟨(Nat.le_of_ble_eq_true rfl), (Nat.le_of_ble_eq_true rfl)⟩ rfl rfl (Nat.le_of_ble_eq_true rfl) (c_maxL (by omega) (by omega)) ?_
  rintro _ q2 ⟨rfl, eq2⟩
  subst q2
  show zG l w mX7_renew 29 [(9, .long (jL (spQ N a))), (0, .ref (b + 11 + 7 * a + 6)), (1, .long (jL (spT N a - nA N (8 + 40 * a + 6)))), (3, .long (jL (nA N (8 + 40 * a + 7)))), (5, .long (jL (nA N (8 + 40 * a + 6)))), (7, .long (jL (nA N (8 + 40 * a + 18))))] [.long (jL (max 0 (10 * nA N (8 + 40 * a + 6) - (if spQ N a < 0 then -spQ N a else spQ N a))))] h _
  rw [show max 0 (10 * nA N (8 + 40 * a + 6) - (if spQ N a < 0 then -spQ N a else spQ N a)) = spS N a from rfl]
  have sb : 0 ≤ spS N a ∧ spS N a ≤ 11000 := by omega
  refine g_lstore (lv2 := [(11, .long (jL (spS N a))), (9, .long (jL (spQ N a))), (0, .ref (b + 11 + 7 * a + 6)), (1, .long (jL (spT N a - nA N (8 + 40 * a + 6)))), (3, .long (jL (nA N (8 + 40 * a + 7)))), (5, .long (jL (nA N (8 + 40 * a + 6)))), (7, .long (jL (nA N (8 + 40 * a + 18))))]) dX7_renew_29 (by decide) rfl ?_
  refine g_aload_n 2 dX7_renew_31 rfl rfl ?_
  refine g_lload 0 dX7_renew_32 rfl ?_
  refine g_lconst (v := jL 0) dX7_renew_34 (by decide) ?_
  refine g_lload 1 dX7_renew_35 rfl ?_
  refine g_invs (M' := mJ9_max_f86c9) (As := [.long (jL 0), .long (jL (spQ N a))]) (rest := [.long (jL (spS N a)), .ref (b + 11 + 7 * a + 6)]) dX7_renew_37 ml_X7_40 okJ9_max_f86c9 stJ9_max_f86c9 ⟨(Nat.le_of_ble_eq_true rfl), (Nat.le_of_ble_eq_true rfl)⟩ rfl rfl (Nat.le_of_ble_eq_true rfl) (c_maxL (by omega) (by omega)) ?_
  rintro _ q3 ⟨rfl, eq3⟩
  subst q3
  show zG l w mX7_renew 40 [(11, .long (jL (spS N a))), (9, .long (jL (spQ N a))), (0, .ref (b + 11 + 7 * a + 6)), (1, .long (jL (spT N a - nA N (8 + 40 * a + 6)))), (3, .long (jL (nA N (8 + 40 * a + 7)))), (5, .long (jL (nA N (8 + 40 * a + 6)))), (7, .long (jL (nA N (8 + 40 * a + 18))))] [.long (jL (max 0 (spQ N a))), .long (jL (spS N a)), .ref (b + 11 + 7 * a + 6)] h _
  refine g_ladd dX7_renew_40 ?_
  rw [jL_add]
  refine g_putl (f := 224) dX7_renew_41 fl_X7_7 (Or.inl rfl) (c.1.2.2.2.2.2.2.2.2.1 a a6).2.2.2.2.2.2 rfl ?_
  have cx4 : CX (zSl h 224 (b + 11 + 7 * a + 6) (jL ((spS N a) + (max 0 (spQ N a))))) b π ls (uA N (8 + 40 * a + 8) ((spS N a) + (max 0 (spQ N a)))) X t ∧ CSt b ls h ls (zSl h 224 (b + 11 + 7 * a + 6) (jL ((spS N a) + (max 0 (spQ N a))))) := c.setS (j := 8) a6 (by omega) (by omega)
  generalize zSl h 224 (b + 11 + 7 * a + 6) (jL ((spS N a) + (max 0 (spQ N a)))) = y4 at cx4 ⊢
  refine g_aload_n 2 dX7_renew_44 rfl rfl ?_
  refine g_lload 0 dX7_renew_45 rfl ?_
  refine g_lconst (v := jL 0) dX7_renew_47 (by decide) ?_
  refine g_lload 1 dX7_renew_48 rfl ?_
  refine g_lneg dX7_renew_50 ?_
  rw [jL_neg]
  refine g_invs (M' := mJ9_max_f86c9) (As := [.long (jL 0), .long (jL (-(spQ N a)))]) (rest := [.long (jL (spS N a)), .ref (b + 11 + 7 * a + 6)]) dX7_renew_51 ml_X7_40 okJ9_max_f86c9 stJ9_max_f86c9 ⟨(Nat.le_of_ble_eq_true rfl), (Nat.le_of_ble_eq_true rfl)⟩ rfl rfl (Nat.le_of_ble_eq_true rfl) (c_maxL (by omega) (by omega)) ?_
  rintro _ q5 ⟨rfl, eq5⟩
  subst q5
  show zG l w mX7_renew 54 [(11, .long (jL (spS N a))), (9, .long (jL (spQ N a))), (0, .ref (b + 11 + 7 * a + 6)), (1, .long (jL (spT N a - nA N (8 + 40 * a + 6)))), (3, .long (jL (nA N (8 + 40 * a + 7)))), (5, .long (jL (nA N (8 + 40 * a + 6)))), (7, .long (jL (nA N (8 + 40 * a + 18))))] [.long (jL (max 0 (-(spQ N a)))), .long (jL (spS N a)), .ref (b + 11 + 7 * a + 6)] y4 _
  refine g_ladd dX7_renew_54 ?_
  rw [jL_add]
  refine g_putl (f := 225) dX7_renew_55 fl_X7_13 (Or.inl rfl) (cx4.1.1.2.2.2.2.2.2.2.2.1 a a6).2.2.2.2.2.2 rfl ?_
  have cx6 : CX (zSl y4 225 (b + 11 + 7 * a + 6) (jL ((spS N a) + (max 0 (-(spQ N a)))))) b π ls (uA (uA N (8 + 40 * a + 8) ((spS N a) + (max 0 (spQ N a)))) (8 + 40 * a + 9) ((spS N a) + (max 0 (-(spQ N a))))) X t ∧ CSt b ls y4 ls (zSl y4 225 (b + 11 + 7 * a + 6) (jL ((spS N a) + (max 0 (-(spQ N a)))))) := cx4.1.setS (j := 9) a6 (by omega) (by omega)
  generalize zSl y4 225 (b + 11 + 7 * a + 6) (jL ((spS N a) + (max 0 (-(spQ N a))))) = y6 at cx6 ⊢
  refine g_aload_n 2 dX7_renew_58 rfl rfl ?_
  refine g_lconst (v := jL 1) dX7_renew_59 (by decide) ?_
  refine g_lload 6 dX7_renew_60 rfl ?_
  refine g_invs (M' := mJ9_max_f86c9) (As := [.long (jL 1), .long (jL (nA N (8 + 40 * a + 18)))]) (rest := [.ref (b + 11 + 7 * a + 6)]) dX7_renew_62 ml_X7_40 okJ9_max_f86c9 stJ9_max_f86c9 ⟨(Nat.le_of_ble_eq_true rfl), (Nat.le_of_ble_eq_true rfl)⟩ rfl rfl (Nat.le_of_ble_eq_true rfl) (c_maxL (by omega) (by omega)) ?_
  rintro _ q7 ⟨rfl, eq7⟩
  subst q7
  show zG l w mX7_renew 65 [(11, .long (jL (spS N a))), (9, .long (jL (spQ N a))), (0, .ref (b + 11 + 7 * a + 6)), (1, .long (jL (spT N a - nA N (8 + 40 * a + 6)))), (3, .long (jL (nA N (8 + 40 * a + 7)))), (5, .long (jL (nA N (8 + 40 * a + 6)))), (7, .long (jL (nA N (8 + 40 * a + 18))))] [.long (jL (max 1 (nA N (8 + 40 * a + 18)))), .ref (b + 11 + 7 * a + 6)] y6 _
  refine g_putl (f := 226) dX7_renew_65 fl_X7_16 (Or.inl rfl) (cx6.1.1.2.2.2.2.2.2.2.2.1 a a6).2.2.2.2.2.2 rfl ?_
  have cx8 : CX (zSl y6 226 (b + 11 + 7 * a + 6) (jL (max 1 (nA N (8 + 40 * a + 18))))) b π ls (uA (uA (uA N (8 + 40 * a + 8) ((spS N a) + (max 0 (spQ N a)))) (8 + 40 * a + 9) ((spS N a) + (max 0 (-(spQ N a))))) (8 + 40 * a + 10) (max 1 (nA N (8 + 40 * a + 18)))) X t ∧ CSt b ls y6 ls (zSl y6 226 (b + 11 + 7 * a + 6) (jL (max 1 (nA N (8 + 40 * a + 18))))) := cx6.1.setS (j := 10) a6 (by omega) (by omega)
  generalize zSl y6 226 (b + 11 + 7 * a + 6) (jL (max 1 (nA N (8 + 40 * a + 18)))) = y8 at cx8 ⊢
  refine g_aload_n 2 dX7_renew_68 rfl rfl ?_
  refine g_lconst (v := jL 1) dX7_renew_69 (by decide) ?_
  refine g_lload 5 dX7_renew_70 rfl ?_
  refine g_invs (M' := mJ9_max_f86c9) (As := [.long (jL 1), .long (jL (nA N (8 + 40 * a + 6)))]) (rest := [.ref (b + 11 + 7 * a + 6)]) dX7_renew_72 ml_X7_40 okJ9_max_f86c9 stJ9_max_f86c9 ⟨(Nat.le_of_ble_eq_true rfl), (Nat.le_of_ble_eq_true rfl)⟩ rfl rfl (Nat.le_of_ble_eq_true rfl) (c_maxL (by omega) (by omega)) ?_
  rintro _ q9 ⟨rfl, eq9⟩
  subst q9
  show zG l w mX7_renew 75 [(11, .long (jL (spS N a))), (9, .long (jL (spQ N a))), (0, .ref (b + 11 + 7 * a + 6)), (1, .long (jL (spT N a - nA N (8 + 40 * a + 6)))), (3, .long (jL (nA N (8 + 40 * a + 7)))), (5, .long (jL (nA N (8 + 40 * a + 6)))), (7, .long (jL (nA N (8 + 40 * a + 18))))] [.long (jL (max 1 (nA N (8 + 40 * a + 6)))), .ref (b + 11 + 7 * a + 6)] y8 _
  refine g_putl (f := 227) dX7_renew_75 fl_X7_19 (Or.inl rfl) (cx8.1.1.2.2.2.2.2.2.2.2.1 a a6).2.2.2.2.2.2 rfl ?_
  have cx10 : CX (zSl y8 227 (b + 11 + 7 * a + 6) (jL (max 1 (nA N (8 + 40 * a + 6))))) b π ls (uA (uA (uA (uA N (8 + 40 * a + 8) ((spS N a) + (max 0 (spQ N a)))) (8 + 40 * a + 9) ((spS N a) + (max 0 (-(spQ N a))))) (8 + 40 * a + 10) (max 1 (nA N (8 + 40 * a + 18)))) (8 + 40 * a + 11) (max 1 (nA N (8 + 40 * a + 6)))) X t ∧ CSt b ls y8 ls (zSl y8 227 (b + 11 + 7 * a + 6) (jL (max 1 (nA N (8 + 40 * a + 6))))) := cx8.1.setS (j := 11) a6 (by omega) (by omega)
  generalize zSl y8 227 (b + 11 + 7 * a + 6) (jL (max 1 (nA N (8 + 40 * a + 6)))) = y10 at cx10 ⊢
  refine g_aload_n 2 dX7_renew_78 rfl rfl ?_
  refine g_lconst (v := jL 0) dX7_renew_79 (by decide) ?_
  refine g_putl (f := 228) dX7_renew_80 fl_X7_22 (Or.inl rfl) (cx10.1.1.2.2.2.2.2.2.2.2.1 a a6).2.2.2.2.2.2 rfl ?_
  have cx11 : CX (zSl y10 228 (b + 11 + 7 * a + 6) (jL 0)) b π ls (uA (uA (uA (uA (uA N (8 + 40 * a + 8) ((spS N a) + (max 0 (spQ N a)))) (8 + 40 * a + 9) ((spS N a) + (max 0 (-(spQ N a))))) (8 + 40 * a + 10) (max 1 (nA N (8 + 40 * a + 18)))) (8 + 40 * a + 11) (max 1 (nA N (8 + 40 * a + 6)))) (8 + 40 * a + 12) 0) X t ∧ CSt b ls y10 ls (zSl y10 228 (b + 11 + 7 * a + 6) (jL 0)) := cx10.1.setS (j := 12) a6 (by omega) (by omega)
  generalize zSl y10 228 (b + 11 + 7 * a + 6) (jL 0) = y11 at cx11 ⊢
  refine g_aload_n 2 dX7_renew_83 rfl rfl ?_
  refine g_lconst (v := jL 0) dX7_renew_84 (by decide) ?_
  refine g_putl (f := 229) dX7_renew_85 fl_X7_25 (Or.inl rfl) (cx11.1.1.2.2.2.2.2.2.2.2.1 a a6).2.2.2.2.2.2 rfl ?_
  have cx12 : CX (zSl y11 229 (b + 11 + 7 * a + 6) (jL 0)) b π ls (uA (uA (uA (uA (uA (uA N (8 + 40 * a + 8) ((spS N a) + (max 0 (spQ N a)))) (8 + 40 * a + 9) ((spS N a) + (max 0 (-(spQ N a))))) (8 + 40 * a + 10) (max 1 (nA N (8 + 40 * a + 18)))) (8 + 40 * a + 11) (max 1 (nA N (8 + 40 * a + 6)))) (8 + 40 * a + 12) 0) (8 + 40 * a + 13) 0) X t ∧ CSt b ls y11 ls (zSl y11 229 (b + 11 + 7 * a + 6) (jL 0)) := cx11.1.setS (j := 13) a6 (by omega) (by omega)
  generalize zSl y11 229 (b + 11 + 7 * a + 6) (jL 0) = y12 at cx12 ⊢
  refine g_return dX7_renew_88 rfl ?_
  exact ⟨rfl, cx12.1, ((((((CSt.rf.tr cx4.2).tr cx6.2).tr cx8.2).tr cx10.2).tr cx11.2).tr cx12.2)⟩
def moN (N : nT) (a f : Nat) : Int := if nA N (8 + 40 * a + (20 + f)) = 0 then 2 else (if nA N (8 + 40 * a + (32 + f)) = 0 then 0 else nA N (8 + 40 * a + (26 + f)) * nA N (8 + 40 * a + 3) / (100 * nA N (8 + 40 * a + (32 + f)))) * 3 / 2 + 2
theorem c_mostAllowed (c : CX h b π ls N X t) (ha : (a : Int) < nA N 0) (a6 : a < 6) {f : Nat} (f6 : f < 6) (L3 : 2 ≤ nA N (8 + 40 * a + 3) ∧ nA N (8 + 40 * a + 3) ≤ 30) (Lf2 : 0 ≤ nA N (8 + 40 * a + (26 + f)) ∧ nA N (8 + 40 * a + (26 + f)) ≤ 4000) (Lf3 : 0 ≤ nA N (8 + 40 * a + (32 + f)) ∧ nA N (8 + 40 * a + (32 + f)) ≤ 123000) : zM l w mX4_mostAllowed [.ref (b + 11 + 7 * a), .int (nI f)] h (fun v h1 => v = some (.int (jI (moN N a f))) ∧ h1 = h) := by
  refine zM.of (by decide) (Nat.le_of_ble_eq_true rfl) ?_
  have F4 := (c.2.2.2.1 a ha a6).2.2.2 f f6
  refine g_iload_n 1 dX4_mostAllowed_0 rfl rfl ?_
  refine g_zif_lt (a := ((f : Nat) : Int)) (tgt := 22) (jI_nat f).symm dX4_mostAllowed_1 (by decide) (by omega) (fun q => ?_) (fun q => ?_)
  · exact absurd q (by omega)
  · refine g_iload_n 1 dX4_mostAllowed_4 rfl rfl ?_
    refine g_aload_n 0 dX4_mostAllowed_5 rfl rfl ?_
    refine g_getr (f := 139) (b := b + 11 + 7 * a + 5) dX4_mostAllowed_6 fl_X4_28 (c.1.2.2.2.2.2.2.2.2.1 a a6).2.1 rfl ((c.1.2.2.2.2.2.2.2.2.1 a a6).2.2.2.2.1 2 (by omega)).1 ?_
    refine g_alen (t := 1) (v := nI 6) dX4_mostAllowed_9 ((c.1.2.2.2.2.2.2.2.2.1 a a6).2.2.2.2.1 2 (by omega)).2.1 rfl (fun _ => rfl) (congrArg Int32.ofNat (show zn h (b + 11 + 7 * a + 5) = 6 from ((c.1.2.2.2.2.2.2.2.2.1 a a6).2.2.2.2.1 2 (by omega)).2.2)) ?_
    refine g_zcmp_ge (a := ((f : Nat) : Int)) (b := 6) (tgt := 22) (jI_nat f).symm (by decide) dX4_mostAllowed_10 (by decide) (by omega) (by omega) (fun q2 => ?_) (fun q2 => ?_)
    · exact absurd q2 (by omega)
    · by_cases g : nA N (8 + 40 * a + (20 + f)) = 0
      · have z := F4.2.1 g
        refine g_aload_n 0 dX4_mostAllowed_13 rfl rfl ?_
        refine g_getr (f := 139) (b := b + 11 + 7 * a + 5) dX4_mostAllowed_14 fl_X4_28 (c.1.2.2.2.2.2.2.2.2.1 a a6).2.1 rfl ((c.1.2.2.2.2.2.2.2.2.1 a a6).2.2.2.2.1 2 (by omega)).1 ?_
        refine g_iload_n 1 dX4_mostAllowed_17 rfl rfl ?_
        refine g_iald dX4_mostAllowed_18 ((c.1.2.2.2.2.2.2.2.2.1 a a6).2.2.2.2.1 2 (by omega)).2.1 (by rw [show zn h (b + 11 + 7 * a + 5) = 6 from ((c.1.2.2.2.2.2.2.2.2.1 a a6).2.2.2.2.1 2 (by omega)).2.2]; exact vp_in_nI (by omega) (by omega)) ?_
        rw [nI_clamp (by omega)]
        rw [z.2]
        refine zG.top (show (0 : Int32) = jI 0 by decide) ?_
        refine g_zif_gt (a := 0) (tgt := 24) rfl dX4_mostAllowed_19 (by decide) (by omega) (fun q3 => ?_) (fun q3 => ?_)
        · exact absurd q3 (by omega)
        · refine g_iconst (v := nI 2) dX4_mostAllowed_22 (by decide) ?_
          refine g_ireturn dX4_mostAllowed_23 rfl ?_
          exact ⟨by unfold moN; rw [if_pos g]; rfl, rfl⟩
      · have z := F4.2.2 g
        refine g_aload_n 0 dX4_mostAllowed_13 rfl rfl ?_
        refine g_getr (f := 139) (b := b + 11 + 7 * a + 5) dX4_mostAllowed_14 fl_X4_28 (c.1.2.2.2.2.2.2.2.2.1 a a6).2.1 rfl ((c.1.2.2.2.2.2.2.2.2.1 a a6).2.2.2.2.1 2 (by omega)).1 ?_
        refine g_iload_n 1 dX4_mostAllowed_17 rfl rfl ?_
        refine g_iald dX4_mostAllowed_18 ((c.1.2.2.2.2.2.2.2.2.1 a a6).2.2.2.2.1 2 (by omega)).2.1 (by rw [show zn h (b + 11 + 7 * a + 5) = 6 from ((c.1.2.2.2.2.2.2.2.2.1 a a6).2.2.2.2.1 2 (by omega)).2.2]; exact vp_in_nI (by omega) (by omega)) ?_
        rw [nI_clamp (by omega)]
        rw [z.2]
        refine g_zif_gt (a := (nA N (8 + 40 * a + (32 + f)))) (tgt := 24) rfl dX4_mostAllowed_19 (by decide) (by omega) (fun q3 => ?_) (fun q3 => ?_)
        · have hp : 0 ≤ nA N (8 + 40 * a + (26 + f)) * nA N (8 + 40 * a + 3) ∧ nA N (8 + 40 * a + (26 + f)) * nA N (8 + 40 * a + 3) ≤ 120000 := ⟨Int.mul_nonneg Lf2.1 (by omega), Int.le_trans (Int.mul_le_mul Lf2.2 L3.2 (by omega) (by omega)) (by decide)⟩
          refine g_aload_n 0 dX4_mostAllowed_24 rfl rfl ?_
          refine g_getr (f := 138) (b := b + 11 + 7 * a + 4) dX4_mostAllowed_25 fl_X4_25 (c.1.2.2.2.2.2.2.2.2.1 a a6).2.1 rfl ((c.1.2.2.2.2.2.2.2.2.1 a a6).2.2.2.2.1 1 (by omega)).1 ?_
          refine g_iload_n 1 dX4_mostAllowed_28 rfl rfl ?_
          refine g_iald dX4_mostAllowed_29 ((c.1.2.2.2.2.2.2.2.2.1 a a6).2.2.2.2.1 1 (by omega)).2.1 (by rw [show zn h (b + 11 + 7 * a + 4) = 6 from ((c.1.2.2.2.2.2.2.2.2.1 a a6).2.2.2.2.1 1 (by omega)).2.2]; exact vp_in_nI (by omega) (by omega)) ?_
          rw [nI_clamp (by omega)]
          rw [z.1]
          refine g_aload_n 0 dX4_mostAllowed_30 rfl rfl ?_
          refine g_geti (f := 131) dX4_mostAllowed_31 fl_X4_45 (c.1.2.2.2.2.2.2.2.2.1 a a6).2.1 (by decide) rfl ?_
          rw [show zi h 131 (b + 11 + 7 * a) = jI (nA N (8 + 40 * a + 3)) from (c.2.2.2.1 a ha a6).1 3 (by unfold lkJ; omega)]
          refine g_imul dX4_mostAllowed_34 ?_
          refine zG.top (show (jI (nA N (8 + 40 * a + (26 + f)))) * (jI (nA N (8 + 40 * a + 3))) = jI ((nA N (8 + 40 * a + (26 + f))) * (nA N (8 + 40 * a + 3))) by rw [jI_mul]) ?_
          refine g_bipush (v := nI 100) dX4_mostAllowed_35 (by decide) ?_
          refine g_aload_n 0 dX4_mostAllowed_37 rfl rfl ?_
          refine g_getr (f := 139) (b := b + 11 + 7 * a + 5) dX4_mostAllowed_38 fl_X4_28 (c.1.2.2.2.2.2.2.2.2.1 a a6).2.1 rfl ((c.1.2.2.2.2.2.2.2.2.1 a a6).2.2.2.2.1 2 (by omega)).1 ?_
          refine g_iload_n 1 dX4_mostAllowed_41 rfl rfl ?_
          refine g_iald dX4_mostAllowed_42 ((c.1.2.2.2.2.2.2.2.2.1 a a6).2.2.2.2.1 2 (by omega)).2.1 (by rw [show zn h (b + 11 + 7 * a + 5) = 6 from ((c.1.2.2.2.2.2.2.2.2.1 a a6).2.2.2.2.1 2 (by omega)).2.2]; exact vp_in_nI (by omega) (by omega)) ?_
          rw [nI_clamp (by omega)]
          rw [z.2]
          refine g_imul dX4_mostAllowed_43 ?_
          refine zG.top (show (nI 100) * (jI (nA N (8 + 40 * a + (32 + f)))) = jI (100 * (nA N (8 + 40 * a + (32 + f)))) by rw [show nI 100 = jI 100 from (by decide), jI_mul]) ?_
          refine g_idiv dX4_mostAllowed_44 (jI_ne0 (by omega)) ?_
          refine zG.top (jI_div (by omega) (by omega)) ?_
          have db : 0 ≤ ((nA N (8 + 40 * a + (26 + f))) * (nA N (8 + 40 * a + 3))) / (100 * (nA N (8 + 40 * a + (32 + f)))) ∧ ((nA N (8 + 40 * a + (26 + f))) * (nA N (8 + 40 * a + 3))) / (100 * (nA N (8 + 40 * a + (32 + f)))) ≤ 120000 := ⟨Int.ediv_nonneg (by omega) (by omega), Int.le_trans (Int.ediv_le_self _ (by omega)) (by omega)⟩
          refine g_istore_n (lv2 := [(2, .int (jI (((nA N (8 + 40 * a + (26 + f))) * (nA N (8 + 40 * a + 3))) / (100 * (nA N (8 + 40 * a + (32 + f))))))), (0, .ref (b + 11 + 7 * a)), (1, .int (nI f))]) dX4_mostAllowed_45 rfl (by decide) rfl ?_
          refine g_iconst (v := nI 3) dX4_mostAllowed_46 (by decide) ?_
          refine g_iload_n 0 dX4_mostAllowed_47 rfl rfl ?_
          refine g_imul dX4_mostAllowed_48 ?_
          refine zG.top (show (nI 3) * (jI (((nA N (8 + 40 * a + (26 + f))) * (nA N (8 + 40 * a + 3))) / (100 * (nA N (8 + 40 * a + (32 + f)))))) = jI (3 * (((nA N (8 + 40 * a + (26 + f))) * (nA N (8 + 40 * a + 3))) / (100 * (nA N (8 + 40 * a + (32 + f)))))) by rw [show nI 3 = jI 3 from (by decide), jI_mul]) ?_
          refine g_iconst (v := nI 2) dX4_mostAllowed_49 (by decide) ?_
          refine g_idiv dX4_mostAllowed_50 (by decide) ?_
          refine zG.top (show jI (3 * (((nA N (8 + 40 * a + (26 + f))) * (nA N (8 + 40 * a + 3))) / (100 * (nA N (8 + 40 * a + (32 + f)))))) / nI 2 = jI ((3 * (((nA N (8 + 40 * a + (26 + f))) * (nA N (8 + 40 * a + 3))) / (100 * (nA N (8 + 40 * a + (32 + f)))))) / 2) by rw [show nI 2 = jI 2 by decide, jI_div (by omega) (by omega)]) ?_
          refine g_iconst (v := nI 2) dX4_mostAllowed_51 (by decide) ?_
          refine g_iadd dX4_mostAllowed_52 ?_
          refine zG.top (show (jI ((3 * (((nA N (8 + 40 * a + (26 + f))) * (nA N (8 + 40 * a + 3))) / (100 * (nA N (8 + 40 * a + (32 + f)))))) / 2)) + (nI 2) = jI (((3 * (((nA N (8 + 40 * a + (26 + f))) * (nA N (8 + 40 * a + 3))) / (100 * (nA N (8 + 40 * a + (32 + f)))))) / 2) + 2) by rw [show nI 2 = jI 2 from (by decide), jI_add]) ?_
          refine g_ireturn dX4_mostAllowed_53 rfl ?_
          exact ⟨by unfold moN; rw [if_neg g, if_neg (by omega), Int.mul_comm _ 3], rfl⟩
        · refine g_iconst (v := nI 2) dX4_mostAllowed_22 (by decide) ?_
          refine g_ireturn dX4_mostAllowed_23 rfl ?_
          exact ⟨by unfold moN; rw [if_neg g, if_pos (by omega)]; rfl, rfl⟩
def bsN (N : nT) (a : Nat) : nT := z20 (uA (uA (uA (uA N (8 + 40 * a + 6) 0) (8 + 40 * a + 7) (nA N (8 + 40 * a + 2))) (8 + 40 * a + 18) 0) (8 + 40 * a + 16) 0) a
theorem c_beginSpan (c : CX h b π ls N X t) (ha : (a : Int) < nA N 0) (a6 : a < 6) : zM l w mX4_beginSpan [.ref (b + 11 + 7 * a)] h (fun v h1 => v = none ∧ CX h1 b π ls (bsN N a) X t ∧ CSt b ls h ls h1) := by
  refine zM.of (by decide) (Nat.le_of_ble_eq_true rfl) ?_
  refine g_aload_n 0 dX4_beginSpan_0 rfl rfl ?_
  refine g_iconst (v := nI 0) dX4_beginSpan_1 (by decide) ?_
  refine zG.top (show nI 0 = jI 0 from (by decide)) ?_
  refine g_puti (f := 134) dX4_beginSpan_2 fl_X4_66 (Or.inl rfl) (c.1.2.2.2.2.2.2.2.2.1 a a6).2.1 rfl ?_
  have cx1 : CX (zSi h 134 (b + 11 + 7 * a) (jI 0)) b π ls (uA N (8 + 40 * a + 6) 0) X t ∧ CSt b ls h ls (zSi h 134 (b + 11 + 7 * a) (jI 0)) := c.setL (j := 6) a6 (by unfold lkJ; omega) (by omega)
  generalize zSi h 134 (b + 11 + 7 * a) (jI 0) = y1 at cx1 ⊢
  refine g_aload_n 0 dX4_beginSpan_5 rfl rfl ?_
  refine g_aload_n 0 dX4_beginSpan_6 rfl rfl ?_
  refine g_geti (f := 130) dX4_beginSpan_7 fl_X4_42 (cx1.1.1.2.2.2.2.2.2.2.2.1 a a6).2.1 (by decide) rfl ?_
  rw [show zi y1 130 (b + 11 + 7 * a) = jI (nA (uA N (8 + 40 * a + 6) 0) (8 + 40 * a + 2)) from (cx1.1.2.2.2.1 a (by rw [nA_ne (by omega)]; exact ha) a6).1 2 (by unfold lkJ; omega)]
  rw [show nA (uA N (8 + 40 * a + 6) 0) (8 + 40 * a + 2) = nA N (8 + 40 * a + 2) by rw [nA_ne (by omega)]]
  refine g_puti (f := 135) dX4_beginSpan_10 fl_X4_69 (Or.inl rfl) (cx1.1.1.2.2.2.2.2.2.2.2.1 a a6).2.1 rfl ?_
  have cx2 : CX (zSi y1 135 (b + 11 + 7 * a) (jI (nA N (8 + 40 * a + 2)))) b π ls (uA (uA N (8 + 40 * a + 6) 0) (8 + 40 * a + 7) (nA N (8 + 40 * a + 2))) X t ∧ CSt b ls y1 ls (zSi y1 135 (b + 11 + 7 * a) (jI (nA N (8 + 40 * a + 2)))) := cx1.1.setL (j := 7) a6 (by unfold lkJ; omega) (by omega)
  generalize zSi y1 135 (b + 11 + 7 * a) (jI (nA N (8 + 40 * a + 2))) = y2 at cx2 ⊢
  refine g_aload_n 0 dX4_beginSpan_13 rfl rfl ?_
  refine g_lconst (v := jL 0) dX4_beginSpan_14 (by decide) ?_
  refine g_putl (f := 136) dX4_beginSpan_15 fl_X4_72 (Or.inl rfl) (cx2.1.1.2.2.2.2.2.2.2.2.1 a a6).2.1 rfl ?_
  have cx3 : CX (zSl y2 136 (b + 11 + 7 * a) (jL 0)) b π ls (uA (uA (uA N (8 + 40 * a + 6) 0) (8 + 40 * a + 7) (nA N (8 + 40 * a + 2))) (8 + 40 * a + 18) 0) X t ∧ CSt b ls y2 ls (zSl y2 136 (b + 11 + 7 * a) (jL 0)) := cx2.1.setP a6
  generalize zSl y2 136 (b + 11 + 7 * a) (jL 0) = y3 at cx3 ⊢
  refine g_aload_n 0 dX4_beginSpan_18 rfl rfl ?_
  refine g_iconst (v := nI 0) dX4_beginSpan_19 (by decide) ?_
  refine zG.top (show nI 0 = jI 0 from (by decide)) ?_
  refine g_puti (f := 143) dX4_beginSpan_20 fl_X4_86 (Or.inl rfl) (cx3.1.1.2.2.2.2.2.2.2.2.1 a a6).2.1 rfl ?_
  have cx4 : CX (zSi y3 143 (b + 11 + 7 * a) (jI 0)) b π ls (uA (uA (uA (uA N (8 + 40 * a + 6) 0) (8 + 40 * a + 7) (nA N (8 + 40 * a + 2))) (8 + 40 * a + 18) 0) (8 + 40 * a + 16) 0) X t ∧ CSt b ls y3 ls (zSi y3 143 (b + 11 + 7 * a) (jI 0)) := cx3.1.setL (j := 16) a6 (by unfold lkJ; omega) (by omega)
  generalize zSi y3 143 (b + 11 + 7 * a) (jI 0) = y4 at cx4 ⊢
  refine g_aload_n 0 dX4_beginSpan_23 rfl rfl ?_
  refine g_getr (f := 137) (b := b + 11 + 7 * a + 3) dX4_beginSpan_24 fl_X4_21 (cx4.1.1.2.2.2.2.2.2.2.2.1 a a6).2.1 rfl ((cx4.1.1.2.2.2.2.2.2.2.2.1 a a6).2.2.2.2.1 0 (by omega)).1 ?_
  refine g_iconst (v := nI 0) dX4_beginSpan_27 (by decide) ?_
  refine g_invs (M' := mJ7_fill_53178) (As := [.ref (b + 11 + 7 * a + 3), .int (nI 0)]) (rest := []) dX4_beginSpan_28 ml_X4_148 okJ7_fill_53178 stJ7_fill_53178 ⟨(Nat.le_of_ble_eq_true rfl), (Nat.le_of_ble_eq_true rfl)⟩ rfl rfl (Nat.le_of_ble_eq_true rfl) (c_fill ((cx4.1.1.2.2.2.2.2.2.2.2.1 a a6).2.2.2.2.1 0 (by omega)).2.1 ((cx4.1.1.2.2.2.2.2.2.2.2.1 a a6).2.2.2.2.1 0 (by omega)).2.2) ?_
  rintro _ q103 ⟨rfl, rfl⟩
  show zG l w mX4_beginSpan 31 [(0, .ref (b + 11 + 7 * a))] [] (zSF y4 (b + 11 + 7 * a + 3) (fl6 (zI y4 (b + 11 + 7 * a + 3)) (nI 0) 6)) _
  refine g_aload_n 0 dX4_beginSpan_31 rfl rfl ?_
  refine g_getr (f := 138) (b := b + 11 + 7 * a + 4) dX4_beginSpan_32 fl_X4_25 (cx4.1.1.2.2.2.2.2.2.2.2.1 a a6).2.1 rfl ((cx4.1.1.2.2.2.2.2.2.2.2.1 a a6).2.2.2.2.1 1 (by omega)).1 ?_
  refine g_iconst (v := nI 0) dX4_beginSpan_35 (by decide) ?_
  refine g_invs (M' := mJ7_fill_53178) (As := [.ref (b + 11 + 7 * a + 4), .int (nI 0)]) (rest := []) dX4_beginSpan_36 ml_X4_148 okJ7_fill_53178 stJ7_fill_53178 ⟨(Nat.le_of_ble_eq_true rfl), (Nat.le_of_ble_eq_true rfl)⟩ rfl rfl (Nat.le_of_ble_eq_true rfl) (c_fill ((cx4.1.1.2.2.2.2.2.2.2.2.1 a a6).2.2.2.2.1 1 (by omega)).2.1 ((cx4.1.1.2.2.2.2.2.2.2.2.1 a a6).2.2.2.2.1 1 (by omega)).2.2) ?_
  rintro _ q104 ⟨rfl, rfl⟩
  show zG l w mX4_beginSpan 39 [(0, .ref (b + 11 + 7 * a))] [] (zSF (zSF y4 (b + 11 + 7 * a + 3) (fl6 (zI y4 (b + 11 + 7 * a + 3)) (nI 0) 6)) (b + 11 + 7 * a + 4) (fl6 (zI (zSF y4 (b + 11 + 7 * a + 3) (fl6 (zI y4 (b + 11 + 7 * a + 3)) (nI 0) 6)) (b + 11 + 7 * a + 4)) (nI 0) 6)) _
  refine g_aload_n 0 dX4_beginSpan_39 rfl rfl ?_
  refine g_getr (f := 139) (b := b + 11 + 7 * a + 5) dX4_beginSpan_40 fl_X4_28 (cx4.1.1.2.2.2.2.2.2.2.2.1 a a6).2.1 rfl ((cx4.1.1.2.2.2.2.2.2.2.2.1 a a6).2.2.2.2.1 2 (by omega)).1 ?_
  refine g_iconst (v := nI 0) dX4_beginSpan_43 (by decide) ?_
  refine g_invs (M' := mJ7_fill_53178) (As := [.ref (b + 11 + 7 * a + 5), .int (nI 0)]) (rest := []) dX4_beginSpan_44 ml_X4_148 okJ7_fill_53178 stJ7_fill_53178 ⟨(Nat.le_of_ble_eq_true rfl), (Nat.le_of_ble_eq_true rfl)⟩ rfl rfl (Nat.le_of_ble_eq_true rfl) (c_fill ((cx4.1.1.2.2.2.2.2.2.2.2.1 a a6).2.2.2.2.1 2 (by omega)).2.1 ((cx4.1.1.2.2.2.2.2.2.2.2.1 a a6).2.2.2.2.1 2 (by omega)).2.2) ?_
  rintro _ q105 ⟨rfl, rfl⟩
  show zG l w mX4_beginSpan 47 [(0, .ref (b + 11 + 7 * a))] [] (zSF (zSF (zSF y4 (b + 11 + 7 * a + 3) (fl6 (zI y4 (b + 11 + 7 * a + 3)) (nI 0) 6)) (b + 11 + 7 * a + 4) (fl6 (zI (zSF y4 (b + 11 + 7 * a + 3) (fl6 (zI y4 (b + 11 + 7 * a + 3)) (nI 0) 6)) (b + 11 + 7 * a + 4)) (nI 0) 6)) (b + 11 + 7 * a + 5) (fl6 (zI (zSF (zSF y4 (b + 11 + 7 * a + 3) (fl6 (zI y4 (b + 11 + 7 * a + 3)) (nI 0) 6)) (b + 11 + 7 * a + 4) (fl6 (zI (zSF y4 (b + 11 + 7 * a + 3) (fl6 (zI y4 (b + 11 + 7 * a + 3)) (nI 0) 6)) (b + 11 + 7 * a + 4)) (nI 0) 6)) (b + 11 + 7 * a + 5)) (nI 0) 6)) _
  refine g_return dX4_beginSpan_47 rfl ?_
  have cz := cx4.1.setZ (a := a) (g3 := (fl6 (zI y4 (b + 11 + 7 * a + 3)) (nI 0) 6)) (g4 := (fl6 (zI (zSF y4 (b + 11 + 7 * a + 3) (fl6 (zI y4 (b + 11 + 7 * a + 3)) (nI 0) 6)) (b + 11 + 7 * a + 4)) (nI 0) 6)) (g5 := (fl6 (zI (zSF (zSF y4 (b + 11 + 7 * a + 3) (fl6 (zI y4 (b + 11 + 7 * a + 3)) (nI 0) 6)) (b + 11 + 7 * a + 4) (fl6 (zI (zSF y4 (b + 11 + 7 * a + 3) (fl6 (zI y4 (b + 11 + 7 * a + 3)) (nI 0) 6)) (b + 11 + 7 * a + 4)) (nI 0) 6)) (b + 11 + 7 * a + 5)) (nI 0) 6)) a6 (fun i hi => (fl6_in hi).trans (by decide)) (fun i hi => (fl6_in hi).trans (by decide)) (fun i hi => (fl6_in hi).trans (by decide))
  exact ⟨rfl, cz.1, ((((CSt.rf.tr cx1.2).tr cx2.2).tr cx3.2).tr cx4.2).tr cz.2⟩
end CZ6
