section CX9
variable {l : Launch} {w : zW} {M : zMe} {pc : Nat} {lv : List (Nat × Value)} {rest : List Value} {h : zH} {Q : Option Value → zH → Prop}
theorem g_jif_eq {a : Int} {off : Int} {tgt : Nat} (hd : decode M.2.1 pc = .ok (.ifCond .eq off, 3)) (ht : (pc : Int) + off = (tgt : Int)) (ha : -2 ^ 31 ≤ a ∧ a < 2 ^ 31) (kt : a = 0 → zG l w M tgt lv rest h Q) (kf : ¬ a = 0 → zG l w M (pc + 3) lv rest h Q) : zG l w M pc lv (.int (jI a) :: rest) h Q := by
  have hz : -2 ^ 31 ≤ (0 : Int) ∧ (0 : Int) < 2 ^ 31 := by omega
  have i := jI_eq ha hz
  rw [show jI 0 = (0 : Int32) by decide] at i
  exact g_if_eq hd ht (fun q => kt (i.mp q)) (fun q => kf (fun g => q (i.mpr g)))
theorem g_jif_ne {a : Int} {off : Int} {tgt : Nat} (hd : decode M.2.1 pc = .ok (.ifCond .ne off, 3)) (ht : (pc : Int) + off = (tgt : Int)) (ha : -2 ^ 31 ≤ a ∧ a < 2 ^ 31) (kt : ¬ a = 0 → zG l w M tgt lv rest h Q) (kf : a = 0 → zG l w M (pc + 3) lv rest h Q) : zG l w M pc lv (.int (jI a) :: rest) h Q := by
  have hz : -2 ^ 31 ≤ (0 : Int) ∧ (0 : Int) < 2 ^ 31 := by omega
  have i := jI_eq ha hz
  rw [show jI 0 = (0 : Int32) by decide] at i
  exact g_if_ne hd ht (fun q => kt (fun g => q (i.mpr g))) (fun q => kf (i.mp q))
theorem g_jif_lt {a : Int} {off : Int} {tgt : Nat} (hd : decode M.2.1 pc = .ok (.ifCond .lt off, 3)) (ht : (pc : Int) + off = (tgt : Int)) (ha : -2 ^ 31 ≤ a ∧ a < 2 ^ 31) (kt : a < 0 → zG l w M tgt lv rest h Q) (kf : ¬ a < 0 → zG l w M (pc + 3) lv rest h Q) : zG l w M pc lv (.int (jI a) :: rest) h Q := by
  have hz : -2 ^ 31 ≤ (0 : Int) ∧ (0 : Int) < 2 ^ 31 := by omega
  have i := jI_lt ha hz
  rw [show jI 0 = (0 : Int32) by decide] at i
  exact g_if_lt hd ht (fun q => kt (i.mp q)) (fun q => kf (fun g => q (i.mpr g)))
theorem g_jif_ge {a : Int} {off : Int} {tgt : Nat} (hd : decode M.2.1 pc = .ok (.ifCond .ge off, 3)) (ht : (pc : Int) + off = (tgt : Int)) (ha : -2 ^ 31 ≤ a ∧ a < 2 ^ 31) (kt : 0 ≤ a → zG l w M tgt lv rest h Q) (kf : ¬ 0 ≤ a → zG l w M (pc + 3) lv rest h Q) : zG l w M pc lv (.int (jI a) :: rest) h Q := by
  have hz : -2 ^ 31 ≤ (0 : Int) ∧ (0 : Int) < 2 ^ 31 := by omega
  have i := jI_le hz ha
  rw [show jI 0 = (0 : Int32) by decide] at i
  exact g_if_ge hd ht (fun q => kt (i.mp q)) (fun q => kf (fun g => q (i.mpr g)))
theorem g_jif_gt {a : Int} {off : Int} {tgt : Nat} (hd : decode M.2.1 pc = .ok (.ifCond .gt off, 3)) (ht : (pc : Int) + off = (tgt : Int)) (ha : -2 ^ 31 ≤ a ∧ a < 2 ^ 31) (kt : 0 < a → zG l w M tgt lv rest h Q) (kf : ¬ 0 < a → zG l w M (pc + 3) lv rest h Q) : zG l w M pc lv (.int (jI a) :: rest) h Q := by
  have hz : -2 ^ 31 ≤ (0 : Int) ∧ (0 : Int) < 2 ^ 31 := by omega
  have i := jI_lt hz ha
  rw [show jI 0 = (0 : Int32) by decide] at i
  exact g_if_gt hd ht (fun q => kt (i.mp q)) (fun q => kf (fun g => q (i.mpr g)))
theorem g_jif_le {a : Int} {off : Int} {tgt : Nat} (hd : decode M.2.1 pc = .ok (.ifCond .le off, 3)) (ht : (pc : Int) + off = (tgt : Int)) (ha : -2 ^ 31 ≤ a ∧ a < 2 ^ 31) (kt : a ≤ 0 → zG l w M tgt lv rest h Q) (kf : ¬ a ≤ 0 → zG l w M (pc + 3) lv rest h Q) : zG l w M pc lv (.int (jI a) :: rest) h Q := by
  have hz : -2 ^ 31 ≤ (0 : Int) ∧ (0 : Int) < 2 ^ 31 := by omega
  have i := jI_le ha hz
  rw [show jI 0 = (0 : Int32) by decide] at i
  exact g_if_le hd ht (fun q => kt (i.mp q)) (fun q => kf (fun g => q (i.mpr g)))
theorem zG.top {x y : Int32} (e : x = y) (k : zG l w M pc lv (.int y :: rest) h Q) : zG l w M pc lv (.int x :: rest) h Q := e ▸ k
theorem g_zif_eq {x : Int32} {a : Int} {off : Int} {tgt : Nat} (ex : x = jI a) (hd : decode M.2.1 pc = .ok (.ifCond .eq off, 3)) (ht : (pc : Int) + off = (tgt : Int)) (ha : -2 ^ 31 ≤ a ∧ a < 2 ^ 31) (kt : a = 0 → zG l w M tgt lv rest h Q) (kf : ¬ a = 0 → zG l w M (pc + 3) lv rest h Q) : zG l w M pc lv (.int x :: rest) h Q := by
  subst ex
  exact g_jif_eq hd ht ha kt kf
theorem g_zif_ne {x : Int32} {a : Int} {off : Int} {tgt : Nat} (ex : x = jI a) (hd : decode M.2.1 pc = .ok (.ifCond .ne off, 3)) (ht : (pc : Int) + off = (tgt : Int)) (ha : -2 ^ 31 ≤ a ∧ a < 2 ^ 31) (kt : ¬ a = 0 → zG l w M tgt lv rest h Q) (kf : a = 0 → zG l w M (pc + 3) lv rest h Q) : zG l w M pc lv (.int x :: rest) h Q := by
  subst ex
  exact g_jif_ne hd ht ha kt kf
theorem g_zif_lt {x : Int32} {a : Int} {off : Int} {tgt : Nat} (ex : x = jI a) (hd : decode M.2.1 pc = .ok (.ifCond .lt off, 3)) (ht : (pc : Int) + off = (tgt : Int)) (ha : -2 ^ 31 ≤ a ∧ a < 2 ^ 31) (kt : a < 0 → zG l w M tgt lv rest h Q) (kf : ¬ a < 0 → zG l w M (pc + 3) lv rest h Q) : zG l w M pc lv (.int x :: rest) h Q := by
  subst ex
  exact g_jif_lt hd ht ha kt kf
theorem g_zif_ge {x : Int32} {a : Int} {off : Int} {tgt : Nat} (ex : x = jI a) (hd : decode M.2.1 pc = .ok (.ifCond .ge off, 3)) (ht : (pc : Int) + off = (tgt : Int)) (ha : -2 ^ 31 ≤ a ∧ a < 2 ^ 31) (kt : 0 ≤ a → zG l w M tgt lv rest h Q) (kf : ¬ 0 ≤ a → zG l w M (pc + 3) lv rest h Q) : zG l w M pc lv (.int x :: rest) h Q := by
  subst ex
  exact g_jif_ge hd ht ha kt kf
theorem g_zif_gt {x : Int32} {a : Int} {off : Int} {tgt : Nat} (ex : x = jI a) (hd : decode M.2.1 pc = .ok (.ifCond .gt off, 3)) (ht : (pc : Int) + off = (tgt : Int)) (ha : -2 ^ 31 ≤ a ∧ a < 2 ^ 31) (kt : 0 < a → zG l w M tgt lv rest h Q) (kf : ¬ 0 < a → zG l w M (pc + 3) lv rest h Q) : zG l w M pc lv (.int x :: rest) h Q := by
  subst ex
  exact g_jif_gt hd ht ha kt kf
theorem g_zif_le {x : Int32} {a : Int} {off : Int} {tgt : Nat} (ex : x = jI a) (hd : decode M.2.1 pc = .ok (.ifCond .le off, 3)) (ht : (pc : Int) + off = (tgt : Int)) (ha : -2 ^ 31 ≤ a ∧ a < 2 ^ 31) (kt : a ≤ 0 → zG l w M tgt lv rest h Q) (kf : ¬ a ≤ 0 → zG l w M (pc + 3) lv rest h Q) : zG l w M pc lv (.int x :: rest) h Q := by
  subst ex
  exact g_jif_le hd ht ha kt kf
theorem g_zcmp_eq {x y : Int32} {a b : Int} {off : Int} {tgt : Nat} (ex : x = jI a) (ey : y = jI b) (hd : decode M.2.1 pc = .ok (.if_icmp .eq off, 3)) (ht : (pc : Int) + off = (tgt : Int)) (ha : -2 ^ 31 ≤ a ∧ a < 2 ^ 31) (hb : -2 ^ 31 ≤ b ∧ b < 2 ^ 31) (kt : a = b → zG l w M tgt lv rest h Q) (kf : ¬ a = b → zG l w M (pc + 3) lv rest h Q) : zG l w M pc lv (.int y :: .int x :: rest) h Q := by
  subst ex ey
  exact g_jcmp_eq hd ht ha hb kt kf
theorem g_zcmp_ne {x y : Int32} {a b : Int} {off : Int} {tgt : Nat} (ex : x = jI a) (ey : y = jI b) (hd : decode M.2.1 pc = .ok (.if_icmp .ne off, 3)) (ht : (pc : Int) + off = (tgt : Int)) (ha : -2 ^ 31 ≤ a ∧ a < 2 ^ 31) (hb : -2 ^ 31 ≤ b ∧ b < 2 ^ 31) (kt : ¬ a = b → zG l w M tgt lv rest h Q) (kf : a = b → zG l w M (pc + 3) lv rest h Q) : zG l w M pc lv (.int y :: .int x :: rest) h Q := by
  subst ex ey
  exact g_jcmp_ne hd ht ha hb kt kf
theorem g_zcmp_lt {x y : Int32} {a b : Int} {off : Int} {tgt : Nat} (ex : x = jI a) (ey : y = jI b) (hd : decode M.2.1 pc = .ok (.if_icmp .lt off, 3)) (ht : (pc : Int) + off = (tgt : Int)) (ha : -2 ^ 31 ≤ a ∧ a < 2 ^ 31) (hb : -2 ^ 31 ≤ b ∧ b < 2 ^ 31) (kt : a < b → zG l w M tgt lv rest h Q) (kf : ¬ a < b → zG l w M (pc + 3) lv rest h Q) : zG l w M pc lv (.int y :: .int x :: rest) h Q := by
  subst ex ey
  exact g_jcmp_lt hd ht ha hb kt kf
theorem g_zcmp_ge {x y : Int32} {a b : Int} {off : Int} {tgt : Nat} (ex : x = jI a) (ey : y = jI b) (hd : decode M.2.1 pc = .ok (.if_icmp .ge off, 3)) (ht : (pc : Int) + off = (tgt : Int)) (ha : -2 ^ 31 ≤ a ∧ a < 2 ^ 31) (hb : -2 ^ 31 ≤ b ∧ b < 2 ^ 31) (kt : b ≤ a → zG l w M tgt lv rest h Q) (kf : ¬ b ≤ a → zG l w M (pc + 3) lv rest h Q) : zG l w M pc lv (.int y :: .int x :: rest) h Q := by
  subst ex ey
  exact g_jcmp_ge hd ht ha hb kt kf
theorem g_zcmp_gt {x y : Int32} {a b : Int} {off : Int} {tgt : Nat} (ex : x = jI a) (ey : y = jI b) (hd : decode M.2.1 pc = .ok (.if_icmp .gt off, 3)) (ht : (pc : Int) + off = (tgt : Int)) (ha : -2 ^ 31 ≤ a ∧ a < 2 ^ 31) (hb : -2 ^ 31 ≤ b ∧ b < 2 ^ 31) (kt : b < a → zG l w M tgt lv rest h Q) (kf : ¬ b < a → zG l w M (pc + 3) lv rest h Q) : zG l w M pc lv (.int y :: .int x :: rest) h Q := by
  subst ex ey
  exact g_jcmp_gt hd ht ha hb kt kf
theorem g_zcmp_le {x y : Int32} {a b : Int} {off : Int} {tgt : Nat} (ex : x = jI a) (ey : y = jI b) (hd : decode M.2.1 pc = .ok (.if_icmp .le off, 3)) (ht : (pc : Int) + off = (tgt : Int)) (ha : -2 ^ 31 ≤ a ∧ a < 2 ^ 31) (hb : -2 ^ 31 ≤ b ∧ b < 2 ^ 31) (kt : a ≤ b → zG l w M tgt lv rest h Q) (kf : ¬ a ≤ b → zG l w M (pc + 3) lv rest h Q) : zG l w M pc lv (.int y :: .int x :: rest) h Q := by
  subst ex ey
  exact g_jcmp_le hd ht ha hb kt kf
end CX9
section CX9b
variable {l : Launch} {w : zW} {h : zH} {b : Nat}
theorem c_evAdd (s : ClS h b) {E : List (Int × Int × Int × Int)} (e : EvC h b E) (hE : E.length ≤ 24) {k n q f : Int} : zM l w mX1_add [.ref (b + 5), .int (jI k), .int (jI n), .int (jI q), .int (jI f)] h (fun v h1 => v = none ∧ EvC h1 b (evL E (k, n, q, f)) ∧ FrEv b h h1) := by
  refine zM.of (by decide) (Nat.le_of_ble_eq_true rfl) ?_
  obtain ⟨sl, e1, e2, e3, e4⟩ := e
  refine g_aload_n 0 dX1_add_0 rfl rfl ?_
  refine g_geti (f := 36) dX1_add_1 fl_X1_24 s.2.2.2.2.2.1.2 (by decide) rfl ?_
  rw [show zi h 36 (b + 5) = nI sl from e2]
  refine g_zif_lt (a := ((sl : Nat) : Int)) (tgt := 16) (jI_nat sl).symm dX1_add_4 (by decide) (by omega) (fun c => ?_) (fun c => ?_)
  · exact absurd c (by omega)
  · refine g_aload_n 0 dX1_add_7 rfl rfl ?_
    refine g_geti (f := 36) dX1_add_8 fl_X1_24 s.2.2.2.2.2.1.2 (by decide) rfl ?_
    rw [show zi h 36 (b + 5) = nI sl from e2]
    refine g_bipush (v := nI 24) dX1_add_11 (by decide) ?_
    refine g_zcmp_lt (a := ((sl : Nat) : Int)) (b := 24) (tgt := 21) (jI_nat sl).symm (by decide) dX1_add_13 (by decide) (by omega) (by omega) (fun d => ?_) (fun d => ?_)
    · refine g_aload_n 0 dX1_add_21 rfl rfl ?_
      refine g_getr (f := 32) (b := b + 6) dX1_add_22 fl_X1_9 s.2.2.2.2.2.1.2 rfl (s.2.2.2.2.2.2.1 0 (by omega)).1 ?_
      refine g_aload_n 0 dX1_add_25 rfl rfl ?_
      refine g_geti (f := 36) dX1_add_26 fl_X1_24 s.2.2.2.2.2.1.2 (by decide) rfl ?_
      rw [show zi h 36 (b + 5) = nI sl from e2]
      refine g_iload_n 1 dX1_add_29 rfl rfl ?_
      refine g_iast (n := sl) dX1_add_30 (s.2.2.2.2.2.2.1 0 (by omega)).2.1 (by rw [show zn h (b + 6) = 24 from (s.2.2.2.2.2.2.1 0 (by omega)).2.2]; exact vp_in_nI (by omega) (by omega)) (nI_clamp (by omega)) ?_
      refine g_aload_n 0 dX1_add_31 rfl rfl ?_
      refine g_getr (f := 33) (b := b + 7) dX1_add_32 fl_X1_15 s.2.2.2.2.2.1.2 rfl (s.2.2.2.2.2.2.1 1 (by omega)).1 ?_
      refine g_aload_n 0 dX1_add_35 rfl rfl ?_
      refine g_geti (f := 36) dX1_add_36 fl_X1_24 s.2.2.2.2.2.1.2 (by decide) rfl ?_
      rw [show zi (zSI h (b + 6) sl (jI k)) 36 (b + 5) = nI sl from e2]
      refine g_iload_n 2 dX1_add_39 rfl rfl ?_
      refine g_iast (n := sl) dX1_add_40 (s.2.2.2.2.2.2.1 1 (by omega)).2.1 (by rw [show zn (zSI h (b + 6) sl (jI k)) (b + 7) = 24 from (s.2.2.2.2.2.2.1 1 (by omega)).2.2]; exact vp_in_nI (by omega) (by omega)) (nI_clamp (by omega)) ?_
      refine g_aload_n 0 dX1_add_41 rfl rfl ?_
      refine g_getr (f := 34) (b := b + 8) dX1_add_42 fl_X1_18 s.2.2.2.2.2.1.2 rfl (s.2.2.2.2.2.2.1 2 (by omega)).1 ?_
      refine g_aload_n 0 dX1_add_45 rfl rfl ?_
      refine g_geti (f := 36) dX1_add_46 fl_X1_24 s.2.2.2.2.2.1.2 (by decide) rfl ?_
      rw [show zi (zSI (zSI h (b + 6) sl (jI k)) (b + 7) sl (jI n)) 36 (b + 5) = nI sl from e2]
      refine g_iload_n 3 dX1_add_49 rfl rfl ?_
      refine g_iast (n := sl) dX1_add_50 (s.2.2.2.2.2.2.1 2 (by omega)).2.1 (by rw [show zn (zSI (zSI h (b + 6) sl (jI k)) (b + 7) sl (jI n)) (b + 8) = 24 from (s.2.2.2.2.2.2.1 2 (by omega)).2.2]; exact vp_in_nI (by omega) (by omega)) (nI_clamp (by omega)) ?_
      refine g_aload_n 0 dX1_add_51 rfl rfl ?_
      refine g_getr (f := 35) (b := b + 9) dX1_add_52 fl_X1_21 s.2.2.2.2.2.1.2 rfl (s.2.2.2.2.2.2.1 3 (by omega)).1 ?_
      refine g_aload_n 0 dX1_add_55 rfl rfl ?_
      refine g_geti (f := 36) dX1_add_56 fl_X1_24 s.2.2.2.2.2.1.2 (by decide) rfl ?_
      rw [show zi (zSI (zSI (zSI h (b + 6) sl (jI k)) (b + 7) sl (jI n)) (b + 8) sl (jI q)) 36 (b + 5) = nI sl from e2]
      refine g_iload 4 dX1_add_59 rfl ?_
      refine g_iast (n := sl) dX1_add_61 (s.2.2.2.2.2.2.1 3 (by omega)).2.1 (by rw [show zn (zSI (zSI (zSI h (b + 6) sl (jI k)) (b + 7) sl (jI n)) (b + 8) sl (jI q)) (b + 9) = 24 from (s.2.2.2.2.2.2.1 3 (by omega)).2.2]; exact vp_in_nI (by omega) (by omega)) (nI_clamp (by omega)) ?_
      refine g_aload_n 0 dX1_add_62 rfl rfl ?_
      refine g_aload_n 0 dX1_add_63 rfl rfl ?_
      refine g_geti (f := 36) dX1_add_64 fl_X1_24 s.2.2.2.2.2.1.2 (by decide) rfl ?_
      rw [show zi (zSI (zSI (zSI (zSI h (b + 6) sl (jI k)) (b + 7) sl (jI n)) (b + 8) sl (jI q)) (b + 9) sl (jI f)) 36 (b + 5) = nI sl from e2]
      refine g_iconst (v := nI 1) dX1_add_67 (by decide) ?_
      refine g_iadd dX1_add_68 ?_
      rw [nI_add sl 1]
      refine g_bipush (v := nI 24) dX1_add_69 (by decide) ?_
      refine g_irem dX1_add_71 (by decide) ?_
      rw [nI_rem (by omega) (by omega) (by omega)]
      refine g_puti (f := 36) dX1_add_72 fl_X1_24 (Or.inl rfl) s.2.2.2.2.2.1.2 rfl ?_
      refine g_aload_n 0 dX1_add_75 rfl rfl ?_
      refine g_aload_n 0 dX1_add_76 rfl rfl ?_
      refine g_geti (f := 37) dX1_add_77 fl_X1_28 s.2.2.2.2.2.1.2 (by decide) rfl ?_
      rw [show zi (zSi (zSI (zSI (zSI (zSI h (b + 6) sl (jI k)) (b + 7) sl (jI n)) (b + 8) sl (jI q)) (b + 9) sl (jI f)) 36 (b + 5) (nI ((sl + 1) % 24))) 37 (b + 5) = nI (E).length from e3]
      refine g_iconst (v := nI 1) dX1_add_80 (by decide) ?_
      refine g_iadd dX1_add_81 ?_
      rw [nI_add ((E).length) 1]
      refine g_bipush (v := nI 24) dX1_add_82 (by decide) ?_
      rw [← jI_nat ((E).length + 1), ← jI_nat 24]
      refine g_invs (M' := mJ9_min_7cf53) (As := [.int (jI ((E.length + 1 : Nat) : Int)), .int (jI ((24 : Nat) : Int))]) (rest := [.ref (b + 5)]) dX1_add_84 ml_X1_37 okJ9_min_7cf53 stJ9_min_7cf53 ⟨(Nat.le_of_ble_eq_true rfl), (Nat.le_of_ble_eq_true rfl)⟩ rfl rfl (Nat.le_of_ble_eq_true rfl) (c_minI (by omega) (by omega)) ?_
      rintro _ q1 ⟨rfl, eq1⟩
      subst q1
      show zG l w mX1_add 87 [(0, .ref (b + 5)), (1, .int (jI k)), (2, .int (jI n)), (3, .int (jI q)), (4, .int (jI f))] [.int (jI (min ((E.length + 1 : Nat) : Int) ((24 : Nat) : Int))), .ref (b + 5)] (zSi (zSI (zSI (zSI (zSI h (b + 6) sl (jI k)) (b + 7) sl (jI n)) (b + 8) sl (jI q)) (b + 9) sl (jI f)) 36 (b + 5) (nI ((sl + 1) % 24))) _
      rw [show jI (min ((E.length + 1 : Nat) : Int) ((24 : Nat) : Int)) = nI (min (E.length + 1) 24) by rw [← jI_nat]; congr 1; omega]
      refine g_puti (f := 37) dX1_add_87 fl_X1_28 (Or.inl rfl) s.2.2.2.2.2.1.2 rfl ?_
      refine g_return dX1_add_90 rfl ?_
      refine ⟨rfl, EvC.add hE e1 e4 ?_ ?_ (fun i => ?_) (fun i => ?_) (fun i => ?_) (fun i => ?_), ⟨⟨rfl, rfl⟩, fun _ => ⟨rfl, rfl⟩, fun _ _ => ⟨rfl, rfl⟩, fun _ _ => ⟨rfl, rfl⟩, fun g a hg => ?_, fun a i ha => ?_⟩⟩
      · rw [zi_Si, if_neg (by omega), zi_Si, if_pos ⟨rfl, rfl⟩]
      · rw [zi_Si, if_pos ⟨rfl, rfl⟩]
      · rw [zI_Si, zI_Si, zI_SI, if_neg (by omega), zI_SI, if_neg (by omega), zI_SI, if_neg (by omega), zI_SI]
        by_cases g : i = sl
        · rw [if_pos ⟨rfl, g⟩, if_pos g]
        · rw [if_neg (fun z => g z.2), if_neg g]
      · rw [zI_Si, zI_Si, zI_SI, if_neg (by omega), zI_SI, if_neg (by omega), zI_SI]
        by_cases g : i = sl
        · rw [if_pos ⟨rfl, g⟩, if_pos g]
        · rw [if_neg (fun z => g z.2), if_neg g, zI_SI, if_neg (by omega)]
      · rw [zI_Si, zI_Si, zI_SI, if_neg (by omega), zI_SI]
        by_cases g : i = sl
        · rw [if_pos ⟨rfl, g⟩, if_pos g]
        · rw [if_neg (fun z => g z.2), if_neg g, zI_SI, if_neg (by omega), zI_SI, if_neg (by omega)]
      · rw [zI_Si, zI_Si, zI_SI]
        by_cases g : i = sl
        · rw [if_pos ⟨rfl, g⟩, if_pos g]
        · rw [if_neg (fun z => g z.2), if_neg g, zI_SI, if_neg (by omega), zI_SI, if_neg (by omega), zI_SI, if_neg (by omega)]
      · rw [zi_Si, if_neg (by omega), zi_Si, if_neg (by omega)]; rfl
      · rw [zI_Si, zI_Si, zI_SI, if_neg (by omega), zI_SI, if_neg (by omega), zI_SI, if_neg (by omega), zI_SI, if_neg (by omega)]
    · exact absurd d (by omega)
end CX9b
