section QM7
variable {l : Launch} {w : zW} {h : zH} {m : Nat} {g : Nat → Int64} {N : nT}
/-- the row with i numbers of a copied to c -/
def cpG (g : Nat → Int64) (a c i : Nat) : Nat → Int64 := fun k => if c ≤ k ∧ k < c + i then g (k - c + a) else g k
theorem cpG_0 {a c : Nat} : cpG g a c 0 = g := by
  funext k
  unfold cpG
  rw [if_neg (by omega)]
theorem cpG_rd {a c i : Nat} (d : a + 5804 ≤ c ∨ c + 5804 ≤ a) (hi : i < 5804) : cpG g a c i (a + i) = g (a + i) := by
  unfold cpG
  rw [if_neg (by omega)]
theorem cpG_s {a c i : Nat} : updL (cpG g a c i) (c + i) (g (a + i)) = cpG g a c (i + 1) := by
  funext k
  unfold updL cpG
  by_cases e : k = c + i
  · subst e
    rw [if_pos rfl, if_pos (by omega), show c + i - c + a = a + i by omega]
  · rw [if_neg e]
    by_cases e2 : c ≤ k ∧ k < c + i
    · rw [if_pos e2, if_pos (by omega)]
    · rw [if_neg e2, if_neg (by omega)]
theorem c_copiesG (hM : Mo h m) {a c : Nat} (ha : a + 5804 ≤ 29020) (hc : c + 5804 ≤ 29020) (hd : a + 5804 ≤ c ∨ c + 5804 ≤ a) : zM l w mX10_copies [.ref m, .int (nI a), .int (nI c)] (zSG h (m + 1) g) (fun u h1 => u = none ∧ h1 = zSG h (m + 1) (cpG g a c 5804)) := by
  refine zM.of (by decide) (Nat.le_of_ble_eq_true rfl) ?_
  have loop : ∀ k i : Nat, i + k = 5804 → zG l w mX10_copies 2 [(3, .int (nI i)), (0, .ref m), (1, .int (nI a)), (2, .int (nI c))] [] (zSG h (m + 1) (cpG g a c i)) (fun u h1 => u = none ∧ h1 = zSG h (m + 1) (cpG g a c 5804)) := by
    intro k
    induction k with
    | zero =>
      intro i hi
      refine g_iload_n 0 dX10_copies_2 rfl rfl ?_
      refine g_sipush (v := nI 5804) dX10_copies_3 (by decide) ?_
      refine g_ncmp_ge (tgt := 31) dX10_copies_6 (by decide) (by omega) (by omega) (fun k0 => ?_) (fun k0 => ?_)
      · obtain rfl : i = 5804 := by omega
        refine g_return dX10_copies_31 rfl ?_
        exact ⟨rfl, rfl⟩
      · exact absurd k0 (by omega)
    | succ k ih =>
      intro i hi
      refine g_iload_n 0 dX10_copies_2 rfl rfl ?_
      refine g_sipush (v := nI 5804) dX10_copies_3 (by decide) ?_
      refine g_ncmp_ge (tgt := 31) dX10_copies_6 (by decide) (by omega) (by omega) (fun k0 => ?_) (fun k0 => ?_)
      · exact absurd k0 (by omega)
      · refine g_aload_n 1 dX10_copies_9 rfl rfl ?_
        refine g_getr (f := 320) (b := m + 1) dX10_copies_10 fl_X10_7 hM.1 rfl hM.2.1.1 ?_
        refine g_iload_n 3 dX10_copies_13 rfl rfl ?_
        refine g_iload_n 0 dX10_copies_14 rfl rfl ?_
        refine g_iadd dX10_copies_15 ?_
        rw [nI_add c i]
        refine g_aload_n 1 dX10_copies_16 rfl rfl ?_
        refine g_getr (f := 320) (b := m + 1) dX10_copies_17 fl_X10_7 hM.1 rfl hM.2.1.1 ?_
        refine g_iload_n 2 dX10_copies_20 rfl rfl ?_
        refine g_iload_n 0 dX10_copies_21 rfl rfl ?_
        refine g_iadd dX10_copies_22 ?_
        rw [nI_add a i]
        refine g_lald dX10_copies_23 hM.2.1.2.1 (by rw [show zn (zSG h (m + 1) (cpG g a c i)) (m + 1) = 29020 from hM.2.1.2.2]; exact vp_in_nI (by omega) (by omega)) ?_
        rw [nI_clamp (by omega), zL_SG, cpG_rd hd (by omega)]
        refine g_last (n := c + i) dX10_copies_24 hM.2.1.2.1 (by rw [show zn (zSG h (m + 1) (cpG g a c i)) (m + 1) = 29020 from hM.2.1.2.2]; exact vp_in_nI (by omega) (by omega)) (nI_clamp (by omega)) ?_
        rw [zSL_SG, cpG_s]
        refine g_inc (v := nI (i + 1)) (lv2 := [(3, .int (nI (i + 1))), (0, .ref m), (1, .int (nI a)), (2, .int (nI c))]) 0 dX10_copies_25 rfl (nI_add _ 1) (by decide) rfl ?_
        refine g_goto (tgt := 2) dX10_copies_28 (by decide) ?_
        exact zG.sub [0, 1, 2, 3] rfl (ih (i + 1) (by omega))
  refine g_iconst (v := nI 0) dX10_copies_0 (by decide) ?_
  refine g_istore_n (lv2 := [(3, .int (nI 0)), (0, .ref m), (1, .int (nI a)), (2, .int (nI c))]) dX10_copies_1 rfl (by decide) rfl ?_
  have L := loop 5804 0 (Nat.zero_add _)
  rw [cpG_0] at L
  exact zG.sub [0, 1, 2, 3] rfl L
theorem c_copies (hM : Mo h m) {a c : Nat} (ha : a + 5804 ≤ 29020) (hc : c + 5804 ≤ 29020) (hd : a + 5804 ≤ c ∨ c + 5804 ≤ a) : zM l w mX10_copies [.ref m, .int (nI a), .int (nI c)] h (fun u h1 => u = none ∧ h1 = zSG h (m + 1) (cpG (zL h (m + 1)) a c 5804)) := by
  have q := c_copiesG (l := l) (w := w) (g := zL h (m + 1)) hM ha hc hd
  rw [zSG_id] at q
  exact q
end QM7
