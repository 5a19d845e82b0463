section CP3
variable {l : Launch} {w : zW} {h y : zH} {b : Nat} {ls lt : Nat → List Nat}
/-- under way: from h, ls to y, lt: packets moved to the spare line -/
def Sp0 (h : zH) (ls : Nat → List Nat) (b : Nat) (y : zH) (lt : Nat → List Nat) : Prop := lnS y lt ∧ FrLn h y ∧ LnO (ownS b ls) h y ∧ (∀ M, (M < b ∨ b + 65 ≤ M) → lt M = ls M) ∧ totL lt b = totL ls b ∧ ∀ a, ownS b lt a → ownS b ls a
theorem Sp0.rf (s : lnS h ls) : Sp0 h ls b h ls := ⟨s, FrLn.rf, LnO.rf, fun _ _ => rfl, rfl, fun _ q => q⟩
theorem ClS.ln (c : ClS h b) (f : FrLn h y) : ClS y b := c.fr (by rw [f.1]; exact Nat.le_refl _) (fun a _ _ => ⟨f.2.2.1 a, f.2.2.2.1 a, fun q h1 h2 h3 => f.2.2.2.2.2.2.1 q a h1 h2 h3, fun i => f.2.2.2.2.2.2.2.2.2 a i⟩)
theorem mvS_from {k : Nat} (hk : k < 13) : mvS lt (lin b k) (lin b 13) (lin b k) = [] := by unfold mvS; rw [updF_eq]
theorem mvS_other {k j : Nat} (hk : k < 13) (hj : j < 13) (n : j ≠ k) : mvS lt (lin b k) (lin b 13) (lin b j) = lt (lin b j) := by
  unfold mvS
  rw [updF_ne (fun e => n (lin_inj (by omega) (by omega) e)), updF_ne (fun e => absurd (lin_inj (b := b) (by omega) (by omega) e) (by omega))]
theorem c_moveSp (S : Sp0 h ls b y lt) (c : ClS h b) (t4 : totL ls b ≤ 480) {k : Nat} (hk : k < 13) : zM l w mX3_moveAllTo [.ref (lin b k), .ref (lin b 13)] y (fun u h1 => u = none ∧ Sp0 h ls b h1 (mvS lt (lin b k) (lin b 13))) := by
  obtain ⟨s1, s2, s3, s4, s5, s6⟩ := S
  have cy := c.ln s2
  have g := totL_ge (ls := lt) (b := b) (i := k) (by omega)
  refine zM.mono (c_moveAllTo s1 (lin_isL cy (by omega)) (lin_isL cy (by omega)) (fun e => absurd (lin_inj (b := b) (by omega) (by omega) e) (by omega)) (by omega)) ?_
  rintro v h3 ⟨r1, r2, r3, r4⟩
  have ik := lin_in (b := b) (i := k) (by omega)
  have i13 := lin_in (b := b) (i := 13) (by omega)
  refine ⟨r1, r2, s2.tr r3, s3.tr (r4.mono ?_), fun M hM => ?_, ?_, fun a q => s6 a (ownS_mv (by omega) (by omega) q)⟩
  · rintro a (q | q | q | q)
    · subst q; exact Or.inl ik
    · subst q; exact Or.inl i13
    · exact s6 a (Or.inr ⟨k, by omega, q⟩)
    · exact s6 a (Or.inr ⟨13, by omega, q⟩)
  · unfold mvS
    rw [updF_ne (by omega), updF_ne (by omega)]
    exact s4 M hM
  · rw [totL_mv (by omega) (by omega) (by omega)]
    exact s5
theorem c_spareAll (s : lnS h ls) (c : ClS h b) (hn : ∃ n : Nat, n ≤ 6 ∧ zi h 161 b = nI n ∧ ∀ a, n ≤ a → a < 6 → ls (lin b a) = [] ∧ ls (lin b (6 + a)) = []) (t4 : totL ls b ≤ 480) : zM l w mX5_spareAllPackets [.ref b] h (fun u h1 => u = none ∧ ∃ lt, Sp0 h ls b h1 lt ∧ ∀ k, k < 13 → lt (lin b k) = []) := by
  refine zM.of (by decide) (Nat.le_of_ble_eq_true rfl) ?_
  obtain ⟨n, n6, hn, he⟩ := hn
  have loop : ∀ k i : Nat, i + k = n → ∀ (y : zH) (lt : Nat → List Nat), Sp0 h ls b y lt → (∀ a, a < 6 → (a < i ∨ n ≤ a) → lt (lin b a) = [] ∧ lt (lin b (6 + a)) = []) → zG l w mX5_spareAllPackets 2 [(1, .int (nI i)), (0, .ref b)] [] y (fun u h1 => u = none ∧ ∃ lt, Sp0 h ls b h1 lt ∧ ∀ k, k < 13 → lt (lin b k) = []) := by
    intro k
    induction k with
    | zero =>
      intro i hi y lt S0 em
      have cy := c.ln S0.2.1
      have hy : zi y 161 b = nI n := (S0.2.1.2.2.2.2.1 161 b (by omega)).trans hn
      refine g_iload_n 0 dX5_spareAllPackets_2 rfl rfl ?_
      refine g_aload_n 1 dX5_spareAllPackets_3 rfl rfl ?_
      refine g_geti (f := 161) dX5_spareAllPackets_4 fl_X5_49 cy.1.2 (by decide) rfl ?_
      rw [show zi y 161 b = nI n from hy]
      refine g_ncmp_ge (tgt := 48) dX5_spareAllPackets_7 (by decide) (by omega) (by omega) (fun k0 => ?_) (fun k0 => ?_)
      · refine g_aload_n 1 dX5_spareAllPackets_48 rfl rfl ?_
        refine g_getr (f := 165) (b := b + 3) dX5_spareAllPackets_49 fl_X5_26 cy.1.2 rfl cy.2.2.2.1.1 ?_
        refine g_aload_n 1 dX5_spareAllPackets_52 rfl rfl ?_
        refine g_getr (f := 166) (b := b + 4) dX5_spareAllPackets_53 fl_X5_30 cy.1.2 rfl cy.2.2.2.2.1.1 ?_
        refine g_invv (M' := mX3_moveAllTo) (As := [.ref (b + 4)]) (rest := []) dX5_spareAllPackets_56 ml_X5_95 okX3_moveAllTo imX3_moveAllTo seX3_moveAllTo ⟨(Nat.le_of_ble_eq_true rfl), (Nat.le_of_ble_eq_true rfl)⟩ (ci := 3) rfl rfl cy.2.2.2.1.2 rfl rfl (Nat.le_of_ble_eq_true rfl) (by have MV := c_moveSp (l := l) (w := w) S0 c t4 (k := 12) (by omega); have ea : lin b (12) = b + 3 := lin_ret; have eb : lin b 13 = b + 4 := lin_spare; exact (show zM l w mX3_moveAllTo [.ref (b + 3), .ref (b + 4)] _ (fun u h1 => u = none ∧ Sp0 h ls b h1 (mvS lt (lin b (12)) (lin b 13))) from by rw [← ea, ← eb]; exact MV)) ?_
        rintro _ y3 ⟨rfl, S3⟩
        show zG l w mX5_spareAllPackets 59 [(1, .int (nI i)), (0, .ref b)] [] y3 _
        refine g_return dX5_spareAllPackets_59 rfl ?_
        refine ⟨rfl, _, S3, fun k hk => ?_⟩
        by_cases e12 : k = 12
        · subst e12; exact mvS_from (by omega)
        · rw [mvS_other (by omega) hk e12]
          by_cases e6 : k < 6
          · exact (em k e6 (by omega)).1
          · have q := (em (k - 6) (by omega) (by omega)).2
            rw [show 6 + (k - 6) = k by omega] at q
            exact q
      · exact absurd k0 (by omega)
    | succ k ih =>
      intro i hi y lt S0 em
      have cy := c.ln S0.2.1
      have hy : zi y 161 b = nI n := (S0.2.1.2.2.2.2.1 161 b (by omega)).trans hn
      have i6 : i < 6 := by omega
      refine g_iload_n 0 dX5_spareAllPackets_2 rfl rfl ?_
      refine g_aload_n 1 dX5_spareAllPackets_3 rfl rfl ?_
      refine g_geti (f := 161) dX5_spareAllPackets_4 fl_X5_49 cy.1.2 (by decide) rfl ?_
      rw [show zi y 161 b = nI n from hy]
      refine g_ncmp_ge (tgt := 48) dX5_spareAllPackets_7 (by decide) (by omega) (by omega) (fun k0 => ?_) (fun k0 => ?_)
      · exact absurd k0 (by omega)
      · refine g_aload_n 1 dX5_spareAllPackets_10 rfl rfl ?_
        refine g_getr (f := 160) (b := b + 1) dX5_spareAllPackets_11 fl_X5_11 cy.1.2 rfl cy.2.1.1 ?_
        refine g_iload_n 0 dX5_spareAllPackets_14 rfl rfl ?_
        refine g_aald (t := 5) (b := b + 11 + 7 * i) dX5_spareAllPackets_15 cy.2.1.2.1 rfl (fun _ => rfl) (by decide) (by rw [show zn y (b + 1) = 6 from cy.2.1.2.2]; exact vp_in_nI (by omega) (by omega)) (by rw [nI_clamp (by omega)]; exact (cy.2.2.2.2.2.2.2.2.1 i i6).1) ?_
        refine g_getr (f := 132) (b := b + 11 + 7 * i + 1) dX5_spareAllPackets_16 fl_X5_73 (cy.2.2.2.2.2.2.2.2.1 i i6).2.1 rfl (cy.2.2.2.2.2.2.2.2.1 i i6).2.2.1.1 ?_
        refine g_aload_n 1 dX5_spareAllPackets_19 rfl rfl ?_
        refine g_getr (f := 166) (b := b + 4) dX5_spareAllPackets_20 fl_X5_30 cy.1.2 rfl cy.2.2.2.2.1.1 ?_
        refine g_invv (M' := mX3_moveAllTo) (As := [.ref (b + 4)]) (rest := []) dX5_spareAllPackets_23 ml_X5_95 okX3_moveAllTo imX3_moveAllTo seX3_moveAllTo ⟨(Nat.le_of_ble_eq_true rfl), (Nat.le_of_ble_eq_true rfl)⟩ (ci := 3) rfl rfl (cy.2.2.2.2.2.2.2.2.1 i i6).2.2.1.2 rfl rfl (Nat.le_of_ble_eq_true rfl) (by have MV := c_moveSp (l := l) (w := w) S0 c t4 (k := i) (by omega); have ea : lin b (i) = b + 11 + 7 * i + 1 := lin_row i6; have eb : lin b 13 = b + 4 := lin_spare; exact (show zM l w mX3_moveAllTo [.ref (b + 11 + 7 * i + 1), .ref (b + 4)] _ (fun u h1 => u = none ∧ Sp0 h ls b h1 (mvS lt (lin b (i)) (lin b 13))) from by rw [← ea, ← eb]; exact MV)) ?_
        rintro _ y3 ⟨rfl, S3⟩
        show zG l w mX5_spareAllPackets 26 [(1, .int (nI i)), (0, .ref b)] [] y3 _
        have cy3 := c.ln S3.2.1
        refine g_aload_n 1 dX5_spareAllPackets_26 rfl rfl ?_
        refine g_getr (f := 160) (b := b + 1) dX5_spareAllPackets_27 fl_X5_11 cy3.1.2 rfl cy3.2.1.1 ?_
        refine g_iload_n 0 dX5_spareAllPackets_30 rfl rfl ?_
        refine g_aald (t := 5) (b := b + 11 + 7 * i) dX5_spareAllPackets_31 cy3.2.1.2.1 rfl (fun _ => rfl) (by decide) (by rw [show zn y3 (b + 1) = 6 from cy3.2.1.2.2]; exact vp_in_nI (by omega) (by omega)) (by rw [nI_clamp (by omega)]; exact (cy3.2.2.2.2.2.2.2.2.1 i i6).1) ?_
        refine g_getr (f := 133) (b := b + 11 + 7 * i + 2) dX5_spareAllPackets_32 fl_X5_80 (cy3.2.2.2.2.2.2.2.2.1 i i6).2.1 rfl (cy3.2.2.2.2.2.2.2.2.1 i i6).2.2.2.1.1 ?_
        refine g_aload_n 1 dX5_spareAllPackets_35 rfl rfl ?_
        refine g_getr (f := 166) (b := b + 4) dX5_spareAllPackets_36 fl_X5_30 cy3.1.2 rfl cy3.2.2.2.2.1.1 ?_
        refine g_invv (M' := mX3_moveAllTo) (As := [.ref (b + 4)]) (rest := []) dX5_spareAllPackets_39 ml_X5_95 okX3_moveAllTo imX3_moveAllTo seX3_moveAllTo ⟨(Nat.le_of_ble_eq_true rfl), (Nat.le_of_ble_eq_true rfl)⟩ (ci := 3) rfl rfl (cy3.2.2.2.2.2.2.2.2.1 i i6).2.2.2.1.2 rfl rfl (Nat.le_of_ble_eq_true rfl) (by have MV := c_moveSp (l := l) (w := w) S3 c t4 (k := 6 + i) (by omega); have ea : lin b (6 + i) = b + 11 + 7 * i + 2 := lin_wire i6; have eb : lin b 13 = b + 4 := lin_spare; exact (show zM l w mX3_moveAllTo [.ref (b + 11 + 7 * i + 2), .ref (b + 4)] _ (fun u h1 => u = none ∧ Sp0 h ls b h1 (mvS (mvS lt (lin b i) (lin b 13)) (lin b (6 + i)) (lin b 13))) from by rw [← ea, ← eb]; exact MV)) ?_
        rintro _ y4 ⟨rfl, S4⟩
        show zG l w mX5_spareAllPackets 42 [(1, .int (nI i)), (0, .ref b)] [] y4 _
        refine g_inc (v := nI (i + 1)) (lv2 := [(1, .int (nI (i + 1))), (0, .ref b)]) 0 dX5_spareAllPackets_42 rfl (nI_add _ 1) (by decide) rfl ?_
        refine g_goto (tgt := 2) dX5_spareAllPackets_45 (by decide) ?_
        refine zG.sub [0, 1] rfl (ih (i + 1) (by omega) y4 _ S4 (fun a ha hc => ?_))
        by_cases ei : a = i
        · subst ei
          exact ⟨by rw [mvS_other (by omega) (by omega) (by omega)]; exact mvS_from (by omega), mvS_from (by omega)⟩
        · rw [mvS_other (by omega) (by omega) (by omega), mvS_other (by omega) (by omega) ei, mvS_other (by omega) (by omega) (by omega), mvS_other (by omega) (by omega) (by omega)]
          exact em a ha (by omega)
  refine g_iconst (v := nI 0) dX5_spareAllPackets_0 (by decide) ?_
  refine g_istore_n (lv2 := [(1, .int (nI 0)), (0, .ref b)]) dX5_spareAllPackets_1 rfl (by decide) rfl ?_
  exact zG.sub [0, 1] rfl (loop n 0 (Nat.zero_add _) h ls (Sp0.rf s) (fun a ha hc => he a (by omega) ha))
end CP3
