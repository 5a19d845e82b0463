section CRF
variable {l : Launch} {w : zW} {h y z : zH} {b r p n : Nat} {t : Nat → Nat} {T T' : tkT} {lt ls : Nat → List Nat} {N N' M M2 : nT} {f c lo hi : Nat} {u : Option Value} {a1 a2 a3 : Int} {tl : Bool}
/-- of a path of which little is known the way back is something -/
theorem c_measP (S : ClS h b) (f6 : f < 6) (P : FPt h b N f) (l6 : nLk N ≤ 6) : zM l w mX5_measureBack [.ref b, .ref (b + 53 + 2 * f)] h (fun u h1 => u = none ∧ ∃ v, h1 = zSi h 69 (b + 53 + 2 * f) v) := by
  obtain ⟨p0, c, c4, p1, p2⟩ := P
  have e : ∀ i : Nat, ∃ q : Nat, i < c → q < nLk N ∧ zI h (b + 53 + 2 * f + 1) i = nI q := fun i => by
    by_cases d : i < c
    · obtain ⟨q, q1, q2⟩ := p2 i d
      exact ⟨q, fun _ => ⟨q1, q2⟩⟩
    · exact ⟨0, fun z => absurd z d⟩
  obtain ⟨g, hg⟩ := Classical.axiomOfChoice e
  refine zM.mono (c_measureW (l := l) (w := w) S (p := g) (g := fun a => (zi h 129 (b + 11 + 7 * a)).toInt) f6 p1 c4 p0 l6 (fun i hi => ⟨(hg i hi).2, (hg i hi).1⟩) (fun a _ => (Int32.ofInt_toInt _).symm)) ?_
  rintro v h1 ⟨e1, e2⟩
  exact ⟨e1, _, e2⟩
/-- of a path that is known the way back is known -/
theorem c_measN (X : TX h b lt N 0 1) (hz : pz N) (f6 : f < 6) (P : FlP h b f M) (hp : hpZ N M2 f) (e0 : nA M (248 + 20 * f + 0) = nA M2 (248 + 20 * f + 0)) (ep : ∀ i, nA M (248 + 20 * f + (12 + i)) = nA M2 (248 + 20 * f + (12 + i))) : zM l w mX5_measureBack [.ref b, .ref (b + 53 + 2 * f)] h (fun u h1 => u = none ∧ h1 = zSi h 69 (b + 53 + 2 * f) (jI (backN M2 f))) := by
  have h3 := hp.2.2.1
  have h4 := hp.2.2.2.1
  have H0 := hz.1
  obtain ⟨c, ec⟩ : ∃ c : Nat, nA M2 (248 + 20 * f + 0) = (c : Int) := ⟨_, (Int.toNat_of_nonneg h3.1).symm⟩
  have q := c_measureW (l := l) (w := w) X.1 (p := fun i => hopN M2 f i) (g := fun a => nA N (8 + 40 * a + 1)) (n := c) (nl := nLk N) f6 (by rw [P.1, e0, ec, jI_nat]) (by omega) X.2.2.1.1 (by unfold nLk; omega) (fun i hi => by
    have z := h4 i (by omega)
    refine ⟨?_, by unfold hopN nLk; omega⟩
    rw [P.2 i (by omega), ep i, ← jI_nat]
    unfold hopN
    rw [Int.toNat_of_nonneg z.1]) (fun a ha => (X.2.2.2.1 a (by unfold nLk at ha; omega) (by unfold nLk at ha; omega)).1 1 (by unfold lkJ; omega))
  refine zM.mono q ?_
  rintro v h1 ⟨e1, e2⟩
  refine ⟨e1, ?_⟩
  rw [e2]
  unfold backN
  rw [ec, Int.toNat_natCast]
  congr 2
  apply congrArg List.sum
  apply List.map_congr_left
  intro i hi
  have hi := List.mem_range.mp hi
  have z := h4 i (by omega)
  exact (hp.1 _ (by have : hopN M2 f i < 6 := by unfold hopN; omega
                    omega)).symm
theorem FlA.mk (P : FlP y b f M) (K : FlK y b f (nA M (248 + 20 * f + 1)) (nA M (248 + 20 * f + 2)) (nA M (248 + 20 * f + 3))) (z : flZ M f) (n06 : nA M 0 ≤ 6) (e9 : zi y 69 (b + 53 + 2 * f) = jI (backN M f)) (e72 : zi y 72 (b + 53 + 2 * f) = jI (2 * backN M f)) : FlA y b M f := by
  obtain ⟨k1, k2, k3, k5, k6, k8, k9, k10⟩ := K
  obtain ⟨z0, zp, -, -, -, z5, z7, zr, -⟩ := z
  have r0 : ∀ j, (j = 4 ∨ j = 6 ∨ (8 ≤ j ∧ j < 12)) → jI (nA M (248 + 20 * f + j)) = nI 0 := fun j hj => by rw [zr j hj]; rfl
  refine ⟨fun j hj j4 => ?_, e9, z0.2, fun i hi => ⟨P.2 i hi, by have q := zp i hi; unfold hopN; omega⟩⟩
  have c : j = 0 ∨ j = 1 ∨ j = 2 ∨ j = 3 ∨ j = 5 ∨ j = 6 ∨ j = 7 ∨ j = 8 ∨ j = 9 ∨ j = 10 := by omega
  rcases c with c | c | c | c | c | c | c | c | c | c <;> subst c
  · exact P.1
  · exact k1
  · exact k2
  · exact k3
  · rw [z5]; exact k5
  · rw [r0 6 (by omega)]; exact k6
  · rw [z7]; exact e72
  · rw [r0 8 (by omega)]; exact k8
  · rw [r0 9 (by omega)]; exact k9
  · rw [r0 10 (by omega)]; exact k10
theorem bnd_bnd {q : rR} {k1 k2 : tkT → nT → rR} : bnd (bnd q k1) k2 = bnd q (fun T N => bnd (k1 T N) k2) := by
  cases q with
  | inl e => rfl
  | inr p => rfl
theorem c_readFlow (R : RdC h b r p n t lt N T 0 0) (hz : pz N) : zM l w mX8_readFlow [.ref r] h (OC b r p n t lt h (bnd (flowR t n T N) (signR t n))) := by
  refine zM.of (by decide) (Nat.le_of_ble_eq_true rfl) ?_
  have S := R.1.1
  have rr := R.2.2.2.2.2.2.1
  have H0 := hz.1
  have H1 := hz.2.1
  have n1 : zi h 163 b = nI (nFw N) := R.1.2.2.1.2.1
  have nl6 := nLk_le hz
  refine g_aload_n 0 dX8_readFlow_0 rfl rfl ?_
  refine g_getr (f := 262) (b := b) dX8_readFlow_1 fl_X8_25 R.2.1.1.1 rfl R.2.2.2.2.1 ?_
  by_cases c : nA N 1 = 6
  · refine g_invv (M' := mX5_addFlow) (As := []) (rest := []) dX8_readFlow_4 ml_X8_100 okX5_addFlow imX5_addFlow seX5_addFlow ⟨(Nat.le_of_ble_eq_true rfl), (Nat.le_of_ble_eq_true rfl)⟩ (ci := 5) rfl rfl R.1.1.1.2 rfl rfl (Nat.le_of_ble_eq_true rfl) (c_addFlow6 S n1 (by unfold nFw; omega)) ?_
    rintro _ q1 ⟨rfl, eq1⟩
    subst q1
    show zG l w mX8_readFlow 7 [(0, .ref r)] [.null] h _
    refine g_astore_nN (lv2 := [(1, .null), (0, .ref r)]) dX8_readFlow_7 rfl (by decide) rfl ?_
    refine g_aload_nN 0 dX8_readFlow_8 rfl rfl ?_
    refine g_ifnonnullN dX8_readFlow_9 ?_
    refine g_aload_n 1 dX8_readFlow_12 rfl rfl ?_
    refine g_bipush (v := nI 6) dX8_readFlow_13 (by decide) ?_
    refine g_invv (M' := mX8_stopWith) (As := [.int (nI 6)]) (rest := []) dX8_readFlow_15 ml_X8_64 okX8_stopWith imX8_stopWith seX8_stopWith ⟨(Nat.le_of_ble_eq_true rfl), (Nat.le_of_ble_eq_true rfl)⟩ (ci := 8) rfl rfl R.2.1.1.1 rfl rfl (Nat.le_of_ble_eq_true rfl) (c_stopW R.2.1.1.1 R.2.2.1 R.2.2.2.1) ?_
    rintro _ y1 ⟨rfl, fa1, fb1, f1⟩
    show zG l w mX8_readFlow 18 [(1, .null), (0, .ref r)] [.int (bI false)] y1 _
    refine g_zreturn dX8_readFlow_18 rfl (bI_nar _) ?_
    rw [show flowR t n T N = .inl (flt T 6) from by unfold flowR; rw [if_pos c]]
    exact ⟨rfl, ⟨fa1, fb1⟩, R.tw nl6 (f1.mono (by omega) (by omega)), SB.ff f1⟩
  · obtain ⟨l6, lq⟩ := nFw_lt hz c
    obtain ⟨sz, s0⟩ := hpZ.start hz c
    refine g_invv (M' := mX5_addFlow) (As := []) (rest := []) dX8_readFlow_4 ml_X8_100 okX5_addFlow imX5_addFlow seX5_addFlow ⟨(Nat.le_of_ble_eq_true rfl), (Nat.le_of_ble_eq_true rfl)⟩ (ci := 5) rfl rfl R.1.1.1.2 rfl rfl (Nat.le_of_ble_eq_true rfl) (c_addFlowC S n1 l6) ?_
    rintro _ q1 ⟨rfl, eq1⟩
    subst q1
    show zG l w mX8_readFlow 7 [(0, .ref r)] [.ref (b + 53 + 2 * nFw N)] (zSi h 163 b (nI (nFw N + 1))) _
    have R0 := R.cnt (f := 163) (v := nI (nFw N + 1)) (i' := 0) (j' := 1) (Or.inr ⟨rfl, rfl, rfl⟩)
    have A0 : FrA (SB b r) h (zSi h 163 b (nI (nFw N + 1))) := FrA.rf.si (Or.inr (by omega))
    generalize zSi h 163 b (nI (nFw N + 1)) = y0 at R0 A0 ⊢
    refine g_astore_n (lv2 := [(1, .ref (b + 53 + 2 * nFw N)), (0, .ref r)]) dX8_readFlow_7 rfl (by decide) rfl ?_
    refine g_aload_n 0 dX8_readFlow_8 rfl rfl ?_
    refine g_ifnonnull (tgt := 19) dX8_readFlow_9 (by decide) ?_
    refine g_aload_n 0 dX8_readFlow_19 rfl rfl ?_
    refine g_invv (M' := mX2_begin) (As := []) (rest := []) dX8_readFlow_20 ml_X8_104 okX2_begin imX2_begin seX2_begin ⟨(Nat.le_of_ble_eq_true rfl), (Nat.le_of_ble_eq_true rfl)⟩ (ci := 2) rfl rfl (R0.1.1.2.2.2.2.2.2.2.2.2 (nFw N) l6).2.1 rfl rfl (Nat.le_of_ble_eq_true rfl) (c_flBegin (R0.1.1.2.2.2.2.2.2.2.2.2 (nFw N) l6).2.1) ?_
    rintro _ q2 ⟨rfl, eq2⟩
    subst q2
    show zG l w mX8_readFlow 23 [(1, .ref (b + 53 + 2 * nFw N)), (0, .ref r)] [] (fbZ y0 b (nFw N)) _
    obtain ⟨w5, w6, w7, w8, w9, w10, w11, w12, w13, w14, w15⟩ := fbZ_at (h := y0) (b := b) (f := nFw N)
    have R1 := R0.fa fbZ_fr (fun _ q => SF_ok l6 q)
    have A1 : FrA (SB b r) h (fbZ y0 b (nFw N)) := A0.tr fbZ_fr (fun _ q => SF_B l6 q)
    have K1 : FlK (fbZ y0 b (nFw N)) b (nFw N) 9999 0 1 := ⟨w6, w7, w8, w10, w11, w13, w14, w15⟩
    generalize fbZ y0 b (nFw N) = y1 at R1 A1 K1 w5 ⊢
    clear w6 w7 w8 w9 w10 w11 w12 w13 w14 w15
    refine g_aload_n 1 dX8_readFlow_23 rfl rfl ?_
    refine g_iconst (v := nI 0) dX8_readFlow_24 (by decide) ?_
    refine g_putz (f := 263) dX8_readFlow_25 fl_X8_107 (Or.inl rfl) R1.2.1.1.1 rfl (by decide) ?_
    have R2 := R1.h3 (v := nI 0)
    have f2 : FrF r 263 263 y1 (zSi y1 263 r (nI 0)) := FrF.rf.si (by omega)
    have K2 := K1.ff f2 rr l6
    have l2 : zi (zSi y1 263 r (nI 0)) 263 r = bI false := zi_same
    have v5 : zi (zSi y1 263 r (nI 0)) 65 (b + 53 + 2 * nFw N) = nI 0 := by rw [zi_Si, if_neg (by omega)]; exact w5
    have A2 : FrA (SB b r) h (zSi y1 263 r (nI 0)) := A1.tr (SB.ff f2) (fun _ q => q)
    generalize zSi y1 263 r (nI 0) = y2 at R2 K2 l2 v5 A2 ⊢
    clear f2
    refine g_aload_n 1 dX8_readFlow_28 rfl rfl ?_
    refine g_invv (M' := mX8_advance) (As := []) (rest := []) dX8_readFlow_29 ml_X8_43 okX8_advance imX8_advance seX8_advance ⟨(Nat.le_of_ble_eq_true rfl), (Nat.le_of_ble_eq_true rfl)⟩ (ci := 8) rfl rfl R2.2.1.1.1 rfl rfl (Nat.le_of_ble_eq_true rfl) (c_advance R2.2.1 R2.2.2.1.2.2.1 R2.2.2.2.1.2.2.1) ?_
    rintro _ y2 ⟨rfl, k2, f2⟩
    show zG l w mX8_readFlow 32 [(1, .ref (b + 53 + 2 * nFw N)), (0, .ref r)] [] y2 _
    have R2 := R2.tk (T' := nxT t n T) k2 (nxT_ok R2.2.2.2.1).1 f2
    have K3 := K2.ff f2 rr l6
    have l3 : zi y2 263 r = bI false := by rw [f2.2.2.2.2 _ _ (by omega)]; exact l2
    have v3 : zi y2 65 (b + 53 + 2 * nFw N) = nI 0 := by rw [f2.2.2.2.2 _ _ (by omega)]; exact v5
    have A3 : FrA (SB b r) h y2 := (A2.tr (SB.ff f2) (fun _ q => q))
    have FR : bnd (flowR t n T N) (signR t n) = bnd (if (nxT t n T).1 = 2 then hopsR t n (nFw N) 5 (nxT t n T) N else .inl (flt (nxT t n T) 2)) (fun T2 N2 => bnd (marksR t n (nFw N) 4 T2 (fl4 N2 (nFw N)) false false false) (fun T3 N3 => signR t n T3 (flE N3))) := by
      unfold flowR
      rw [if_neg c]
      by_cases c2 : (nxT t n T).1 = 2
      · rw [if_pos c2, if_pos c2, bnd_bnd]
        congr 1
        funext T2 N2
        rw [bnd_bnd]
        rfl
      · rw [if_neg c2, if_neg c2]; rfl
    rw [FR]
    have bad : ∀ (e : Int × Int) (y : zH), PeC y r e → TWt y b lt → FPt y b N (nFw N) → FrA (SB b r) h y → zG l w mX8_readFlow 69 [(2, .int (bI false)), (1, .ref (b + 53 + 2 * nFw N)), (0, .ref r)] [] y (OC b r p n t lt h (.inl e)) := by
      intro e y Ey W P Fy
      have kr : zk y r = 8 := by rw [(Fy.2.1 r).1]; exact R.2.1.1.1
      have tr : zr y 262 r = some b := by rw [Fy.2.2.1]; exact R.2.2.2.2.1
      refine g_aload_n 2 dX8_readFlow_69 rfl rfl ?_
      refine g_getr (f := 262) (b := b) dX8_readFlow_70 fl_X8_25 kr rfl tr ?_
      refine g_aload_n 1 dX8_readFlow_73 rfl rfl ?_
      refine g_invv (M' := mX5_measureBack) (As := [.ref (b + 53 + 2 * nFw N)]) (rest := []) dX8_readFlow_74 ml_X8_118 okX5_measureBack imX5_measureBack seX5_measureBack ⟨(Nat.le_of_ble_eq_true rfl), (Nat.le_of_ble_eq_true rfl)⟩ (ci := 5) rfl rfl W.1.1.2 rfl rfl (Nat.le_of_ble_eq_true rfl) (c_measP W.1 l6 P (by omega)) ?_
      rintro _ q9 ⟨rfl, v9, e9⟩
      subst e9
      show zG l w mX8_readFlow 77 [(2, .int (bI false)), (1, .ref (b + 53 + 2 * nFw N)), (0, .ref r)] [] (zSi y 69 (b + 53 + 2 * nFw N) v9) _
      refine g_aload_n 1 dX8_readFlow_77 rfl rfl ?_
      refine g_iconst (v := nI 2) dX8_readFlow_78 (by decide) ?_
      refine g_aload_n 1 dX8_readFlow_79 rfl rfl ?_
      refine g_geti (f := 69) dX8_readFlow_80 fl_X8_122 (W.1.2.2.2.2.2.2.2.2.2 (nFw N) l6).2.1 (by decide) rfl ?_
      rw [show zi (zSi y 69 (b + 53 + 2 * nFw N) v9) 69 (b + 53 + 2 * nFw N) = v9 from (by rw [zi_Si, if_pos ⟨rfl, rfl⟩])]
      refine g_imul dX8_readFlow_83 ?_
      refine g_puti (f := 72) dX8_readFlow_84 fl_X8_125 (Or.inl rfl) (W.1.2.2.2.2.2.2.2.2.2 (nFw N) l6).2.1 rfl ?_
      refine g_iload_n 0 dX8_readFlow_87 rfl rfl ?_
      have A9 : FrA (SF b (nFw N)) y (zSi (zSi y 69 (b + 53 + 2 * nFw N) v9) 72 (b + 53 + 2 * nFw N) ((nI 2) * v9)) := (FrA.rf.si (Or.inl rfl)).si (Or.inl rfl)
      refine g_bif_eq (tgt := 102) dX8_readFlow_88 (by decide) (fun dx => ?_) (fun dx => ?_)
      · refine g_iconst (v := bI false) dX8_readFlow_102 (by decide) ?_
        refine g_zreturn dX8_readFlow_103 rfl (bI_nar _) ?_
        exact ⟨rfl, ⟨by rw [zi_Si, if_neg (by omega), zi_Si, if_neg (by omega)]; exact Ey.1, by rw [zi_Si, if_neg (by omega), zi_Si, if_neg (by omega)]; exact Ey.2⟩, W.fa A9 (fun a q => (SF_ok (h := y) l6 q).1.k W.1), Fy.tr A9 (fun _ q => SF_B l6 q)⟩
      · cases dx
    have fin : ∀ (T : tkT) (M M2 : nT) (y : zH), RdC y b r p n t lt N T 0 1 → FlP y b (nFw N) M2 → FlK y b (nFw N) (nA M (248 + 20 * nFw N + 1)) (nA M (248 + 20 * nFw N + 2)) (nA M (248 + 20 * nFw N + 3)) → hpZ N M2 (nFw N) → flZ M (nFw N) → backN M (nFw N) = backN M2 (nFw N) → (∀ k, k = 0 ∨ 12 ≤ k → nA M (248 + 20 * nFw N + k) = nA M2 (248 + 20 * nFw N + k)) → (∀ k, ¬ (248 + 20 * nFw N ≤ k ∧ k < 268 + 20 * nFw N) → nA M k = nA N k) → pz (flE M) → FrA (SB b r) h y → zG l w mX8_readFlow 69 [(2, .int (bI true)), (1, .ref (b + 53 + 2 * nFw N)), (0, .ref r)] [] y (OC b r p n t lt h (signR t n T (flE M))) := by
      intro T M M2 y Ry P K hp zf eb ep eo zN Fy
      refine g_aload_n 2 dX8_readFlow_69 rfl rfl ?_
      refine g_getr (f := 262) (b := b) dX8_readFlow_70 fl_X8_25 Ry.2.1.1.1 rfl Ry.2.2.2.2.1 ?_
      refine g_aload_n 1 dX8_readFlow_73 rfl rfl ?_
      refine g_invv (M' := mX5_measureBack) (As := [.ref (b + 53 + 2 * nFw N)]) (rest := []) dX8_readFlow_74 ml_X8_118 okX5_measureBack imX5_measureBack seX5_measureBack ⟨(Nat.le_of_ble_eq_true rfl), (Nat.le_of_ble_eq_true rfl)⟩ (ci := 5) rfl rfl Ry.1.1.1.2 rfl rfl (Nat.le_of_ble_eq_true rfl) (c_measN Ry.1 hz l6 P hp rfl (fun _ => rfl)) ?_
      rintro _ q9 ⟨rfl, e9⟩
      subst e9
      show zG l w mX8_readFlow 77 [(2, .int (bI true)), (1, .ref (b + 53 + 2 * nFw N)), (0, .ref r)] [] (zSi y 69 (b + 53 + 2 * nFw N) (jI (backN M2 (nFw N)))) _
      refine g_aload_n 1 dX8_readFlow_77 rfl rfl ?_
      refine g_iconst (v := nI 2) dX8_readFlow_78 (by decide) ?_
      refine g_aload_n 1 dX8_readFlow_79 rfl rfl ?_
      refine g_geti (f := 69) dX8_readFlow_80 fl_X8_122 (Ry.1.1.2.2.2.2.2.2.2.2.2 (nFw N) l6).2.1 (by decide) rfl ?_
      rw [show zi (zSi y 69 (b + 53 + 2 * nFw N) (jI (backN M2 (nFw N)))) 69 (b + 53 + 2 * nFw N) = jI (backN M2 (nFw N)) from (by rw [zi_Si, if_pos ⟨rfl, rfl⟩])]
      refine g_imul dX8_readFlow_83 ?_
      refine zG.top (show (nI 2) * (jI (backN M2 (nFw N))) = jI (2 * (backN M2 (nFw N))) by rw [show nI 2 = jI 2 from (by decide), jI_mul]) ?_
      refine g_puti (f := 72) dX8_readFlow_84 fl_X8_125 (Or.inl rfl) (Ry.1.1.2.2.2.2.2.2.2.2.2 (nFw N) l6).2.1 rfl ?_
      have A9 : FrA (SF b (nFw N)) y (zSi (zSi y 69 (b + 53 + 2 * nFw N) (jI (backN M2 (nFw N)))) 72 (b + 53 + 2 * nFw N) (jI (2 * (backN M2 (nFw N))))) := (FrA.rf.si (Or.inl rfl)).si (Or.inl rfl)
      have R8 := Ry.fa A9 (fun _ q => SF_ok l6 q)
      have P8 : FlP (zSi (zSi y 69 (b + 53 + 2 * nFw N) (jI (backN M2 (nFw N)))) 72 (b + 53 + 2 * nFw N) (jI (2 * (backN M2 (nFw N))))) b (nFw N) (flE M) := ⟨by rw [zi_Si, if_neg (by omega), zi_Si, if_neg (by omega), P.1]; unfold flE; rw [nA_ne (by omega), ep 0 (by omega)], fun i hi => by unfold flE at hi ⊢; rw [nA_ne (by omega), ep 0 (by omega)] at hi; rw [nA_ne (by omega), ep (12 + i) (by omega)]; exact P.2 i hi⟩
      have ef : ∀ k, k ≠ 1 → nA (flE M) k = nA M k := fun k hk => nA_ne hk
      have K8 : FlK (zSi (zSi y 69 (b + 53 + 2 * nFw N) (jI (backN M2 (nFw N)))) 72 (b + 53 + 2 * nFw N) (jI (2 * (backN M2 (nFw N))))) b (nFw N) (nA (flE M) (248 + 20 * nFw N + 1)) (nA (flE M) (248 + 20 * nFw N + 2)) (nA (flE M) (248 + 20 * nFw N + 3)) := by
        unfold FlK
        rw [ef _ (by omega), ef _ (by omega), ef _ (by omega)]
        rw [zi_Si, if_neg (by omega), zi_Si, if_neg (by omega), zi_Si, if_neg (by omega), zi_Si, if_neg (by omega), zi_Si, if_neg (by omega), zi_Si, if_neg (by omega), zi_Si, if_neg (by omega), zi_Si, if_neg (by omega), zi_Si, if_neg (by omega), zi_Si, if_neg (by omega), zi_Si, if_neg (by omega), zi_Si, if_neg (by omega), zi_Si, if_neg (by omega), zi_Si, if_neg (by omega), zi_Si, if_neg (by omega), zi_Si, if_neg (by omega)]
        exact K
      have e1 : nA M 1 = nA N 1 := eo 1 (by omega)
      have e11 : nA (flE M) 1 = nA N 1 + 1 := by rw [← e1]; exact nA_eq
      have zF := zN.2.2.2.2.2.2.1 (nFw N) (by rw [e11]; omega)
      have e00 : nA (flE M) 0 = nA N 0 := by rw [ef 0 (by omega)]; exact eo 0 (by omega)
      have bE : backN (flE M) (nFw N) = backN M2 (nFw N) := by rw [← eb]; exact backN_pt (ef _ (by omega)) (fun i _ => ⟨ef _ (by omega), ef _ (by omega)⟩)
      have L8 := FlA.mk P8 K8 zF (by rw [e00]; exact H0.2) (by rw [zi_Si, if_neg (by omega), zi_same, bE]) (by rw [zi_same, bE])
      have X9 := R8.1.flow hz c e11 (fun k k1 hk => by rw [ef k k1]; exact eo k hk) L8
      have R9 := R8.tx X9
      have Z9 : FrA (SB b r) h (zSi (zSi y 69 (b + 53 + 2 * nFw N) (jI (backN M2 (nFw N)))) 72 (b + 53 + 2 * nFw N) (jI (2 * (backN M2 (nFw N))))) := Fy.tr A9 (fun _ q => SF_B l6 q)
      generalize zSi (zSi y 69 (b + 53 + 2 * nFw N) (jI (backN M2 (nFw N)))) 72 (b + 53 + 2 * nFw N) (jI (2 * (backN M2 (nFw N)))) = z9 at R9 Z9 ⊢
      refine g_iload_n 0 dX8_readFlow_87 rfl rfl ?_
      refine g_bif_eq (tgt := 102) dX8_readFlow_88 (by decide) (fun dx => ?_) (fun dx => ?_)
      · cases dx
      · refine g_aload_n 2 dX8_readFlow_91 rfl rfl ?_
        have OO := c_readSign (l := l) (w := w) R9 (nLk_le zN)
        revert OO
        generalize signR t n _ _ = sg
        intro OO
        cases sg with
        | inl e =>
          refine g_invv (M' := mX8_readSign) (As := []) (rest := []) dX8_readFlow_92 ml_X8_97 okX8_readSign imX8_readSign seX8_readSign ⟨(Nat.le_of_ble_eq_true rfl), (Nat.le_of_ble_eq_true rfl)⟩ (ci := 8) rfl rfl R9.2.1.1.1 rfl rfl (Nat.le_of_ble_eq_true rfl) OO ?_
          rintro _ y9 ⟨rfl, OO⟩
          show zG l w mX8_readFlow 95 [(2, .int (bI true)), (1, .ref (b + 53 + 2 * nFw N)), (0, .ref r)] [.int (bI false)] y9 _
          refine g_bif_eq (tgt := 102) dX8_readFlow_95 (by decide) (fun dx => ?_) (fun dx => ?_)
          · refine g_iconst (v := bI false) dX8_readFlow_102 (by decide) ?_
            refine g_zreturn dX8_readFlow_103 rfl (bI_nar _) ?_
            exact OC.tr Z9 ⟨rfl, OO⟩
          · cases dx
        | inr s =>
          refine g_invv (M' := mX8_readSign) (As := []) (rest := []) dX8_readFlow_92 ml_X8_97 okX8_readSign imX8_readSign seX8_readSign ⟨(Nat.le_of_ble_eq_true rfl), (Nat.le_of_ble_eq_true rfl)⟩ (ci := 8) rfl rfl R9.2.1.1.1 rfl rfl (Nat.le_of_ble_eq_true rfl) OO ?_
          rintro _ y9 ⟨rfl, OO⟩
          show zG l w mX8_readFlow 95 [(2, .int (bI true)), (1, .ref (b + 53 + 2 * nFw N)), (0, .ref r)] [.int (bI true)] y9 _
          refine g_bif_eq (tgt := 102) dX8_readFlow_95 (by decide) (fun dx => ?_) (fun dx => ?_)
          · cases dx
          · refine g_iconst (v := bI true) dX8_readFlow_98 (by decide) ?_
            refine g_goto (tgt := 103) dX8_readFlow_99 (by decide) ?_
            refine g_zreturn dX8_readFlow_103 rfl (bI_nar _) ?_
            exact OC.tr Z9 ⟨rfl, OO⟩
    have marks : ∀ (M2 : nT), hpZ N M2 (nFw N) → 1 ≤ nA M2 (248 + 20 * nFw N + 0) → ∀ (k s : Nat) (T : tkT) (M : nT) (b1 b2 b3 : Bool) (y : zH), s + k = 4 → 4 ≤ btn b1 b2 b3 + k → (b2 = true ↔ ¬ nA M (248 + 20 * nFw N + 2) = 0) → (b3 = true ↔ nA M (248 + 20 * nFw N + 3) = 0) → (0 ≤ nA M (248 + 20 * nFw N + 1) ∧ nA M (248 + 20 * nFw N + 1) ≤ 9999) → (0 ≤ nA M (248 + 20 * nFw N + 2) ∧ nA M (248 + 20 * nFw N + 2) ≤ 3) → (nA M (248 + 20 * nFw N + 3) = 0 ∨ nA M (248 + 20 * nFw N + 3) = 1) → (∀ k, k ≠ 248 + 20 * nFw N + 1 → k ≠ 248 + 20 * nFw N + 2 → k ≠ 248 + 20 * nFw N + 3 → nA M k = nA (fl4 M2 (nFw N)) k) → M.2 = M2.2 → RdC y b r p n t lt N T 0 1 → FlP y b (nFw N) M2 → FlK y b (nFw N) (nA M (248 + 20 * nFw N + 1)) (nA M (248 + 20 * nFw N + 2)) (nA M (248 + 20 * nFw N + 3)) → zi y 263 r = bI b1 → FrA (SB b r) h y → zG l w mX8_readFlow 40 [(3, .int (nI s)), (2, .int (bI true)), (1, .ref (b + 53 + 2 * nFw N)), (0, .ref r)] [] y (OC b r p n t lt h (bnd (marksR t n (nFw N) k T M b1 b2 b3) (fun T3 N3 => signR t n T3 (flE N3)))) := by
      intro M2 hp hp1 k
      induction k with
      | zero => intro s T M b1 b2 b3 y _ hb; have := btn_le (a := b1) (b := b2) (c := b3); omega
      | succ k ih =>
        intro s T M b1 b2 b3 y hs hb i2 i3 z1 z2 z3 z5 z6 Ry P K hl Fy
        have kb := key_bd (t := t) (T := T)
        have o1 := Ry.2.2.2.1.1
        have g3 : 0 ≤ nA M (248 + 20 * nFw N + 3) ∧ nA M (248 + 20 * nFw N + 3) ≤ 1 := by omega
        refine g_iload_n 0 dX8_readFlow_40 rfl rfl ?_
        refine g_iconst (v := nI 3) dX8_readFlow_41 (by decide) ?_
        refine g_ncmp_gt (tgt := 69) dX8_readFlow_42 (by decide) (by omega) (by omega) (fun d0 => ?_) (fun d0 => ?_)
        · exact absurd d0 (by omega)
        · refine g_iload_n 1 dX8_readFlow_45 rfl rfl ?_
          refine g_bif_eq (tgt := 69) dX8_readFlow_46 (by decide) (fun dx => ?_) (fun dx => ?_)
          · cases dx
          · refine g_aload_n 3 dX8_readFlow_49 rfl rfl ?_
            refine g_geti (f := 260) dX8_readFlow_50 fl_X8_46 Ry.2.1.1.1 (by decide) rfl ?_
            rw [show zi y 260 r = nI T.1 from Ry.2.2.1.1]
            refine g_iconst (v := nI 1) dX8_readFlow_53 (by decide) ?_
            refine g_ncmp_ne (tgt := 69) dX8_readFlow_54 (by decide) (by omega) (by omega) (fun d1 => ?_) (fun d1 => ?_)
            · rw [show marksR t n (nFw N) (k + 1) T M b1 b2 b3 = .inr (T, M) from by rw [marksR, if_pos (by rw [key_word d1]; omega)], bnd_i]
              obtain ⟨g1, g2, g4⟩ := fl_fin hp hp1 H0.2 z1 z2 z3 z5
              have zN : pz (flE M) := hz.fl c g4 g1 (z6.trans hp.2.1)
              have ar := (fl4_at (M := M2) (f := nFw N)).2.2.2.2
              exact zG.sub [1, 2, 3] rfl (fin T M M2 y Ry P K hp g1 g2 (fun k hk => by rw [z5 _ (by omega) (by omega) (by omega), ar _ (by omega) (by omega) (by omega) (by omega)]) g4 zN Fy)
            · refine g_aload_n 3 dX8_readFlow_57 rfl rfl ?_
              refine g_aload_n 2 dX8_readFlow_58 rfl rfl ?_
              have OO := c_readMark (l := l) (w := w) Ry l6 nl6 hp P K hl z2 g3
              by_cases e1 : keyN t T < 3
              · rw [show mkR t n T (nA M (248 + 20 * nFw N + 1)) (nA M (248 + 20 * nFw N + 2)) (nA M (248 + 20 * nFw N + 3)) b1 = .inl (flt T 2) from by unfold mkR; rw [if_pos e1]] at OO
                refine g_invv (M' := mX8_readMark) (As := [.ref (b + 53 + 2 * nFw N)]) (rest := []) dX8_readFlow_59 ml_X8_115 okX8_readMark imX8_readMark seX8_readMark ⟨(Nat.le_of_ble_eq_true rfl), (Nat.le_of_ble_eq_true rfl)⟩ (ci := 8) rfl rfl Ry.2.1.1.1 rfl rfl (Nat.le_of_ble_eq_true rfl) OO ?_
                rintro _ y9 ⟨rfl, E9, W9, P9, A9⟩
                show zG l w mX8_readFlow 62 [(3, .int (nI s)), (2, .int (bI true)), (1, .ref (b + 53 + 2 * nFw N)), (0, .ref r)] [.int (bI false)] y9 _
                refine g_istore_n (lv2 := [(2, .int (bI false)), (3, .int (nI s)), (1, .ref (b + 53 + 2 * nFw N)), (0, .ref r)]) dX8_readFlow_62 rfl (by decide) rfl ?_
                refine g_inc (v := nI (s + 1)) (lv2 := [(3, .int (nI (s + 1))), (2, .int (bI false)), (1, .ref (b + 53 + 2 * nFw N)), (0, .ref r)]) 1 dX8_readFlow_63 rfl (nI_add _ 1) (by decide) rfl ?_
                refine g_goto (tgt := 40) dX8_readFlow_66 (by decide) ?_
                rw [show marksR t n (nFw N) (k + 1) T M b1 b2 b3 = .inr (T, M) from by rw [marksR, if_pos e1], bnd_i, show signR t n T (flE M) = .inl (flt T 2) from by unfold signR; rw [if_neg (by omega)]]
                refine g_iload_n 0 dX8_readFlow_40 rfl rfl ?_
                refine g_iconst (v := nI 3) dX8_readFlow_41 (by decide) ?_
                refine g_ncmp_gt (tgt := 69) dX8_readFlow_42 (by decide) (by omega) (by omega) (fun d9 => ?_) (fun d9 => ?_)
                · exact zG.sub [1, 2, 3] rfl (bad _ y9 E9 W9 P9 (Fy.tr A9 (fun _ q => q)))
                · refine g_iload_n 1 dX8_readFlow_45 rfl rfl ?_
                  refine g_bif_eq (tgt := 69) dX8_readFlow_46 (by decide) (fun dx => ?_) (fun dx => ?_)
                  · exact zG.sub [1, 2, 3] rfl (bad _ y9 E9 W9 P9 (Fy.tr A9 (fun _ q => q)))
                  · cases dx
              · by_cases e2 : keyN t T = 3
                · by_cases d : b1 = true
                  · rw [show mkR t n T (nA M (248 + 20 * nFw N + 1)) (nA M (248 + 20 * nFw N + 2)) (nA M (248 + 20 * nFw N + 3)) b1 = .inl (flt T 5) from by unfold mkR; rw [if_neg e1, if_pos e2, if_pos d]] at OO
                    refine g_invv (M' := mX8_readMark) (As := [.ref (b + 53 + 2 * nFw N)]) (rest := []) dX8_readFlow_59 ml_X8_115 okX8_readMark imX8_readMark seX8_readMark ⟨(Nat.le_of_ble_eq_true rfl), (Nat.le_of_ble_eq_true rfl)⟩ (ci := 8) rfl rfl Ry.2.1.1.1 rfl rfl (Nat.le_of_ble_eq_true rfl) OO ?_
                    rintro _ y9 ⟨rfl, E9, W9, P9, A9⟩
                    show zG l w mX8_readFlow 62 [(3, .int (nI s)), (2, .int (bI true)), (1, .ref (b + 53 + 2 * nFw N)), (0, .ref r)] [.int (bI false)] y9 _
                    refine g_istore_n (lv2 := [(2, .int (bI false)), (3, .int (nI s)), (1, .ref (b + 53 + 2 * nFw N)), (0, .ref r)]) dX8_readFlow_62 rfl (by decide) rfl ?_
                    refine g_inc (v := nI (s + 1)) (lv2 := [(3, .int (nI (s + 1))), (2, .int (bI false)), (1, .ref (b + 53 + 2 * nFw N)), (0, .ref r)]) 1 dX8_readFlow_63 rfl (nI_add _ 1) (by decide) rfl ?_
                    refine g_goto (tgt := 40) dX8_readFlow_66 (by decide) ?_
                    rw [show marksR t n (nFw N) (k + 1) T M b1 b2 b3 = .inl (flt T 5) from by rw [marksR, if_neg e1, if_pos e2, if_pos d], bnd_l]
                    refine g_iload_n 0 dX8_readFlow_40 rfl rfl ?_
                    refine g_iconst (v := nI 3) dX8_readFlow_41 (by decide) ?_
                    refine g_ncmp_gt (tgt := 69) dX8_readFlow_42 (by decide) (by omega) (by omega) (fun d9 => ?_) (fun d9 => ?_)
                    · exact zG.sub [1, 2, 3] rfl (bad _ y9 E9 W9 P9 (Fy.tr A9 (fun _ q => q)))
                    · refine g_iload_n 1 dX8_readFlow_45 rfl rfl ?_
                      refine g_bif_eq (tgt := 69) dX8_readFlow_46 (by decide) (fun dx => ?_) (fun dx => ?_)
                      · exact zG.sub [1, 2, 3] rfl (bad _ y9 E9 W9 P9 (Fy.tr A9 (fun _ q => q)))
                      · cases dx
                  · by_cases o5 : okB (nxT t n T) 0 9999 = true
                    · have ob := okB_t o5
                      rw [show mkR t n T (nA M (248 + 20 * nFw N + 1)) (nA M (248 + 20 * nFw N + 2)) (nA M (248 + 20 * nFw N + 3)) b1 = .inr (nxT t n (nxT t n T), ((nxT t n T).2.2.2, nA M (248 + 20 * nFw N + 2), nA M (248 + 20 * nFw N + 3)), true) from by unfold mkR; rw [if_neg e1, if_pos e2, if_neg d, if_pos o5]] at OO
                      refine g_invv (M' := mX8_readMark) (As := [.ref (b + 53 + 2 * nFw N)]) (rest := []) dX8_readFlow_59 ml_X8_115 okX8_readMark imX8_readMark seX8_readMark ⟨(Nat.le_of_ble_eq_true rfl), (Nat.le_of_ble_eq_true rfl)⟩ (ci := 8) rfl rfl Ry.2.1.1.1 rfl rfl (Nat.le_of_ble_eq_true rfl) OO ?_
                      rintro _ y9 ⟨rfl, R9, ⟨P9, K9, l9⟩, A9⟩
                      show zG l w mX8_readFlow 62 [(3, .int (nI s)), (2, .int (bI true)), (1, .ref (b + 53 + 2 * nFw N)), (0, .ref r)] [.int (bI true)] y9 _
                      refine g_istore_n (lv2 := [(2, .int (bI true)), (3, .int (nI s)), (1, .ref (b + 53 + 2 * nFw N)), (0, .ref r)]) dX8_readFlow_62 rfl (by decide) rfl ?_
                      refine g_inc (v := nI (s + 1)) (lv2 := [(3, .int (nI (s + 1))), (2, .int (bI true)), (1, .ref (b + 53 + 2 * nFw N)), (0, .ref r)]) 1 dX8_readFlow_63 rfl (nI_add _ 1) (by decide) rfl ?_
                      refine g_goto (tgt := 40) dX8_readFlow_66 (by decide) ?_
                      rw [show marksR t n (nFw N) (k + 1) T M b1 b2 b3 = marksR t n (nFw N) k (nxT t n (nxT t n T)) (uA M (248 + 20 * nFw N + 1) (nxT t n T).2.2.2) true b2 b3 from by rw [marksR, if_neg e1, if_pos e2, if_neg d, if_pos o5]]
                      have hb2 : btn b1 b2 b3 + 1 = btn true b2 b3 := by
                        cases b1 <;> cases b2 <;> cases b3 <;> first | rfl | (exact absurd d (by decide))
                      exact zG.sub [0, 1, 2, 3] rfl (ih (s + 1) _ _ _ _ _ y9 (by omega) (by omega) (by rw [nA_ne (by omega)]; exact i2) (by rw [nA_ne (by omega)]; exact i3) (by rw [nA_eq]; exact ob.2) (by rw [nA_ne (by omega)]; exact z2) (by rw [nA_ne (by omega)]; exact z3) (fun q q1 q2 q3 => by rw [nA_ne q1]; exact z5 q q1 q2 q3) z6 R9 P9 (by rw [nA_eq, nA_ne (by omega), nA_ne (by omega)]; exact K9) l9 (Fy.tr A9 (fun _ q => q)))
                    · rw [show mkR t n T (nA M (248 + 20 * nFw N + 1)) (nA M (248 + 20 * nFw N + 2)) (nA M (248 + 20 * nFw N + 3)) b1 = .inl (nuF (nxT t n T)) from by unfold mkR; rw [if_neg e1, if_pos e2, if_neg d, if_neg o5]] at OO
                      refine g_invv (M' := mX8_readMark) (As := [.ref (b + 53 + 2 * nFw N)]) (rest := []) dX8_readFlow_59 ml_X8_115 okX8_readMark imX8_readMark seX8_readMark ⟨(Nat.le_of_ble_eq_true rfl), (Nat.le_of_ble_eq_true rfl)⟩ (ci := 8) rfl rfl Ry.2.1.1.1 rfl rfl (Nat.le_of_ble_eq_true rfl) OO ?_
                      rintro _ y9 ⟨rfl, E9, W9, P9, A9⟩
                      show zG l w mX8_readFlow 62 [(3, .int (nI s)), (2, .int (bI true)), (1, .ref (b + 53 + 2 * nFw N)), (0, .ref r)] [.int (bI false)] y9 _
                      refine g_istore_n (lv2 := [(2, .int (bI false)), (3, .int (nI s)), (1, .ref (b + 53 + 2 * nFw N)), (0, .ref r)]) dX8_readFlow_62 rfl (by decide) rfl ?_
                      refine g_inc (v := nI (s + 1)) (lv2 := [(3, .int (nI (s + 1))), (2, .int (bI false)), (1, .ref (b + 53 + 2 * nFw N)), (0, .ref r)]) 1 dX8_readFlow_63 rfl (nI_add _ 1) (by decide) rfl ?_
                      refine g_goto (tgt := 40) dX8_readFlow_66 (by decide) ?_
                      rw [show marksR t n (nFw N) (k + 1) T M b1 b2 b3 = .inl (nuF (nxT t n T)) from by rw [marksR, if_neg e1, if_pos e2, if_neg d, if_neg o5], bnd_l]
                      refine g_iload_n 0 dX8_readFlow_40 rfl rfl ?_
                      refine g_iconst (v := nI 3) dX8_readFlow_41 (by decide) ?_
                      refine g_ncmp_gt (tgt := 69) dX8_readFlow_42 (by decide) (by omega) (by omega) (fun d9 => ?_) (fun d9 => ?_)
                      · exact zG.sub [1, 2, 3] rfl (bad _ y9 E9 W9 P9 (Fy.tr A9 (fun _ q => q)))
                      · refine g_iload_n 1 dX8_readFlow_45 rfl rfl ?_
                        refine g_bif_eq (tgt := 69) dX8_readFlow_46 (by decide) (fun dx => ?_) (fun dx => ?_)
                        · exact zG.sub [1, 2, 3] rfl (bad _ y9 E9 W9 P9 (Fy.tr A9 (fun _ q => q)))
                        · cases dx
                · by_cases e3 : keyN t T < 7
                  · by_cases d : b2 = true
                    · rw [show mkR t n T (nA M (248 + 20 * nFw N + 1)) (nA M (248 + 20 * nFw N + 2)) (nA M (248 + 20 * nFw N + 3)) b1 = .inl (flt T 5) from by unfold mkR; rw [if_neg e1, if_neg e2, if_pos e3, if_neg (i2.mp d)]] at OO
                      refine g_invv (M' := mX8_readMark) (As := [.ref (b + 53 + 2 * nFw N)]) (rest := []) dX8_readFlow_59 ml_X8_115 okX8_readMark imX8_readMark seX8_readMark ⟨(Nat.le_of_ble_eq_true rfl), (Nat.le_of_ble_eq_true rfl)⟩ (ci := 8) rfl rfl Ry.2.1.1.1 rfl rfl (Nat.le_of_ble_eq_true rfl) OO ?_
                      rintro _ y9 ⟨rfl, E9, W9, P9, A9⟩
                      show zG l w mX8_readFlow 62 [(3, .int (nI s)), (2, .int (bI true)), (1, .ref (b + 53 + 2 * nFw N)), (0, .ref r)] [.int (bI false)] y9 _
                      refine g_istore_n (lv2 := [(2, .int (bI false)), (3, .int (nI s)), (1, .ref (b + 53 + 2 * nFw N)), (0, .ref r)]) dX8_readFlow_62 rfl (by decide) rfl ?_
                      refine g_inc (v := nI (s + 1)) (lv2 := [(3, .int (nI (s + 1))), (2, .int (bI false)), (1, .ref (b + 53 + 2 * nFw N)), (0, .ref r)]) 1 dX8_readFlow_63 rfl (nI_add _ 1) (by decide) rfl ?_
                      refine g_goto (tgt := 40) dX8_readFlow_66 (by decide) ?_
                      rw [show marksR t n (nFw N) (k + 1) T M b1 b2 b3 = .inl (flt T 5) from by rw [marksR, if_neg e1, if_neg e2, if_pos e3, if_pos d], bnd_l]
                      refine g_iload_n 0 dX8_readFlow_40 rfl rfl ?_
                      refine g_iconst (v := nI 3) dX8_readFlow_41 (by decide) ?_
                      refine g_ncmp_gt (tgt := 69) dX8_readFlow_42 (by decide) (by omega) (by omega) (fun d9 => ?_) (fun d9 => ?_)
                      · exact zG.sub [1, 2, 3] rfl (bad _ y9 E9 W9 P9 (Fy.tr A9 (fun _ q => q)))
                      · refine g_iload_n 1 dX8_readFlow_45 rfl rfl ?_
                        refine g_bif_eq (tgt := 69) dX8_readFlow_46 (by decide) (fun dx => ?_) (fun dx => ?_)
                        · exact zG.sub [1, 2, 3] rfl (bad _ y9 E9 W9 P9 (Fy.tr A9 (fun _ q => q)))
                        · cases dx
                    · rw [show mkR t n T (nA M (248 + 20 * nFw N + 1)) (nA M (248 + 20 * nFw N + 2)) (nA M (248 + 20 * nFw N + 3)) b1 = .inr (nxT t n T, (nA M (248 + 20 * nFw N + 1), keyN t T - 3, nA M (248 + 20 * nFw N + 3)), b1) from by unfold mkR; rw [if_neg e1, if_neg e2, if_pos e3, if_pos (Classical.byContradiction fun z => d (i2.mpr z))]] at OO
                      refine g_invv (M' := mX8_readMark) (As := [.ref (b + 53 + 2 * nFw N)]) (rest := []) dX8_readFlow_59 ml_X8_115 okX8_readMark imX8_readMark seX8_readMark ⟨(Nat.le_of_ble_eq_true rfl), (Nat.le_of_ble_eq_true rfl)⟩ (ci := 8) rfl rfl Ry.2.1.1.1 rfl rfl (Nat.le_of_ble_eq_true rfl) OO ?_
                      rintro _ y9 ⟨rfl, R9, ⟨P9, K9, l9⟩, A9⟩
                      show zG l w mX8_readFlow 62 [(3, .int (nI s)), (2, .int (bI true)), (1, .ref (b + 53 + 2 * nFw N)), (0, .ref r)] [.int (bI true)] y9 _
                      refine g_istore_n (lv2 := [(2, .int (bI true)), (3, .int (nI s)), (1, .ref (b + 53 + 2 * nFw N)), (0, .ref r)]) dX8_readFlow_62 rfl (by decide) rfl ?_
                      refine g_inc (v := nI (s + 1)) (lv2 := [(3, .int (nI (s + 1))), (2, .int (bI true)), (1, .ref (b + 53 + 2 * nFw N)), (0, .ref r)]) 1 dX8_readFlow_63 rfl (nI_add _ 1) (by decide) rfl ?_
                      refine g_goto (tgt := 40) dX8_readFlow_66 (by decide) ?_
                      rw [show marksR t n (nFw N) (k + 1) T M b1 b2 b3 = marksR t n (nFw N) k (nxT t n T) (uA M (248 + 20 * nFw N + 2) (keyN t T - 3)) b1 true b3 from by rw [marksR, if_neg e1, if_neg e2, if_pos e3, if_neg d]]
                      have hb2 : btn b1 b2 b3 + 1 = btn b1 true b3 := by
                        cases b1 <;> cases b2 <;> cases b3 <;> first | rfl | (exact absurd d (by decide))
                      exact zG.sub [0, 1, 2, 3] rfl (ih (s + 1) _ _ _ _ _ y9 (by omega) (by omega) (by rw [nA_eq]; exact ⟨fun _ => by omega, fun _ => rfl⟩) (by rw [nA_ne (by omega)]; exact i3) (by rw [nA_ne (by omega)]; exact z1) (by rw [nA_eq]; omega) (by rw [nA_ne (by omega)]; exact z3) (fun q q1 q2 q3 => by rw [nA_ne q2]; exact z5 q q1 q2 q3) z6 R9 P9 (by rw [nA_ne (by omega), nA_eq, nA_ne (by omega)]; exact K9) l9 (Fy.tr A9 (fun _ q => q)))
                  · by_cases d : b3 = true
                    · rw [show mkR t n T (nA M (248 + 20 * nFw N + 1)) (nA M (248 + 20 * nFw N + 2)) (nA M (248 + 20 * nFw N + 3)) b1 = .inl (flt T 5) from by unfold mkR; rw [if_neg e1, if_neg e2, if_neg e3, if_pos (i3.mp d)]] at OO
                      refine g_invv (M' := mX8_readMark) (As := [.ref (b + 53 + 2 * nFw N)]) (rest := []) dX8_readFlow_59 ml_X8_115 okX8_readMark imX8_readMark seX8_readMark ⟨(Nat.le_of_ble_eq_true rfl), (Nat.le_of_ble_eq_true rfl)⟩ (ci := 8) rfl rfl Ry.2.1.1.1 rfl rfl (Nat.le_of_ble_eq_true rfl) OO ?_
                      rintro _ y9 ⟨rfl, E9, W9, P9, A9⟩
                      show zG l w mX8_readFlow 62 [(3, .int (nI s)), (2, .int (bI true)), (1, .ref (b + 53 + 2 * nFw N)), (0, .ref r)] [.int (bI false)] y9 _
                      refine g_istore_n (lv2 := [(2, .int (bI false)), (3, .int (nI s)), (1, .ref (b + 53 + 2 * nFw N)), (0, .ref r)]) dX8_readFlow_62 rfl (by decide) rfl ?_
                      refine g_inc (v := nI (s + 1)) (lv2 := [(3, .int (nI (s + 1))), (2, .int (bI false)), (1, .ref (b + 53 + 2 * nFw N)), (0, .ref r)]) 1 dX8_readFlow_63 rfl (nI_add _ 1) (by decide) rfl ?_
                      refine g_goto (tgt := 40) dX8_readFlow_66 (by decide) ?_
                      rw [show marksR t n (nFw N) (k + 1) T M b1 b2 b3 = .inl (flt T 5) from by rw [marksR, if_neg e1, if_neg e2, if_neg e3, if_pos d], bnd_l]
                      refine g_iload_n 0 dX8_readFlow_40 rfl rfl ?_
                      refine g_iconst (v := nI 3) dX8_readFlow_41 (by decide) ?_
                      refine g_ncmp_gt (tgt := 69) dX8_readFlow_42 (by decide) (by omega) (by omega) (fun d9 => ?_) (fun d9 => ?_)
                      · exact zG.sub [1, 2, 3] rfl (bad _ y9 E9 W9 P9 (Fy.tr A9 (fun _ q => q)))
                      · refine g_iload_n 1 dX8_readFlow_45 rfl rfl ?_
                        refine g_bif_eq (tgt := 69) dX8_readFlow_46 (by decide) (fun dx => ?_) (fun dx => ?_)
                        · exact zG.sub [1, 2, 3] rfl (bad _ y9 E9 W9 P9 (Fy.tr A9 (fun _ q => q)))
                        · cases dx
                    · rw [show mkR t n T (nA M (248 + 20 * nFw N + 1)) (nA M (248 + 20 * nFw N + 2)) (nA M (248 + 20 * nFw N + 3)) b1 = .inr (nxT t n T, (nA M (248 + 20 * nFw N + 1), nA M (248 + 20 * nFw N + 2), 0), b1) from by unfold mkR; rw [if_neg e1, if_neg e2, if_neg e3, if_neg (fun z => d (i3.mpr z))]] at OO
                      refine g_invv (M' := mX8_readMark) (As := [.ref (b + 53 + 2 * nFw N)]) (rest := []) dX8_readFlow_59 ml_X8_115 okX8_readMark imX8_readMark seX8_readMark ⟨(Nat.le_of_ble_eq_true rfl), (Nat.le_of_ble_eq_true rfl)⟩ (ci := 8) rfl rfl Ry.2.1.1.1 rfl rfl (Nat.le_of_ble_eq_true rfl) OO ?_
                      rintro _ y9 ⟨rfl, R9, ⟨P9, K9, l9⟩, A9⟩
                      show zG l w mX8_readFlow 62 [(3, .int (nI s)), (2, .int (bI true)), (1, .ref (b + 53 + 2 * nFw N)), (0, .ref r)] [.int (bI true)] y9 _
                      refine g_istore_n (lv2 := [(2, .int (bI true)), (3, .int (nI s)), (1, .ref (b + 53 + 2 * nFw N)), (0, .ref r)]) dX8_readFlow_62 rfl (by decide) rfl ?_
                      refine g_inc (v := nI (s + 1)) (lv2 := [(3, .int (nI (s + 1))), (2, .int (bI true)), (1, .ref (b + 53 + 2 * nFw N)), (0, .ref r)]) 1 dX8_readFlow_63 rfl (nI_add _ 1) (by decide) rfl ?_
                      refine g_goto (tgt := 40) dX8_readFlow_66 (by decide) ?_
                      rw [show marksR t n (nFw N) (k + 1) T M b1 b2 b3 = marksR t n (nFw N) k (nxT t n T) (uA M (248 + 20 * nFw N + 3) 0) b1 b2 true from by rw [marksR, if_neg e1, if_neg e2, if_neg e3, if_neg d]]
                      have hb2 : btn b1 b2 b3 + 1 = btn b1 b2 true := by
                        cases b1 <;> cases b2 <;> cases b3 <;> first | rfl | (exact absurd d (by decide))
                      exact zG.sub [0, 1, 2, 3] rfl (ih (s + 1) _ _ _ _ _ y9 (by omega) (by omega) (by rw [nA_ne (by omega)]; exact i2) (by rw [nA_eq]; exact ⟨fun _ => rfl, fun _ => rfl⟩) (by rw [nA_ne (by omega)]; exact z1) (by rw [nA_ne (by omega)]; exact z2) (by rw [nA_eq]; exact Or.inl rfl) (fun q q1 q2 q3 => by rw [nA_ne q3]; exact z5 q q1 q2 q3) z6 R9 P9 (by rw [nA_ne (by omega), nA_ne (by omega), nA_eq]; exact K9) l9 (Fy.tr A9 (fun _ q => q)))
    refine g_aload_n 1 dX8_readFlow_32 rfl rfl ?_
    refine g_aload_n 0 dX8_readFlow_33 rfl rfl ?_
    have OP1 := c_readPath (l := l) (w := w) R2 hz c v3 K3 l3
    have ok1 := R2.2.2.2.1
    cases eP : (if (nxT t n T).1 = 2 then hopsR t n (nFw N) 5 (nxT t n T) N else .inl (flt (nxT t n T) 2) : rR) with
    | inl e =>
      rw [eP] at OP1
      refine g_invv (M' := mX8_readPath) (As := [.ref (b + 53 + 2 * nFw N)]) (rest := []) dX8_readFlow_34 ml_X8_111 okX8_readPath imX8_readPath seX8_readPath ⟨(Nat.le_of_ble_eq_true rfl), (Nat.le_of_ble_eq_true rfl)⟩ (ci := 8) rfl rfl R2.2.1.1.1 rfl rfl (Nat.le_of_ble_eq_true rfl) OP1 ?_
      rintro _ y9 ⟨rfl, E9, W9, P9, A9⟩
      show zG l w mX8_readFlow 37 [(1, .ref (b + 53 + 2 * nFw N)), (0, .ref r)] [.int (bI false)] y9 _
      refine g_istore_n (lv2 := [(2, .int (bI false)), (1, .ref (b + 53 + 2 * nFw N)), (0, .ref r)]) dX8_readFlow_37 rfl (by decide) rfl ?_
      refine g_iconst (v := nI 0) dX8_readFlow_38 (by decide) ?_
      refine g_istore_n (lv2 := [(3, .int (nI 0)), (2, .int (bI false)), (1, .ref (b + 53 + 2 * nFw N)), (0, .ref r)]) dX8_readFlow_39 rfl (by decide) rfl ?_
      rw [bnd_l]
      refine g_iload_n 0 dX8_readFlow_40 rfl rfl ?_
      refine g_iconst (v := nI 3) dX8_readFlow_41 (by decide) ?_
      refine g_ncmp_gt (tgt := 69) dX8_readFlow_42 (by decide) (by omega) (by omega) (fun d9 => ?_) (fun d9 => ?_)
      · exact absurd d9 (by omega)
      · refine g_iload_n 1 dX8_readFlow_45 rfl rfl ?_
        refine g_bif_eq (tgt := 69) dX8_readFlow_46 (by decide) (fun dx => ?_) (fun dx => ?_)
        · exact zG.sub [1, 2, 3] rfl (bad _ y9 E9 W9 P9 (A3.tr A9 (fun _ q => q)))
        · cases dx
    | inr s =>
      rw [eP] at OP1
      have c2 : (nxT t n T).1 = 2 := by
        by_cases z : (nxT t n T).1 = 2
        · exact z
        · rw [if_neg z] at eP; cases eP
      rw [if_pos c2] at eP
      obtain ⟨hp, hp1, -⟩ := hopsR_z (T' := s.1) (N' := s.2) H0.2 5 _ N ok1 sz (fun _ => c2) (by omega) eP
      obtain ⟨q1, q3, q5, q7, qr⟩ := fl4_at (M := s.2) (f := nFw N)
      have q2 : nA (fl4 s.2 (nFw N)) (248 + 20 * nFw N + 2) = 0 := by rw [qr _ (by omega) (by omega) (by omega) (by omega)]; exact hp.2.2.2.2.1 2 (by omega) (by omega)
      refine g_invv (M' := mX8_readPath) (As := [.ref (b + 53 + 2 * nFw N)]) (rest := []) dX8_readFlow_34 ml_X8_111 okX8_readPath imX8_readPath seX8_readPath ⟨(Nat.le_of_ble_eq_true rfl), (Nat.le_of_ble_eq_true rfl)⟩ (ci := 8) rfl rfl R2.2.1.1.1 rfl rfl (Nat.le_of_ble_eq_true rfl) OP1 ?_
      rintro _ y9 ⟨rfl, R9, ⟨P9, K9, l9⟩, A9⟩
      show zG l w mX8_readFlow 37 [(1, .ref (b + 53 + 2 * nFw N)), (0, .ref r)] [.int (bI true)] y9 _
      refine g_istore_n (lv2 := [(2, .int (bI true)), (1, .ref (b + 53 + 2 * nFw N)), (0, .ref r)]) dX8_readFlow_37 rfl (by decide) rfl ?_
      refine g_iconst (v := nI 0) dX8_readFlow_38 (by decide) ?_
      refine g_istore_n (lv2 := [(3, .int (nI 0)), (2, .int (bI true)), (1, .ref (b + 53 + 2 * nFw N)), (0, .ref r)]) dX8_readFlow_39 rfl (by decide) rfl ?_
      rw [show (Sum.inr s : rR) = .inr (s.1, s.2) from rfl, bnd_i]
      exact zG.sub [0, 1, 2, 3] rfl (marks s.2 hp hp1 4 0 s.1 (fl4 s.2 (nFw N)) false false false y9 rfl (by decide) (by rw [q2]; exact ⟨fun z => (by cases z), fun z => absurd rfl z⟩) (by rw [q3]; exact ⟨fun z => (by cases z), fun z => absurd z (by omega)⟩) (by rw [q1]; omega) (by rw [q2]; omega) (by rw [q3]; exact Or.inr rfl) (fun _ _ _ _ => rfl) rfl R9 P9 (by rw [q1, q2, q3]; exact K9) l9 (A3.tr A9 (fun _ q => q)))
end CRF
