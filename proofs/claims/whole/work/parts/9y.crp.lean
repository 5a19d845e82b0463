section CRP
variable {l : Launch} {w : zW} {h y z : zH} {b r p n : Nat} {t : Nat → Nat} {T T' : tkT} {lt ls : Nat → List Nat} {N N' M : nT} {f c lo hi : Nat} {u : Option Value} {a1 a2 a3 : Int} {tl : Bool} {S : Nat → Prop} {i j : Nat}
def FlP (y : zH) (b f : Nat) (M : nT) : Prop := zi y 65 (b + 53 + 2 * f) = jI (nA M (248 + 20 * f + 0)) ∧ ∀ i : Nat, (i : Int) < nA M (248 + 20 * f + 0) → zI y (b + 53 + 2 * f + 1) i = jI (nA M (248 + 20 * f + (12 + i)))
def FlK (y : zH) (b f : Nat) (a1 a2 a3 : Int) : Prop := zi y 66 (b + 53 + 2 * f) = jI a1 ∧ zi y 67 (b + 53 + 2 * f) = jI a2 ∧ zi y 68 (b + 53 + 2 * f) = jI a3 ∧ zi y 70 (b + 53 + 2 * f) = nI 200 ∧ zi y 71 (b + 53 + 2 * f) = nI 0 ∧ zi y 73 (b + 53 + 2 * f) = nI 0 ∧ zi y 74 (b + 53 + 2 * f) = nI 0 ∧ zi y 75 (b + 53 + 2 * f) = nI 0
def FPt (y : zH) (b : Nat) (N : nT) (f : Nat) : Prop := zi y 161 b = nI (nLk N) ∧ ∃ c : Nat, c ≤ 4 ∧ zi y 65 (b + 53 + 2 * f) = nI c ∧ ∀ i, i < c → ∃ q, q < nLk N ∧ zI y (b + 53 + 2 * f + 1) i = nI q
theorem FlP.ff (P : FlP h b f M) (F : FrF r lo hi h y) (hr : r < b ∨ b + 65 ≤ r) (f6 : f < 6) : FlP y b f M := ⟨by rw [F.2.2.2.2 _ _ (by omega)]; exact P.1, fun i hi => by rw [(F.2.2.2.1 _ _).1]; exact P.2 i hi⟩
theorem FlK.ff (P : FlK h b f a1 a2 a3) (F : FrF r lo hi h y) (hr : r < b ∨ b + 65 ≤ r) (f6 : f < 6) : FlK y b f a1 a2 a3 := by
  unfold FlK
  rw [F.2.2.2.2 66 _ (by omega), F.2.2.2.2 67 _ (by omega), F.2.2.2.2 68 _ (by omega), F.2.2.2.2 70 _ (by omega), F.2.2.2.2 71 _ (by omega), F.2.2.2.2 73 _ (by omega), F.2.2.2.2 74 _ (by omega), F.2.2.2.2 75 _ (by omega)]
  exact P
theorem FPt.ff (P : FPt h b N f) (F : FrF r lo hi h y) (hr : r < b ∨ b + 65 ≤ r) (f6 : f < 6) : FPt y b N f := by
  obtain ⟨p0, c, c4, p1, p2⟩ := P
  exact ⟨by rw [F.2.2.2.2 _ _ (by omega)]; exact p0, c, c4, by rw [F.2.2.2.2 _ _ (by omega)]; exact p1, fun i hi => by obtain ⟨q, q1, q2⟩ := p2 i hi; exact ⟨q, q1, by rw [(F.2.2.2.1 _ _).1]; exact q2⟩⟩
theorem FPt.of (P : FlP h b f M) (hp : hpZ N M f) (X : TX h b lt N 0 j) : FPt h b N f := by
  have h3 := hp.2.2.1
  obtain ⟨c, ec⟩ : ∃ c : Nat, nA M (248 + 20 * f + 0) = (c : Int) := ⟨_, (Int.toNat_of_nonneg h3.1).symm⟩
  refine ⟨X.2.2.1.1, c, by omega, by rw [P.1, ec, jI_nat], fun i hi => ?_⟩
  have z := hp.2.2.2.1 i (by omega)
  refine ⟨(nA M (248 + 20 * f + (12 + i))).toNat, by unfold nLk; omega, ?_⟩
  rw [P.2 i (by omega), ← jI_nat, Int.toNat_of_nonneg z.1]
theorem SF_ok (l6 : nFw N < 6) (q : SF b (nFw N) c) : okS h b N c ∧ b ≤ c ∧ c < b + 65 := by
  unfold SF at q
  exact ⟨Or.inr (Or.inr ⟨by omega, by omega, l6⟩), by omega, by omega⟩
theorem SF_B (l6 : f < 6) (q : SF b f c) : SB b r c := by unfold SF at q; exact Or.inr (by omega)
def OP (b r p n : Nat) (t : Nat → Nat) (lt : Nat → List Nat) (N : nT) (f : Nat) (h : zH) (q : rR) : Option Value → zH → Prop := fun u h1 => match q with
  | .inl e => u = some (.int (bI false)) ∧ PeC h1 r e ∧ TWt h1 b lt ∧ FPt h1 b N f ∧ FrA (SB b r) h h1
  | .inr (T, M) => u = some (.int (bI true)) ∧ RdC h1 b r p n t lt N T 0 1 ∧ (FlP h1 b f M ∧ FlK h1 b f 9999 0 1 ∧ zi h1 263 r = bI false) ∧ FrA (SB b r) h h1
theorem c_readPath (R : RdC h b r p n t lt N T 0 1) (hz : pz N) (h6 : ¬ nA N 1 = 6) (hs : zi h 65 (b + 53 + 2 * nFw N) = nI 0) (K0 : FlK h b (nFw N) 9999 0 1) (hl : zi h 263 r = bI false) : zM l w mX8_readPath [.ref r, .ref (b + 53 + 2 * nFw N)] h (OP b r p n t lt N (nFw N) h (if T.1 = 2 then hopsR t n (nFw N) 5 T N else .inl (flt T 2))) := by
  refine zM.of (by decide) (Nat.le_of_ble_eq_true rfl) ?_
  have rr := R.2.2.2.2.2.2.1
  obtain ⟨l6, lq⟩ := nFw_lt hz h6
  have H0 := hz.1
  have nl6 := nLk_le hz
  have o0 := R.2.2.2.1.1
  obtain ⟨sz, s0⟩ := hpZ.start hz h6
  have P0 : FlP h b (nFw N) N := ⟨by rw [s0]; exact hs, fun i hi => by rw [s0] at hi; omega⟩
  refine g_aload_n 0 dX8_readPath_0 rfl rfl ?_
  refine g_geti (f := 260) dX8_readPath_1 fl_X8_46 R.2.1.1.1 (by decide) rfl ?_
  rw [show zi h 260 r = nI T.1 from R.2.2.1.1]
  refine g_iconst (v := nI 2) dX8_readPath_4 (by decide) ?_
  refine g_ncmp_eq (tgt := 14) dX8_readPath_5 (by decide) (by omega) (by omega) (fun c => ?_) (fun c => ?_)
  · rw [if_pos c]
    have loop : ∀ (k c : Nat) (T : tkT) (M : nT) (y : zH), c + k = 5 → nA M (248 + 20 * nFw N + 0) = (c : Int) → hpZ N M (nFw N) → RdC y b r p n t lt N T 0 1 → FlP y b (nFw N) M → FlK y b (nFw N) 9999 0 1 → zi y 263 r = bI false → FrA (SB b r) h y → zG l w mX8_readPath 16 [(2, .int (nI c)), (0, .ref r), (1, .ref (b + 53 + 2 * nFw N))] [] y (OP b r p n t lt N (nFw N) h (hopsR t n (nFw N) k T M)) := by
      intro k
      induction k with
      | zero => intro c T M y hc ec hp; have := hp.2.2.1; omega
      | succ k ih =>
        intro c T M y hc ec hp Ry Py Ky hl Fy
        have hp3 := hp.2.2.1
        have o1 := Ry.2.2.2.1.1
        have e0 : nA M 0 = nA N 0 := hp.1 0 (by omega)
        refine g_iload_n 0 dX8_readPath_16 rfl rfl ?_
        refine g_iconst (v := nI 4) dX8_readPath_17 (by decide) ?_
        refine g_ncmp_gt (tgt := 99) dX8_readPath_18 (by decide) (by omega) (by omega) (fun d0 => ?_) (fun d0 => ?_)
        · exact absurd d0 (by omega)
        · refine g_aload_n 1 dX8_readPath_21 rfl rfl ?_
          refine g_geti (f := 260) dX8_readPath_22 fl_X8_46 Ry.2.1.1.1 (by decide) rfl ?_
          rw [show zi y 260 r = nI T.1 from Ry.2.2.1.1]
          refine g_iconst (v := nI 2) dX8_readPath_25 (by decide) ?_
          refine g_ncmp_ne (tgt := 99) dX8_readPath_26 (by decide) (by omega) (by omega) (fun d1 => ?_) (fun d1 => ?_)
          · refine g_iconst (v := bI true) dX8_readPath_99 (by decide) ?_
            refine g_zreturn dX8_readPath_100 rfl (bI_nar _) ?_
            rw [show hopsR t n (nFw N) (k + 1) T M = .inr (T, M) from by rw [hopsR, if_neg d1]]
            exact ⟨rfl, Ry, ⟨Py, Ky, hl⟩, Fy⟩
          · have t2 := d1
            have vb := Ry.2.2.2.1.2.2.2.2.2 t2
            refine g_aload_n 1 dX8_readPath_29 rfl rfl ?_
            refine g_geti (f := 261) dX8_readPath_30 fl_X8_76 Ry.2.1.1.1 (by decide) rfl ?_
            rw [show zi y 261 r = jI T.2.2.2 from Ry.2.2.1.2.2.2 t2]
            refine g_aload_n 1 dX8_readPath_33 rfl rfl ?_
            refine g_getr (f := 262) (b := b) dX8_readPath_34 fl_X8_25 Ry.2.1.1.1 rfl Ry.2.2.2.2.1 ?_
            refine g_geti (f := 161) dX8_readPath_37 fl_X8_128 Ry.1.1.1.2 (by decide) rfl ?_
            rw [show zi y 161 b = nI (nLk N) from Ry.1.2.2.1.1]
            refine g_zcmp_lt (a := T.2.2.2) (b := ((nLk N : Nat) : Int)) (tgt := 49) rfl (jI_nat (nLk N)).symm dX8_readPath_40 (by decide) (by omega) (by omega) (fun d2 => ?_) (fun d2 => ?_)
            · refine g_aload_n 2 dX8_readPath_49 rfl rfl ?_
              refine g_aload_n 1 dX8_readPath_50 rfl rfl ?_
              refine g_geti (f := 261) dX8_readPath_51 fl_X8_76 Ry.2.1.1.1 (by decide) rfl ?_
              rw [show zi y 261 r = jI T.2.2.2 from Ry.2.2.1.2.2.2 t2]
              refine g_invv (M' := mX2_goesOver) (As := [.int (jI T.2.2.2)]) (rest := []) dX8_readPath_54 ml_X8_131 okX2_goesOver imX2_goesOver seX2_goesOver ⟨(Nat.le_of_ble_eq_true rfl), (Nat.le_of_ble_eq_true rfl)⟩ (ci := 2) rfl rfl (Ry.1.1.2.2.2.2.2.2.2.2.2 (nFw N) l6).2.1 rfl rfl (Nat.le_of_ble_eq_true rfl) (c_goesW Ry.1.1 l6 (by rw [Py.1, ec, jI_nat]) ec (by omega) (by omega) (fun i hi => ⟨Py.2 i (by omega), by have z := hp.2.2.2.1 i (by omega); omega⟩)) ?_
              rintro _ q3 ⟨rfl, eq3⟩
              subst q3
              show zG l w mX8_readPath 57 [(2, .int (nI c)), (0, .ref r), (1, .ref (b + 53 + 2 * nFw N))] [.int (bI (inB M (nFw N) T.2.2.2))] y _
              refine g_bif_eq (tgt := 66) dX8_readPath_57 (by decide) (fun d3 => ?_) (fun d3 => ?_)
              · refine g_aload_n 2 dX8_readPath_66 rfl rfl ?_
                refine g_geti (f := 65) dX8_readPath_67 fl_X8_134 (Ry.1.1.2.2.2.2.2.2.2.2.2 (nFw N) l6).2.1 (by decide) rfl ?_
                rw [show zi y 65 (b + 53 + 2 * nFw N) = nI c from (by rw [Py.1, ec, jI_nat])]
                refine g_iconst (v := nI 4) dX8_readPath_70 (by decide) ?_
                refine g_ncmp_lt (tgt := 81) dX8_readPath_71 (by decide) (by omega) (by omega) (fun d4 => ?_) (fun d4 => ?_)
                · refine g_aload_n 2 dX8_readPath_81 rfl rfl ?_
                  refine g_aload_n 1 dX8_readPath_82 rfl rfl ?_
                  refine g_geti (f := 261) dX8_readPath_83 fl_X8_76 Ry.2.1.1.1 (by decide) rfl ?_
                  rw [show zi y 261 r = jI T.2.2.2 from Ry.2.2.1.2.2.2 t2]
                  refine g_invv (M' := mX2_addToPath) (As := [.int (jI T.2.2.2)]) (rest := []) dX8_readPath_86 ml_X8_135 okX2_addToPath imX2_addToPath seX2_addToPath ⟨(Nat.le_of_ble_eq_true rfl), (Nat.le_of_ble_eq_true rfl)⟩ (ci := 2) rfl rfl (Ry.1.1.2.2.2.2.2.2.2.2.2 (nFw N) l6).2.1 rfl rfl (Nat.le_of_ble_eq_true rfl) (c_addPath Ry.1.1 l6 (by rw [Py.1, ec, jI_nat]) d4) ?_
                  rintro _ q9 ⟨rfl, eq9⟩
                  subst q9
                  show zG l w mX8_readPath 89 [(2, .int (nI c)), (0, .ref r), (1, .ref (b + 53 + 2 * nFw N))] [] (zSi (zSI y (b + 53 + 2 * nFw N + 1) c (jI T.2.2.2)) 65 (b + 53 + 2 * nFw N) (nI (c + 1))) _
                  obtain ⟨w0, w1, w2⟩ := hpN_at (M := M) (f := nFw N) (v := T.2.2.2) ec
                  have A2 : FrA (SF b (nFw N)) y (zSi (zSI y (b + 53 + 2 * nFw N + 1) c (jI T.2.2.2)) 65 (b + 53 + 2 * nFw N) (nI (c + 1))) := (FrA.rf.sI (Or.inr rfl)).si (Or.inl rfl)
                  have R2 := Ry.fa A2 (fun _ q => SF_ok l6 q)
                  have P2 : FlP (zSi (zSI y (b + 53 + 2 * nFw N + 1) c (jI T.2.2.2)) 65 (b + 53 + 2 * nFw N) (nI (c + 1))) b (nFw N) (hpN M (nFw N) T.2.2.2) := by
                    refine ⟨by rw [zi_same, w0, ← jI_nat]; rfl, fun i hi => ?_⟩
                    rw [w0] at hi
                    rw [zI_Si, zI_SI]
                    by_cases e9 : i = c
                    · subst e9; rw [if_pos ⟨rfl, rfl⟩, w1]
                    · rw [if_neg (fun q => e9 q.2), w2 _ (by omega) (by omega)]; exact Py.2 i (by omega)
                  have K2 : FlK (zSi (zSI y (b + 53 + 2 * nFw N + 1) c (jI T.2.2.2)) 65 (b + 53 + 2 * nFw N) (nI (c + 1))) b (nFw N) 9999 0 1 := by
                    unfold FlK
                    rw [zi_Si, if_neg (by omega), zi_SI, zi_Si, if_neg (by omega), zi_SI, zi_Si, if_neg (by omega), zi_SI, zi_Si, if_neg (by omega), zi_SI, zi_Si, if_neg (by omega), zi_SI, zi_Si, if_neg (by omega), zi_SI, zi_Si, if_neg (by omega), zi_SI, zi_Si, if_neg (by omega), zi_SI]
                    exact Ky
                  have l2 : zi (zSi (zSI y (b + 53 + 2 * nFw N + 1) c (jI T.2.2.2)) 65 (b + 53 + 2 * nFw N) (nI (c + 1))) 263 r = bI false := by rw [zi_Si, if_neg (by omega)]; exact hl
                  have Z2 : FrA (SB b r) h (zSi (zSI y (b + 53 + 2 * nFw N + 1) c (jI T.2.2.2)) 65 (b + 53 + 2 * nFw N) (nI (c + 1))) := Fy.tr A2 (fun _ q => SF_B l6 q)
                  generalize zSi (zSI y (b + 53 + 2 * nFw N + 1) c (jI T.2.2.2)) 65 (b + 53 + 2 * nFw N) (nI (c + 1)) = y2 at R2 P2 K2 l2 Z2 ⊢
                  refine g_aload_n 1 dX8_readPath_89 rfl rfl ?_
                  refine g_invv (M' := mX8_advance) (As := []) (rest := []) dX8_readPath_90 ml_X8_43 okX8_advance imX8_advance seX8_advance ⟨(Nat.le_of_ble_eq_true rfl), (Nat.le_of_ble_eq_true rfl)⟩ (ci := 8) rfl rfl R2.2.1.1.1 rfl rfl (Nat.le_of_ble_eq_true rfl) (c_advance R2.2.1 R2.2.2.1.2.2.1 R2.2.2.2.1.2.2.1) ?_
                  rintro _ y6 ⟨rfl, k6, f6⟩
                  show zG l w mX8_readPath 93 [(2, .int (nI c)), (0, .ref r), (1, .ref (b + 53 + 2 * nFw N))] [] y6 _
                  have R6 := R2.tk (T' := nxT t n T) k6 (nxT_ok R2.2.2.2.1).1 f6
                  refine g_inc (v := nI (c + 1)) (lv2 := [(2, .int (nI (c + 1))), (0, .ref r), (1, .ref (b + 53 + 2 * nFw N))]) 0 dX8_readPath_93 rfl (nI_add _ 1) (by decide) rfl ?_
                  refine g_goto (tgt := 16) dX8_readPath_96 (by decide) ?_
                  rw [show hopsR t n (nFw N) (k + 1) T M = hopsR t n (nFw N) k (nxT t n T) (hpN M (nFw N) T.2.2.2) from by rw [hopsR, if_pos t2, if_neg (show ¬ nA M 0 ≤ T.2.2.2 by rw [e0]; unfold nLk at d2; omega), if_neg (show ¬ inB M (nFw N) T.2.2.2 = true by rw [d3]; decide), if_neg (by omega)]]
                  exact zG.sub [0, 1, 2] rfl (ih (c + 1) _ _ y6 (by omega) (by rw [w0]; rfl) (hp.step H0.2 vb.1 (by unfold nLk at d2; omega) (by omega)) R6 (P2.ff f6 rr l6) (K2.ff f6 rr l6) (by rw [f6.2.2.2.2 _ _ (by omega)]; exact l2) (Z2.tr (SB.ff f6) (fun _ q => q)))
                · refine g_aload_n 1 dX8_readPath_74 rfl rfl ?_
                  refine g_bipush (v := nI 6) dX8_readPath_75 (by decide) ?_
                  refine g_invv (M' := mX8_stopWith) (As := [.int (nI 6)]) (rest := []) dX8_readPath_77 ml_X8_64 okX8_stopWith imX8_stopWith seX8_stopWith ⟨(Nat.le_of_ble_eq_true rfl), (Nat.le_of_ble_eq_true rfl)⟩ (ci := 8) rfl rfl Ry.2.1.1.1 rfl rfl (Nat.le_of_ble_eq_true rfl) (c_stopW Ry.2.1.1.1 Ry.2.2.1 Ry.2.2.2.1) ?_
                  rintro _ y5 ⟨rfl, fa5, fb5, f5⟩
                  show zG l w mX8_readPath 80 [(2, .int (nI c)), (0, .ref r), (1, .ref (b + 53 + 2 * nFw N))] [.int (bI false)] y5 _
                  refine g_zreturn dX8_readPath_80 rfl (bI_nar _) ?_
                  rw [show hopsR t n (nFw N) (k + 1) T M = .inl (flt T 6) from by rw [hopsR, if_pos t2, if_neg (show ¬ nA M 0 ≤ T.2.2.2 by rw [e0]; unfold nLk at d2; omega), if_neg (show ¬ inB M (nFw N) T.2.2.2 = true by rw [d3]; decide), if_pos (by omega)]]
                  exact ⟨rfl, ⟨fa5, fb5⟩, Ry.tw (nLk_le hz) (f5.mono (by omega) (by omega)), (FPt.of Py hp Ry.1).ff f5 rr l6, Fy.tr (SB.ff f5) (fun _ q => q)⟩
              · refine g_aload_n 1 dX8_readPath_60 rfl rfl ?_
                refine g_iconst (v := nI 4) dX8_readPath_61 (by decide) ?_
                refine g_invv (M' := mX8_stopWith) (As := [.int (nI 4)]) (rest := []) dX8_readPath_62 ml_X8_64 okX8_stopWith imX8_stopWith seX8_stopWith ⟨(Nat.le_of_ble_eq_true rfl), (Nat.le_of_ble_eq_true rfl)⟩ (ci := 8) rfl rfl Ry.2.1.1.1 rfl rfl (Nat.le_of_ble_eq_true rfl) (c_stopW Ry.2.1.1.1 Ry.2.2.1 Ry.2.2.2.1) ?_
                rintro _ y4 ⟨rfl, fa4, fb4, f4⟩
                show zG l w mX8_readPath 65 [(2, .int (nI c)), (0, .ref r), (1, .ref (b + 53 + 2 * nFw N))] [.int (bI false)] y4 _
                refine g_zreturn dX8_readPath_65 rfl (bI_nar _) ?_
                rw [show hopsR t n (nFw N) (k + 1) T M = .inl (flt T 4) from by rw [hopsR, if_pos t2, if_neg (show ¬ nA M 0 ≤ T.2.2.2 by rw [e0]; unfold nLk at d2; omega), if_pos d3]]
                exact ⟨rfl, ⟨fa4, fb4⟩, Ry.tw (nLk_le hz) (f4.mono (by omega) (by omega)), (FPt.of Py hp Ry.1).ff f4 rr l6, Fy.tr (SB.ff f4) (fun _ q => q)⟩
            · refine g_aload_n 1 dX8_readPath_43 rfl rfl ?_
              refine g_iconst (v := nI 3) dX8_readPath_44 (by decide) ?_
              refine g_invv (M' := mX8_stopWith) (As := [.int (nI 3)]) (rest := []) dX8_readPath_45 ml_X8_64 okX8_stopWith imX8_stopWith seX8_stopWith ⟨(Nat.le_of_ble_eq_true rfl), (Nat.le_of_ble_eq_true rfl)⟩ (ci := 8) rfl rfl Ry.2.1.1.1 rfl rfl (Nat.le_of_ble_eq_true rfl) (c_stopW Ry.2.1.1.1 Ry.2.2.1 Ry.2.2.2.1) ?_
              rintro _ y2 ⟨rfl, fa2, fb2, f2⟩
              show zG l w mX8_readPath 48 [(2, .int (nI c)), (0, .ref r), (1, .ref (b + 53 + 2 * nFw N))] [.int (bI false)] y2 _
              refine g_zreturn dX8_readPath_48 rfl (bI_nar _) ?_
              rw [show hopsR t n (nFw N) (k + 1) T M = .inl (flt T 3) from by rw [hopsR, if_pos t2, if_pos (show nA M 0 ≤ T.2.2.2 by rw [e0]; unfold nLk at d2; omega)]]
              exact ⟨rfl, ⟨fa2, fb2⟩, Ry.tw (nLk_le hz) (f2.mono (by omega) (by omega)), (FPt.of Py hp Ry.1).ff f2 rr l6, Fy.tr (SB.ff f2) (fun _ q => q)⟩
    refine g_iconst (v := nI 0) dX8_readPath_14 (by decide) ?_
    refine g_istore_n (lv2 := [(2, .int (nI 0)), (0, .ref r), (1, .ref (b + 53 + 2 * nFw N))]) dX8_readPath_15 rfl (by decide) rfl ?_
    exact zG.sub [0, 1, 2] rfl (loop 5 0 T N h rfl s0 sz R P0 K0 hl FrA.rf)
  · refine g_aload_n 0 dX8_readPath_8 rfl rfl ?_
    refine g_iconst (v := nI 2) dX8_readPath_9 (by decide) ?_
    refine g_invv (M' := mX8_stopWith) (As := [.int (nI 2)]) (rest := []) dX8_readPath_10 ml_X8_64 okX8_stopWith imX8_stopWith seX8_stopWith ⟨(Nat.le_of_ble_eq_true rfl), (Nat.le_of_ble_eq_true rfl)⟩ (ci := 8) rfl rfl R.2.1.1.1 rfl rfl (Nat.le_of_ble_eq_true rfl) (c_stopW R.2.1.1.1 R.2.2.1 R.2.2.2.1) ?_
    rintro _ y1 ⟨rfl, fa1, fb1, f1⟩
    show zG l w mX8_readPath 13 [(0, .ref r), (1, .ref (b + 53 + 2 * nFw N))] [.int (bI false)] y1 _
    refine g_zreturn dX8_readPath_13 rfl (bI_nar _) ?_
    rw [if_neg c]
    exact ⟨rfl, ⟨fa1, fb1⟩, R.tw (nLk_le hz) (f1.mono (by omega) (by omega)), (FPt.of P0 sz R.1).ff f1 rr l6, SB.ff f1⟩
abbrev mT : Type := (Int × Int) ⊕ (tkT × (Int × Int × Int) × Bool)
/-- one mark -/
def mkR (t : Nat → Nat) (n : Nat) (T : tkT) (a1 a2 a3 : Int) (tl : Bool) : mT :=
  if keyN t T < 3 then .inl (flt T 2)
  else if keyN t T = 3 then (if tl = true then .inl (flt T 5) else if okB (nxT t n T) 0 9999 = true then .inr (nxT t n (nxT t n T), ((nxT t n T).2.2.2, a2, a3), true) else .inl (nuF (nxT t n T)))
  else if keyN t T < 7 then (if a2 = 0 then .inr (nxT t n T, (a1, keyN t T - 3, a3), tl) else .inl (flt T 5))
  else (if a3 = 0 then .inl (flt T 5) else .inr (nxT t n T, (a1, a2, 0), tl))
def OK2 (b r p n : Nat) (t : Nat → Nat) (lt : Nat → List Nat) (N M : nT) (f : Nat) (h : zH) (q : mT) : Option Value → zH → Prop := fun u h1 => match q with
  | .inl e => u = some (.int (bI false)) ∧ PeC h1 r e ∧ TWt h1 b lt ∧ FPt h1 b N f ∧ FrA (SB b r) h h1
  | .inr (T, a, tl) => u = some (.int (bI true)) ∧ RdC h1 b r p n t lt N T 0 1 ∧ (FlP h1 b f M ∧ FlK h1 b f a.1 a.2.1 a.2.2 ∧ zi h1 263 r = bI tl) ∧ FrA (SB b r) h h1
theorem RdC.h3 {v : Int32} (R : RdC h b r p n t lt N T i j) : RdC (zSi h 263 r v) b r p n t lt N T i j := by
  have F : FrF r 263 263 h (zSi h 263 r v) := FrF.rf.si (by omega)
  obtain ⟨X, x, k, ok, g, ⟨f1, f2⟩, d⟩ := R
  exact ⟨X.fa (FrA.ff F) (fun a e => by rw [e]; exact Or.inl ⟨d.1, by rw [x.1.1]; omega, by rw [x.1.1]; omega⟩), x.frF F (by omega), ⟨by rw [F.2.2.2.2 _ _ (by omega)]; exact k.1, by rw [F.2.2.2.2 _ _ (by omega)]; exact k.2.1, by rw [F.2.2.2.2 _ _ (by omega)]; exact k.2.2.1, fun q => by rw [F.2.2.2.2 _ _ (by omega)]; exact k.2.2.2 q⟩, ok, g, ⟨by rw [F.2.2.2.2 _ _ (by omega)]; exact f1, by rw [F.2.2.2.2 _ _ (by omega)]; exact f2⟩, d⟩
theorem c_readMark (R : RdC h b r p n t lt N T 0 1) (l6 : nFw N < 6) (h6 : nLk N + 0 ≤ 6) (hp : hpZ N M (nFw N)) (P : FlP h b (nFw N) M) (K : FlK h b (nFw N) a1 a2 a3) (hl : zi h 263 r = bI tl) (a2b : 0 ≤ a2 ∧ a2 ≤ 3) (a3b : 0 ≤ a3 ∧ a3 ≤ 1) : zM l w mX8_readMark [.ref r, .ref (b + 53 + 2 * nFw N)] h (OK2 b r p n t lt N M (nFw N) h (mkR t n T a1 a2 a3 tl)) := by
  refine zM.of (by decide) (Nat.le_of_ble_eq_true rfl) ?_
  have rr := R.2.2.2.2.2.2.1
  have kb := key_bd (t := t) (T := T)
  have FP := FPt.of P hp R.1
  refine g_aload_n 0 dX8_readMark_0 rfl rfl ?_
  refine g_invv (M' := mX8_kindOfWord) (As := []) (rest := []) dX8_readMark_1 ml_X8_139 okX8_kindOfWord imX8_kindOfWord seX8_kindOfWord ⟨(Nat.le_of_ble_eq_true rfl), (Nat.le_of_ble_eq_true rfl)⟩ (ci := 8) rfl rfl R.2.1.1.1 rfl rfl (Nat.le_of_ble_eq_true rfl) (c_kindOf R) ?_
  rintro _ q1 ⟨rfl, eq1⟩
  subst q1
  show zG l w mX8_readMark 4 [(0, .ref r), (1, .ref (b + 53 + 2 * nFw N))] [.int (nI (if keyN t T = 4 then 1 else if keyN t T = 5 then 2 else if keyN t T = 6 then 3 else 0 : Nat))] h _
  generalize ekk : (if keyN t T = 4 then 1 else if keyN t T = 5 then 2 else if keyN t T = 6 then 3 else 0 : Nat) = kk
  have kk3 : kk ≤ 3 ∧ (3 < keyN t T ∧ keyN t T < 7 ↔ ¬ kk = 0) ∧ (¬ kk = 0 → (kk : Int) = keyN t T - 3) := by
    rw [← ekk]
    (repeat' split) <;> omega
  refine g_istore_n (lv2 := [(2, .int (nI kk)), (0, .ref r), (1, .ref (b + 53 + 2 * nFw N))]) dX8_readMark_4 rfl (by decide) rfl ?_
  refine g_iload_n 0 dX8_readMark_5 rfl rfl ?_
  refine g_zif_eq (a := ((kk : Nat) : Int)) (tgt := 30) (jI_nat kk).symm dX8_readMark_6 (by decide) (by omega) (fun c0 => ?_) (fun c0 => ?_)
  · have g37 : ¬ (3 < keyN t T ∧ keyN t T < 7) := fun z => absurd c0 (by have := kk3.2.1.mp z; omega)
    refine g_aload_n 1 dX8_readMark_30 rfl rfl ?_
    refine g_ldcS (i := 7) dX8_readMark_31 rfl ?_
    refine g_invv (M' := mX8_isWord) (As := [.ref (w.2.2.2.1 7)]) (rest := []) dX8_readMark_33 ml_X8_51 okX8_isWord imX8_isWord seX8_isWord ⟨(Nat.le_of_ble_eq_true rfl), (Nat.le_of_ble_eq_true rfl)⟩ (ci := 8) rfl rfl R.2.1.1.1 rfl rfl (Nat.le_of_ble_eq_true rfl) (c_isWord R.2.1 R.2.2.1 R.2.2.2.1 (by omega)) ?_
    rintro _ q5 ⟨rfl, eq5⟩
    subst q5
    rw [key_wd (by omega)]
    show zG l w mX8_readMark 36 [(2, .int (nI kk)), (0, .ref r), (1, .ref (b + 53 + 2 * nFw N))] [.int (bI (decide (keyN t T = ((7 : Nat) : Int))))] h _
    refine g_bif_eq (tgt := 60) dX8_readMark_36 (by decide) (fun c7 => ?_) (fun c7 => ?_)
    · have c7 : ¬ keyN t T = 7 := of_decide_eq_false c7
      refine g_aload_n 1 dX8_readMark_60 rfl rfl ?_
      refine g_ldcS (i := 3) dX8_readMark_61 rfl ?_
      refine g_invv (M' := mX8_isWord) (As := [.ref (w.2.2.2.1 3)]) (rest := []) dX8_readMark_63 ml_X8_51 okX8_isWord imX8_isWord seX8_isWord ⟨(Nat.le_of_ble_eq_true rfl), (Nat.le_of_ble_eq_true rfl)⟩ (ci := 8) rfl rfl R.2.1.1.1 rfl rfl (Nat.le_of_ble_eq_true rfl) (c_isWord R.2.1 R.2.2.1 R.2.2.2.1 (by omega)) ?_
      rintro _ q9 ⟨rfl, eq9⟩
      subst q9
      rw [key_wd (by omega)]
      show zG l w mX8_readMark 66 [(2, .int (nI kk)), (0, .ref r), (1, .ref (b + 53 + 2 * nFw N))] [.int (bI (decide (keyN t T = ((3 : Nat) : Int))))] h _
      refine g_bif_eq (tgt := 111) dX8_readMark_66 (by decide) (fun c3 => ?_) (fun c3 => ?_)
      · have c3 : ¬ keyN t T = 3 := of_decide_eq_false c3
        refine g_aload_n 1 dX8_readMark_111 rfl rfl ?_
        refine g_iconst (v := nI 2) dX8_readMark_112 (by decide) ?_
        refine g_invv (M' := mX8_stopWith) (As := [.int (nI 2)]) (rest := []) dX8_readMark_113 ml_X8_64 okX8_stopWith imX8_stopWith seX8_stopWith ⟨(Nat.le_of_ble_eq_true rfl), (Nat.le_of_ble_eq_true rfl)⟩ (ci := 8) rfl rfl R.2.1.1.1 rfl rfl (Nat.le_of_ble_eq_true rfl) (c_stopW R.2.1.1.1 R.2.2.1 R.2.2.2.1) ?_
        rintro _ y10 ⟨rfl, fa10, fb10, f10⟩
        show zG l w mX8_readMark 116 [(2, .int (nI kk)), (0, .ref r), (1, .ref (b + 53 + 2 * nFw N))] [.int (bI false)] y10 _
        refine g_zreturn dX8_readMark_116 rfl (bI_nar _) ?_
        rw [show mkR t n T a1 a2 a3 tl = .inl (flt T 2) from by unfold mkR; rw [if_pos (show keyN t T < 3 by omega)]]
        exact ⟨rfl, ⟨fa10, fb10⟩, R.tw h6 (f10.mono (by omega) (by omega)), FP.ff f10 rr l6, SB.ff f10⟩
      · have c3 : keyN t T = 3 := of_decide_eq_true c3
        refine g_aload_n 1 dX8_readMark_69 rfl rfl ?_
        refine g_geti (f := 263) dX8_readMark_70 fl_X8_107 R.2.1.1.1 (by decide) rfl ?_
        rw [show zi h 263 r = bI tl from hl]
        refine g_bif_eq (tgt := 82) dX8_readMark_73 (by decide) (fun c1 => ?_) (fun c1 => ?_)
        · refine g_aload_n 1 dX8_readMark_82 rfl rfl ?_
          refine g_iconst (v := nI 1) dX8_readMark_83 (by decide) ?_
          refine g_putz (f := 263) dX8_readMark_84 fl_X8_107 (Or.inl rfl) R.2.1.1.1 rfl (by decide) ?_
          have R7 := R.h3 (v := nI 1)
          have f7 : FrF r 263 263 h (zSi h 263 r (nI 1)) := FrF.rf.si (by omega)
          have P7 := P.ff f7 rr l6
          have K7 := K.ff f7 rr l6
          have l7 : zi (zSi h 263 r (nI 1)) 263 r = bI true := zi_same
          have Q7 := FP.ff f7 rr l6
          have Z7 : FrA (SB b r) h (zSi h 263 r (nI 1)) := SB.ff f7
          generalize zSi h 263 r (nI 1) = z7 at R7 P7 K7 l7 Q7 Z7 ⊢
          clear f7
          refine g_aload_n 1 dX8_readMark_87 rfl rfl ?_
          refine g_iconst (v := nI 0) dX8_readMark_88 (by decide) ?_
          refine g_sipush (v := nI 9999) dX8_readMark_89 (by decide) ?_
          by_cases o1 : okB (nxT t n T) 0 9999 = true
          · refine g_invv (M' := mX8_nextNumber) (As := [.int (nI 0), .int (nI 9999)]) (rest := []) dX8_readMark_92 ml_X8_72 okX8_nextNumber imX8_nextNumber seX8_nextNumber ⟨(Nat.le_of_ble_eq_true rfl), (Nat.le_of_ble_eq_true rfl)⟩ (ci := 8) rfl rfl R7.2.1.1.1 rfl rfl (Nat.le_of_ble_eq_true rfl) (c_nnT R7 (by omega) (by omega) o1) ?_
            rintro _ y12 ⟨rfl, R12, f12⟩
            show zG l w mX8_readMark 95 [(2, .int (nI kk)), (0, .ref r), (1, .ref (b + 53 + 2 * nFw N))] [.int (bI true)] y12 _
            have t2 := (okB_t o1).1
            refine g_bif_ne (tgt := 100) dX8_readMark_95 (by decide) (fun dx => ?_) (fun dx => ?_)
            · have P8 := P7.ff f12 rr l6
              have K8 := K7.ff f12 rr l6
              have l8 : zi y12 263 r = bI true := by rw [f12.2.2.2.2 _ _ (by omega)]; exact l7
              refine g_aload_n 2 dX8_readMark_100 rfl rfl ?_
              refine g_aload_n 1 dX8_readMark_101 rfl rfl ?_
              refine g_geti (f := 261) dX8_readMark_102 fl_X8_76 R12.2.1.1.1 (by decide) rfl ?_
              rw [show zi y12 261 r = jI (nxT t n T).2.2.2 from R12.2.2.1.2.2.2 t2]
              refine g_puti (f := 66) dX8_readMark_105 fl_X8_153 (Or.inl rfl) (R12.1.1.2.2.2.2.2.2.2.2.2 (nFw N) l6).2.1 rfl ?_
              have A14 : FrA (SF b (nFw N)) y12 (zSi y12 66 (b + 53 + 2 * nFw N) (jI (nxT t n T).2.2.2)) := FrA.rf.si (Or.inl rfl)
              have R14 := R12.fa A14 (fun _ q => SF_ok l6 q)
              have P14 : FlP (zSi y12 66 (b + 53 + 2 * nFw N) (jI (nxT t n T).2.2.2)) b (nFw N) M := ⟨by rw [zi_Si, if_neg (by omega)]; exact P8.1, P8.2⟩
              have K14 : FlK (zSi y12 66 (b + 53 + 2 * nFw N) (jI (nxT t n T).2.2.2)) b (nFw N) ((nxT t n T).2.2.2) a2 a3 := ⟨by rw [zi_same], by rw [zi_Si, if_neg (by omega)]; exact K8.2.1, by rw [zi_Si, if_neg (by omega)]; exact K8.2.2.1, by rw [zi_Si, if_neg (by omega)]; exact K8.2.2.2.1, by rw [zi_Si, if_neg (by omega)]; exact K8.2.2.2.2.1, by rw [zi_Si, if_neg (by omega)]; exact K8.2.2.2.2.2.1, by rw [zi_Si, if_neg (by omega)]; exact K8.2.2.2.2.2.2.1, by rw [zi_Si, if_neg (by omega)]; exact K8.2.2.2.2.2.2.2⟩
              have l14 : zi (zSi y12 66 (b + 53 + 2 * nFw N) (jI (nxT t n T).2.2.2)) 263 r = bI true := by rw [zi_Si, if_neg (by omega)]; exact l8
              have Z14 : FrA (SB b r) h (zSi y12 66 (b + 53 + 2 * nFw N) (jI (nxT t n T).2.2.2)) := (Z7.tr (SB.ff f12) (fun _ q => q)).tr A14 (fun _ q => SF_B l6 q)
              generalize zSi y12 66 (b + 53 + 2 * nFw N) (jI (nxT t n T).2.2.2) = z14 at R14 P14 K14 l14 Z14 ⊢
              refine g_goto (tgt := 117) dX8_readMark_108 (by decide) ?_
              refine g_aload_n 1 dX8_readMark_117 rfl rfl ?_
              refine g_invv (M' := mX8_advance) (As := []) (rest := []) dX8_readMark_118 ml_X8_43 okX8_advance imX8_advance seX8_advance ⟨(Nat.le_of_ble_eq_true rfl), (Nat.le_of_ble_eq_true rfl)⟩ (ci := 8) rfl rfl R14.2.1.1.1 rfl rfl (Nat.le_of_ble_eq_true rfl) (c_advance R14.2.1 R14.2.2.1.2.2.1 R14.2.2.2.1.2.2.1) ?_
              rintro _ y15 ⟨rfl, k15, f15⟩
              show zG l w mX8_readMark 121 [(2, .int (nI kk)), (0, .ref r), (1, .ref (b + 53 + 2 * nFw N))] [] y15 _
              have R15 := R14.tk (T' := nxT t n (nxT t n T)) k15 (nxT_ok R14.2.2.2.1).1 f15
              refine g_iconst (v := bI true) dX8_readMark_121 (by decide) ?_
              refine g_zreturn dX8_readMark_122 rfl (bI_nar _) ?_
              rw [show mkR t n T a1 a2 a3 tl = .inr (nxT t n (nxT t n T), ((nxT t n T).2.2.2, a2, a3), true) from by unfold mkR; rw [if_neg (show ¬ keyN t T < 3 by omega), if_pos c3, if_neg (show ¬ tl = true by rw [c1]; decide), if_pos o1]]
              exact ⟨rfl, R15, ⟨P14.ff f15 rr l6, K14.ff f15 rr l6, by rw [f15.2.2.2.2 _ _ (by omega)]; exact l14⟩, (Z14.tr (SB.ff f15) (fun _ q => q))⟩
            · cases dx
          · refine g_invv (M' := mX8_nextNumber) (As := [.int (nI 0), .int (nI 9999)]) (rest := []) dX8_readMark_92 ml_X8_72 okX8_nextNumber imX8_nextNumber seX8_nextNumber ⟨(Nat.le_of_ble_eq_true rfl), (Nat.le_of_ble_eq_true rfl)⟩ (ci := 8) rfl rfl R7.2.1.1.1 rfl rfl (Nat.le_of_ble_eq_true rfl) (c_nnF R7 (by omega) (by omega) (Bool.eq_false_iff.mpr o1)) ?_
            rintro _ y13 ⟨rfl, E13, f13⟩
            show zG l w mX8_readMark 95 [(2, .int (nI kk)), (0, .ref r), (1, .ref (b + 53 + 2 * nFw N))] [.int (bI false)] y13 _
            refine g_bif_ne (tgt := 100) dX8_readMark_95 (by decide) (fun dx => ?_) (fun dx => ?_)
            · cases dx
            · refine g_iconst (v := bI false) dX8_readMark_98 (by decide) ?_
              refine g_zreturn dX8_readMark_99 rfl (bI_nar _) ?_
              rw [show mkR t n T a1 a2 a3 tl = .inl (nuF (nxT t n T)) from by unfold mkR; rw [if_neg (show ¬ keyN t T < 3 by omega), if_pos c3, if_neg (show ¬ tl = true by rw [c1]; decide), if_neg o1]]
              exact ⟨rfl, E13, R7.tw h6 (f13.mono (by omega) (by omega)), Q7.ff f13 rr l6, (Z7.tr (SB.ff f13) (fun _ q => q))⟩
        · refine g_aload_n 1 dX8_readMark_76 rfl rfl ?_
          refine g_iconst (v := nI 5) dX8_readMark_77 (by decide) ?_
          refine g_invv (M' := mX8_stopWith) (As := [.int (nI 5)]) (rest := []) dX8_readMark_78 ml_X8_64 okX8_stopWith imX8_stopWith seX8_stopWith ⟨(Nat.le_of_ble_eq_true rfl), (Nat.le_of_ble_eq_true rfl)⟩ (ci := 8) rfl rfl R.2.1.1.1 rfl rfl (Nat.le_of_ble_eq_true rfl) (c_stopW R.2.1.1.1 R.2.2.1 R.2.2.2.1) ?_
          rintro _ y11 ⟨rfl, fa11, fb11, f11⟩
          show zG l w mX8_readMark 81 [(2, .int (nI kk)), (0, .ref r), (1, .ref (b + 53 + 2 * nFw N))] [.int (bI false)] y11 _
          refine g_zreturn dX8_readMark_81 rfl (bI_nar _) ?_
          rw [show mkR t n T a1 a2 a3 tl = .inl (flt T 5) from by unfold mkR; rw [if_neg (show ¬ keyN t T < 3 by omega), if_pos c3, if_pos c1]]
          exact ⟨rfl, ⟨fa11, fb11⟩, R.tw h6 (f11.mono (by omega) (by omega)), FP.ff f11 rr l6, SB.ff f11⟩
    · have c7 : keyN t T = 7 := of_decide_eq_true c7
      refine g_aload_n 2 dX8_readMark_39 rfl rfl ?_
      refine g_geti (f := 68) dX8_readMark_40 fl_X8_148 (R.1.1.2.2.2.2.2.2.2.2.2 (nFw N) l6).2.1 (by decide) rfl ?_
      rw [show zi h 68 (b + 53 + 2 * nFw N) = jI a3 from K.2.2.1]
      refine g_zif_ne (a := a3) (tgt := 52) rfl dX8_readMark_43 (by decide) (by omega) (fun c1 => ?_) (fun c1 => ?_)
      · refine g_aload_n 2 dX8_readMark_52 rfl rfl ?_
        refine g_iconst (v := nI 0) dX8_readMark_53 (by decide) ?_
        refine g_putz (f := 68) dX8_readMark_54 fl_X8_148 (Or.inl rfl) (R.1.1.2.2.2.2.2.2.2.2.2 (nFw N) l6).2.1 rfl (by decide) ?_
        have A7 : FrA (SF b (nFw N)) h (zSi h 68 (b + 53 + 2 * nFw N) (nI 0)) := FrA.rf.si (Or.inl rfl)
        have R7 := R.fa A7 (fun _ q => SF_ok l6 q)
        have P7 : FlP (zSi h 68 (b + 53 + 2 * nFw N) (nI 0)) b (nFw N) M := ⟨by rw [zi_Si, if_neg (by omega)]; exact P.1, P.2⟩
        have K7 : FlK (zSi h 68 (b + 53 + 2 * nFw N) (nI 0)) b (nFw N) a1 a2 0 := ⟨by rw [zi_Si, if_neg (by omega)]; exact K.1, by rw [zi_Si, if_neg (by omega)]; exact K.2.1, by rw [zi_same]; rfl, by rw [zi_Si, if_neg (by omega)]; exact K.2.2.2.1, by rw [zi_Si, if_neg (by omega)]; exact K.2.2.2.2.1, by rw [zi_Si, if_neg (by omega)]; exact K.2.2.2.2.2.1, by rw [zi_Si, if_neg (by omega)]; exact K.2.2.2.2.2.2.1, by rw [zi_Si, if_neg (by omega)]; exact K.2.2.2.2.2.2.2⟩
        have l7 : zi (zSi h 68 (b + 53 + 2 * nFw N) (nI 0)) 263 r = bI tl := by rw [zi_Si, if_neg (by omega)]; exact hl
        have Z7 : FrA (SB b r) h (zSi h 68 (b + 53 + 2 * nFw N) (nI 0)) := FrA.rf.tr A7 (fun _ q => SF_B l6 q)
        generalize zSi h 68 (b + 53 + 2 * nFw N) (nI 0) = z7 at R7 P7 K7 l7 Z7 ⊢
        refine g_goto (tgt := 117) dX8_readMark_57 (by decide) ?_
        refine g_aload_n 1 dX8_readMark_117 rfl rfl ?_
        refine g_invv (M' := mX8_advance) (As := []) (rest := []) dX8_readMark_118 ml_X8_43 okX8_advance imX8_advance seX8_advance ⟨(Nat.le_of_ble_eq_true rfl), (Nat.le_of_ble_eq_true rfl)⟩ (ci := 8) rfl rfl R7.2.1.1.1 rfl rfl (Nat.le_of_ble_eq_true rfl) (c_advance R7.2.1 R7.2.2.1.2.2.1 R7.2.2.2.1.2.2.1) ?_
        rintro _ y8 ⟨rfl, k8, f8⟩
        show zG l w mX8_readMark 121 [(2, .int (nI kk)), (0, .ref r), (1, .ref (b + 53 + 2 * nFw N))] [] y8 _
        have R8 := R7.tk (T' := nxT t n T) k8 (nxT_ok R7.2.2.2.1).1 f8
        refine g_iconst (v := bI true) dX8_readMark_121 (by decide) ?_
        refine g_zreturn dX8_readMark_122 rfl (bI_nar _) ?_
        rw [show mkR t n T a1 a2 a3 tl = .inr (nxT t n T, (a1, a2, 0), tl) from by unfold mkR; rw [if_neg (show ¬ keyN t T < 3 by omega), if_neg (show ¬ keyN t T = 3 by omega), if_neg (show ¬ keyN t T < 7 by omega), if_neg c1]]
        exact ⟨rfl, R8, ⟨P7.ff f8 rr l6, K7.ff f8 rr l6, by rw [f8.2.2.2.2 _ _ (by omega)]; exact l7⟩, (Z7.tr (SB.ff f8) (fun _ q => q))⟩
      · refine g_aload_n 1 dX8_readMark_46 rfl rfl ?_
        refine g_iconst (v := nI 5) dX8_readMark_47 (by decide) ?_
        refine g_invv (M' := mX8_stopWith) (As := [.int (nI 5)]) (rest := []) dX8_readMark_48 ml_X8_64 okX8_stopWith imX8_stopWith seX8_stopWith ⟨(Nat.le_of_ble_eq_true rfl), (Nat.le_of_ble_eq_true rfl)⟩ (ci := 8) rfl rfl R.2.1.1.1 rfl rfl (Nat.le_of_ble_eq_true rfl) (c_stopW R.2.1.1.1 R.2.2.1 R.2.2.2.1) ?_
        rintro _ y6 ⟨rfl, fa6, fb6, f6⟩
        show zG l w mX8_readMark 51 [(2, .int (nI kk)), (0, .ref r), (1, .ref (b + 53 + 2 * nFw N))] [.int (bI false)] y6 _
        refine g_zreturn dX8_readMark_51 rfl (bI_nar _) ?_
        rw [show mkR t n T a1 a2 a3 tl = .inl (flt T 5) from by unfold mkR; rw [if_neg (show ¬ keyN t T < 3 by omega), if_neg (show ¬ keyN t T = 3 by omega), if_neg (show ¬ keyN t T < 7 by omega), if_pos c1]]
        exact ⟨rfl, ⟨fa6, fb6⟩, R.tw h6 (f6.mono (by omega) (by omega)), FP.ff f6 rr l6, SB.ff f6⟩
  · have g37 := kk3.2.1.mpr (by omega)
    have gk := kk3.2.2 (by omega)
    refine g_aload_n 2 dX8_readMark_9 rfl rfl ?_
    refine g_geti (f := 67) dX8_readMark_10 fl_X8_143 (R.1.1.2.2.2.2.2.2.2.2.2 (nFw N) l6).2.1 (by decide) rfl ?_
    rw [show zi h 67 (b + 53 + 2 * nFw N) = jI a2 from K.2.1]
    refine g_zif_eq (a := a2) (tgt := 22) rfl dX8_readMark_13 (by decide) (by omega) (fun c1 => ?_) (fun c1 => ?_)
    · refine g_aload_n 2 dX8_readMark_22 rfl rfl ?_
      refine g_iload_n 0 dX8_readMark_23 rfl rfl ?_
      refine g_puti (f := 67) dX8_readMark_24 fl_X8_143 (Or.inl rfl) (R.1.1.2.2.2.2.2.2.2.2.2 (nFw N) l6).2.1 rfl ?_
      have A3 : FrA (SF b (nFw N)) h (zSi h 67 (b + 53 + 2 * nFw N) (nI kk)) := FrA.rf.si (Or.inl rfl)
      have R3 := R.fa A3 (fun _ q => SF_ok l6 q)
      have P3 : FlP (zSi h 67 (b + 53 + 2 * nFw N) (nI kk)) b (nFw N) M := ⟨by rw [zi_Si, if_neg (by omega)]; exact P.1, P.2⟩
      have K3 : FlK (zSi h 67 (b + 53 + 2 * nFw N) (nI kk)) b (nFw N) a1 (keyN t T - 3) a3 := ⟨by rw [zi_Si, if_neg (by omega)]; exact K.1, by rw [zi_same]; rw [← jI_nat, gk], by rw [zi_Si, if_neg (by omega)]; exact K.2.2.1, by rw [zi_Si, if_neg (by omega)]; exact K.2.2.2.1, by rw [zi_Si, if_neg (by omega)]; exact K.2.2.2.2.1, by rw [zi_Si, if_neg (by omega)]; exact K.2.2.2.2.2.1, by rw [zi_Si, if_neg (by omega)]; exact K.2.2.2.2.2.2.1, by rw [zi_Si, if_neg (by omega)]; exact K.2.2.2.2.2.2.2⟩
      have l3 : zi (zSi h 67 (b + 53 + 2 * nFw N) (nI kk)) 263 r = bI tl := by rw [zi_Si, if_neg (by omega)]; exact hl
      have Z3 : FrA (SB b r) h (zSi h 67 (b + 53 + 2 * nFw N) (nI kk)) := FrA.rf.tr A3 (fun _ q => SF_B l6 q)
      generalize zSi h 67 (b + 53 + 2 * nFw N) (nI kk) = z3 at R3 P3 K3 l3 Z3 ⊢
      refine g_goto (tgt := 117) dX8_readMark_27 (by decide) ?_
      refine g_aload_n 1 dX8_readMark_117 rfl rfl ?_
      refine g_invv (M' := mX8_advance) (As := []) (rest := []) dX8_readMark_118 ml_X8_43 okX8_advance imX8_advance seX8_advance ⟨(Nat.le_of_ble_eq_true rfl), (Nat.le_of_ble_eq_true rfl)⟩ (ci := 8) rfl rfl R3.2.1.1.1 rfl rfl (Nat.le_of_ble_eq_true rfl) (c_advance R3.2.1 R3.2.2.1.2.2.1 R3.2.2.2.1.2.2.1) ?_
      rintro _ y4 ⟨rfl, k4, f4⟩
      show zG l w mX8_readMark 121 [(2, .int (nI kk)), (0, .ref r), (1, .ref (b + 53 + 2 * nFw N))] [] y4 _
      have R4 := R3.tk (T' := nxT t n T) k4 (nxT_ok R3.2.2.2.1).1 f4
      refine g_iconst (v := bI true) dX8_readMark_121 (by decide) ?_
      refine g_zreturn dX8_readMark_122 rfl (bI_nar _) ?_
      rw [show mkR t n T a1 a2 a3 tl = .inr (nxT t n T, (a1, keyN t T - 3, a3), tl) from by unfold mkR; rw [if_neg (show ¬ keyN t T < 3 by omega), if_neg (show ¬ keyN t T = 3 by omega), if_pos (show keyN t T < 7 by omega), if_pos c1]]
      exact ⟨rfl, R4, ⟨P3.ff f4 rr l6, K3.ff f4 rr l6, by rw [f4.2.2.2.2 _ _ (by omega)]; exact l3⟩, (Z3.tr (SB.ff f4) (fun _ q => q))⟩
    · refine g_aload_n 1 dX8_readMark_16 rfl rfl ?_
      refine g_iconst (v := nI 5) dX8_readMark_17 (by decide) ?_
      refine g_invv (M' := mX8_stopWith) (As := [.int (nI 5)]) (rest := []) dX8_readMark_18 ml_X8_64 okX8_stopWith imX8_stopWith seX8_stopWith ⟨(Nat.le_of_ble_eq_true rfl), (Nat.le_of_ble_eq_true rfl)⟩ (ci := 8) rfl rfl R.2.1.1.1 rfl rfl (Nat.le_of_ble_eq_true rfl) (c_stopW R.2.1.1.1 R.2.2.1 R.2.2.2.1) ?_
      rintro _ y2 ⟨rfl, fa2, fb2, f2⟩
      show zG l w mX8_readMark 21 [(2, .int (nI kk)), (0, .ref r), (1, .ref (b + 53 + 2 * nFw N))] [.int (bI false)] y2 _
      refine g_zreturn dX8_readMark_21 rfl (bI_nar _) ?_
      rw [show mkR t n T a1 a2 a3 tl = .inl (flt T 5) from by unfold mkR; rw [if_neg (show ¬ keyN t T < 3 by omega), if_neg (show ¬ keyN t T = 3 by omega), if_pos (show keyN t T < 7 by omega), if_neg c1]]
      exact ⟨rfl, ⟨fa2, fb2⟩, R.tw h6 (f2.mono (by omega) (by omega)), FP.ff f2 rr l6, SB.ff f2⟩
end CRP
