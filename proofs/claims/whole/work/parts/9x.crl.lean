section CRL
variable {l : Launch} {w : zW} {h y : zH} {b r p n : Nat} {t : Nat → Nat} {T T' : tkT} {lt ls : Nat → List Nat} {N N' M : nT} {a f c : Nat} {q : rR} {u : Option Value}
theorem SL_ok (S : ClS h b) (l6 : nLk N < 6) (q : SL b (nLk N) c) : okS h b N c ∧ b ≤ c ∧ c < b + 65 := by
  have k := S.2.2.2.2.2.2.2.2.1 (nLk N) l6
  have k3 : zk h c ≠ 3 := by
    rcases q with q | q
    · rw [q, k.2.1]; omega
    · have e : c = b + 11 + 7 * nLk N + 3 + 0 ∨ c = b + 11 + 7 * nLk N + 3 + 1 ∨ c = b + 11 + 7 * nLk N + 3 + 2 ∨ c = b + 11 + 7 * nLk N + 6 := by omega
      rcases e with e | e | e | e
      · rw [e, (k.2.2.2.2.1 0 (by omega)).2.1]; omega
      · rw [e, (k.2.2.2.2.1 1 (by omega)).2.1]; omega
      · rw [e, (k.2.2.2.2.1 2 (by omega)).2.1]; omega
      · rw [e, k.2.2.2.2.2.2]; omega
  unfold SL at q
  exact ⟨Or.inr (Or.inl ⟨by omega, by omega, l6, k3⟩), by omega, by omega⟩
theorem nLk_le (h : pz N) : nLk N + 0 ≤ 6 := by have := h.1; unfold nLk; omega
theorem SL_B (l6 : a < 6) (q : SL b a c) : SB b r c := by unfold SL at q; exact Or.inr (by omega)
theorem OC.tr (F : FrA (SB b r) h y) {h1 : zH} (k : OC b r p n t lt y q u h1) : OC b r p n t lt h q u h1 := by
  cases q with
  | inl e => exact ⟨k.1, k.2.1, k.2.2.1, F.tr k.2.2.2 (fun _ q => q)⟩
  | inr s => exact ⟨k.1, k.2.1, F.tr k.2.2 (fun _ q => q)⟩
theorem LkA.lb {v : Int32} (z : lkZ N a) (e0 : zi y 128 (b + 11 + 7 * a) = jI (nA N (8 + 40 * a + 0))) (e1 : zi y 129 (b + 11 + 7 * a) = jI (nA N (8 + 40 * a + 1))) (e2 : zi y 130 (b + 11 + 7 * a) = jI (nA N (8 + 40 * a + 2))) (e3 : zi y 131 (b + 11 + 7 * a) = jI (nA N (8 + 40 * a + 3))) (hv : v = jI (nA N (8 + 40 * a + 2))) : LkA (lbZ y b a v) b N a := by
  obtain ⟨v34, v35, v43, v41, v42, v44, v28, v29, v30, v31, v36, l8, l9, l10, l11, l12, l13, rw6⟩ := lbZ_at (h := y) (b := b) (a := a) (v := v)
  obtain ⟨-, z7, z10, z11, zr⟩ := z
  have z0 : ∀ j, 4 ≤ j → j < 40 → j ≠ 7 → j ≠ 10 → j ≠ 11 → jI (nA N (8 + 40 * a + j)) = nI 0 ∧ jL (nA N (8 + 40 * a + j)) = jL 0 := fun j h1 h2 h3 h4 h5 => by rw [zr j h1 h2 h3 h4 h5]; exact ⟨rfl, rfl⟩
  refine ⟨fun j hj => ?_, ?_, fun j h8 h14 => ?_, fun f hf => ?_⟩
  · have c : j = 0 ∨ j = 1 ∨ j = 2 ∨ j = 3 ∨ j = 6 ∨ j = 7 ∨ j = 14 ∨ j = 15 ∨ j = 16 ∨ j = 17 := by unfold lkJ at hj; omega
    rcases c with c | c | c | c | c | c | c | c | c | c <;> subst c
    · exact v28.trans e0
    · exact v29.trans e1
    · exact v30.trans e2
    · exact v31.trans e3
    · rw [(z0 6 (by omega) (by omega) (by omega) (by omega) (by omega)).1]; exact v34
    · rw [z7]; exact v35.trans hv
    · rw [(z0 14 (by omega) (by omega) (by omega) (by omega) (by omega)).1]; exact v41
    · rw [(z0 15 (by omega) (by omega) (by omega) (by omega) (by omega)).1]; exact v42
    · rw [(z0 16 (by omega) (by omega) (by omega) (by omega) (by omega)).1]; exact v43
    · rw [(z0 17 (by omega) (by omega) (by omega) (by omega) (by omega)).1]; exact v44
  · rw [(z0 18 (by omega) (by omega) (by omega) (by omega) (by omega)).2]; exact v36
  · have c : j = 8 ∨ j = 9 ∨ j = 10 ∨ j = 11 ∨ j = 12 ∨ j = 13 := by omega
    rcases c with c | c | c | c | c | c <;> subst c
    · rw [(z0 8 (by omega) (by omega) (by omega) (by omega) (by omega)).2]; exact l8
    · rw [(z0 9 (by omega) (by omega) (by omega) (by omega) (by omega)).2]; exact l9
    · rw [z10]; exact l10
    · rw [z11]; exact l11
    · rw [(z0 12 (by omega) (by omega) (by omega) (by omega) (by omega)).2]; exact l12
    · rw [(z0 13 (by omega) (by omega) (by omega) (by omega) (by omega)).2]; exact l13
  · obtain ⟨r3, r4, r5⟩ := rw6 f hf
    have zf := zr (20 + f) (by omega) (by omega) (by omega) (by omega) (by omega)
    exact ⟨by rw [zf]; exact r3, fun _ => ⟨r4, r5⟩, fun q => absurd zf q⟩
theorem SB.o (l6 : nLk N < 6) : SB b r (b + 11 + 7 * nLk N) := Or.inr (by omega)
theorem c_readLink (R : RdC h b r p n t lt N T 0 0) (hz : pz N) : zM l w mX8_readLink [.ref r] h (OC b r p n t lt h (bnd (linkR t n T N) (signR t n))) := by
  refine zM.of (by decide) (Nat.le_of_ble_eq_true rfl) ?_
  have S := R.1.1
  have rr := R.2.2.2.2.2.2.1
  have H0 := hz.1
  have n1 : zi h 161 b = nI (nLk N) := R.1.2.2.1.1
  refine g_aload_n 0 dX8_readLink_0 rfl rfl ?_
  refine g_getr (f := 262) (b := b) dX8_readLink_1 fl_X8_25 R.2.1.1.1 rfl R.2.2.2.2.1 ?_
  by_cases c : nA N 0 = 6
  · refine g_invv (M' := mX5_addLink) (As := []) (rest := []) dX8_readLink_4 ml_X8_68 okX5_addLink imX5_addLink seX5_addLink ⟨(Nat.le_of_ble_eq_true rfl), (Nat.le_of_ble_eq_true rfl)⟩ (ci := 5) rfl rfl R.1.1.1.2 rfl rfl (Nat.le_of_ble_eq_true rfl) (c_addLink6 S n1 (by unfold nLk; omega)) ?_
    rintro _ q1 ⟨rfl, eq1⟩
    subst q1
    show zG l w mX8_readLink 7 [(0, .ref r)] [.null] h _
    refine g_astore_nN (lv2 := [(1, .null), (0, .ref r)]) dX8_readLink_7 rfl (by decide) rfl ?_
    refine g_aload_nN 0 dX8_readLink_8 rfl rfl ?_
    refine g_ifnonnullN dX8_readLink_9 ?_
    refine g_aload_n 1 dX8_readLink_12 rfl rfl ?_
    refine g_bipush (v := nI 6) dX8_readLink_13 (by decide) ?_
    refine g_invv (M' := mX8_stopWith) (As := [.int (nI 6)]) (rest := []) dX8_readLink_15 ml_X8_64 okX8_stopWith imX8_stopWith seX8_stopWith ⟨(Nat.le_of_ble_eq_true rfl), (Nat.le_of_ble_eq_true rfl)⟩ (ci := 8) rfl rfl R.2.1.1.1 rfl rfl (Nat.le_of_ble_eq_true rfl) (c_stopW R.2.1.1.1 R.2.2.1 R.2.2.2.1) ?_
    rintro _ y1 ⟨rfl, fa1, fb1, f1⟩
    show zG l w mX8_readLink 18 [(1, .null), (0, .ref r)] [.int (bI false)] y1 _
    refine g_zreturn dX8_readLink_18 rfl (bI_nar _) ?_
    rw [show linkR t n T N = .inl (flt T 6) from by unfold linkR; rw [if_pos c]]
    exact ⟨rfl, ⟨fa1, fb1⟩, R.tw (by unfold nLk; omega) (f1.mono (by omega) (by omega)), SB.ff f1⟩
  · obtain ⟨l6, lq⟩ := nLk_lt hz c
    refine g_invv (M' := mX5_addLink) (As := []) (rest := []) dX8_readLink_4 ml_X8_68 okX5_addLink imX5_addLink seX5_addLink ⟨(Nat.le_of_ble_eq_true rfl), (Nat.le_of_ble_eq_true rfl)⟩ (ci := 5) rfl rfl R.1.1.1.2 rfl rfl (Nat.le_of_ble_eq_true rfl) (c_addLinkC S n1 l6) ?_
    rintro _ q1 ⟨rfl, eq1⟩
    subst q1
    show zG l w mX8_readLink 7 [(0, .ref r)] [.ref (b + 11 + 7 * nLk N)] (zSi h 161 b (nI (nLk N + 1))) _
    have R0 := R.cnt (f := 161) (v := nI (nLk N + 1)) (i' := 1) (j' := 0) (Or.inl ⟨rfl, rfl, rfl⟩)
    have A0 : FrA (SB b r) h (zSi h 161 b (nI (nLk N + 1))) := FrA.rf.si (Or.inr (by omega))
    generalize zSi h 161 b (nI (nLk N + 1)) = y0 at R0 A0 ⊢
    refine g_astore_n (lv2 := [(1, .ref (b + 11 + 7 * nLk N)), (0, .ref r)]) dX8_readLink_7 rfl (by decide) rfl ?_
    refine g_aload_n 0 dX8_readLink_8 rfl rfl ?_
    refine g_ifnonnull (tgt := 19) dX8_readLink_9 (by decide) ?_
    refine g_aload_n 1 dX8_readLink_19 rfl rfl ?_
    refine g_iconst (v := nI 1) dX8_readLink_20 (by decide) ?_
    refine g_bipush (v := nI 9) dX8_readLink_21 (by decide) ?_
    by_cases o1 : okB (nxT t n T) 1 9 = true
    · refine g_invv (M' := mX8_nextNumber) (As := [.int (nI 1), .int (nI 9)]) (rest := []) dX8_readLink_23 ml_X8_72 okX8_nextNumber imX8_nextNumber seX8_nextNumber ⟨(Nat.le_of_ble_eq_true rfl), (Nat.le_of_ble_eq_true rfl)⟩ (ci := 8) rfl rfl R0.2.1.1.1 rfl rfl (Nat.le_of_ble_eq_true rfl) (c_nnT R0 (by omega) (by omega) o1) ?_
      rintro _ y2 ⟨rfl, R2, f2⟩
      show zG l w mX8_readLink 26 [(1, .ref (b + 11 + 7 * nLk N)), (0, .ref r)] [.int (bI true)] y2 _
      have t2 := (okB_t o1).1
      refine g_bif_ne (tgt := 31) dX8_readLink_26 (by decide) (fun dx => ?_) (fun dx => ?_)
      · refine g_aload_n 0 dX8_readLink_31 rfl rfl ?_
        refine g_aload_n 1 dX8_readLink_32 rfl rfl ?_
        refine g_geti (f := 261) dX8_readLink_33 fl_X8_76 R2.2.1.1.1 (by decide) rfl ?_
        rw [show zi y2 261 r = jI (nxT t n T).2.2.2 from R2.2.2.1.2.2.2 t2]
        refine g_puti (f := 128) dX8_readLink_36 fl_X8_79 (Or.inl rfl) (R2.1.1.2.2.2.2.2.2.2.2.1 (nLk N) l6).2.1 rfl ?_
        have R4 : RdC (zSi y2 128 (b + 11 + 7 * nLk N) (jI (nxT t n T).2.2.2)) b r p n t lt N (nxT t n T) 1 0 := R2.fa (S := SL b (nLk N)) (FrA.rf.si (Or.inl rfl)) (fun _ q => SL_ok R2.1.1 l6 q)
        have g128_4 : zi (zSi y2 128 (b + 11 + 7 * nLk N) (jI (nxT t n T).2.2.2)) 128 (b + 11 + 7 * nLk N) = jI (nxT t n T).2.2.2 := (by rw [zi_Si, if_pos ⟨rfl, rfl⟩])
        have A4 : FrA (SB b r) h (zSi y2 128 (b + 11 + 7 * nLk N) (jI (nxT t n T).2.2.2)) := ((A0.tr (SB.ff f2) (fun _ q => q)).si (SB.o l6))
        generalize zSi y2 128 (b + 11 + 7 * nLk N) (jI (nxT t n T).2.2.2) = z4 at R4 A4 g128_4 ⊢
        refine g_aload_n 1 dX8_readLink_39 rfl rfl ?_
        refine g_iconst (v := nI 1) dX8_readLink_40 (by decide) ?_
        refine g_bipush (v := nI 9) dX8_readLink_41 (by decide) ?_
        by_cases o2 : okB (nxT t n (nxT t n T)) 1 9 = true
        · refine g_invv (M' := mX8_nextNumber) (As := [.int (nI 1), .int (nI 9)]) (rest := []) dX8_readLink_43 ml_X8_72 okX8_nextNumber imX8_nextNumber seX8_nextNumber ⟨(Nat.le_of_ble_eq_true rfl), (Nat.le_of_ble_eq_true rfl)⟩ (ci := 8) rfl rfl R4.2.1.1.1 rfl rfl (Nat.le_of_ble_eq_true rfl) (c_nnT R4 (by omega) (by omega) o2) ?_
          rintro _ y5 ⟨rfl, R5, f5⟩
          show zG l w mX8_readLink 46 [(1, .ref (b + 11 + 7 * nLk N)), (0, .ref r)] [.int (bI true)] y5 _
          have t2 := (okB_t o2).1
          refine g_bif_ne (tgt := 51) dX8_readLink_46 (by decide) (fun dx => ?_) (fun dx => ?_)
          · refine g_aload_n 0 dX8_readLink_51 rfl rfl ?_
            refine g_aload_n 1 dX8_readLink_52 rfl rfl ?_
            refine g_geti (f := 261) dX8_readLink_53 fl_X8_76 R5.2.1.1.1 (by decide) rfl ?_
            rw [show zi y5 261 r = jI (nxT t n (nxT t n T)).2.2.2 from R5.2.2.1.2.2.2 t2]
            refine g_puti (f := 129) dX8_readLink_56 fl_X8_84 (Or.inl rfl) (R5.1.1.2.2.2.2.2.2.2.2.1 (nLk N) l6).2.1 rfl ?_
            have R7 : RdC (zSi y5 129 (b + 11 + 7 * nLk N) (jI (nxT t n (nxT t n T)).2.2.2)) b r p n t lt N (nxT t n (nxT t n T)) 1 0 := R5.fa (S := SL b (nLk N)) (FrA.rf.si (Or.inl rfl)) (fun _ q => SL_ok R5.1.1 l6 q)
            have g128_7 : zi (zSi y5 129 (b + 11 + 7 * nLk N) (jI (nxT t n (nxT t n T)).2.2.2)) 128 (b + 11 + 7 * nLk N) = jI (nxT t n T).2.2.2 := (by rw [zi_Si, if_neg (by omega)]; exact ((f5.2.2.2.2 128 _ (Or.inl (by omega))).trans g128_4))
            have g129_7 : zi (zSi y5 129 (b + 11 + 7 * nLk N) (jI (nxT t n (nxT t n T)).2.2.2)) 129 (b + 11 + 7 * nLk N) = jI (nxT t n (nxT t n T)).2.2.2 := (by rw [zi_Si, if_pos ⟨rfl, rfl⟩])
            have A7 : FrA (SB b r) h (zSi y5 129 (b + 11 + 7 * nLk N) (jI (nxT t n (nxT t n T)).2.2.2)) := ((A4.tr (SB.ff f5) (fun _ q => q)).si (SB.o l6))
            generalize zSi y5 129 (b + 11 + 7 * nLk N) (jI (nxT t n (nxT t n T)).2.2.2) = z7 at R7 A7 g128_7 g129_7 ⊢
            refine g_aload_n 1 dX8_readLink_59 rfl rfl ?_
            refine g_iconst (v := nI 1) dX8_readLink_60 (by decide) ?_
            refine g_bipush (v := nI 60) dX8_readLink_61 (by decide) ?_
            by_cases o3 : okB (nxT t n (nxT t n (nxT t n T))) 1 60 = true
            · refine g_invv (M' := mX8_nextNumber) (As := [.int (nI 1), .int (nI 60)]) (rest := []) dX8_readLink_63 ml_X8_72 okX8_nextNumber imX8_nextNumber seX8_nextNumber ⟨(Nat.le_of_ble_eq_true rfl), (Nat.le_of_ble_eq_true rfl)⟩ (ci := 8) rfl rfl R7.2.1.1.1 rfl rfl (Nat.le_of_ble_eq_true rfl) (c_nnT R7 (by omega) (by omega) o3) ?_
              rintro _ y8 ⟨rfl, R8, f8⟩
              show zG l w mX8_readLink 66 [(1, .ref (b + 11 + 7 * nLk N)), (0, .ref r)] [.int (bI true)] y8 _
              have t2 := (okB_t o3).1
              refine g_bif_ne (tgt := 71) dX8_readLink_66 (by decide) (fun dx => ?_) (fun dx => ?_)
              · refine g_aload_n 0 dX8_readLink_71 rfl rfl ?_
                refine g_aload_n 1 dX8_readLink_72 rfl rfl ?_
                refine g_geti (f := 261) dX8_readLink_73 fl_X8_76 R8.2.1.1.1 (by decide) rfl ?_
                rw [show zi y8 261 r = jI (nxT t n (nxT t n (nxT t n T))).2.2.2 from R8.2.2.1.2.2.2 t2]
                refine g_puti (f := 130) dX8_readLink_76 fl_X8_87 (Or.inl rfl) (R8.1.1.2.2.2.2.2.2.2.2.1 (nLk N) l6).2.1 rfl ?_
                refine g_aload_n 0 dX8_readLink_79 rfl rfl ?_
                refine g_bipush (v := nI 10) dX8_readLink_80 (by decide) ?_
                refine g_puti (f := 131) dX8_readLink_82 fl_X8_90 (Or.inl rfl) (R8.1.1.2.2.2.2.2.2.2.2.1 (nLk N) l6).2.1 rfl ?_
                have R10 : RdC (zSi (zSi y8 130 (b + 11 + 7 * nLk N) (jI (nxT t n (nxT t n (nxT t n T))).2.2.2)) 131 (b + 11 + 7 * nLk N) (nI 10)) b r p n t lt N (nxT t n (nxT t n (nxT t n T))) 1 0 := R8.fa (S := SL b (nLk N)) ((FrA.rf.si (Or.inl rfl)).si (Or.inl rfl)) (fun _ q => SL_ok R8.1.1 l6 q)
                have g128_10 : zi (zSi (zSi y8 130 (b + 11 + 7 * nLk N) (jI (nxT t n (nxT t n (nxT t n T))).2.2.2)) 131 (b + 11 + 7 * nLk N) (nI 10)) 128 (b + 11 + 7 * nLk N) = jI (nxT t n T).2.2.2 := (by rw [zi_Si, if_neg (by omega), zi_Si, if_neg (by omega)]; exact ((f8.2.2.2.2 128 _ (Or.inl (by omega))).trans g128_7))
                have g129_10 : zi (zSi (zSi y8 130 (b + 11 + 7 * nLk N) (jI (nxT t n (nxT t n (nxT t n T))).2.2.2)) 131 (b + 11 + 7 * nLk N) (nI 10)) 129 (b + 11 + 7 * nLk N) = jI (nxT t n (nxT t n T)).2.2.2 := (by rw [zi_Si, if_neg (by omega), zi_Si, if_neg (by omega)]; exact ((f8.2.2.2.2 129 _ (Or.inl (by omega))).trans g129_7))
                have g130_10 : zi (zSi (zSi y8 130 (b + 11 + 7 * nLk N) (jI (nxT t n (nxT t n (nxT t n T))).2.2.2)) 131 (b + 11 + 7 * nLk N) (nI 10)) 130 (b + 11 + 7 * nLk N) = jI (nxT t n (nxT t n (nxT t n T))).2.2.2 := (by rw [zi_Si, if_neg (by omega), zi_Si, if_pos ⟨rfl, rfl⟩])
                have g131_10 : zi (zSi (zSi y8 130 (b + 11 + 7 * nLk N) (jI (nxT t n (nxT t n (nxT t n T))).2.2.2)) 131 (b + 11 + 7 * nLk N) (nI 10)) 131 (b + 11 + 7 * nLk N) = nI 10 := (by rw [zi_Si, if_pos ⟨rfl, rfl⟩])
                have A10 : FrA (SB b r) h (zSi (zSi y8 130 (b + 11 + 7 * nLk N) (jI (nxT t n (nxT t n (nxT t n T))).2.2.2)) 131 (b + 11 + 7 * nLk N) (nI 10)) := (((A7.tr (SB.ff f8) (fun _ q => q)).si (SB.o l6)).si (SB.o l6))
                generalize zSi (zSi y8 130 (b + 11 + 7 * nLk N) (jI (nxT t n (nxT t n (nxT t n T))).2.2.2)) 131 (b + 11 + 7 * nLk N) (nI 10) = z10 at R10 A10 g128_10 g129_10 g130_10 g131_10 ⊢
                refine g_aload_n 1 dX8_readLink_85 rfl rfl ?_
                refine g_invv (M' := mX8_advance) (As := []) (rest := []) dX8_readLink_86 ml_X8_43 okX8_advance imX8_advance seX8_advance ⟨(Nat.le_of_ble_eq_true rfl), (Nat.le_of_ble_eq_true rfl)⟩ (ci := 8) rfl rfl R10.2.1.1.1 rfl rfl (Nat.le_of_ble_eq_true rfl) (c_advance R10.2.1 R10.2.2.1.2.2.1 R10.2.2.2.1.2.2.1) ?_
                rintro _ y11 ⟨rfl, k11, f11⟩
                show zG l w mX8_readLink 89 [(1, .ref (b + 11 + 7 * nLk N)), (0, .ref r)] [] y11 _
                have R11 := R10.tk (T' := nxT t n (nxT t n (nxT t n (nxT t n T)))) k11 (nxT_ok R10.2.2.2.1).1 f11
                refine g_aload_n 1 dX8_readLink_89 rfl rfl ?_
                refine g_ldcS (i := 2) dX8_readLink_90 rfl ?_
                refine g_invv (M' := mX8_isWord) (As := [.ref (w.2.2.2.1 2)]) (rest := []) dX8_readLink_92 ml_X8_51 okX8_isWord imX8_isWord seX8_isWord ⟨(Nat.le_of_ble_eq_true rfl), (Nat.le_of_ble_eq_true rfl)⟩ (ci := 8) rfl rfl R11.2.1.1.1 rfl rfl (Nat.le_of_ble_eq_true rfl) (c_isWord R11.2.1 R11.2.2.1 R11.2.2.2.1 (by omega)) ?_
                rintro _ q12 ⟨rfl, eq12⟩
                subst q12
                rw [key_wd (by omega)]
                show zG l w mX8_readLink 95 [(1, .ref (b + 11 + 7 * nLk N)), (0, .ref r)] [.int (bI (decide (keyN t (nxT t n (nxT t n (nxT t n (nxT t n T)))) = ((2 : Nat) : Int))))] y11 _
                refine g_bif_eq (tgt := 122) dX8_readLink_95 (by decide) (fun ck => ?_) (fun ck => ?_)
                · have ck : ¬ keyN t (nxT t n (nxT t n (nxT t n (nxT t n T)))) = 2 := of_decide_eq_false ck
                  refine g_aload_n 0 dX8_readLink_122 rfl rfl ?_
                  refine g_invv (M' := mX4_begin) (As := []) (rest := []) dX8_readLink_123 ml_X8_94 okX4_begin imX4_begin seX4_begin ⟨(Nat.le_of_ble_eq_true rfl), (Nat.le_of_ble_eq_true rfl)⟩ (ci := 4) rfl rfl (R11.1.1.2.2.2.2.2.2.2.2.1 (nLk N) l6).2.1 rfl rfl (Nat.le_of_ble_eq_true rfl) (c_lkBegin (v := jI (nxT t n (nxT t n (nxT t n T))).2.2.2) R11.1.1 l6 ((f11.2.2.2.2 130 _ (Or.inl (by omega))).trans g130_10)) ?_
                  rintro _ q13 ⟨rfl, eq13⟩
                  subst q13
                  show zG l w mX8_readLink 126 [(1, .ref (b + 11 + 7 * nLk N)), (0, .ref r)] [] (lbZ y11 b (nLk N) (jI (nxT t n (nxT t n (nxT t n T))).2.2.2)) _
                  have er : linkR t n T N = .inr ((nxT t n (nxT t n (nxT t n (nxT t n T)))), lkE N (lk7 N (nLk N) (nxT t n T).2.2.2 (nxT t n (nxT t n T)).2.2.2 (nxT t n (nxT t n (nxT t n T))).2.2.2)) := by unfold linkR; rw [if_neg c, if_pos o1, if_pos o2, if_pos o3, if_neg ck]
                  have zN : pz (lkE N (lk7 N (nLk N) (nxT t n T).2.2.2 (nxT t n (nxT t n T)).2.2.2 (nxT t n (nxT t n (nxT t n T))).2.2.2)) := hz.link er
                  obtain ⟨w0, w1, w2, w3, w7, w10, w11, wr⟩ := lk7_at (N := N) (a := nLk N) (v1 := (nxT t n T).2.2.2) (v2 := (nxT t n (nxT t n T)).2.2.2) (v3 := (nxT t n (nxT t n (nxT t n T))).2.2.2)
                  have e00 : nA (lkE N (lk7 N (nLk N) (nxT t n T).2.2.2 (nxT t n (nxT t n T)).2.2.2 (nxT t n (nxT t n (nxT t n T))).2.2.2)) 0 = nA N 0 + 1 := by unfold lkE; exact nA_eq
                  have zl := zN.2.2.2.2.2.1 (nLk N) (by rw [e00]; omega)
                  have L1 := LkA.lb (y := y11) (b := b) (v := jI (nxT t n (nxT t n (nxT t n T))).2.2.2) zl (by unfold lkE; rw [nA_ne (by omega), w0]; exact ((f11.2.2.2.2 128 _ (Or.inl (by omega))).trans g128_10)) (by unfold lkE; rw [nA_ne (by omega), w1]; exact ((f11.2.2.2.2 129 _ (Or.inl (by omega))).trans g129_10)) (by unfold lkE; rw [nA_ne (by omega), w2]; exact ((f11.2.2.2.2 130 _ (Or.inl (by omega))).trans g130_10)) (by unfold lkE; rw [nA_ne (by omega), w3]; exact ((f11.2.2.2.2 131 _ (Or.inl (by omega))).trans g131_10)) (by unfold lkE; rw [nA_ne (by omega), w2])
                  have R8 : RdC (lbZ y11 b (nLk N) (jI (nxT t n (nxT t n (nxT t n T))).2.2.2)) b r p n t lt N (nxT t n (nxT t n (nxT t n (nxT t n T)))) 1 0 := R11.fa (S := SL b (nLk N)) lbZ_fr (fun _ q => SL_ok R11.1.1 l6 q)
                  have X9 := R8.1.link hz c e00 (fun k k0 hk => by unfold lkE; rw [nA_ne (by omega), lk7_ne hk]) L1
                  have R9 := R8.tx X9
                  have A9 : FrA (SB b r) h (lbZ y11 b (nLk N) (jI (nxT t n (nxT t n (nxT t n T))).2.2.2)) := (A10.tr (SB.ff f11) (fun _ q => q)).tr lbZ_fr (fun _ q => SL_B l6 q)
                  generalize lbZ y11 b (nLk N) (jI (nxT t n (nxT t n (nxT t n T))).2.2.2) = z9 at R9 A9 ⊢
                  refine g_aload_n 1 dX8_readLink_126 rfl rfl ?_
                  have nl6 : nLk (lkE N (lk7 N (nLk N) (nxT t n T).2.2.2 (nxT t n (nxT t n T)).2.2.2 (nxT t n (nxT t n (nxT t n T))).2.2.2)) + 0 ≤ 6 := nLk_le zN
                  rw [er, bnd_i]
                  have OO := c_readSign (l := l) (w := w) R9 nl6
                  revert OO
                  generalize signR t n _ _ = sg
                  intro OO
                  cases sg with
                  | inl e =>
                    refine g_invv (M' := mX8_readSign) (As := []) (rest := []) dX8_readLink_127 ml_X8_97 okX8_readSign imX8_readSign seX8_readSign ⟨(Nat.le_of_ble_eq_true rfl), (Nat.le_of_ble_eq_true rfl)⟩ (ci := 8) rfl rfl R9.2.1.1.1 rfl rfl (Nat.le_of_ble_eq_true rfl) OO ?_
                    rintro _ y9 ⟨rfl, OO⟩
                    show zG l w mX8_readLink 130 [(1, .ref (b + 11 + 7 * nLk N)), (0, .ref r)] [.int (bI false)] y9 _
                    refine g_zreturn dX8_readLink_130 rfl (bI_nar _) ?_
                    exact OC.tr A9 ⟨rfl, OO⟩
                  | inr s =>
                    refine g_invv (M' := mX8_readSign) (As := []) (rest := []) dX8_readLink_127 ml_X8_97 okX8_readSign imX8_readSign seX8_readSign ⟨(Nat.le_of_ble_eq_true rfl), (Nat.le_of_ble_eq_true rfl)⟩ (ci := 8) rfl rfl R9.2.1.1.1 rfl rfl (Nat.le_of_ble_eq_true rfl) OO ?_
                    rintro _ y9 ⟨rfl, OO⟩
                    show zG l w mX8_readLink 130 [(1, .ref (b + 11 + 7 * nLk N)), (0, .ref r)] [.int (bI true)] y9 _
                    refine g_zreturn dX8_readLink_130 rfl (bI_nar _) ?_
                    exact OC.tr A9 ⟨rfl, OO⟩
                · have ck : keyN t (nxT t n (nxT t n (nxT t n (nxT t n T)))) = 2 := of_decide_eq_true ck
                  refine g_aload_n 1 dX8_readLink_98 rfl rfl ?_
                  refine g_iconst (v := nI 2) dX8_readLink_99 (by decide) ?_
                  refine g_bipush (v := nI 30) dX8_readLink_100 (by decide) ?_
                  by_cases o5 : okB (nxT t n (nxT t n (nxT t n (nxT t n (nxT t n T))))) 2 30 = true
                  · refine g_invv (M' := mX8_nextNumber) (As := [.int (nI 2), .int (nI 30)]) (rest := []) dX8_readLink_102 ml_X8_72 okX8_nextNumber imX8_nextNumber seX8_nextNumber ⟨(Nat.le_of_ble_eq_true rfl), (Nat.le_of_ble_eq_true rfl)⟩ (ci := 8) rfl rfl R11.2.1.1.1 rfl rfl (Nat.le_of_ble_eq_true rfl) (c_nnT R11 (by omega) (by omega) o5) ?_
                    rintro _ y14 ⟨rfl, R14, f14⟩
                    show zG l w mX8_readLink 105 [(1, .ref (b + 11 + 7 * nLk N)), (0, .ref r)] [.int (bI true)] y14 _
                    have t2 := (okB_t o5).1
                    refine g_bif_ne (tgt := 110) dX8_readLink_105 (by decide) (fun dx => ?_) (fun dx => ?_)
                    · refine g_aload_n 0 dX8_readLink_110 rfl rfl ?_
                      refine g_aload_n 1 dX8_readLink_111 rfl rfl ?_
                      refine g_geti (f := 261) dX8_readLink_112 fl_X8_76 R14.2.1.1.1 (by decide) rfl ?_
                      rw [show zi y14 261 r = jI (nxT t n (nxT t n (nxT t n (nxT t n (nxT t n T))))).2.2.2 from R14.2.2.1.2.2.2 t2]
                      refine g_puti (f := 131) dX8_readLink_115 fl_X8_90 (Or.inl rfl) (R14.1.1.2.2.2.2.2.2.2.2.1 (nLk N) l6).2.1 rfl ?_
                      have R16 : RdC (zSi y14 131 (b + 11 + 7 * nLk N) (jI (nxT t n (nxT t n (nxT t n (nxT t n (nxT t n T))))).2.2.2)) b r p n t lt N (nxT t n (nxT t n (nxT t n (nxT t n (nxT t n T))))) 1 0 := R14.fa (S := SL b (nLk N)) (FrA.rf.si (Or.inl rfl)) (fun _ q => SL_ok R14.1.1 l6 q)
                      have g128_16 : zi (zSi y14 131 (b + 11 + 7 * nLk N) (jI (nxT t n (nxT t n (nxT t n (nxT t n (nxT t n T))))).2.2.2)) 128 (b + 11 + 7 * nLk N) = jI (nxT t n T).2.2.2 := (by rw [zi_Si, if_neg (by omega)]; exact ((f14.2.2.2.2 128 _ (Or.inl (by omega))).trans ((f11.2.2.2.2 128 _ (Or.inl (by omega))).trans g128_10)))
                      have g129_16 : zi (zSi y14 131 (b + 11 + 7 * nLk N) (jI (nxT t n (nxT t n (nxT t n (nxT t n (nxT t n T))))).2.2.2)) 129 (b + 11 + 7 * nLk N) = jI (nxT t n (nxT t n T)).2.2.2 := (by rw [zi_Si, if_neg (by omega)]; exact ((f14.2.2.2.2 129 _ (Or.inl (by omega))).trans ((f11.2.2.2.2 129 _ (Or.inl (by omega))).trans g129_10)))
                      have g130_16 : zi (zSi y14 131 (b + 11 + 7 * nLk N) (jI (nxT t n (nxT t n (nxT t n (nxT t n (nxT t n T))))).2.2.2)) 130 (b + 11 + 7 * nLk N) = jI (nxT t n (nxT t n (nxT t n T))).2.2.2 := (by rw [zi_Si, if_neg (by omega)]; exact ((f14.2.2.2.2 130 _ (Or.inl (by omega))).trans ((f11.2.2.2.2 130 _ (Or.inl (by omega))).trans g130_10)))
                      have g131_16 : zi (zSi y14 131 (b + 11 + 7 * nLk N) (jI (nxT t n (nxT t n (nxT t n (nxT t n (nxT t n T))))).2.2.2)) 131 (b + 11 + 7 * nLk N) = jI (nxT t n (nxT t n (nxT t n (nxT t n (nxT t n T))))).2.2.2 := (by rw [zi_Si, if_pos ⟨rfl, rfl⟩])
                      have A16 : FrA (SB b r) h (zSi y14 131 (b + 11 + 7 * nLk N) (jI (nxT t n (nxT t n (nxT t n (nxT t n (nxT t n T))))).2.2.2)) := (((A10.tr (SB.ff f11) (fun _ q => q)).tr (SB.ff f14) (fun _ q => q)).si (SB.o l6))
                      generalize zSi y14 131 (b + 11 + 7 * nLk N) (jI (nxT t n (nxT t n (nxT t n (nxT t n (nxT t n T))))).2.2.2) = z16 at R16 A16 g128_16 g129_16 g130_16 g131_16 ⊢
                      refine g_aload_n 1 dX8_readLink_118 rfl rfl ?_
                      refine g_invv (M' := mX8_advance) (As := []) (rest := []) dX8_readLink_119 ml_X8_43 okX8_advance imX8_advance seX8_advance ⟨(Nat.le_of_ble_eq_true rfl), (Nat.le_of_ble_eq_true rfl)⟩ (ci := 8) rfl rfl R16.2.1.1.1 rfl rfl (Nat.le_of_ble_eq_true rfl) (c_advance R16.2.1 R16.2.2.1.2.2.1 R16.2.2.2.1.2.2.1) ?_
                      rintro _ y17 ⟨rfl, k17, f17⟩
                      show zG l w mX8_readLink 122 [(1, .ref (b + 11 + 7 * nLk N)), (0, .ref r)] [] y17 _
                      have R17 := R16.tk (T' := nxT t n (nxT t n (nxT t n (nxT t n (nxT t n (nxT t n T)))))) k17 (nxT_ok R16.2.2.2.1).1 f17
                      refine g_aload_n 0 dX8_readLink_122 rfl rfl ?_
                      refine g_invv (M' := mX4_begin) (As := []) (rest := []) dX8_readLink_123 ml_X8_94 okX4_begin imX4_begin seX4_begin ⟨(Nat.le_of_ble_eq_true rfl), (Nat.le_of_ble_eq_true rfl)⟩ (ci := 4) rfl rfl (R17.1.1.2.2.2.2.2.2.2.2.1 (nLk N) l6).2.1 rfl rfl (Nat.le_of_ble_eq_true rfl) (c_lkBegin (v := jI (nxT t n (nxT t n (nxT t n T))).2.2.2) R17.1.1 l6 ((f17.2.2.2.2 130 _ (Or.inl (by omega))).trans g130_16)) ?_
                      rintro _ q18 ⟨rfl, eq18⟩
                      subst q18
                      show zG l w mX8_readLink 126 [(1, .ref (b + 11 + 7 * nLk N)), (0, .ref r)] [] (lbZ y17 b (nLk N) (jI (nxT t n (nxT t n (nxT t n T))).2.2.2)) _
                      have er : linkR t n T N = .inr (nxT t n (nxT t n (nxT t n (nxT t n (nxT t n (nxT t n T))))), lkE N (uA (lk7 N (nLk N) (nxT t n T).2.2.2 (nxT t n (nxT t n T)).2.2.2 (nxT t n (nxT t n (nxT t n T))).2.2.2) (8 + 40 * nLk N + 3) (nxT t n (nxT t n (nxT t n (nxT t n (nxT t n T))))).2.2.2)) := by unfold linkR; rw [if_neg c, if_pos o1, if_pos o2, if_pos o3, if_pos ck, if_pos o5]
                      have zN : pz (lkE N (uA (lk7 N (nLk N) (nxT t n T).2.2.2 (nxT t n (nxT t n T)).2.2.2 (nxT t n (nxT t n (nxT t n T))).2.2.2) (8 + 40 * nLk N + 3) (nxT t n (nxT t n (nxT t n (nxT t n (nxT t n T))))).2.2.2)) := hz.link er
                      obtain ⟨w0, w1, w2, w3, w7, w10, w11, wr⟩ := lk7_at (N := N) (a := nLk N) (v1 := (nxT t n T).2.2.2) (v2 := (nxT t n (nxT t n T)).2.2.2) (v3 := (nxT t n (nxT t n (nxT t n T))).2.2.2)
                      have e00 : nA (lkE N (uA (lk7 N (nLk N) (nxT t n T).2.2.2 (nxT t n (nxT t n T)).2.2.2 (nxT t n (nxT t n (nxT t n T))).2.2.2) (8 + 40 * nLk N + 3) (nxT t n (nxT t n (nxT t n (nxT t n (nxT t n T))))).2.2.2)) 0 = nA N 0 + 1 := by unfold lkE; exact nA_eq
                      have zl := zN.2.2.2.2.2.1 (nLk N) (by rw [e00]; omega)
                      have L1 := LkA.lb (y := y17) (b := b) (v := jI (nxT t n (nxT t n (nxT t n T))).2.2.2) zl (by unfold lkE; rw [nA_ne (by omega), nA_ne (by omega), w0]; exact ((f17.2.2.2.2 128 _ (Or.inl (by omega))).trans g128_16)) (by unfold lkE; rw [nA_ne (by omega), nA_ne (by omega), w1]; exact ((f17.2.2.2.2 129 _ (Or.inl (by omega))).trans g129_16)) (by unfold lkE; rw [nA_ne (by omega), nA_ne (by omega), w2]; exact ((f17.2.2.2.2 130 _ (Or.inl (by omega))).trans g130_16)) (by unfold lkE; rw [nA_ne (by omega), nA_eq]; exact ((f17.2.2.2.2 131 _ (Or.inl (by omega))).trans g131_16)) (by unfold lkE; rw [nA_ne (by omega), nA_ne (by omega), w2])
                      have R8 : RdC (lbZ y17 b (nLk N) (jI (nxT t n (nxT t n (nxT t n T))).2.2.2)) b r p n t lt N (nxT t n (nxT t n (nxT t n (nxT t n (nxT t n (nxT t n T)))))) 1 0 := R17.fa (S := SL b (nLk N)) lbZ_fr (fun _ q => SL_ok R17.1.1 l6 q)
                      have X9 := R8.1.link hz c e00 (fun k k0 hk => by unfold lkE; rw [nA_ne (by omega), nA_ne (by omega), lk7_ne hk]) L1
                      have R9 := R8.tx X9
                      have A9 : FrA (SB b r) h (lbZ y17 b (nLk N) (jI (nxT t n (nxT t n (nxT t n T))).2.2.2)) := (A16.tr (SB.ff f17) (fun _ q => q)).tr lbZ_fr (fun _ q => SL_B l6 q)
                      generalize lbZ y17 b (nLk N) (jI (nxT t n (nxT t n (nxT t n T))).2.2.2) = z9 at R9 A9 ⊢
                      refine g_aload_n 1 dX8_readLink_126 rfl rfl ?_
                      have nl6 : nLk (lkE N (uA (lk7 N (nLk N) (nxT t n T).2.2.2 (nxT t n (nxT t n T)).2.2.2 (nxT t n (nxT t n (nxT t n T))).2.2.2) (8 + 40 * nLk N + 3) (nxT t n (nxT t n (nxT t n (nxT t n (nxT t n T))))).2.2.2)) + 0 ≤ 6 := nLk_le zN
                      rw [er, bnd_i]
                      have OO := c_readSign (l := l) (w := w) R9 nl6
                      revert OO
                      generalize signR t n _ _ = sg
                      intro OO
                      cases sg with
                      | inl e =>
                        refine g_invv (M' := mX8_readSign) (As := []) (rest := []) dX8_readLink_127 ml_X8_97 okX8_readSign imX8_readSign seX8_readSign ⟨(Nat.le_of_ble_eq_true rfl), (Nat.le_of_ble_eq_true rfl)⟩ (ci := 8) rfl rfl R9.2.1.1.1 rfl rfl (Nat.le_of_ble_eq_true rfl) OO ?_
                        rintro _ y9 ⟨rfl, OO⟩
                        show zG l w mX8_readLink 130 [(1, .ref (b + 11 + 7 * nLk N)), (0, .ref r)] [.int (bI false)] y9 _
                        refine g_zreturn dX8_readLink_130 rfl (bI_nar _) ?_
                        exact OC.tr A9 ⟨rfl, OO⟩
                      | inr s =>
                        refine g_invv (M' := mX8_readSign) (As := []) (rest := []) dX8_readLink_127 ml_X8_97 okX8_readSign imX8_readSign seX8_readSign ⟨(Nat.le_of_ble_eq_true rfl), (Nat.le_of_ble_eq_true rfl)⟩ (ci := 8) rfl rfl R9.2.1.1.1 rfl rfl (Nat.le_of_ble_eq_true rfl) OO ?_
                        rintro _ y9 ⟨rfl, OO⟩
                        show zG l w mX8_readLink 130 [(1, .ref (b + 11 + 7 * nLk N)), (0, .ref r)] [.int (bI true)] y9 _
                        refine g_zreturn dX8_readLink_130 rfl (bI_nar _) ?_
                        exact OC.tr A9 ⟨rfl, OO⟩
                    · cases dx
                  · refine g_invv (M' := mX8_nextNumber) (As := [.int (nI 2), .int (nI 30)]) (rest := []) dX8_readLink_102 ml_X8_72 okX8_nextNumber imX8_nextNumber seX8_nextNumber ⟨(Nat.le_of_ble_eq_true rfl), (Nat.le_of_ble_eq_true rfl)⟩ (ci := 8) rfl rfl R11.2.1.1.1 rfl rfl (Nat.le_of_ble_eq_true rfl) (c_nnF R11 (by omega) (by omega) (Bool.eq_false_iff.mpr o5)) ?_
                    rintro _ y15 ⟨rfl, E15, f15⟩
                    show zG l w mX8_readLink 105 [(1, .ref (b + 11 + 7 * nLk N)), (0, .ref r)] [.int (bI false)] y15 _
                    refine g_bif_ne (tgt := 110) dX8_readLink_105 (by decide) (fun dx => ?_) (fun dx => ?_)
                    · cases dx
                    · refine g_iconst (v := bI false) dX8_readLink_108 (by decide) ?_
                      refine g_zreturn dX8_readLink_109 rfl (bI_nar _) ?_
                      rw [show linkR t n T N = .inl (nuF (nxT t n (nxT t n (nxT t n (nxT t n (nxT t n T)))))) from by unfold linkR; rw [if_neg c, if_pos o1, if_pos o2, if_pos o3, if_pos ck, if_neg o5]]
                      exact ⟨rfl, E15, R11.tw (by omega) (f15.mono (by omega) (by omega)), ((A10.tr (SB.ff f11) (fun _ q => q)).tr (SB.ff f15) (fun _ q => q))⟩
              · cases dx
            · refine g_invv (M' := mX8_nextNumber) (As := [.int (nI 1), .int (nI 60)]) (rest := []) dX8_readLink_63 ml_X8_72 okX8_nextNumber imX8_nextNumber seX8_nextNumber ⟨(Nat.le_of_ble_eq_true rfl), (Nat.le_of_ble_eq_true rfl)⟩ (ci := 8) rfl rfl R7.2.1.1.1 rfl rfl (Nat.le_of_ble_eq_true rfl) (c_nnF R7 (by omega) (by omega) (Bool.eq_false_iff.mpr o3)) ?_
              rintro _ y9 ⟨rfl, E9, f9⟩
              show zG l w mX8_readLink 66 [(1, .ref (b + 11 + 7 * nLk N)), (0, .ref r)] [.int (bI false)] y9 _
              refine g_bif_ne (tgt := 71) dX8_readLink_66 (by decide) (fun dx => ?_) (fun dx => ?_)
              · cases dx
              · refine g_iconst (v := bI false) dX8_readLink_69 (by decide) ?_
                refine g_zreturn dX8_readLink_70 rfl (bI_nar _) ?_
                rw [show linkR t n T N = .inl (nuF (nxT t n (nxT t n (nxT t n T)))) from by unfold linkR; rw [if_neg c, if_pos o1, if_pos o2, if_neg o3]]
                exact ⟨rfl, E9, R7.tw (by omega) (f9.mono (by omega) (by omega)), (A7.tr (SB.ff f9) (fun _ q => q))⟩
          · cases dx
        · refine g_invv (M' := mX8_nextNumber) (As := [.int (nI 1), .int (nI 9)]) (rest := []) dX8_readLink_43 ml_X8_72 okX8_nextNumber imX8_nextNumber seX8_nextNumber ⟨(Nat.le_of_ble_eq_true rfl), (Nat.le_of_ble_eq_true rfl)⟩ (ci := 8) rfl rfl R4.2.1.1.1 rfl rfl (Nat.le_of_ble_eq_true rfl) (c_nnF R4 (by omega) (by omega) (Bool.eq_false_iff.mpr o2)) ?_
          rintro _ y6 ⟨rfl, E6, f6⟩
          show zG l w mX8_readLink 46 [(1, .ref (b + 11 + 7 * nLk N)), (0, .ref r)] [.int (bI false)] y6 _
          refine g_bif_ne (tgt := 51) dX8_readLink_46 (by decide) (fun dx => ?_) (fun dx => ?_)
          · cases dx
          · refine g_iconst (v := bI false) dX8_readLink_49 (by decide) ?_
            refine g_zreturn dX8_readLink_50 rfl (bI_nar _) ?_
            rw [show linkR t n T N = .inl (nuF (nxT t n (nxT t n T))) from by unfold linkR; rw [if_neg c, if_pos o1, if_neg o2]]
            exact ⟨rfl, E6, R4.tw (by omega) (f6.mono (by omega) (by omega)), (A4.tr (SB.ff f6) (fun _ q => q))⟩
      · cases dx
    · refine g_invv (M' := mX8_nextNumber) (As := [.int (nI 1), .int (nI 9)]) (rest := []) dX8_readLink_23 ml_X8_72 okX8_nextNumber imX8_nextNumber seX8_nextNumber ⟨(Nat.le_of_ble_eq_true rfl), (Nat.le_of_ble_eq_true rfl)⟩ (ci := 8) rfl rfl R0.2.1.1.1 rfl rfl (Nat.le_of_ble_eq_true rfl) (c_nnF R0 (by omega) (by omega) (Bool.eq_false_iff.mpr o1)) ?_
      rintro _ y3 ⟨rfl, E3, f3⟩
      show zG l w mX8_readLink 26 [(1, .ref (b + 11 + 7 * nLk N)), (0, .ref r)] [.int (bI false)] y3 _
      refine g_bif_ne (tgt := 31) dX8_readLink_26 (by decide) (fun dx => ?_) (fun dx => ?_)
      · cases dx
      · refine g_iconst (v := bI false) dX8_readLink_29 (by decide) ?_
        refine g_zreturn dX8_readLink_30 rfl (bI_nar _) ?_
        rw [show linkR t n T N = .inl (nuF (nxT t n T)) from by unfold linkR; rw [if_neg c, if_neg o1]]
        exact ⟨rfl, E3, R0.tw (by omega) (f3.mono (by omega) (by omega)), (A0.tr (SB.ff f3) (fun _ q => q))⟩
end CRL
