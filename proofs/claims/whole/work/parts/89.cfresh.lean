section CZ1
variable {l : Launch} {w : zW} {h : zH} {b : Nat} {π : Nat → Nat} {ls : Nat → List Nat} {N : nT} {X : List Nat} {t p : Nat}
theorem c_pkInit : zM l w mX6_init [.ref p] h (fun v h1 => v = none ∧ h1 = h) := by
  refine zM.of (by decide) (Nat.le_of_ble_eq_true rfl) ?_
  refine g_aload_n 0 dX6_init_0 rfl rfl ?_
  refine g_objInit dX6_init_1 ml_X6_3 oi_i oi_c (Nat.le_of_ble_eq_true rfl) (Nat.le_of_ble_eq_true rfl) ?_
  refine g_return dX6_init_4 rfl ?_
  exact ⟨rfl, rfl⟩
theorem c_freshPacket (c : CX h b π ls N [] t) (hn : nLv N < 480) : zM l w mX5_freshPacket [.ref b] h (fun v h1 => ∃ p, v = some (.ref p) ∧ ∃ ls1, CXf h1 b π ls1 N p t ∧ CSt b ls h ls1 h1) := by
  refine zM.of (by decide) (Nat.le_of_ble_eq_true rfl) ?_
  refine g_aload_n 0 dX5_freshPacket_0 rfl rfl ?_
  refine g_getr (f := 166) (b := b + 4) dX5_freshPacket_1 fl_X5_30 c.1.1.2 rfl c.1.2.2.2.2.1.1 ?_
  cases e : ls (b + 4) with
  | nil =>
    refine g_invv (M' := mX3_takeFirst) (As := []) (rest := []) dX5_freshPacket_4 ml_X5_118 okX3_takeFirst imX3_takeFirst seX3_takeFirst ⟨(Nat.le_of_ble_eq_true rfl), (Nat.le_of_ble_eq_true rfl)⟩ (ci := 3) rfl rfl c.1.2.2.2.2.1.2 rfl rfl (Nat.le_of_ble_eq_true rfl) (c_takeNone c.2.1 c.1.iS e) ?_
    rintro _ q1 ⟨rfl, e1⟩
    subst q1
    show zG l w mX5_freshPacket 7 [(0, .ref b)] [.null] h _
    refine g_astore_nN (lv2 := [(1, .null), (0, .ref b)]) dX5_freshPacket_7 rfl (by decide) rfl ?_
    refine g_aload_nN 0 dX5_freshPacket_8 rfl rfl ?_
    refine g_ifnonnullN dX5_freshPacket_9 ?_
    refine g_aload_n 1 dX5_freshPacket_12 rfl rfl ?_
    refine g_geti (f := 167) dX5_freshPacket_13 fl_X5_121 c.1.1.2 (by decide) rfl ?_
    rw [show zi h 167 b = nI (nLv N + 0) from (by rw [c.2.2.2.2.2.1.2.2.2.2.2.2.1, e]; rfl)]
    refine g_sipush (v := nI 480) dX5_freshPacket_16 (by decide) ?_
    rw [Nat.add_zero]
    refine g_zcmp_ge (a := ((nLv N : Nat) : Int)) (b := 480) (tgt := 40) (jI_nat (nLv N)).symm (by decide) dX5_freshPacket_19 (by decide) (by omega) (by omega) (fun q => ?_) (fun q => ?_)
    · exact absurd q (by omega)
    · refine g_aload_n 1 dX5_freshPacket_22 rfl rfl ?_
      refine g_dup dX5_freshPacket_23 rfl ?_
      refine g_geti (f := 167) dX5_freshPacket_24 fl_X5_121 c.1.1.2 (by decide) rfl ?_
      rw [show zi h 167 b = nI (nLv N) from (by rw [c.2.2.2.2.2.1.2.2.2.2.2.2.1, e]; rfl)]
      refine g_iconst (v := nI 1) dX5_freshPacket_27 (by decide) ?_
      refine g_iadd dX5_freshPacket_28 ?_
      rw [nI_add (nLv N) 1]
      refine g_puti (f := 167) dX5_freshPacket_29 fl_X5_121 (Or.inl rfl) c.1.1.2 rfl ?_
      refine g_new dX5_freshPacket_32 mk_X5_108 rfl ?_
      refine g_dup dX5_freshPacket_35 rfl ?_
      refine g_invn (M' := mX6_init) (As := []) (rest := [.ref (zx h)]) dX5_freshPacket_36 nl_X5_124 okX6_init imX6_init rfl rfl ⟨(Nat.le_of_ble_eq_true rfl), (Nat.le_of_ble_eq_true rfl)⟩ rfl rfl (Nat.le_of_ble_eq_true rfl) c_pkInit ?_
      rintro _ q2 ⟨rfl, e2⟩
      subst q2
      show zG l w mX5_freshPacket 39 [(1, .null), (0, .ref b)] [.ref (zx h)] (zNw (zSi h 167 b (nI (nLv N + 1))) 6 10) _
      have M := c.make e hn
      refine g_astore_n (lv2 := [(1, .ref (zx h)), (0, .ref b)]) dX5_freshPacket_39 rfl (by decide) rfl ?_
      refine g_aload_n 0 dX5_freshPacket_40 rfl rfl ?_
      refine g_areturn dX5_freshPacket_41 rfl (Or.inl ⟨_, rfl⟩) (Or.inr ⟨_, rfl⟩) ?_
      exact ⟨_, rfl, _, M.1, M.2⟩
  | cons p r =>
    refine g_invv (M' := mX3_takeFirst) (As := []) (rest := []) dX5_freshPacket_4 ml_X5_118 okX3_takeFirst imX3_takeFirst seX3_takeFirst ⟨(Nat.le_of_ble_eq_true rfl), (Nat.le_of_ble_eq_true rfl)⟩ (ci := 3) rfl rfl c.1.2.2.2.2.1.2 rfl rfl (Nat.le_of_ble_eq_true rfl) (c_takeFirst c.2.1 c.1.iS e) ?_
    rintro _ y1 ⟨rfl, t1, f1⟩
    show zG l w mX5_freshPacket 7 [(0, .ref b)] [.ref p] y1 _
    have M := c.fresh e f1 t1
    refine g_astore_n (lv2 := [(1, .ref p), (0, .ref b)]) dX5_freshPacket_7 rfl (by decide) rfl ?_
    refine g_aload_n 0 dX5_freshPacket_8 rfl rfl ?_
    refine g_ifnonnull (tgt := 40) dX5_freshPacket_9 (by decide) ?_
    refine g_aload_n 0 dX5_freshPacket_40 rfl rfl ?_
    refine g_areturn dX5_freshPacket_41 rfl (Or.inl ⟨_, rfl⟩) (Or.inr ⟨_, rfl⟩) ?_
    exact ⟨_, rfl, _, M.1, M.2⟩
theorem c_pkBegin {f : Nat} (hp : zk h p = 6) (hk : zk h (b + 53 + 2 * f) = 2) (F : FlA h b N f) {n : Int} (h5 : 100 ≤ nA N (248 + 20 * f + 5) ∧ nA N (248 + 20 * f + 5) ≤ 4000) (h7 : 0 ≤ nA N (248 + 20 * f + 7) ∧ nA N (248 + 20 * f + 7) ≤ 41000) (h2 : 0 ≤ nA N (248 + 20 * f + 2) ∧ nA N (248 + 20 * f + 2) ≤ 3) : zM l w mX6_begin [.ref p, .int (nI f), .int (jI n), .ref (b + 53 + 2 * f)] h (fun v h1 => v = none ∧ FrPk p h h1 ∧ (zi h1 192 p = nI f ∧ zi h1 193 p = jI n ∧ zi h1 194 p = nI 0 ∧ zi h1 195 p = jI (nA N (248 + 20 * f + 5)) ∧ zi h1 196 p = jI (nA N (248 + 20 * f + 7) * (if nA N (248 + 20 * f + 2) = 2 then 3 else 1)) ∧ zl h1 197 p = jL (max 1 (10000 * (nA N (248 + 20 * f + 7) * (if nA N (248 + 20 * f + 2) = 2 then 3 else 1)) / nA N (248 + 20 * f + 5))) ∧ zi h1 198 p = nI 1000 ∧ zi h1 200 p = nI 0)) := by
  refine zM.of (by decide) (Nat.le_of_ble_eq_true rfl) ?_
  refine g_aload_n 0 dX6_begin_0 rfl rfl ?_
  refine g_iload_n 1 dX6_begin_1 rfl rfl ?_
  refine g_puti (f := 192) dX6_begin_2 fl_X6_9 (Or.inl rfl) hp rfl ?_
  refine g_aload_n 0 dX6_begin_5 rfl rfl ?_
  refine g_iload_n 2 dX6_begin_6 rfl rfl ?_
  refine g_puti (f := 193) dX6_begin_7 fl_X6_15 (Or.inl rfl) hp rfl ?_
  refine g_aload_n 0 dX6_begin_10 rfl rfl ?_
  refine g_iconst (v := nI 0) dX6_begin_11 (by decide) ?_
  refine g_puti (f := 194) dX6_begin_12 fl_X6_18 (Or.inl rfl) hp rfl ?_
  refine g_aload_n 0 dX6_begin_15 rfl rfl ?_
  refine g_aload_n 3 dX6_begin_16 rfl rfl ?_
  refine g_geti (f := 70) dX6_begin_17 fl_X6_21 hk (by decide) rfl ?_
  rw [show zi (zSi (zSi (zSi h 192 p (nI f)) 193 p (jI n)) 194 p (nI 0)) 70 (b + 53 + 2 * f) = jI (nA N (248 + 20 * f + 5)) from (by rw [zi_Si, if_neg (by omega), zi_Si, if_neg (by omega), zi_Si, if_neg (by omega)]; exact (F.1 5 (by omega) (by omega)))]
  refine g_puti (f := 195) dX6_begin_20 fl_X6_26 (Or.inl rfl) hp rfl ?_
  refine g_aload_n 0 dX6_begin_23 rfl rfl ?_
  refine g_aload_n 3 dX6_begin_24 rfl rfl ?_
  refine g_geti (f := 67) dX6_begin_25 fl_X6_27 hk (by decide) rfl ?_
  rw [show zi (zSi (zSi (zSi (zSi h 192 p (nI f)) 193 p (jI n)) 194 p (nI 0)) 195 p (jI (nA N (248 + 20 * f + 5)))) 67 (b + 53 + 2 * f) = jI (nA N (248 + 20 * f + 2)) from (by rw [zi_Si, if_neg (by omega), zi_Si, if_neg (by omega), zi_Si, if_neg (by omega), zi_Si, if_neg (by omega)]; exact (F.1 2 (by omega) (by omega)))]
  refine g_iconst (v := nI 2) dX6_begin_28 (by decide) ?_
  have mid : ∀ e : Int, e = nA N (248 + 20 * f + 7) * (if nA N (248 + 20 * f + 2) = 2 then 3 else 1) → zG l w mX6_begin 45 [(0, .ref p), (1, .int (nI f)), (2, .int (jI n)), (3, .ref (b + 53 + 2 * f))] [.int (jI e), .ref p] (zSi (zSi (zSi (zSi h 192 p (nI f)) 193 p (jI n)) 194 p (nI 0)) 195 p (jI (nA N (248 + 20 * f + 5)))) (fun v h1 => v = none ∧ FrPk p h h1 ∧ (zi h1 192 p = nI f ∧ zi h1 193 p = jI n ∧ zi h1 194 p = nI 0 ∧ zi h1 195 p = jI (nA N (248 + 20 * f + 5)) ∧ zi h1 196 p = jI (nA N (248 + 20 * f + 7) * (if nA N (248 + 20 * f + 2) = 2 then 3 else 1)) ∧ zl h1 197 p = jL (max 1 (10000 * (nA N (248 + 20 * f + 7) * (if nA N (248 + 20 * f + 2) = 2 then 3 else 1)) / nA N (248 + 20 * f + 5))) ∧ zi h1 198 p = nI 1000 ∧ zi h1 200 p = nI 0)) := by
    intro e he
    rw [← he]
    have eb : 0 ≤ e ∧ e ≤ 123000 := by rw [he]; split <;> omega
    refine g_puti (f := 196) dX6_begin_45 fl_X6_33 (Or.inl rfl) hp rfl ?_
    refine g_aload_n 0 dX6_begin_48 rfl rfl ?_
    refine g_aload_n 0 dX6_begin_49 rfl rfl ?_
    refine g_geti (f := 195) dX6_begin_50 fl_X6_26 hp (by decide) rfl ?_
    rw [show zi (zSi (zSi (zSi (zSi (zSi h 192 p (nI f)) 193 p (jI n)) 194 p (nI 0)) 195 p (jI (nA N (248 + 20 * f + 5)))) 196 p (jI e)) 195 p = jI (nA N (248 + 20 * f + 5)) from (by rw [zi_Si, if_neg (by omega), zi_Si, if_pos ⟨rfl, rfl⟩])]
    refine g_zif_le (a := (nA N (248 + 20 * f + 5))) (tgt := 78) rfl dX6_begin_53 (by decide) (by omega) (fun q => ?_) (fun q => ?_)
    · exact absurd q (by omega)
    · refine g_lconst (v := jL 1) dX6_begin_56 (by decide) ?_
      refine g_ldc2J (z := 10000) dX6_begin_57 kl_X6_34 (by decide) ?_
      refine g_aload_n 0 dX6_begin_60 rfl rfl ?_
      refine g_geti (f := 196) dX6_begin_61 fl_X6_33 hp (by decide) rfl ?_
      rw [show zi (zSi (zSi (zSi (zSi (zSi h 192 p (nI f)) 193 p (jI n)) 194 p (nI 0)) 195 p (jI (nA N (248 + 20 * f + 5)))) 196 p (jI e)) 196 p = jI e from (by rw [zi_Si, if_pos ⟨rfl, rfl⟩])]
      refine g_i2l dX6_begin_64 ?_
      rw [jI_l (by omega) (by omega)]
      refine g_lmul dX6_begin_65 ?_
      rw [jL_mul]
      refine g_aload_n 0 dX6_begin_66 rfl rfl ?_
      refine g_geti (f := 195) dX6_begin_67 fl_X6_26 hp (by decide) rfl ?_
      rw [show zi (zSi (zSi (zSi (zSi (zSi h 192 p (nI f)) 193 p (jI n)) 194 p (nI 0)) 195 p (jI (nA N (248 + 20 * f + 5)))) 196 p (jI e)) 195 p = jI (nA N (248 + 20 * f + 5)) from (by rw [zi_Si, if_neg (by omega), zi_Si, if_pos ⟨rfl, rfl⟩])]
      refine g_i2l dX6_begin_70 ?_
      rw [jI_l (by omega) (by omega)]
      refine g_ldiv dX6_begin_71 (jL_ne0 (by omega)) ?_
      rw [jL_div (by omega) (by omega)]
      have db : 0 ≤ 10000 * e / nA N (248 + 20 * f + 5) ∧ 10000 * e / nA N (248 + 20 * f + 5) ≤ 10000 * e := ⟨Int.ediv_nonneg (by omega) (by omega), Int.ediv_le_self _ (by omega)⟩
      refine g_invs (M' := mJ9_max_f86c9) (As := [.long (jL 1), .long (jL ((10000 * e) / (nA N (248 + 20 * f + 5))))]) (rest := [.ref p]) dX6_begin_72 ml_X6_36 okJ9_max_f86c9 stJ9_max_f86c9 ⟨(Nat.le_of_ble_eq_true rfl), (Nat.le_of_ble_eq_true rfl)⟩ rfl rfl (Nat.le_of_ble_eq_true rfl) (c_maxL (by omega) (by omega)) ?_
      rintro _ q1 ⟨rfl, e1⟩
      subst q1
      show zG l w mX6_begin 75 [(0, .ref p), (1, .int (nI f)), (2, .int (jI n)), (3, .ref (b + 53 + 2 * f))] [.long (jL (max 1 (10000 * e / nA N (248 + 20 * f + 5)))), .ref p] (zSi (zSi (zSi (zSi (zSi h 192 p (nI f)) 193 p (jI n)) 194 p (nI 0)) 195 p (jI (nA N (248 + 20 * f + 5)))) 196 p (jI e)) _
      refine g_goto (tgt := 79) dX6_begin_75 (by decide) ?_
      refine g_putl (f := 197) dX6_begin_79 fl_X6_42 (Or.inl rfl) hp rfl ?_
      refine g_aload_n 0 dX6_begin_82 rfl rfl ?_
      refine g_sipush (v := nI 1000) dX6_begin_83 (by decide) ?_
      refine g_puti (f := 198) dX6_begin_86 fl_X6_46 (Or.inl rfl) hp rfl ?_
      refine g_aload_n 0 dX6_begin_89 rfl rfl ?_
      refine g_iconst (v := nI 0) dX6_begin_90 (by decide) ?_
      refine g_puti (f := 199) dX6_begin_91 fl_X6_49 (Or.inl rfl) hp rfl ?_
      refine g_aload_n 0 dX6_begin_94 rfl rfl ?_
      refine g_iconst (v := nI 0) dX6_begin_95 (by decide) ?_
      refine g_putz (f := 200) dX6_begin_96 fl_X6_52 (Or.inl rfl) hp rfl (Or.inl rfl) ?_
      refine g_return dX6_begin_99 rfl ?_
      refine ⟨rfl, (((((((((FrPk.rf.tr (FrPk.si (by omega))).tr (FrPk.si (by omega))).tr (FrPk.si (by omega))).tr (FrPk.si (by omega))).tr (FrPk.si (by omega))).tr FrPk.sl).tr (FrPk.si (by omega))).tr (FrPk.si (by omega))).tr (FrPk.si (by omega))), by rw [zi_Si, if_neg (by omega), zi_Si, if_neg (by omega), zi_Si, if_neg (by omega), zi_Sl, zi_Si, if_neg (by omega), zi_Si, if_neg (by omega), zi_Si, if_neg (by omega), zi_Si, if_neg (by omega), zi_Si, if_pos ⟨rfl, rfl⟩], by rw [zi_Si, if_neg (by omega), zi_Si, if_neg (by omega), zi_Si, if_neg (by omega), zi_Sl, zi_Si, if_neg (by omega), zi_Si, if_neg (by omega), zi_Si, if_neg (by omega), zi_Si, if_pos ⟨rfl, rfl⟩], by rw [zi_Si, if_neg (by omega), zi_Si, if_neg (by omega), zi_Si, if_neg (by omega), zi_Sl, zi_Si, if_neg (by omega), zi_Si, if_neg (by omega), zi_Si, if_pos ⟨rfl, rfl⟩], by rw [zi_Si, if_neg (by omega), zi_Si, if_neg (by omega), zi_Si, if_neg (by omega), zi_Sl, zi_Si, if_neg (by omega), zi_Si, if_pos ⟨rfl, rfl⟩], by rw [zi_Si, if_neg (by omega), zi_Si, if_neg (by omega), zi_Si, if_neg (by omega), zi_Sl, zi_Si, if_pos ⟨rfl, rfl⟩], by rw [zl_Si, zl_Si, zl_Si, zl_Sl, if_pos ⟨rfl, rfl⟩], by rw [zi_Si, if_neg (by omega), zi_Si, if_neg (by omega), zi_Si, if_pos ⟨rfl, rfl⟩], by rw [zi_Si, if_pos ⟨rfl, rfl⟩]⟩
  refine g_zcmp_ne (a := (nA N (248 + 20 * f + 2))) (b := 2) (tgt := 41) rfl (by decide) dX6_begin_29 (by decide) (by omega) (by omega) (fun q => ?_) (fun q => ?_)
  · refine g_aload_n 3 dX6_begin_41 rfl rfl ?_
    refine g_geti (f := 72) dX6_begin_42 fl_X6_30 hk (by decide) rfl ?_
    rw [show zi (zSi (zSi (zSi (zSi h 192 p (nI f)) 193 p (jI n)) 194 p (nI 0)) 195 p (jI (nA N (248 + 20 * f + 5)))) 72 (b + 53 + 2 * f) = jI (nA N (248 + 20 * f + 7)) from (by rw [zi_Si, if_neg (by omega), zi_Si, if_neg (by omega), zi_Si, if_neg (by omega), zi_Si, if_neg (by omega)]; exact (F.1 7 (by omega) (by omega)))]
    exact mid _ (by rw [if_neg q, Int.mul_one])
  · refine g_iconst (v := nI 3) dX6_begin_32 (by decide) ?_
    refine g_aload_n 3 dX6_begin_33 rfl rfl ?_
    refine g_geti (f := 72) dX6_begin_34 fl_X6_30 hk (by decide) rfl ?_
    rw [show zi (zSi (zSi (zSi (zSi h 192 p (nI f)) 193 p (jI n)) 194 p (nI 0)) 195 p (jI (nA N (248 + 20 * f + 5)))) 72 (b + 53 + 2 * f) = jI (nA N (248 + 20 * f + 7)) from (by rw [zi_Si, if_neg (by omega), zi_Si, if_neg (by omega), zi_Si, if_neg (by omega), zi_Si, if_neg (by omega)]; exact (F.1 7 (by omega) (by omega)))]
    refine g_imul dX6_begin_37 ?_
    refine zG.top (show (nI 3) * (jI (nA N (248 + 20 * f + 7))) = jI (3 * (nA N (248 + 20 * f + 7))) by rw [show nI 3 = jI 3 from (by decide), jI_mul]) ?_
    refine g_goto (tgt := 45) dX6_begin_38 (by decide) ?_
    exact mid _ (by rw [if_pos q, Int.mul_comm])
end CZ1
