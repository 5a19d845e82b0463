/-! TEXTS THAT STAND IN THE PROGRAM: their length, their signs -/
section STR
variable {l : Launch} {w : zW} {M : zMe} {pc : Nat} {lv : List (Nat × Value)} {rest : List Value} {h : zH} {Q : Option Value → zH → Prop} {i j : Nat}
theorem js_v : Cond.fieldLink "java/lang/String" 9 "java/lang/String" "value" "[B" ∈ lw_all := lw_in (i := 1730) (by decide +kernel) (by decide +kernel)
theorem js_o : Cond.fieldLink "java/lang/String" 15 "java/lang/String" "coder" "B" ∈ lw_all := lw_in (i := 1731) (by decide +kernel) (by decide +kernel)
theorem js_c : Cond.fieldLink "java/lang/String" 38 "java/lang/String" "COMPACT_STRINGS" "Z" ∈ lw_all := lw_in (i := 542) (by decide +kernel) (by decide +kernel)
theorem js_f : Cond.fieldLink "java/lang/String" 1053 "jdk/internal/util/Preconditions" "SIOOBE_FORMATTER" "Ljava/util/function/BiFunction;" ∈ lw_all := lw_in (i := 558) (by decide +kernel) (by decide +kernel)
theorem zLen_bd : ∀ i, i < 9 → zLen.getD i 0 ≤ 42 := by decide
theorem g_sval (hc : M.1.cls = "java/lang/String") (hi : i < 9) (hd : decode M.2.1 pc = .ok (.getfield 9, 3)) (kk : zG l w M (pc + 3) lv (.ref (w.2.2.2.2 i) :: rest) h Q) : zG l w M pc lv (.ref (w.2.2.2.1 i) :: rest) h Q :=
  zG.go (fun C r h1 kk => by
    obtain ⟨cf, k, fi, f, cell, e1, e2, e3, e4, e5, e6⟩ := (r.2.2.2.2.1.1 i hi).2.2.1
    exact W.getf C.1 C.2.1 (own := "java/lang/String") (by rw [← hc]; exact C.2.2.2.2.2.1) (C.2.2.2.2.2.2.2.1 _ js_v) e1 e2 e3 e4 e5 rfl rfl hd (kk _ h1)) kk
theorem g_scod (hc : M.1.cls = "java/lang/String") (hi : i < 9) (hd : decode M.2.1 pc = .ok (.getfield 15, 3)) (kk : zG l w M (pc + 3) lv (.int 0 :: rest) h Q) : zG l w M pc lv (.ref (w.2.2.2.1 i) :: rest) h Q :=
  zG.go (fun C r h1 kk => by
    obtain ⟨cf, k, fi, f, cell, e1, e2, e3, e4, e5, e6⟩ := (r.2.2.2.2.1.1 i hi).2.1
    exact W.getf C.1 C.2.1 (own := "java/lang/String") (by rw [← hc]; exact C.2.2.2.2.2.1) (C.2.2.2.2.2.2.2.1 _ js_o) e1 e2 e3 e4 e5 rfl rfl hd (kk _ h1)) kk
theorem g_scs (hc : M.1.cls = "java/lang/String") (hd : decode M.2.1 pc = .ok (.getstatic 38, 3)) (kk : zG l w M (pc + 3) lv (.int 1 :: rest) h Q) : zG l w M pc lv rest h Q :=
  zG.go (fun C r h1 kk => by
    obtain ⟨cf, kf, fi, f, a, cell, e1, e2, e3, e4, e5, e6, e7, e8⟩ := r.2.2.2.2.2.1
    exact W.gets C.1 C.2.1 (own := "java/lang/String") (by rw [← hc]; exact C.2.2.2.2.2.1) (C.2.2.2.2.2.2.2.1 _ js_c) e1 e2 e3 e4 e5 (fun z => by rw [z] at e6; cases e6) e7 rfl hd (kk _ h1)) kk
theorem g_slen (hi : i < 9) (hd : decode M.2.1 pc = .ok (.arraylength, 1)) (kk : zG l w M (pc + 1) lv (.int (nI (zLen.getD i 0)) :: rest) h Q) : zG l w M pc lv (.ref (w.2.2.2.2 i) :: rest) h Q :=
  zG.go (fun C r h1 kk => by
    obtain ⟨cell, e1, e2, e3, e4, e5, e6, e7⟩ := (r.2.2.2.2.1.1 i hi).2.2.2
    exact W.alen (n := nI (zLen.getD i 0)) C.1 C.2.1 e1 e2 e5 rfl rfl hd (kk _ h1)) kk
theorem g_sbal (hi : i < 9) (hj : j < zLen.getD i 0) (hd : decode M.2.1 pc = .ok (.baload, 1)) (kk : zG l w M (pc + 1) lv (.int ((zByt.getD i []).getD j 0) :: rest) h Q) : zG l w M pc lv (.int (nI j) :: .ref (w.2.2.2.2 i) :: rest) h Q :=
  zG.go (fun C r h1 kk => by
    obtain ⟨cell, e1, e2, e3, e4, e5, e6, e7⟩ := (r.2.2.2.2.1.1 i hi).2.2.2
    have hb := zLen_bd i hi
    have hcl : (nI j).toNatClampNeg = j := nI_clamp (by omega)
    refine W.bald (v := .int ((zByt.getD i []).getD j 0)) C.1 C.2.1 e1 e2 e3 (fun q => ?_) (by rw [hcl]; exact e6 j hj) rfl rfl hd (kk _ h1)
    rcases q with q | q
    · exact nI_pos (by omega) q
    · rw [hcl] at q
      omega) kk
theorem g_gsQ {v0 : Option Value} {h0 : zH} (hc : M.1.cls = "java/lang/String") (hd : decode M.2.1 pc = .ok (.getstatic 1053, 3)) (k : ∀ v : Value, (v = .null ∨ ∃ t, v = .ref t) → zG l w M (pc + 3) lv (v :: rest) h (fun u h1 => u = v0 ∧ h1 = h0)) : zG l w M pc lv rest h (fun u h1 => u = v0 ∧ h1 = h0) := by
  have kz : ∀ v : Value, (v = .null ∨ ∃ t, v = .ref t) → zV l w M (pc + 3) lv (v :: rest) h v0 h0 := fun v hv => by
    obtain ⟨a, b, c, e1, e2⟩ := k v hv
    subst e1
    subst e2
    exact c
  refine ⟨v0, h0, ⟨(kz .null (Or.inl rfl)).1, (kz .null (Or.inl rfl)).2.1, fun p e s m args below meth c x0 t0 H ls locs C A => ?_⟩, rfl, rfl⟩
  rcases A.1.2.2.2.2.2.2 with q | ⟨t, q⟩
  · obtain ⟨cf, kf, fi, f, a, cell, e1, e2, e3, e4, e5, e6, e7, e8⟩ := q
    exact W.gets C.1 C.2.1 (own := "java/lang/String") (by rw [← hc]; exact C.2.2.2.2.2.1) (C.2.2.2.2.2.2.2.1 _ js_f) e1 e2 e3 e4 e5 (fun z => by rw [z] at e6; cases e6) e7 rfl hd ((kz .null (Or.inl rfl)).2.2 p e s m args below meth c x0 t0 H ls locs C A)
  · obtain ⟨cf, kf, fi, f, a, cell, e1, e2, e3, e4, e5, e6, e7, e8⟩ := q
    exact W.gets C.1 C.2.1 (own := "java/lang/String") (by rw [← hc]; exact C.2.2.2.2.2.1) (C.2.2.2.2.2.2.2.1 _ js_f) e1 e2 e3 e4 e5 (fun z => by rw [z] at e6; cases e6) e7 rfl hd ((kz (.ref t) (Or.inr ⟨t, rfl⟩)).2.2 p e s m args below meth c x0 t0 H ls locs C A)
theorem g_invvS {M' : zMe} {idx n : Nat} {As st : List Value} {Q' : Option Value → zH → Prop} (hd : decode M.2.1 pc = .ok (.invokevirtual idx, 3)) (hl : Cond.methodLink M.1.cls idx M'.1 ∈ lw_all) (hM : zMOk M' n) (hi : Cond.instanceMethod M'.1 ∈ lw_all) (hs : Cond.selects M'.1.cls M'.1 M'.1 ∈ lw_all) (hf : zFits M M') (hc0 : M'.1.cls = "java/lang/String") (i9 : i < 9) (hst : st = As.reverse ++ .ref (w.2.2.2.1 i) :: rest) (hn : As.length = n) (hw : (rest.map fun v => v.category).sum ≤ 8)
    (hC : zM l w M' (.ref (w.2.2.2.1 i) :: As) h Q') (k : ∀ v h1, Q' v h1 → zG l w M (pc + 3) lv (v.toList ++ rest) h1 Q) : zG l w M pc lv st h Q := by
  refine zG.call hC (fun {p} {e} {s} {m} {args} {below} {meth} {c} {c0} {s0} {H} {ls} {locs} {cells} {slots} {mc} {ms} {v} {h1} C r hlv hMet hroom => ?_) k
  obtain ⟨x1, x2, x3, x4, x5, x6, x7, hts, hK⟩ := C
  obtain ⟨cell, q1, q2, q3, -⟩ := (r.2.2.2.2.1.1 i i9).1
  refine va_runV (C := M'.1.cls) (As := As) (rest := rest) (bytes := M'.2.1) (maxL := M'.2.2.1) (ret := M'.2.2.2.1) (n := n) ⟨x1, x2, x3, x6, hts⟩ hMet ⟨⟨rfl, rfl, hf.1, hf.2, pay_in hts (z_ws hM.1), List.mem_cons_self, hts _ hM.1, hts _ hM.2.1, ⟨hM.2.2.1, hM.2.2.2.1⟩, z_len hM.2.2.2.2 rfl, hts _ hl⟩, hts _ hi, hts _ hs⟩ ⟨z_blind, ⟨cell, q1, q2, by rw [hc0]; exact q3⟩, fun U e hW => z_pc hK r e hW⟩ rfl hn hlv.1 hst (lv_room hw) hd hroom
theorem c_sCoder (hi : i < 9) : zM l w mJ0_coder_7d493 [.ref (w.2.2.2.1 i)] h (fun u h1 => u = some (.int 0) ∧ h1 = h) := by
  refine zM.ofF (by decide +kernel) (Nat.le_of_ble_eq_true rfl) ?_
  refine g_scs rfl dJ0_coder_7d493_0 ?_
  refine g_if_eq (tgt := 13) dJ0_coder_7d493_3 (by decide) (fun q => absurd q (by decide)) (fun _ => ?_)
  refine g_aload_n 0 dJ0_coder_7d493_6 rfl rfl ?_
  refine g_scod rfl hi dJ0_coder_7d493_7 ?_
  refine g_goto (tgt := 14) dJ0_coder_7d493_10 (by decide) ?_
  exact g_zreturn dJ0_coder_7d493_14 rfl rfl ⟨rfl, rfl⟩
theorem c_sLat (hi : i < 9) : zM l w mJ0_isLatin1_aae02 [.ref (w.2.2.2.1 i)] h (fun u h1 => u = some (.int 1) ∧ h1 = h) := by
  refine zM.ofF (by decide +kernel) (Nat.le_of_ble_eq_true rfl) ?_
  refine g_scs rfl dJ0_isLatin1_aae02_0 ?_
  refine g_if_eq (tgt := 17) dJ0_isLatin1_aae02_3 (by decide) (fun q => absurd q (by decide)) (fun _ => ?_)
  refine g_aload_n 0 dJ0_isLatin1_aae02_6 rfl rfl ?_
  refine g_scod rfl hi dJ0_isLatin1_aae02_7 ?_
  refine g_if_ne (tgt := 17) dJ0_isLatin1_aae02_10 (by decide) (fun q => absurd rfl q) (fun _ => ?_)
  refine g_iconst (v := 1) dJ0_isLatin1_aae02_13 (by decide) ?_
  refine g_goto (tgt := 18) dJ0_isLatin1_aae02_14 (by decide) ?_
  exact g_zreturn dJ0_isLatin1_aae02_18 rfl rfl ⟨rfl, rfl⟩
theorem sl_sh : ∀ i, i < 9 → nI (zLen.getD i 0) >>> ((0 : Int32) &&& 31) = nI (zLen.getD i 0) := by decide +kernel
theorem c_sLen (hi : i < 9) : zM l w mJ0_length_8abf5 [.ref (w.2.2.2.1 i)] h (fun u h1 => u = some (.int (nI (zLen.getD i 0))) ∧ h1 = h) := by
  refine zM.ofF (by decide +kernel) (Nat.le_of_ble_eq_true rfl) ?_
  refine g_aload_n 0 dJ0_length_8abf5_0 rfl rfl ?_
  refine g_sval rfl hi dJ0_length_8abf5_1 ?_
  refine g_slen hi dJ0_length_8abf5_4 ?_
  refine g_aload_n 0 dJ0_length_8abf5_5 rfl rfl ?_
  refine g_invvS (M' := mJ0_coder_7d493) (As := []) (rest := [.int (nI (zLen.getD i 0))]) dJ0_length_8abf5_6 ml_J0_335 okJ0_coder_7d493 imJ0_coder_7d493 seJ0_coder_7d493 ⟨(Nat.le_of_ble_eq_true rfl), (Nat.le_of_ble_eq_true rfl)⟩ rfl hi rfl rfl (Nat.le_of_ble_eq_true rfl) (c_sCoder hi) ?_
  rintro _ q1 ⟨rfl, e1⟩
  subst q1
  show zG l w mJ0_length_8abf5 9 [(0, .ref (w.2.2.2.1 i))] [.int 0, .int (nI (zLen.getD i 0))] h _
  refine g_ishr dJ0_length_8abf5_9 ?_
  rw [sl_sh i hi]
  exact g_ireturn dJ0_length_8abf5_10 rfl ⟨rfl, rfl⟩
theorem c_chk3 {n : Nat} {v : Value} (hj : j < n) (hn : n < 2 ^ 31) (hv : v = .null ∨ ∃ t, v = .ref t) : zM l w mJ3_checkIndex_8e157 [.int (nI j), .int (nI n), v] h (fun u h1 => u = some (.int (nI j)) ∧ h1 = h) := by
  rcases hv with rfl | ⟨t, rfl⟩
  · refine zM.ofF (by decide +kernel) (Nat.le_of_ble_eq_true rfl) ?_
    refine g_iload_n 0 dJ3_checkIndex_8e157_0 rfl rfl ?_
    refine g_if_lt (tgt := 9) dJ3_checkIndex_8e157_1 (by decide) (fun q => absurd q (nI_pos (by omega))) (fun _ => ?_)
    refine g_iload_n 0 dJ3_checkIndex_8e157_4 rfl rfl ?_
    refine g_iload_n 1 dJ3_checkIndex_8e157_5 rfl rfl ?_
    refine g_icmp_lt (tgt := 16) dJ3_checkIndex_8e157_6 (by decide) (fun _ => ?_) (fun q => absurd (nI_lt hj hn) q)
    refine g_iload_n 0 dJ3_checkIndex_8e157_16 rfl rfl ?_
    exact g_ireturn dJ3_checkIndex_8e157_17 rfl ⟨rfl, rfl⟩
  · refine zM.ofF (by decide +kernel) (Nat.le_of_ble_eq_true rfl) ?_
    refine g_iload_n 0 dJ3_checkIndex_8e157_0 rfl rfl ?_
    refine g_if_lt (tgt := 9) dJ3_checkIndex_8e157_1 (by decide) (fun q => absurd q (nI_pos (by omega))) (fun _ => ?_)
    refine g_iload_n 0 dJ3_checkIndex_8e157_4 rfl rfl ?_
    refine g_iload_n 1 dJ3_checkIndex_8e157_5 rfl rfl ?_
    refine g_icmp_lt (tgt := 16) dJ3_checkIndex_8e157_6 (by decide) (fun _ => ?_) (fun q => absurd (nI_lt hj hn) q)
    refine g_iload_n 0 dJ3_checkIndex_8e157_16 rfl rfl ?_
    exact g_ireturn dJ3_checkIndex_8e157_17 rfl ⟨rfl, rfl⟩
theorem c_chk {n : Nat} (hj : j < n) (hn : n < 2 ^ 31) : zM l w mJ0_checkIndex_df160 [.int (nI j), .int (nI n)] h (fun u h1 => u = none ∧ h1 = h) := by
  refine zM.ofF (by decide +kernel) (Nat.le_of_ble_eq_true rfl) ?_
  refine g_iload_n 0 dJ0_checkIndex_df160_0 rfl rfl ?_
  refine g_iload_n 1 dJ0_checkIndex_df160_1 rfl rfl ?_
  refine g_gsQ rfl dJ0_checkIndex_df160_2 (fun v hv => ?_)
  refine g_invs (M' := mJ3_checkIndex_8e157) (As := [.int (nI j), .int (nI n), v]) (rest := []) dJ0_checkIndex_df160_5 ml_J0_1059 okJ3_checkIndex_8e157 stJ3_checkIndex_8e157 ⟨(Nat.le_of_ble_eq_true rfl), (Nat.le_of_ble_eq_true rfl)⟩ rfl rfl (Nat.le_of_ble_eq_true rfl) (c_chk3 hj hn hv) ?_
  rintro _ q1 ⟨rfl, e1⟩
  subst q1
  show zG l w mJ0_checkIndex_df160 8 [(0, .int (nI j)), (1, .int (nI n))] [.int (nI j)] h _
  refine g_pop dJ0_checkIndex_df160_8 rfl ?_
  exact g_return dJ0_checkIndex_df160_9 rfl ⟨rfl, rfl⟩
theorem sb_ch : ((List.range 9).all fun i => (List.range (zLen.getD i 0)).all fun j => ((((zByt.getD i []).getD j 0) &&& nI 255).toUInt32 % 65536).toInt32 == (zByt.getD i []).getD j 0) = true := by decide +kernel
theorem sb_chN : ((List.range 9).all fun i => (List.range (zLen.getD i 0)).all fun j => decide (0 ≤ ((zByt.getD i []).getD j 0).toInt ∧ ((zByt.getD i []).getD j 0).toInt < 128)) = true := by decide +kernel
theorem sb_nar (hi : i < 9) (hj : j < zLen.getD i 0) : narrow .char (.int ((zByt.getD i []).getD j 0)) = .int ((zByt.getD i []).getD j 0) := by
  have q := of_decide_eq_true (List.all_eq_true.mp (List.all_eq_true.mp sb_chN i (List.mem_range.mpr hi)) j (List.mem_range.mpr hj))
  generalize (zByt.getD i []).getD j 0 = z at q
  have ez : z = nI z.toInt.toNat := by
    have : (nI z.toInt.toNat).toInt = z.toInt := by rw [nI_toInt (by omega)]; omega
    exact Int32.toInt_inj.mp this.symm
  have hz : z.toInt.toNat < 128 := by omega
  rw [ez]
  generalize z.toInt.toNat = k at hz
  exact (show ∀ k, k < 128 → narrow .char (.int (nI k)) = .int (nI k) by decide +kernel) k hz
theorem c_sCh1 (hi : i < 9) (hj : j < zLen.getD i 0) : zM l w mJ1_charAt_3b067 [.ref (w.2.2.2.2 i), .int (nI j)] h (fun u h1 => u = some (.int ((zByt.getD i []).getD j 0)) ∧ h1 = h) := by
  have hb := zLen_bd i hi
  refine zM.ofF (by decide +kernel) (Nat.le_of_ble_eq_true rfl) ?_
  refine g_iload_n 1 dJ1_charAt_3b067_0 rfl rfl ?_
  refine g_aload_n 0 dJ1_charAt_3b067_1 rfl rfl ?_
  refine g_slen hi dJ1_charAt_3b067_2 ?_
  refine g_invs (M' := mJ0_checkIndex_df160) (As := [.int (nI j), .int (nI (zLen.getD i 0))]) (rest := []) dJ1_charAt_3b067_3 ml_J1_9 okJ0_checkIndex_df160 stJ0_checkIndex_df160 ⟨(Nat.le_of_ble_eq_true rfl), (Nat.le_of_ble_eq_true rfl)⟩ rfl rfl (Nat.le_of_ble_eq_true rfl) (c_chk hj (by omega)) ?_
  rintro _ q1 ⟨rfl, e1⟩
  subst q1
  show zG l w mJ1_charAt_3b067 6 [(0, .ref (w.2.2.2.2 i)), (1, .int (nI j))] [] h _
  refine g_aload_n 0 dJ1_charAt_3b067_6 rfl rfl ?_
  refine g_iload_n 1 dJ1_charAt_3b067_7 rfl rfl ?_
  refine g_sbal hi hj dJ1_charAt_3b067_8 ?_
  refine g_sipush (v := nI 255) dJ1_charAt_3b067_9 (by decide) ?_
  refine g_iand dJ1_charAt_3b067_12 ?_
  have e := beq_iff_eq.mp (List.all_eq_true.mp (List.all_eq_true.mp sb_ch i (List.mem_range.mpr hi)) j (List.mem_range.mpr hj))
  refine g_i2c dJ1_charAt_3b067_13 e ?_
  exact g_zreturn dJ1_charAt_3b067_14 rfl (sb_nar hi hj) ⟨rfl, rfl⟩
theorem c_sCh (hi : i < 9) (hj : j < zLen.getD i 0) : zM l w mJ0_charAt_5068e [.ref (w.2.2.2.1 i), .int (nI j)] h (fun u h1 => u = some (.int ((zByt.getD i []).getD j 0)) ∧ h1 = h) := by
  refine zM.ofF (by decide +kernel) (Nat.le_of_ble_eq_true rfl) ?_
  refine g_aload_n 0 dJ0_charAt_5068e_0 rfl rfl ?_
  refine g_invvS (M' := mJ0_isLatin1_aae02) (As := []) (rest := []) dJ0_charAt_5068e_1 ml_J0_492 okJ0_isLatin1_aae02 imJ0_isLatin1_aae02 seJ0_isLatin1_aae02 ⟨(Nat.le_of_ble_eq_true rfl), (Nat.le_of_ble_eq_true rfl)⟩ rfl hi rfl rfl (Nat.le_of_ble_eq_true rfl) (c_sLat hi) ?_
  rintro _ q1 ⟨rfl, e1⟩
  subst q1
  show zG l w mJ0_charAt_5068e 4 [(0, .ref (w.2.2.2.1 i)), (1, .int (nI j))] [.int 1] h _
  refine g_if_eq (tgt := 16) dJ0_charAt_5068e_4 (by decide) (fun q => absurd q (by decide)) (fun _ => ?_)
  refine g_aload_n 0 dJ0_charAt_5068e_7 rfl rfl ?_
  refine g_sval rfl hi dJ0_charAt_5068e_8 ?_
  refine g_iload_n 1 dJ0_charAt_5068e_11 rfl rfl ?_
  refine g_invs (M' := mJ1_charAt_3b067) (As := [.ref (w.2.2.2.2 i), .int (nI j)]) (rest := []) dJ0_charAt_5068e_12 ml_J0_495 okJ1_charAt_3b067 stJ1_charAt_3b067 ⟨(Nat.le_of_ble_eq_true rfl), (Nat.le_of_ble_eq_true rfl)⟩ rfl rfl (Nat.le_of_ble_eq_true rfl) (c_sCh1 hi hj) ?_
  rintro _ q2 ⟨rfl, e2⟩
  subst q2
  show zG l w mJ0_charAt_5068e 15 [(0, .ref (w.2.2.2.1 i)), (1, .int (nI j))] [.int ((zByt.getD i []).getD j 0)] h _
  exact g_zreturn dJ0_charAt_5068e_15 rfl (sb_nar hi hj) ⟨rfl, rfl⟩
end STR
