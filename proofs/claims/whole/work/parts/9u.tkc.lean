section TKC
variable {l : Launch} {w : zW} {h y z : zH} {r p lo hi : Nat} {t : Nat → Nat} {n : Nat} {T : tkT}
/-- the reader's text -/
def TxC (h : zH) (r p n : Nat) (t : Nat → Nat) : Prop := (zk h r = 8 ∧ zr h 256 r = some p ∧ zk h p = 20 ∧ zn h p = 600) ∧ zi h 257 r = nI n ∧ n ≤ 600 ∧ ∀ i, i < n → bY (zI h p i) = t i
/-- the reader's token -/
def TkC (h : zH) (r : Nat) (T : tkT) : Prop := zi h 260 r = nI T.1 ∧ zi h 258 r = nI T.2.1 ∧ zi h 259 r = nI T.2.2.1 ∧ (T.1 = 2 → zi h 261 r = jI T.2.2.2)
theorem TxC.frF (x : TxC h r p n t) (F : FrF r lo hi h y) (h3 : 258 ≤ lo) : TxC y r p n t := ⟨⟨by rw [(F.2.1 _).1]; exact x.1.1, by rw [(F.2.2.1 _ _).1]; exact x.1.2.1, by rw [(F.2.1 _).1]; exact x.1.2.2.1, by rw [(F.2.1 _).2]; exact x.1.2.2.2⟩, by rw [F.2.2.2.2 _ _ (by omega)]; exact x.2.1, x.2.2.1, fun i hi => by rw [(F.2.2.2.1 _ _).1]; exact x.2.2.2 i hi⟩
def btC (h : zH) (p i : Nat) : Nat := if i < 600 then bY (zI h p i) else 0
theorem btC_lt {i : Nat} : btC h p i < 256 := by
  unfold btC
  split
  · exact bY_lt _
  · omega
theorem btC_t {i : Nat} (x : TxC h r p n t) (hi : i < n) : btC h p i = t i := by
  unfold btC
  rw [if_pos (by have := x.2.2.1; omega)]
  exact x.2.2.2 i hi
theorem btC_fr {i : Nat} (F : FrF r lo hi h y) : btC y p i = btC h p i := by
  unfold btC
  rw [(F.2.2.2.1 _ _).1]
theorem c_byteC {i : Nat} (x : TxC h r p n t) (i6 : i < 100000) : zM l w mX8_byteAt [.ref r, .int (nI i)] h (fun u h1 => u = some (.int (nI (btC h p i))) ∧ h1 = h) := by
  refine zM.of (by decide) (Nat.le_of_ble_eq_true rfl) ?_
  have n6 := x.2.2.1
  refine g_aload_n 0 dX8_byteAt_0 rfl rfl ?_
  refine g_getr (f := 256) (b := p) dX8_byteAt_1 fl_X8_9 x.1.1 rfl x.1.2.1 ?_
  refine g_ifnull dX8_byteAt_4 ?_
  refine g_iload_n 1 dX8_byteAt_7 rfl rfl ?_
  refine g_zif_lt (a := ((i : Nat) : Int)) (tgt := 33) (jI_nat i).symm dX8_byteAt_8 (by decide) (by omega) (fun c0 => ?_) (fun c0 => ?_)
  · exact absurd c0 (by omega)
  · refine g_iload_n 1 dX8_byteAt_11 rfl rfl ?_
    refine g_aload_n 0 dX8_byteAt_12 rfl rfl ?_
    refine g_getr (f := 256) (b := p) dX8_byteAt_13 fl_X8_9 x.1.1 rfl x.1.2.1 ?_
    refine g_alen (t := 0) (v := nI 600) dX8_byteAt_16 x.1.2.2.1 rfl (fun _ => rfl) (congrArg Int32.ofNat (show zn h p = 600 from x.1.2.2.2)) ?_
    refine g_ncmp_ge (tgt := 33) dX8_byteAt_17 (by decide) (by omega) (by omega) (fun c => ?_) (fun c => ?_)
    · refine g_iconst (v := nI 0) dX8_byteAt_33 (by decide) ?_
      refine g_ireturn dX8_byteAt_34 rfl ?_
      exact ⟨by unfold btC; rw [if_neg (by omega)], rfl⟩
    · refine g_aload_n 0 dX8_byteAt_20 rfl rfl ?_
      refine g_getr (f := 256) (b := p) dX8_byteAt_21 fl_X8_9 x.1.1 rfl x.1.2.1 ?_
      refine g_iload_n 1 dX8_byteAt_24 rfl rfl ?_
      refine g_bald dX8_byteAt_25 x.1.2.2.1 (by rw [show zn h p = 600 from x.1.2.2.2]; exact vp_in_nI (by omega) (by omega)) ?_
      rw [nI_clamp (by omega)]
      refine g_sipush (v := nI 255) dX8_byteAt_26 (by decide) ?_
      refine g_iand dX8_byteAt_29 ?_
      rw [bY_eq]
      refine g_goto (tgt := 34) dX8_byteAt_30 (by decide) ?_
      refine g_ireturn dX8_byteAt_34 rfl ?_
      exact ⟨by unfold btC; rw [if_pos (by omega)], rfl⟩
theorem c_endOf {b : Nat} (x : TxC h r p n t) (hb : zi h 258 r = nI b) (bn : b ≤ n) (l6 : lo < 100000) (h6 : hi < 100000) : zM l w mX8_endOfRun [.ref r, .int (nI lo), .int (nI hi)] h (fun u h1 => u = some (.int (nI (rnN t n lo hi b))) ∧ h1 = h) := by
  refine zM.of (by decide) (Nat.le_of_ble_eq_true rfl) ?_
  have n6 := x.2.2.1
  have loop : ∀ k e : Nat, n - e ≤ k → e ≤ n → rnN t n lo hi e = rnN t n lo hi b → zG l w mX8_endOfRun 5 [(3, .int (nI e)), (0, .ref r), (1, .int (nI lo)), (2, .int (nI hi))] [] h (fun u h1 => u = some (.int (nI (rnN t n lo hi b))) ∧ h1 = h) := by
    intro k
    induction k with
    | zero =>
      intro e hk en er
      refine g_iload_n 0 dX8_endOfRun_5 rfl rfl ?_
      refine g_aload_n 1 dX8_endOfRun_6 rfl rfl ?_
      refine g_geti (f := 257) dX8_endOfRun_7 fl_X8_21 x.1.1 (by decide) rfl ?_
      rw [show zi h 257 r = nI n from x.2.1]
      refine g_ncmp_ge (tgt := 37) dX8_endOfRun_10 (by decide) (by omega) (by omega) (fun c => ?_) (fun c => ?_)
      · refine g_iload_n 0 dX8_endOfRun_37 rfl rfl ?_
        refine g_ireturn dX8_endOfRun_38 rfl ?_
        have dd : inR t n lo hi e = false := by exact inR_out c
        exact ⟨by rw [← er, rnN_f dd], rfl⟩
      · exact absurd hk (by omega)
    | succ k ih =>
      intro e hk en er
      refine g_iload_n 0 dX8_endOfRun_5 rfl rfl ?_
      refine g_aload_n 1 dX8_endOfRun_6 rfl rfl ?_
      refine g_geti (f := 257) dX8_endOfRun_7 fl_X8_21 x.1.1 (by decide) rfl ?_
      rw [show zi h 257 r = nI n from x.2.1]
      refine g_ncmp_ge (tgt := 37) dX8_endOfRun_10 (by decide) (by omega) (by omega) (fun c => ?_) (fun c => ?_)
      · refine g_iload_n 0 dX8_endOfRun_37 rfl rfl ?_
        refine g_ireturn dX8_endOfRun_38 rfl ?_
        have dd : inR t n lo hi e = false := by exact inR_out c
        exact ⟨by rw [← er, rnN_f dd], rfl⟩
      · have bt := btC_t x (show e < n by omega)
        have bl := btC_lt (h := h) (p := p) (i := e)
        rw [bt] at bl
        refine g_aload_n 1 dX8_endOfRun_13 rfl rfl ?_
        refine g_iload_n 0 dX8_endOfRun_14 rfl rfl ?_
        refine g_invv (M' := mX8_byteAt) (As := [.int (nI e)]) (rest := []) dX8_endOfRun_15 ml_X8_164 okX8_byteAt imX8_byteAt seX8_byteAt ⟨(Nat.le_of_ble_eq_true rfl), (Nat.le_of_ble_eq_true rfl)⟩ (ci := 8) rfl rfl x.1.1 rfl rfl (Nat.le_of_ble_eq_true rfl) (c_byteC x (by omega)) ?_
        rintro _ q1 ⟨rfl, eq1⟩
        subst q1
        show zG l w mX8_endOfRun 18 [(3, .int (nI e)), (0, .ref r), (1, .int (nI lo)), (2, .int (nI hi))] [.int (nI (btC h p e))] h _
        refine g_iload_n 2 dX8_endOfRun_18 rfl rfl ?_
        rw [bt]
        refine g_ncmp_lt (tgt := 37) dX8_endOfRun_19 (by decide) (by omega) (by omega) (fun c1 => ?_) (fun c1 => ?_)
        · refine g_iload_n 0 dX8_endOfRun_37 rfl rfl ?_
          refine g_ireturn dX8_endOfRun_38 rfl ?_
          have dd : inR t n lo hi e = false := by unfold inR; rw [decide_eq_false (p := lo ≤ t e) (by omega), Bool.false_and, Bool.and_false]
          exact ⟨by rw [← er, rnN_f dd], rfl⟩
        · refine g_aload_n 1 dX8_endOfRun_22 rfl rfl ?_
          refine g_iload_n 0 dX8_endOfRun_23 rfl rfl ?_
          refine g_invv (M' := mX8_byteAt) (As := [.int (nI e)]) (rest := []) dX8_endOfRun_24 ml_X8_164 okX8_byteAt imX8_byteAt seX8_byteAt ⟨(Nat.le_of_ble_eq_true rfl), (Nat.le_of_ble_eq_true rfl)⟩ (ci := 8) rfl rfl x.1.1 rfl rfl (Nat.le_of_ble_eq_true rfl) (c_byteC x (by omega)) ?_
          rintro _ q2 ⟨rfl, eq2⟩
          subst q2
          show zG l w mX8_endOfRun 27 [(3, .int (nI e)), (0, .ref r), (1, .int (nI lo)), (2, .int (nI hi))] [.int (nI (btC h p e))] h _
          refine g_iload_n 3 dX8_endOfRun_27 rfl rfl ?_
          rw [bt]
          refine g_ncmp_gt (tgt := 37) dX8_endOfRun_28 (by decide) (by omega) (by omega) (fun c2 => ?_) (fun c2 => ?_)
          · refine g_iload_n 0 dX8_endOfRun_37 rfl rfl ?_
            refine g_ireturn dX8_endOfRun_38 rfl ?_
            have dd : inR t n lo hi e = false := by unfold inR; rw [decide_eq_false (p := t e ≤ hi) (by omega), Bool.and_false, Bool.and_false]
            exact ⟨by rw [← er, rnN_f dd], rfl⟩
          · refine g_inc (v := nI (e + 1)) (lv2 := [(3, .int (nI (e + 1))), (0, .ref r), (1, .int (nI lo)), (2, .int (nI hi))]) 0 dX8_endOfRun_31 rfl (nI_add _ 1) (by decide) rfl ?_
            refine g_goto (tgt := 5) dX8_endOfRun_34 (by decide) ?_
            have dd : inR t n lo hi e = true := by unfold inR; rw [decide_eq_true (p := e < n) (by omega), decide_eq_true (p := lo ≤ t e) (by omega), decide_eq_true (p := t e ≤ hi) (by omega)]; rfl
            exact zG.sub [0, 1, 2, 3] rfl (ih (e + 1) (by omega) (by omega) (by rw [← rnN_t dd]; exact er))
  refine g_aload_n 0 dX8_endOfRun_0 rfl rfl ?_
  refine g_geti (f := 258) dX8_endOfRun_1 fl_X8_161 x.1.1 (by decide) rfl ?_
  rw [show zi h 258 r = nI b from hb]
  refine g_istore_n (lv2 := [(3, .int (nI b)), (0, .ref r), (1, .int (nI lo)), (2, .int (nI hi))]) dX8_endOfRun_4 rfl (by decide) rfl ?_
  exact zG.sub [0, 1, 2, 3] rfl (loop (n - b) b (Nat.le_refl _) bn rfl)
theorem c_valDig {b e : Nat} (x : TxC h r p n t) (hb : zi h 258 r = nI b) (he : zi h 259 r = nI e) (be : b ≤ e) (en : e ≤ n) : zM l w mX8_valueOfDigits [.ref r] h (fun u h1 => u = some (.int (jI (vaN t b (e - b)))) ∧ h1 = h) := by
  refine zM.of (by decide) (Nat.le_of_ble_eq_true rfl) ?_
  have n6 := x.2.2.1
  have loop : ∀ k i : Nat, i + k = e - b → zG l w mX8_valueOfDigits 7 [(2, .int (nI (b + i))), (1, .int (jI (vaN t b i))), (0, .ref r)] [] h (fun u h1 => u = some (.int (jI (vaN t b (e - b)))) ∧ h1 = h) := by
    intro k
    induction k with
    | zero =>
      intro i hi
      refine g_iload_n 0 dX8_valueOfDigits_7 rfl rfl ?_
      refine g_aload_n 2 dX8_valueOfDigits_8 rfl rfl ?_
      refine g_geti (f := 259) dX8_valueOfDigits_9 fl_X8_35 x.1.1 (by decide) rfl ?_
      rw [show zi h 259 r = nI e from he]
      refine g_ncmp_ge (tgt := 35) dX8_valueOfDigits_12 (by decide) (by omega) (by omega) (fun c => ?_) (fun c => ?_)
      · refine g_iload_n 1 dX8_valueOfDigits_35 rfl rfl ?_
        refine g_ireturn dX8_valueOfDigits_36 rfl ?_
        exact ⟨by rw [show i = e - b by omega], rfl⟩
      · exact absurd c (by omega)
    | succ k ih =>
      intro i hi
      refine g_iload_n 0 dX8_valueOfDigits_7 rfl rfl ?_
      refine g_aload_n 2 dX8_valueOfDigits_8 rfl rfl ?_
      refine g_geti (f := 259) dX8_valueOfDigits_9 fl_X8_35 x.1.1 (by decide) rfl ?_
      rw [show zi h 259 r = nI e from he]
      refine g_ncmp_ge (tgt := 35) dX8_valueOfDigits_12 (by decide) (by omega) (by omega) (fun c => ?_) (fun c => ?_)
      · exact absurd c (by omega)
      · have bt := btC_t x (show b + i < n by omega)
        refine g_iload_n 1 dX8_valueOfDigits_15 rfl rfl ?_
        refine g_bipush (v := nI 10) dX8_valueOfDigits_16 (by decide) ?_
        refine g_imul dX8_valueOfDigits_18 ?_
        refine zG.top (show (jI (vaN t b i)) * (nI 10) = jI ((vaN t b i) * 10) by rw [show nI 10 = jI 10 from (by decide), jI_mul]) ?_
        refine g_aload_n 2 dX8_valueOfDigits_19 rfl rfl ?_
        refine g_iload_n 0 dX8_valueOfDigits_20 rfl rfl ?_
        refine g_invv (M' := mX8_byteAt) (As := [.int (nI (b + i))]) (rest := [.int (jI ((vaN t b i) * 10))]) dX8_valueOfDigits_21 ml_X8_164 okX8_byteAt imX8_byteAt seX8_byteAt ⟨(Nat.le_of_ble_eq_true rfl), (Nat.le_of_ble_eq_true rfl)⟩ (ci := 8) rfl rfl x.1.1 rfl rfl (Nat.le_of_ble_eq_true rfl) (c_byteC x (by omega)) ?_
        rintro _ q1 ⟨rfl, eq1⟩
        subst q1
        rw [bt]
        show zG l w mX8_valueOfDigits 24 [(2, .int (nI (b + i))), (1, .int (jI (vaN t b i))), (0, .ref r)] [.int (nI (t (b + i))), .int (jI ((vaN t b i) * 10))] h _
        refine g_iadd dX8_valueOfDigits_24 ?_
        refine zG.top (show (jI ((vaN t b i) * 10)) + (nI (t (b + i))) = jI (((vaN t b i) * 10) + ((t (b + i) : Nat) : Int)) by rw [show nI (t (b + i)) = jI ((t (b + i) : Nat) : Int) from (jI_nat (t (b + i))).symm, jI_add]) ?_
        refine g_bipush (v := nI 48) dX8_valueOfDigits_25 (by decide) ?_
        refine g_isub dX8_valueOfDigits_27 ?_
        refine zG.top (show (jI (((vaN t b i) * 10) + ((t (b + i) : Nat) : Int))) - (nI 48) = jI ((((vaN t b i) * 10) + ((t (b + i) : Nat) : Int)) - 48) by rw [show nI 48 = jI 48 from (by decide), jI_sub]) ?_
        refine g_istore_n (lv2 := [(1, .int (jI ((((vaN t b i) * 10) + ((t (b + i) : Nat) : Int)) - 48))), (2, .int (nI (b + i))), (0, .ref r)]) dX8_valueOfDigits_28 rfl (by decide) rfl ?_
        refine g_inc (v := nI ((b + i) + 1)) (lv2 := [(2, .int (nI ((b + i) + 1))), (1, .int (jI ((((vaN t b i) * 10) + ((t (b + i) : Nat) : Int)) - 48))), (0, .ref r)]) 1 dX8_valueOfDigits_29 rfl (nI_add _ 1) (by decide) rfl ?_
        refine g_goto (tgt := 7) dX8_valueOfDigits_32 (by decide) ?_
        exact zG.sub [0, 1, 2] rfl (ih (i + 1) (by omega))
  refine g_iconst (v := nI 0) dX8_valueOfDigits_0 (by decide) ?_
  refine g_istore_n (lv2 := [(1, .int (nI 0)), (0, .ref r)]) dX8_valueOfDigits_1 rfl (by decide) rfl ?_
  refine g_aload_n 1 dX8_valueOfDigits_2 rfl rfl ?_
  refine g_geti (f := 258) dX8_valueOfDigits_3 fl_X8_161 x.1.1 (by decide) rfl ?_
  rw [show zi h 258 r = nI b from hb]
  refine g_istore_n (lv2 := [(2, .int (nI b)), (1, .int (nI 0)), (0, .ref r)]) dX8_valueOfDigits_6 rfl (by decide) rfl ?_
  exact zG.sub [0, 1, 2] rfl (loop (e - b) 0 (Nat.zero_add _))
theorem c_isWord {i : Nat} (x : TxC h r p n t) (tk : TkC h r T) (ok : tkOk n T) (i8 : i < 8) : zM l w mX8_isWord [.ref r, .ref (w.2.2.2.1 i)] h (fun u h1 => u = some (.int (bI (wdB t T i))) ∧ h1 = h) := by
  refine zM.of (by decide) (Nat.le_of_ble_eq_true rfl) ?_
  have n6 := x.2.2.1
  have o1 := ok.2.1
  have o2 := ok.2.2.1
  have o3 := ok.1
  have lb := zLen_bd i (by omega)
  refine g_aload_n 0 dX8_isWord_0 rfl rfl ?_
  refine g_geti (f := 260) dX8_isWord_1 fl_X8_46 x.1.1 (by decide) rfl ?_
  rw [show zi h 260 r = nI T.1 from tk.1]
  refine g_iconst (v := nI 1) dX8_isWord_4 (by decide) ?_
  refine g_ncmp_ne (tgt := 24) dX8_isWord_5 (by decide) (by omega) (by omega) (fun c1 => ?_) (fun c1 => ?_)
  · refine g_iconst (v := bI false) dX8_isWord_24 (by decide) ?_
    refine g_zreturn dX8_isWord_25 rfl (bI_nar _) ?_
    exact ⟨by unfold wdB; rw [decide_eq_false c1, Bool.false_and], rfl⟩
  · refine g_aload_n 0 dX8_isWord_8 rfl rfl ?_
    refine g_geti (f := 259) dX8_isWord_9 fl_X8_35 x.1.1 (by decide) rfl ?_
    rw [show zi h 259 r = nI T.2.2.1 from tk.2.2.1]
    refine g_aload_n 0 dX8_isWord_12 rfl rfl ?_
    refine g_geti (f := 258) dX8_isWord_13 fl_X8_161 x.1.1 (by decide) rfl ?_
    rw [show zi h 258 r = nI T.2.1 from tk.2.1]
    refine g_isub dX8_isWord_16 ?_
    rw [nI_sub o1]
    refine g_aload_n 1 dX8_isWord_17 rfl rfl ?_
    refine g_invvS (M' := mJ0_length_8abf5) (As := []) (rest := [.int (nI (T.2.2.1 - T.2.1))]) dX8_isWord_18 ml_X8_175 okJ0_length_8abf5 imJ0_length_8abf5 seJ0_length_8abf5 ⟨(Nat.le_of_ble_eq_true rfl), (Nat.le_of_ble_eq_true rfl)⟩ rfl (show i < 9 by omega) rfl rfl (Nat.le_of_ble_eq_true rfl) (c_sLen (by omega)) ?_
    rintro _ q1 ⟨rfl, eq1⟩
    subst q1
    show zG l w mX8_isWord 21 [(0, .ref r), (1, .ref (w.2.2.2.1 i))] [.int (nI (zLen.getD i 0)), .int (nI (T.2.2.1 - T.2.1))] h _
    refine g_ncmp_eq (tgt := 26) dX8_isWord_21 (by decide) (by omega) (by omega) (fun c2 => ?_) (fun c2 => ?_)
    · have ew : wdB t T i = lkA t T i (zLen.getD i 0) := lkA_w c1
      have loop : ∀ k j : Nat, j + k = zLen.getD i 0 → lkA t T i j = true → zG l w mX8_isWord 28 [(2, .int (nI j)), (0, .ref r), (1, .ref (w.2.2.2.1 i))] [] h (fun u h1 => u = some (.int (bI (wdB t T i))) ∧ h1 = h) := by
        intro k
        induction k with
        | zero =>
          intro j hj lj
          refine g_iload_n 0 dX8_isWord_28 rfl rfl ?_
          refine g_aload_n 2 dX8_isWord_29 rfl rfl ?_
          refine g_invvS (M' := mJ0_length_8abf5) (As := []) (rest := [.int (nI j)]) dX8_isWord_30 ml_X8_175 okJ0_length_8abf5 imJ0_length_8abf5 seJ0_length_8abf5 ⟨(Nat.le_of_ble_eq_true rfl), (Nat.le_of_ble_eq_true rfl)⟩ rfl (show i < 9 by omega) rfl rfl (Nat.le_of_ble_eq_true rfl) (c_sLen (by omega)) ?_
          rintro _ q2 ⟨rfl, eq2⟩
          subst q2
          show zG l w mX8_isWord 33 [(2, .int (nI j)), (0, .ref r), (1, .ref (w.2.2.2.1 i))] [.int (nI (zLen.getD i 0)), .int (nI j)] h _
          refine g_ncmp_ge (tgt := 62) dX8_isWord_33 (by decide) (by omega) (by omega) (fun d => ?_) (fun d => ?_)
          · refine g_iconst (v := bI true) dX8_isWord_62 (by decide) ?_
            refine g_zreturn dX8_isWord_63 rfl (bI_nar _) ?_
            exact ⟨by rw [ew, ← show j = zLen.getD i 0 by omega, lj], rfl⟩
          · exact absurd d (by omega)
        | succ k ih =>
          intro j hj lj
          refine g_iload_n 0 dX8_isWord_28 rfl rfl ?_
          refine g_aload_n 2 dX8_isWord_29 rfl rfl ?_
          refine g_invvS (M' := mJ0_length_8abf5) (As := []) (rest := [.int (nI j)]) dX8_isWord_30 ml_X8_175 okJ0_length_8abf5 imJ0_length_8abf5 seJ0_length_8abf5 ⟨(Nat.le_of_ble_eq_true rfl), (Nat.le_of_ble_eq_true rfl)⟩ rfl (show i < 9 by omega) rfl rfl (Nat.le_of_ble_eq_true rfl) (c_sLen (by omega)) ?_
          rintro _ q3 ⟨rfl, eq3⟩
          subst q3
          show zG l w mX8_isWord 33 [(2, .int (nI j)), (0, .ref r), (1, .ref (w.2.2.2.1 i))] [.int (nI (zLen.getD i 0)), .int (nI j)] h _
          refine g_ncmp_ge (tgt := 62) dX8_isWord_33 (by decide) (by omega) (by omega) (fun d => ?_) (fun d => ?_)
          · exact absurd d (by omega)
          · have bt := btC_t x (show T.2.1 + j < n by omega)
            obtain ⟨b1, b2⟩ := bN_eq (i := i) (j := j) (by omega) (by omega)
            have bl := btC_lt (h := h) (p := p) (i := T.2.1 + j)
            rw [bt] at bl
            refine g_aload_n 1 dX8_isWord_36 rfl rfl ?_
            refine g_aload_n 1 dX8_isWord_37 rfl rfl ?_
            refine g_geti (f := 258) dX8_isWord_38 fl_X8_161 x.1.1 (by decide) rfl ?_
            rw [show zi h 258 r = nI T.2.1 from tk.2.1]
            refine g_iload_n 0 dX8_isWord_41 rfl rfl ?_
            refine g_iadd dX8_isWord_42 ?_
            rw [nI_add T.2.1 j]
            refine g_invv (M' := mX8_byteAt) (As := [.int (nI (T.2.1 + j))]) (rest := []) dX8_isWord_43 ml_X8_164 okX8_byteAt imX8_byteAt seX8_byteAt ⟨(Nat.le_of_ble_eq_true rfl), (Nat.le_of_ble_eq_true rfl)⟩ (ci := 8) rfl rfl x.1.1 rfl rfl (Nat.le_of_ble_eq_true rfl) (c_byteC x (by omega)) ?_
            rintro _ q1 ⟨rfl, eq1⟩
            subst q1
            rw [bt]
            show zG l w mX8_isWord 46 [(2, .int (nI j)), (0, .ref r), (1, .ref (w.2.2.2.1 i))] [.int (nI (t (T.2.1 + j)))] h _
            refine g_aload_n 2 dX8_isWord_46 rfl rfl ?_
            refine g_iload_n 0 dX8_isWord_47 rfl rfl ?_
            refine g_invvS (M' := mJ0_charAt_5068e) (As := [.int (nI j)]) (rest := [.int (nI (t (T.2.1 + j)))]) dX8_isWord_48 ml_X8_179 okJ0_charAt_5068e imJ0_charAt_5068e seJ0_charAt_5068e ⟨(Nat.le_of_ble_eq_true rfl), (Nat.le_of_ble_eq_true rfl)⟩ rfl (show i < 9 by omega) rfl rfl (Nat.le_of_ble_eq_true rfl) (c_sCh (by omega) (by omega)) ?_
            rintro _ q4 ⟨rfl, eq4⟩
            subst q4
            show zG l w mX8_isWord 51 [(2, .int (nI j)), (0, .ref r), (1, .ref (w.2.2.2.1 i))] [.int ((zByt.getD i []).getD j 0), .int (nI (t (T.2.1 + j)))] h _
            rw [b1]
            refine g_ncmp_eq (tgt := 56) dX8_isWord_51 (by decide) (by omega) (by omega) (fun d2 => ?_) (fun d2 => ?_)
            · refine g_inc (v := nI (j + 1)) (lv2 := [(2, .int (nI (j + 1))), (0, .ref r), (1, .ref (w.2.2.2.1 i))]) 0 dX8_isWord_56 rfl (nI_add _ 1) (by decide) rfl ?_
              refine g_goto (tgt := 28) dX8_isWord_59 (by decide) ?_
              exact zG.sub [0, 1, 2] rfl (ih (j + 1) (by omega) (by rw [lkA_s, lj, decide_eq_true d2]; rfl))
            · refine g_iconst (v := bI false) dX8_isWord_54 (by decide) ?_
              refine g_zreturn dX8_isWord_55 rfl (bI_nar _) ?_
              exact ⟨by rw [ew, lkA_le (j := j + 1) (by omega) (by rw [lkA_s, decide_eq_false d2, Bool.and_false])], rfl⟩
      refine g_iconst (v := nI 0) dX8_isWord_26 (by decide) ?_
      refine g_istore_n (lv2 := [(2, .int (nI 0)), (0, .ref r), (1, .ref (w.2.2.2.1 i))]) dX8_isWord_27 rfl (by decide) rfl ?_
      exact zG.sub [0, 1, 2] rfl (loop (zLen.getD i 0) 0 (Nat.zero_add _) (by rw [lkA_0]; exact decide_eq_true c2.symm))
    · refine g_iconst (v := bI false) dX8_isWord_24 (by decide) ?_
      refine g_zreturn dX8_isWord_25 rfl (bI_nar _) ?_
      exact ⟨by unfold wdB; rw [decide_eq_false c2, Bool.false_and, Bool.and_false], rfl⟩
theorem c_stopW {k : Nat} (hk : zk h r = 8) (tk : TkC h r T) (ok : tkOk n T) : zM l w mX8_stopWith [.ref r, .int (nI k)] h (fun u h1 => u = some (.int (bI false)) ∧ zi h1 264 r = jI (flt T (k : Int)).1 ∧ zi h1 265 r = jI (flt T (k : Int)).2 ∧ FrF r 264 265 h h1) := by
  refine zM.of (by decide) (Nat.le_of_ble_eq_true rfl) ?_
  have o1 := ok.1
  have o2 := ok.2.1
  refine g_aload_n 0 dX8_stopWith_0 rfl rfl ?_
  refine g_aload_n 0 dX8_stopWith_1 rfl rfl ?_
  refine g_geti (f := 260) dX8_stopWith_2 fl_X8_46 hk (by decide) rfl ?_
  rw [show zi h 260 r = nI T.1 from tk.1]
  refine g_iconst (v := nI 4) dX8_stopWith_5 (by decide) ?_
  refine g_ncmp_ne (tgt := 13) dX8_stopWith_6 (by decide) (by omega) (by omega) (fun d => ?_) (fun d => ?_)
  · refine g_iload_n 1 dX8_stopWith_13 rfl rfl ?_
    refine g_puti (f := 264) dX8_stopWith_14 fl_X8_29 (Or.inl rfl) hk rfl ?_
    refine g_aload_n 0 dX8_stopWith_17 rfl rfl ?_
    refine g_aload_n 0 dX8_stopWith_18 rfl rfl ?_
    refine g_geti (f := 258) dX8_stopWith_19 fl_X8_161 hk (by decide) rfl ?_
    rw [show zi (zSi h 264 r (nI k)) 258 r = nI T.2.1 from (by rw [zi_Si, if_neg (by omega)]; exact tk.2.1)]
    refine g_puti (f := 265) dX8_stopWith_22 fl_X8_32 (Or.inl rfl) hk rfl ?_
    refine g_iconst (v := bI false) dX8_stopWith_25 (by decide) ?_
    refine g_zreturn dX8_stopWith_26 rfl (bI_nar _) ?_
    exact ⟨rfl, by rw [zi_Si, if_neg (by omega), zi_same]; unfold flt; rw [if_neg d, jI_nat], by rw [zi_same]; unfold flt; rw [jI_nat], (FrF.rf.si (by omega)).si (by omega)⟩
  · refine g_iconst (v := nI 1) dX8_stopWith_9 (by decide) ?_
    refine g_goto (tgt := 14) dX8_stopWith_10 (by decide) ?_
    refine g_puti (f := 264) dX8_stopWith_14 fl_X8_29 (Or.inl rfl) hk rfl ?_
    refine g_aload_n 0 dX8_stopWith_17 rfl rfl ?_
    refine g_aload_n 0 dX8_stopWith_18 rfl rfl ?_
    refine g_geti (f := 258) dX8_stopWith_19 fl_X8_161 hk (by decide) rfl ?_
    rw [show zi (zSi h 264 r (nI 1)) 258 r = nI T.2.1 from (by rw [zi_Si, if_neg (by omega)]; exact tk.2.1)]
    refine g_puti (f := 265) dX8_stopWith_22 fl_X8_32 (Or.inl rfl) hk rfl ?_
    refine g_iconst (v := bI false) dX8_stopWith_25 (by decide) ?_
    refine g_zreturn dX8_stopWith_26 rfl (bI_nar _) ?_
    exact ⟨rfl, by rw [zi_Si, if_neg (by omega), zi_same]; unfold flt; rw [if_pos d]; rfl, by rw [zi_same]; unfold flt; rw [jI_nat], (FrF.rf.si (by omega)).si (by omega)⟩
theorem c_advance {e0 : Nat} (x : TxC h r p n t) (he : zi h 259 r = nI e0) (e6 : e0 ≤ n) : zM l w mX8_advance [.ref r] h (fun u h1 => u = none ∧ TkC h1 r (tokN t n e0) ∧ FrF r 258 261 h h1) := by
  refine zM.of (by decide) (Nat.le_of_ble_eq_true rfl) ?_
  have n6 := x.2.2.1
  have sb := skN_bd (t := t) (n := n) e6
  have after : ∀ y : zH, FrF r 258 261 h y → TxC y r p n t → zi y 259 r = nI (skN t n e0) → zG l w mX8_advance 50 [(0, .ref r)] [] y (fun u h1 => u = none ∧ TkC h1 r (tokN t n e0) ∧ FrF r 258 261 h h1) := by
    intro y F X E
    generalize eb : skN t n e0 = b at E sb
    have et : tokN t n e0 = toB t n b := by unfold tokN; rw [eb]
    rw [et]
    refine g_aload_n 0 dX8_advance_50 rfl rfl ?_
    refine g_aload_n 0 dX8_advance_51 rfl rfl ?_
    refine g_geti (f := 259) dX8_advance_52 fl_X8_35 X.1.1 (by decide) rfl ?_
    rw [show zi y 259 r = nI b from E]
    refine g_puti (f := 258) dX8_advance_55 fl_X8_161 (Or.inl rfl) X.1.1 rfl ?_
    refine g_aload_n 0 dX8_advance_58 rfl rfl ?_
    refine g_aload_n 0 dX8_advance_59 rfl rfl ?_
    refine g_geti (f := 258) dX8_advance_60 fl_X8_161 X.1.1 (by decide) rfl ?_
    rw [show zi (zSi y 258 r (nI b)) 258 r = nI b from (by rw [zi_Si, if_pos ⟨rfl, rfl⟩])]
    have X1 := X.frF ((FrF.rf (o := r) (lo := 258) (hi := 261)).si (f := 258) (v := nI b) (by omega)) (by omega)
    have ec : btC (zSi y 258 r (nI b)) p b = btC y p b := rfl
    have bl := btC_lt (h := y) (p := p) (i := b)
    refine g_invv (M' := mX8_byteAt) (As := [.int (nI b)]) (rest := []) dX8_advance_63 ml_X8_164 okX8_byteAt imX8_byteAt seX8_byteAt ⟨(Nat.le_of_ble_eq_true rfl), (Nat.le_of_ble_eq_true rfl)⟩ (ci := 8) rfl rfl X.1.1 rfl rfl (Nat.le_of_ble_eq_true rfl) (c_byteC X1 (by omega)) ?_
    rintro _ q1 ⟨rfl, eq1⟩
    subst q1
    show zG l w mX8_advance 66 [(0, .ref r)] [.int (nI (btC y p b))] (zSi y 258 r (nI b)) _
    refine g_istore_n (lv2 := [(1, .int (nI (btC y p b))), (0, .ref r)]) dX8_advance_66 rfl (by decide) rfl ?_
    refine g_aload_n 1 dX8_advance_67 rfl rfl ?_
    refine g_geti (f := 258) dX8_advance_68 fl_X8_161 X.1.1 (by decide) rfl ?_
    rw [show zi (zSi y 258 r (nI b)) 258 r = nI b from (by rw [zi_Si, if_pos ⟨rfl, rfl⟩])]
    refine g_aload_n 1 dX8_advance_71 rfl rfl ?_
    refine g_geti (f := 257) dX8_advance_72 fl_X8_21 X.1.1 (by decide) rfl ?_
    rw [show zi (zSi y 258 r (nI b)) 257 r = nI n from (by rw [zi_Si, if_neg (by omega)]; exact X.2.1)]
    refine g_ncmp_lt (tgt := 86) dX8_advance_75 (by decide) (by omega) (by omega) (fun c0 => ?_) (fun c0 => ?_)
    · have bt := btC_t X c0
      rw [bt] at bl
      rw [bt]
      refine g_iload_n 0 dX8_advance_86 rfl rfl ?_
      refine g_bipush (v := nI 97) dX8_advance_87 (by decide) ?_
      refine g_ncmp_lt (tgt := 118) dX8_advance_89 (by decide) (by omega) (by omega) (fun c1 => ?_) (fun c1 => ?_)
      · have nw : ¬ (97 ≤ t b ∧ t b ≤ 122) := by omega
        refine g_iload_n 0 dX8_advance_118 rfl rfl ?_
        refine g_bipush (v := nI 48) dX8_advance_119 (by decide) ?_
        refine g_ncmp_lt (tgt := 187) dX8_advance_121 (by decide) (by omega) (by omega) (fun c3 => ?_) (fun c3 => ?_)
        · have nd : ¬ (48 ≤ t b ∧ t b ≤ 57) := by omega
          have ew : toB t n b = (if t b = 59 then (3, b, b + 1, 0) else (4, b, b + 1, 0)) := by unfold toB; rw [if_neg (by omega), if_neg nw, if_neg nd]
          rw [ew]
          refine g_aload_n 1 dX8_advance_187 rfl rfl ?_
          refine g_iload_n 0 dX8_advance_188 rfl rfl ?_
          refine g_bipush (v := nI 59) dX8_advance_189 (by decide) ?_
          refine g_ncmp_ne (tgt := 198) dX8_advance_191 (by decide) (by omega) (by omega) (fun g => ?_) (fun g => ?_)
          · refine g_iconst (v := nI 4) dX8_advance_198 (by decide) ?_
            refine g_puti (f := 260) dX8_advance_199 fl_X8_46 (Or.inl rfl) X.1.1 rfl ?_
            refine g_aload_n 1 dX8_advance_202 rfl rfl ?_
            refine g_aload_n 1 dX8_advance_203 rfl rfl ?_
            refine g_geti (f := 258) dX8_advance_204 fl_X8_161 X.1.1 (by decide) rfl ?_
            rw [show zi (zSi (zSi y 258 r (nI b)) 260 r (nI 4)) 258 r = nI b from (by rw [zi_Si, if_neg (by omega), zi_Si, if_pos ⟨rfl, rfl⟩])]
            refine g_iconst (v := nI 1) dX8_advance_207 (by decide) ?_
            refine g_iadd dX8_advance_208 ?_
            rw [nI_add b 1]
            refine g_puti (f := 259) dX8_advance_209 fl_X8_35 (Or.inl rfl) X.1.1 rfl ?_
            refine g_return dX8_advance_212 rfl ?_
            rw [if_neg g]
            refine ⟨rfl, ⟨by rw [zi_Si, if_neg (by omega), zi_same], by rw [zi_Si, if_neg (by omega), zi_Si, if_neg (by omega), zi_same], zi_same, fun q => absurd (show (4 : Nat) = 2 from q) (by omega)⟩, (((F.si (by omega)).si (by omega)).si (by omega))⟩
          · refine g_iconst (v := nI 3) dX8_advance_194 (by decide) ?_
            refine g_goto (tgt := 199) dX8_advance_195 (by decide) ?_
            refine g_puti (f := 260) dX8_advance_199 fl_X8_46 (Or.inl rfl) X.1.1 rfl ?_
            refine g_aload_n 1 dX8_advance_202 rfl rfl ?_
            refine g_aload_n 1 dX8_advance_203 rfl rfl ?_
            refine g_geti (f := 258) dX8_advance_204 fl_X8_161 X.1.1 (by decide) rfl ?_
            rw [show zi (zSi (zSi y 258 r (nI b)) 260 r (nI 3)) 258 r = nI b from (by rw [zi_Si, if_neg (by omega), zi_Si, if_pos ⟨rfl, rfl⟩])]
            refine g_iconst (v := nI 1) dX8_advance_207 (by decide) ?_
            refine g_iadd dX8_advance_208 ?_
            rw [nI_add b 1]
            refine g_puti (f := 259) dX8_advance_209 fl_X8_35 (Or.inl rfl) X.1.1 rfl ?_
            refine g_return dX8_advance_212 rfl ?_
            rw [if_pos g]
            refine ⟨rfl, ⟨by rw [zi_Si, if_neg (by omega), zi_same], by rw [zi_Si, if_neg (by omega), zi_Si, if_neg (by omega), zi_same], zi_same, fun q => absurd (show (3 : Nat) = 2 from q) (by omega)⟩, (((F.si (by omega)).si (by omega)).si (by omega))⟩
        · refine g_iload_n 0 dX8_advance_124 rfl rfl ?_
          refine g_bipush (v := nI 57) dX8_advance_125 (by decide) ?_
          refine g_ncmp_gt (tgt := 187) dX8_advance_127 (by decide) (by omega) (by omega) (fun c4 => ?_) (fun c4 => ?_)
          · have nd : ¬ (48 ≤ t b ∧ t b ≤ 57) := by omega
            have ew : toB t n b = (if t b = 59 then (3, b, b + 1, 0) else (4, b, b + 1, 0)) := by unfold toB; rw [if_neg (by omega), if_neg nw, if_neg nd]
            rw [ew]
            refine g_aload_n 1 dX8_advance_187 rfl rfl ?_
            refine g_iload_n 0 dX8_advance_188 rfl rfl ?_
            refine g_bipush (v := nI 59) dX8_advance_189 (by decide) ?_
            refine g_ncmp_ne (tgt := 198) dX8_advance_191 (by decide) (by omega) (by omega) (fun g => ?_) (fun g => ?_)
            · refine g_iconst (v := nI 4) dX8_advance_198 (by decide) ?_
              refine g_puti (f := 260) dX8_advance_199 fl_X8_46 (Or.inl rfl) X.1.1 rfl ?_
              refine g_aload_n 1 dX8_advance_202 rfl rfl ?_
              refine g_aload_n 1 dX8_advance_203 rfl rfl ?_
              refine g_geti (f := 258) dX8_advance_204 fl_X8_161 X.1.1 (by decide) rfl ?_
              rw [show zi (zSi (zSi y 258 r (nI b)) 260 r (nI 4)) 258 r = nI b from (by rw [zi_Si, if_neg (by omega), zi_Si, if_pos ⟨rfl, rfl⟩])]
              refine g_iconst (v := nI 1) dX8_advance_207 (by decide) ?_
              refine g_iadd dX8_advance_208 ?_
              rw [nI_add b 1]
              refine g_puti (f := 259) dX8_advance_209 fl_X8_35 (Or.inl rfl) X.1.1 rfl ?_
              refine g_return dX8_advance_212 rfl ?_
              rw [if_neg g]
              refine ⟨rfl, ⟨by rw [zi_Si, if_neg (by omega), zi_same], by rw [zi_Si, if_neg (by omega), zi_Si, if_neg (by omega), zi_same], zi_same, fun q => absurd (show (4 : Nat) = 2 from q) (by omega)⟩, (((F.si (by omega)).si (by omega)).si (by omega))⟩
            · refine g_iconst (v := nI 3) dX8_advance_194 (by decide) ?_
              refine g_goto (tgt := 199) dX8_advance_195 (by decide) ?_
              refine g_puti (f := 260) dX8_advance_199 fl_X8_46 (Or.inl rfl) X.1.1 rfl ?_
              refine g_aload_n 1 dX8_advance_202 rfl rfl ?_
              refine g_aload_n 1 dX8_advance_203 rfl rfl ?_
              refine g_geti (f := 258) dX8_advance_204 fl_X8_161 X.1.1 (by decide) rfl ?_
              rw [show zi (zSi (zSi y 258 r (nI b)) 260 r (nI 3)) 258 r = nI b from (by rw [zi_Si, if_neg (by omega), zi_Si, if_pos ⟨rfl, rfl⟩])]
              refine g_iconst (v := nI 1) dX8_advance_207 (by decide) ?_
              refine g_iadd dX8_advance_208 ?_
              rw [nI_add b 1]
              refine g_puti (f := 259) dX8_advance_209 fl_X8_35 (Or.inl rfl) X.1.1 rfl ?_
              refine g_return dX8_advance_212 rfl ?_
              rw [if_pos g]
              refine ⟨rfl, ⟨by rw [zi_Si, if_neg (by omega), zi_same], by rw [zi_Si, if_neg (by omega), zi_Si, if_neg (by omega), zi_same], zi_same, fun q => absurd (show (3 : Nat) = 2 from q) (by omega)⟩, (((F.si (by omega)).si (by omega)).si (by omega))⟩
          · have ew : toB t n b = (if rnN t n 48 57 b - b ≤ 4 then (2, b, rnN t n 48 57 b, vaN t b (rnN t n 48 57 b - b)) else (4, b, rnN t n 48 57 b, 0)) := by unfold toB; rw [if_neg (by omega), if_neg nw, if_pos (by omega)]
            rw [ew]
            have ge := rnN_bd (t := t) (n := n) (lo := 48) (hi := 57) (e := b) sb.2
            refine g_aload_n 1 dX8_advance_130 rfl rfl ?_
            refine g_aload_n 1 dX8_advance_131 rfl rfl ?_
            refine g_bipush (v := nI 48) dX8_advance_132 (by decide) ?_
            refine g_bipush (v := nI 57) dX8_advance_134 (by decide) ?_
            refine g_invv (M' := mX8_endOfRun) (As := [.int (nI 48), .int (nI 57)]) (rest := [.ref r]) dX8_advance_136 ml_X8_168 okX8_endOfRun imX8_endOfRun seX8_endOfRun ⟨(Nat.le_of_ble_eq_true rfl), (Nat.le_of_ble_eq_true rfl)⟩ (ci := 8) rfl rfl X.1.1 rfl rfl (Nat.le_of_ble_eq_true rfl) (c_endOf X1 zi_same sb.2 (by omega) (by omega)) ?_
            rintro _ q1 ⟨rfl, eq1⟩
            subst q1
            show zG l w mX8_advance 139 [(1, .int (nI (t b))), (0, .ref r)] [.int (nI (rnN t n 48 57 b)), .ref r] (zSi y 258 r (nI b)) _
            refine g_puti (f := 259) dX8_advance_139 fl_X8_35 (Or.inl rfl) X.1.1 rfl ?_
            refine g_aload_n 1 dX8_advance_142 rfl rfl ?_
            refine g_aload_n 1 dX8_advance_143 rfl rfl ?_
            refine g_geti (f := 259) dX8_advance_144 fl_X8_35 X.1.1 (by decide) rfl ?_
            rw [show zi (zSi (zSi y 258 r (nI b)) 259 r (nI (rnN t n 48 57 b))) 259 r = nI (rnN t n 48 57 b) from (by rw [zi_Si, if_pos ⟨rfl, rfl⟩])]
            refine g_aload_n 1 dX8_advance_147 rfl rfl ?_
            refine g_geti (f := 258) dX8_advance_148 fl_X8_161 X.1.1 (by decide) rfl ?_
            rw [show zi (zSi (zSi y 258 r (nI b)) 259 r (nI (rnN t n 48 57 b))) 258 r = nI b from (by rw [zi_Si, if_neg (by omega), zi_Si, if_pos ⟨rfl, rfl⟩])]
            refine g_isub dX8_advance_151 ?_
            rw [nI_sub ge.1]
            refine g_iconst (v := nI 4) dX8_advance_152 (by decide) ?_
            refine g_ncmp_gt (tgt := 160) dX8_advance_153 (by decide) (by omega) (by omega) (fun g => ?_) (fun g => ?_)
            · refine g_iconst (v := nI 4) dX8_advance_160 (by decide) ?_
              refine g_puti (f := 260) dX8_advance_161 fl_X8_46 (Or.inl rfl) X.1.1 rfl ?_
              refine g_aload_n 1 dX8_advance_164 rfl rfl ?_
              refine g_aload_n 1 dX8_advance_165 rfl rfl ?_
              refine g_geti (f := 260) dX8_advance_166 fl_X8_46 X.1.1 (by decide) rfl ?_
              rw [show zi (zSi (zSi (zSi y 258 r (nI b)) 259 r (nI (rnN t n 48 57 b))) 260 r (nI 4)) 260 r = nI 4 from (by rw [zi_Si, if_pos ⟨rfl, rfl⟩])]
              refine g_iconst (v := nI 2) dX8_advance_169 (by decide) ?_
              refine g_ncmp_ne (tgt := 180) dX8_advance_170 (by decide) (by omega) (by omega) (fun g5 => ?_) (fun g5 => ?_)
              · refine g_iconst (v := nI 0) dX8_advance_180 (by decide) ?_
                refine g_puti (f := 261) dX8_advance_181 fl_X8_76 (Or.inl rfl) X.1.1 rfl ?_
                refine g_goto (tgt := 212) dX8_advance_184 (by decide) ?_
                refine g_return dX8_advance_212 rfl ?_
                rw [if_neg (by omega)]
                refine ⟨rfl, ⟨by rw [zi_Si, if_neg (by omega), zi_same], by rw [zi_Si, if_neg (by omega), zi_Si, if_neg (by omega), zi_Si, if_neg (by omega), zi_same], by rw [zi_Si, if_neg (by omega), zi_Si, if_neg (by omega), zi_same], fun q => absurd (show (4 : Nat) = 2 from q) (by omega)⟩, ((((F.si (by omega)).si (by omega)).si (by omega)).si (by omega))⟩
              · exact absurd g5 (by omega)
            · refine g_iconst (v := nI 2) dX8_advance_156 (by decide) ?_
              refine g_goto (tgt := 161) dX8_advance_157 (by decide) ?_
              refine g_puti (f := 260) dX8_advance_161 fl_X8_46 (Or.inl rfl) X.1.1 rfl ?_
              refine g_aload_n 1 dX8_advance_164 rfl rfl ?_
              refine g_aload_n 1 dX8_advance_165 rfl rfl ?_
              refine g_geti (f := 260) dX8_advance_166 fl_X8_46 X.1.1 (by decide) rfl ?_
              rw [show zi (zSi (zSi (zSi y 258 r (nI b)) 259 r (nI (rnN t n 48 57 b))) 260 r (nI 2)) 260 r = nI 2 from (by rw [zi_Si, if_pos ⟨rfl, rfl⟩])]
              refine g_iconst (v := nI 2) dX8_advance_169 (by decide) ?_
              refine g_ncmp_ne (tgt := 180) dX8_advance_170 (by decide) (by omega) (by omega) (fun g5 => ?_) (fun g5 => ?_)
              · exact absurd rfl g5
              · refine g_aload_n 1 dX8_advance_173 rfl rfl ?_
                have X3 := X.frF ((((FrF.rf (o := r) (lo := 258) (hi := 261)).si (f := 258) (v := nI b) (by omega)).si (f := 259) (v := nI (rnN t n 48 57 b)) (by omega)).si (f := 260) (v := nI 2) (by omega)) (by omega)
                refine g_invv (M' := mX8_valueOfDigits) (As := []) (rest := [.ref r]) dX8_advance_174 ml_X8_172 okX8_valueOfDigits imX8_valueOfDigits seX8_valueOfDigits ⟨(Nat.le_of_ble_eq_true rfl), (Nat.le_of_ble_eq_true rfl)⟩ (ci := 8) rfl rfl X.1.1 rfl rfl (Nat.le_of_ble_eq_true rfl) (c_valDig X3 (by rw [zi_Si, if_neg (by omega), zi_Si, if_neg (by omega), zi_same]) (by rw [zi_Si, if_neg (by omega), zi_same]) ge.1 ge.2) ?_
                rintro _ q2 ⟨rfl, eq2⟩
                subst q2
                show zG l w mX8_advance 177 [(1, .int (nI (t b))), (0, .ref r)] [.int (jI (vaN t b (rnN t n 48 57 b - b))), .ref r] (zSi (zSi (zSi y 258 r (nI b)) 259 r (nI (rnN t n 48 57 b))) 260 r (nI 2)) _
                refine g_goto (tgt := 181) dX8_advance_177 (by decide) ?_
                refine g_puti (f := 261) dX8_advance_181 fl_X8_76 (Or.inl rfl) X.1.1 rfl ?_
                refine g_goto (tgt := 212) dX8_advance_184 (by decide) ?_
                refine g_return dX8_advance_212 rfl ?_
                rw [if_pos (by omega)]
                refine ⟨rfl, ⟨by rw [zi_Si, if_neg (by omega), zi_same], by rw [zi_Si, if_neg (by omega), zi_Si, if_neg (by omega), zi_Si, if_neg (by omega), zi_same], by rw [zi_Si, if_neg (by omega), zi_Si, if_neg (by omega), zi_same], fun _ => zi_same⟩, ((((F.si (by omega)).si (by omega)).si (by omega)).si (by omega))⟩
      · refine g_iload_n 0 dX8_advance_92 rfl rfl ?_
        refine g_bipush (v := nI 122) dX8_advance_93 (by decide) ?_
        refine g_ncmp_gt (tgt := 118) dX8_advance_95 (by decide) (by omega) (by omega) (fun c2 => ?_) (fun c2 => ?_)
        · have nw : ¬ (97 ≤ t b ∧ t b ≤ 122) := by omega
          refine g_iload_n 0 dX8_advance_118 rfl rfl ?_
          refine g_bipush (v := nI 48) dX8_advance_119 (by decide) ?_
          refine g_ncmp_lt (tgt := 187) dX8_advance_121 (by decide) (by omega) (by omega) (fun c3 => ?_) (fun c3 => ?_)
          · have nd : ¬ (48 ≤ t b ∧ t b ≤ 57) := by omega
            have ew : toB t n b = (if t b = 59 then (3, b, b + 1, 0) else (4, b, b + 1, 0)) := by unfold toB; rw [if_neg (by omega), if_neg nw, if_neg nd]
            rw [ew]
            refine g_aload_n 1 dX8_advance_187 rfl rfl ?_
            refine g_iload_n 0 dX8_advance_188 rfl rfl ?_
            refine g_bipush (v := nI 59) dX8_advance_189 (by decide) ?_
            refine g_ncmp_ne (tgt := 198) dX8_advance_191 (by decide) (by omega) (by omega) (fun g => ?_) (fun g => ?_)
            · refine g_iconst (v := nI 4) dX8_advance_198 (by decide) ?_
              refine g_puti (f := 260) dX8_advance_199 fl_X8_46 (Or.inl rfl) X.1.1 rfl ?_
              refine g_aload_n 1 dX8_advance_202 rfl rfl ?_
              refine g_aload_n 1 dX8_advance_203 rfl rfl ?_
              refine g_geti (f := 258) dX8_advance_204 fl_X8_161 X.1.1 (by decide) rfl ?_
              rw [show zi (zSi (zSi y 258 r (nI b)) 260 r (nI 4)) 258 r = nI b from (by rw [zi_Si, if_neg (by omega), zi_Si, if_pos ⟨rfl, rfl⟩])]
              refine g_iconst (v := nI 1) dX8_advance_207 (by decide) ?_
              refine g_iadd dX8_advance_208 ?_
              rw [nI_add b 1]
              refine g_puti (f := 259) dX8_advance_209 fl_X8_35 (Or.inl rfl) X.1.1 rfl ?_
              refine g_return dX8_advance_212 rfl ?_
              rw [if_neg g]
              refine ⟨rfl, ⟨by rw [zi_Si, if_neg (by omega), zi_same], by rw [zi_Si, if_neg (by omega), zi_Si, if_neg (by omega), zi_same], zi_same, fun q => absurd (show (4 : Nat) = 2 from q) (by omega)⟩, (((F.si (by omega)).si (by omega)).si (by omega))⟩
            · refine g_iconst (v := nI 3) dX8_advance_194 (by decide) ?_
              refine g_goto (tgt := 199) dX8_advance_195 (by decide) ?_
              refine g_puti (f := 260) dX8_advance_199 fl_X8_46 (Or.inl rfl) X.1.1 rfl ?_
              refine g_aload_n 1 dX8_advance_202 rfl rfl ?_
              refine g_aload_n 1 dX8_advance_203 rfl rfl ?_
              refine g_geti (f := 258) dX8_advance_204 fl_X8_161 X.1.1 (by decide) rfl ?_
              rw [show zi (zSi (zSi y 258 r (nI b)) 260 r (nI 3)) 258 r = nI b from (by rw [zi_Si, if_neg (by omega), zi_Si, if_pos ⟨rfl, rfl⟩])]
              refine g_iconst (v := nI 1) dX8_advance_207 (by decide) ?_
              refine g_iadd dX8_advance_208 ?_
              rw [nI_add b 1]
              refine g_puti (f := 259) dX8_advance_209 fl_X8_35 (Or.inl rfl) X.1.1 rfl ?_
              refine g_return dX8_advance_212 rfl ?_
              rw [if_pos g]
              refine ⟨rfl, ⟨by rw [zi_Si, if_neg (by omega), zi_same], by rw [zi_Si, if_neg (by omega), zi_Si, if_neg (by omega), zi_same], zi_same, fun q => absurd (show (3 : Nat) = 2 from q) (by omega)⟩, (((F.si (by omega)).si (by omega)).si (by omega))⟩
          · refine g_iload_n 0 dX8_advance_124 rfl rfl ?_
            refine g_bipush (v := nI 57) dX8_advance_125 (by decide) ?_
            refine g_ncmp_gt (tgt := 187) dX8_advance_127 (by decide) (by omega) (by omega) (fun c4 => ?_) (fun c4 => ?_)
            · have nd : ¬ (48 ≤ t b ∧ t b ≤ 57) := by omega
              have ew : toB t n b = (if t b = 59 then (3, b, b + 1, 0) else (4, b, b + 1, 0)) := by unfold toB; rw [if_neg (by omega), if_neg nw, if_neg nd]
              rw [ew]
              refine g_aload_n 1 dX8_advance_187 rfl rfl ?_
              refine g_iload_n 0 dX8_advance_188 rfl rfl ?_
              refine g_bipush (v := nI 59) dX8_advance_189 (by decide) ?_
              refine g_ncmp_ne (tgt := 198) dX8_advance_191 (by decide) (by omega) (by omega) (fun g => ?_) (fun g => ?_)
              · refine g_iconst (v := nI 4) dX8_advance_198 (by decide) ?_
                refine g_puti (f := 260) dX8_advance_199 fl_X8_46 (Or.inl rfl) X.1.1 rfl ?_
                refine g_aload_n 1 dX8_advance_202 rfl rfl ?_
                refine g_aload_n 1 dX8_advance_203 rfl rfl ?_
                refine g_geti (f := 258) dX8_advance_204 fl_X8_161 X.1.1 (by decide) rfl ?_
                rw [show zi (zSi (zSi y 258 r (nI b)) 260 r (nI 4)) 258 r = nI b from (by rw [zi_Si, if_neg (by omega), zi_Si, if_pos ⟨rfl, rfl⟩])]
                refine g_iconst (v := nI 1) dX8_advance_207 (by decide) ?_
                refine g_iadd dX8_advance_208 ?_
                rw [nI_add b 1]
                refine g_puti (f := 259) dX8_advance_209 fl_X8_35 (Or.inl rfl) X.1.1 rfl ?_
                refine g_return dX8_advance_212 rfl ?_
                rw [if_neg g]
                refine ⟨rfl, ⟨by rw [zi_Si, if_neg (by omega), zi_same], by rw [zi_Si, if_neg (by omega), zi_Si, if_neg (by omega), zi_same], zi_same, fun q => absurd (show (4 : Nat) = 2 from q) (by omega)⟩, (((F.si (by omega)).si (by omega)).si (by omega))⟩
              · refine g_iconst (v := nI 3) dX8_advance_194 (by decide) ?_
                refine g_goto (tgt := 199) dX8_advance_195 (by decide) ?_
                refine g_puti (f := 260) dX8_advance_199 fl_X8_46 (Or.inl rfl) X.1.1 rfl ?_
                refine g_aload_n 1 dX8_advance_202 rfl rfl ?_
                refine g_aload_n 1 dX8_advance_203 rfl rfl ?_
                refine g_geti (f := 258) dX8_advance_204 fl_X8_161 X.1.1 (by decide) rfl ?_
                rw [show zi (zSi (zSi y 258 r (nI b)) 260 r (nI 3)) 258 r = nI b from (by rw [zi_Si, if_neg (by omega), zi_Si, if_pos ⟨rfl, rfl⟩])]
                refine g_iconst (v := nI 1) dX8_advance_207 (by decide) ?_
                refine g_iadd dX8_advance_208 ?_
                rw [nI_add b 1]
                refine g_puti (f := 259) dX8_advance_209 fl_X8_35 (Or.inl rfl) X.1.1 rfl ?_
                refine g_return dX8_advance_212 rfl ?_
                rw [if_pos g]
                refine ⟨rfl, ⟨by rw [zi_Si, if_neg (by omega), zi_same], by rw [zi_Si, if_neg (by omega), zi_Si, if_neg (by omega), zi_same], zi_same, fun q => absurd (show (3 : Nat) = 2 from q) (by omega)⟩, (((F.si (by omega)).si (by omega)).si (by omega))⟩
            · have ew : toB t n b = (if rnN t n 48 57 b - b ≤ 4 then (2, b, rnN t n 48 57 b, vaN t b (rnN t n 48 57 b - b)) else (4, b, rnN t n 48 57 b, 0)) := by unfold toB; rw [if_neg (by omega), if_neg nw, if_pos (by omega)]
              rw [ew]
              have ge := rnN_bd (t := t) (n := n) (lo := 48) (hi := 57) (e := b) sb.2
              refine g_aload_n 1 dX8_advance_130 rfl rfl ?_
              refine g_aload_n 1 dX8_advance_131 rfl rfl ?_
              refine g_bipush (v := nI 48) dX8_advance_132 (by decide) ?_
              refine g_bipush (v := nI 57) dX8_advance_134 (by decide) ?_
              refine g_invv (M' := mX8_endOfRun) (As := [.int (nI 48), .int (nI 57)]) (rest := [.ref r]) dX8_advance_136 ml_X8_168 okX8_endOfRun imX8_endOfRun seX8_endOfRun ⟨(Nat.le_of_ble_eq_true rfl), (Nat.le_of_ble_eq_true rfl)⟩ (ci := 8) rfl rfl X.1.1 rfl rfl (Nat.le_of_ble_eq_true rfl) (c_endOf X1 zi_same sb.2 (by omega) (by omega)) ?_
              rintro _ q3 ⟨rfl, eq3⟩
              subst q3
              show zG l w mX8_advance 139 [(1, .int (nI (t b))), (0, .ref r)] [.int (nI (rnN t n 48 57 b)), .ref r] (zSi y 258 r (nI b)) _
              refine g_puti (f := 259) dX8_advance_139 fl_X8_35 (Or.inl rfl) X.1.1 rfl ?_
              refine g_aload_n 1 dX8_advance_142 rfl rfl ?_
              refine g_aload_n 1 dX8_advance_143 rfl rfl ?_
              refine g_geti (f := 259) dX8_advance_144 fl_X8_35 X.1.1 (by decide) rfl ?_
              rw [show zi (zSi (zSi y 258 r (nI b)) 259 r (nI (rnN t n 48 57 b))) 259 r = nI (rnN t n 48 57 b) from (by rw [zi_Si, if_pos ⟨rfl, rfl⟩])]
              refine g_aload_n 1 dX8_advance_147 rfl rfl ?_
              refine g_geti (f := 258) dX8_advance_148 fl_X8_161 X.1.1 (by decide) rfl ?_
              rw [show zi (zSi (zSi y 258 r (nI b)) 259 r (nI (rnN t n 48 57 b))) 258 r = nI b from (by rw [zi_Si, if_neg (by omega), zi_Si, if_pos ⟨rfl, rfl⟩])]
              refine g_isub dX8_advance_151 ?_
              rw [nI_sub ge.1]
              refine g_iconst (v := nI 4) dX8_advance_152 (by decide) ?_
              refine g_ncmp_gt (tgt := 160) dX8_advance_153 (by decide) (by omega) (by omega) (fun g => ?_) (fun g => ?_)
              · refine g_iconst (v := nI 4) dX8_advance_160 (by decide) ?_
                refine g_puti (f := 260) dX8_advance_161 fl_X8_46 (Or.inl rfl) X.1.1 rfl ?_
                refine g_aload_n 1 dX8_advance_164 rfl rfl ?_
                refine g_aload_n 1 dX8_advance_165 rfl rfl ?_
                refine g_geti (f := 260) dX8_advance_166 fl_X8_46 X.1.1 (by decide) rfl ?_
                rw [show zi (zSi (zSi (zSi y 258 r (nI b)) 259 r (nI (rnN t n 48 57 b))) 260 r (nI 4)) 260 r = nI 4 from (by rw [zi_Si, if_pos ⟨rfl, rfl⟩])]
                refine g_iconst (v := nI 2) dX8_advance_169 (by decide) ?_
                refine g_ncmp_ne (tgt := 180) dX8_advance_170 (by decide) (by omega) (by omega) (fun g5 => ?_) (fun g5 => ?_)
                · refine g_iconst (v := nI 0) dX8_advance_180 (by decide) ?_
                  refine g_puti (f := 261) dX8_advance_181 fl_X8_76 (Or.inl rfl) X.1.1 rfl ?_
                  refine g_goto (tgt := 212) dX8_advance_184 (by decide) ?_
                  refine g_return dX8_advance_212 rfl ?_
                  rw [if_neg (by omega)]
                  refine ⟨rfl, ⟨by rw [zi_Si, if_neg (by omega), zi_same], by rw [zi_Si, if_neg (by omega), zi_Si, if_neg (by omega), zi_Si, if_neg (by omega), zi_same], by rw [zi_Si, if_neg (by omega), zi_Si, if_neg (by omega), zi_same], fun q => absurd (show (4 : Nat) = 2 from q) (by omega)⟩, ((((F.si (by omega)).si (by omega)).si (by omega)).si (by omega))⟩
                · exact absurd g5 (by omega)
              · refine g_iconst (v := nI 2) dX8_advance_156 (by decide) ?_
                refine g_goto (tgt := 161) dX8_advance_157 (by decide) ?_
                refine g_puti (f := 260) dX8_advance_161 fl_X8_46 (Or.inl rfl) X.1.1 rfl ?_
                refine g_aload_n 1 dX8_advance_164 rfl rfl ?_
                refine g_aload_n 1 dX8_advance_165 rfl rfl ?_
                refine g_geti (f := 260) dX8_advance_166 fl_X8_46 X.1.1 (by decide) rfl ?_
                rw [show zi (zSi (zSi (zSi y 258 r (nI b)) 259 r (nI (rnN t n 48 57 b))) 260 r (nI 2)) 260 r = nI 2 from (by rw [zi_Si, if_pos ⟨rfl, rfl⟩])]
                refine g_iconst (v := nI 2) dX8_advance_169 (by decide) ?_
                refine g_ncmp_ne (tgt := 180) dX8_advance_170 (by decide) (by omega) (by omega) (fun g5 => ?_) (fun g5 => ?_)
                · exact absurd rfl g5
                · refine g_aload_n 1 dX8_advance_173 rfl rfl ?_
                  have X3 := X.frF ((((FrF.rf (o := r) (lo := 258) (hi := 261)).si (f := 258) (v := nI b) (by omega)).si (f := 259) (v := nI (rnN t n 48 57 b)) (by omega)).si (f := 260) (v := nI 2) (by omega)) (by omega)
                  refine g_invv (M' := mX8_valueOfDigits) (As := []) (rest := [.ref r]) dX8_advance_174 ml_X8_172 okX8_valueOfDigits imX8_valueOfDigits seX8_valueOfDigits ⟨(Nat.le_of_ble_eq_true rfl), (Nat.le_of_ble_eq_true rfl)⟩ (ci := 8) rfl rfl X.1.1 rfl rfl (Nat.le_of_ble_eq_true rfl) (c_valDig X3 (by rw [zi_Si, if_neg (by omega), zi_Si, if_neg (by omega), zi_same]) (by rw [zi_Si, if_neg (by omega), zi_same]) ge.1 ge.2) ?_
                  rintro _ q4 ⟨rfl, eq4⟩
                  subst q4
                  show zG l w mX8_advance 177 [(1, .int (nI (t b))), (0, .ref r)] [.int (jI (vaN t b (rnN t n 48 57 b - b))), .ref r] (zSi (zSi (zSi y 258 r (nI b)) 259 r (nI (rnN t n 48 57 b))) 260 r (nI 2)) _
                  refine g_goto (tgt := 181) dX8_advance_177 (by decide) ?_
                  refine g_puti (f := 261) dX8_advance_181 fl_X8_76 (Or.inl rfl) X.1.1 rfl ?_
                  refine g_goto (tgt := 212) dX8_advance_184 (by decide) ?_
                  refine g_return dX8_advance_212 rfl ?_
                  rw [if_pos (by omega)]
                  refine ⟨rfl, ⟨by rw [zi_Si, if_neg (by omega), zi_same], by rw [zi_Si, if_neg (by omega), zi_Si, if_neg (by omega), zi_Si, if_neg (by omega), zi_same], by rw [zi_Si, if_neg (by omega), zi_Si, if_neg (by omega), zi_same], fun _ => zi_same⟩, ((((F.si (by omega)).si (by omega)).si (by omega)).si (by omega))⟩
        · have ew : toB t n b = (1, b, rnN t n 97 122 b, 0) := by unfold toB; rw [if_neg (by omega), if_pos (by omega)]
          rw [ew]
          refine g_aload_n 1 dX8_advance_98 rfl rfl ?_
          refine g_iconst (v := nI 1) dX8_advance_99 (by decide) ?_
          refine g_puti (f := 260) dX8_advance_100 fl_X8_46 (Or.inl rfl) X.1.1 rfl ?_
          refine g_aload_n 1 dX8_advance_103 rfl rfl ?_
          refine g_aload_n 1 dX8_advance_104 rfl rfl ?_
          refine g_bipush (v := nI 97) dX8_advance_105 (by decide) ?_
          refine g_bipush (v := nI 122) dX8_advance_107 (by decide) ?_
          have X2 := X.frF (((FrF.rf (o := r) (lo := 258) (hi := 261)).si (f := 258) (v := nI b) (by omega)).si (f := 260) (v := nI 1) (by omega)) (by omega)
          refine g_invv (M' := mX8_endOfRun) (As := [.int (nI 97), .int (nI 122)]) (rest := [.ref r]) dX8_advance_109 ml_X8_168 okX8_endOfRun imX8_endOfRun seX8_endOfRun ⟨(Nat.le_of_ble_eq_true rfl), (Nat.le_of_ble_eq_true rfl)⟩ (ci := 8) rfl rfl X.1.1 rfl rfl (Nat.le_of_ble_eq_true rfl) (c_endOf X2 (by rw [zi_Si, if_neg (by omega), zi_same]) sb.2 (by omega) (by omega)) ?_
          rintro _ q5 ⟨rfl, eq5⟩
          subst q5
          show zG l w mX8_advance 112 [(1, .int (nI (t b))), (0, .ref r)] [.int (nI (rnN t n 97 122 b)), .ref r] (zSi (zSi y 258 r (nI b)) 260 r (nI 1)) _
          refine g_puti (f := 259) dX8_advance_112 fl_X8_35 (Or.inl rfl) X.1.1 rfl ?_
          refine g_goto (tgt := 212) dX8_advance_115 (by decide) ?_
          refine g_return dX8_advance_212 rfl ?_
          refine ⟨rfl, ⟨by rw [zi_Si, if_neg (by omega), zi_same], by rw [zi_Si, if_neg (by omega), zi_Si, if_neg (by omega), zi_same], zi_same, fun q => absurd (show (1 : Nat) = 2 from q) (by omega)⟩, (((F.si (by omega)).si (by omega)).si (by omega))⟩
    · refine g_aload_n 1 dX8_advance_78 rfl rfl ?_
      refine g_iconst (v := nI 0) dX8_advance_79 (by decide) ?_
      refine g_puti (f := 260) dX8_advance_80 fl_X8_46 (Or.inl rfl) X.1.1 rfl ?_
      refine g_goto (tgt := 212) dX8_advance_83 (by decide) ?_
      refine g_return dX8_advance_212 rfl ?_
      refine ⟨rfl, ?_, ((F.si (by omega)).si (by omega))⟩
      unfold toB
      rw [if_pos (by omega)]
      exact ⟨zi_same, by rw [zi_Si, if_neg (by omega), zi_same], by rw [zi_Si, if_neg (by omega), zi_Si, if_neg (by omega)]; exact E, fun q => absurd (show (0 : Nat) = 2 from q) (by omega)⟩
  have loop : ∀ k e : Nat, n - e ≤ k → e ≤ n → skN t n e = skN t n e0 → zG l w mX8_advance 0 [(0, .ref r)] [] (zSi h 259 r (nI e)) (fun u h1 => u = none ∧ TkC h1 r (tokN t n e0) ∧ FrF r 258 261 h h1) := by
    intro k
    induction k with
    | zero =>
      intro e hk en er
      have X2 := x.frF ((FrF.rf (o := r) (lo := 258) (hi := 261)).si (f := 259) (v := nI e) (by omega)) (by omega)
      refine g_aload_n 0 dX8_advance_0 rfl rfl ?_
      refine g_geti (f := 259) dX8_advance_1 fl_X8_35 x.1.1 (by decide) rfl ?_
      rw [show zi (zSi h 259 r (nI e)) 259 r = nI e from (by rw [zi_Si, if_pos ⟨rfl, rfl⟩])]
      refine g_aload_n 0 dX8_advance_4 rfl rfl ?_
      refine g_geti (f := 257) dX8_advance_5 fl_X8_21 x.1.1 (by decide) rfl ?_
      rw [show zi (zSi h 259 r (nI e)) 257 r = nI n from (by rw [zi_Si, if_neg (by omega)]; exact x.2.1)]
      refine g_ncmp_ge (tgt := 50) dX8_advance_8 (by decide) (by omega) (by omega) (fun d0 => ?_) (fun d0 => ?_)
      · have dd : spB t n e = false := by exact spB_out d0
        rw [skN_f dd] at er
        exact after _ (FrF.rf.si (by omega)) X2 (by rw [zi_same, er])
      · exact absurd hk (by omega)
    | succ k ih =>
      intro e hk en er
      have X2 := x.frF ((FrF.rf (o := r) (lo := 258) (hi := 261)).si (f := 259) (v := nI e) (by omega)) (by omega)
      refine g_aload_n 0 dX8_advance_0 rfl rfl ?_
      refine g_geti (f := 259) dX8_advance_1 fl_X8_35 x.1.1 (by decide) rfl ?_
      rw [show zi (zSi h 259 r (nI e)) 259 r = nI e from (by rw [zi_Si, if_pos ⟨rfl, rfl⟩])]
      refine g_aload_n 0 dX8_advance_4 rfl rfl ?_
      refine g_geti (f := 257) dX8_advance_5 fl_X8_21 x.1.1 (by decide) rfl ?_
      rw [show zi (zSi h 259 r (nI e)) 257 r = nI n from (by rw [zi_Si, if_neg (by omega)]; exact x.2.1)]
      refine g_ncmp_ge (tgt := 50) dX8_advance_8 (by decide) (by omega) (by omega) (fun d0 => ?_) (fun d0 => ?_)
      · have dd : spB t n e = false := by exact spB_out d0
        rw [skN_f dd] at er
        exact after _ (FrF.rf.si (by omega)) X2 (by rw [zi_same, er])
      · have bt := btC_t X2 (show e < n by omega)
        have bl := btC_lt (h := zSi h 259 r (nI e)) (p := p) (i := e)
        rw [bt] at bl
        refine g_aload_n 0 dX8_advance_11 rfl rfl ?_
        refine g_aload_n 0 dX8_advance_12 rfl rfl ?_
        refine g_geti (f := 259) dX8_advance_13 fl_X8_35 x.1.1 (by decide) rfl ?_
        rw [show zi (zSi h 259 r (nI e)) 259 r = nI e from (by rw [zi_Si, if_pos ⟨rfl, rfl⟩])]
        refine g_invv (M' := mX8_byteAt) (As := [.int (nI e)]) (rest := []) dX8_advance_16 ml_X8_164 okX8_byteAt imX8_byteAt seX8_byteAt ⟨(Nat.le_of_ble_eq_true rfl), (Nat.le_of_ble_eq_true rfl)⟩ (ci := 8) rfl rfl x.1.1 rfl rfl (Nat.le_of_ble_eq_true rfl) (c_byteC X2 (by omega)) ?_
        rintro _ q1 ⟨rfl, eq1⟩
        subst q1
        rw [bt]
        show zG l w mX8_advance 19 [(0, .ref r)] [.int (nI (t e))] (zSi h 259 r (nI e)) _
        refine g_bipush (v := nI 10) dX8_advance_19 (by decide) ?_
        refine g_ncmp_eq (tgt := 37) dX8_advance_21 (by decide) (by omega) (by omega) (fun d1 => ?_) (fun d1 => ?_)
        · have dd : spB t n e = true := by unfold spB; rw [decide_eq_true (p := e < n) (by omega), Bool.true_and, Bool.or_eq_true, decide_eq_true_eq, decide_eq_true_eq]; omega
          refine g_aload_n 0 dX8_advance_37 rfl rfl ?_
          refine g_dup dX8_advance_38 rfl ?_
          refine g_geti (f := 259) dX8_advance_39 fl_X8_35 x.1.1 (by decide) rfl ?_
          rw [show zi (zSi h 259 r (nI e)) 259 r = nI e from (by rw [zi_Si, if_pos ⟨rfl, rfl⟩])]
          refine g_iconst (v := nI 1) dX8_advance_42 (by decide) ?_
          refine g_iadd dX8_advance_43 ?_
          rw [nI_add e 1]
          refine g_puti (f := 259) dX8_advance_44 fl_X8_35 (Or.inl rfl) x.1.1 rfl ?_
          refine g_goto (tgt := 0) dX8_advance_47 (by decide) ?_
          rw [zSi_ss]
          exact ih (e + 1) (by omega) (by omega) (by rw [← skN_t dd]; exact er)
        · refine g_aload_n 0 dX8_advance_24 rfl rfl ?_
          refine g_aload_n 0 dX8_advance_25 rfl rfl ?_
          refine g_geti (f := 259) dX8_advance_26 fl_X8_35 x.1.1 (by decide) rfl ?_
          rw [show zi (zSi h 259 r (nI e)) 259 r = nI e from (by rw [zi_Si, if_pos ⟨rfl, rfl⟩])]
          refine g_invv (M' := mX8_byteAt) (As := [.int (nI e)]) (rest := []) dX8_advance_29 ml_X8_164 okX8_byteAt imX8_byteAt seX8_byteAt ⟨(Nat.le_of_ble_eq_true rfl), (Nat.le_of_ble_eq_true rfl)⟩ (ci := 8) rfl rfl x.1.1 rfl rfl (Nat.le_of_ble_eq_true rfl) (c_byteC X2 (by omega)) ?_
          rintro _ q2 ⟨rfl, eq2⟩
          subst q2
          rw [bt]
          show zG l w mX8_advance 32 [(0, .ref r)] [.int (nI (t e))] (zSi h 259 r (nI e)) _
          refine g_bipush (v := nI 32) dX8_advance_32 (by decide) ?_
          refine g_ncmp_ne (tgt := 50) dX8_advance_34 (by decide) (by omega) (by omega) (fun d2 => ?_) (fun d2 => ?_)
          · have dd : spB t n e = false := by unfold spB; rw [decide_eq_false d1, decide_eq_false d2]; exact Bool.and_false _
            rw [skN_f dd] at er
            exact after _ (FrF.rf.si (by omega)) X2 (by rw [zi_same, er])
          · have dd : spB t n e = true := by unfold spB; rw [decide_eq_true (p := e < n) (by omega), Bool.true_and, Bool.or_eq_true, decide_eq_true_eq, decide_eq_true_eq]; omega
            refine g_aload_n 0 dX8_advance_37 rfl rfl ?_
            refine g_dup dX8_advance_38 rfl ?_
            refine g_geti (f := 259) dX8_advance_39 fl_X8_35 x.1.1 (by decide) rfl ?_
            rw [show zi (zSi h 259 r (nI e)) 259 r = nI e from (by rw [zi_Si, if_pos ⟨rfl, rfl⟩])]
            refine g_iconst (v := nI 1) dX8_advance_42 (by decide) ?_
            refine g_iadd dX8_advance_43 ?_
            rw [nI_add e 1]
            refine g_puti (f := 259) dX8_advance_44 fl_X8_35 (Or.inl rfl) x.1.1 rfl ?_
            refine g_goto (tgt := 0) dX8_advance_47 (by decide) ?_
            rw [zSi_ss]
            exact ih (e + 1) (by omega) (by omega) (by rw [← skN_t dd]; exact er)
  have e1 := loop (n - e0) e0 (Nat.le_refl _) e6 rfl
  rw [zSi_id he] at e1
  exact e1
end TKC
