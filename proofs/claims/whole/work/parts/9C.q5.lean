section QE
variable {l : Launch} {w : zW} {h : zH} {m x b : Nat} {π : Nat → Nat} {ls : Nat → List Nat} {N : nT} {X : List Nat} {t LN : Nat}
def rfO : Option Nat → Value
  | none => .null
  | some a => .ref a
def cntN (N : nT) (f : Nat) (b : Bool) (L : List Nat) : Nat := L.countP fun p => decide (nA N (368 + 8 * p + 0) = (f : Int) + 1) && (!b || decide (nA N (368 + 8 * p + 7) = 1))
theorem cnt_succ {f : Nat} {b : Bool} {L : List Nat} {j p : Nat} (hp : L[j]? = some p) : cntN N f b (L.take (j + 1)) = cntN N f b (L.take j) + if (decide (nA N (368 + 8 * p + 0) = (f : Int) + 1) && (!b || decide (nA N (368 + 8 * p + 7) = 1))) = true then 1 else 0 := by
  unfold cntN
  rw [take_succ_some hp, List.countP_append, List.countP_singleton]
theorem cnt_le {f : Nat} {b : Bool} {L : List Nat} : cntN N f b L ≤ L.length := List.countP_le_length
theorem c_packetAt (s : lnS h ls) (hL : isL h LN) {i : Nat} (i31 : i < 2147483648) : zM l w mX3_packetAt [.ref LN, .int (nI i)] h (fun u h1 => u = some (rfO (ls LN)[i]?) ∧ h1 = h) := by
  refine zM.of (by decide) (Nat.le_of_ble_eq_true rfl) ?_
  have S := s.1 LN hL
  have loop : ∀ n j : Nat, j + n = (ls LN).length → j ≤ i → zG l w mX3_packetAt 7 [(3, rfO (ls LN)[j]?), (2, .int (nI (i - j))), (0, .ref LN), (1, .int (nI i))] [] h (fun u h1 => u = some (rfO (ls LN)[i]?) ∧ h1 = h) := by
    intro n
    induction n with
    | zero =>
      intro j hj ji
      rw [show (ls LN)[j]? = none from List.getElem?_eq_none (by omega)]
      refine g_aload_nN 0 dX3_packetAt_7 rfl rfl ?_
      refine g_ifnullN (tgt := 28) dX3_packetAt_8 (by decide) ?_
      refine g_null dX3_packetAt_28 ?_
      refine g_areturn dX3_packetAt_29 rfl (Or.inl ⟨_, rfl⟩) (Or.inl rfl) ?_
      exact ⟨by rw [show (ls LN)[i]? = none from List.getElem?_eq_none (by omega)]; rfl, rfl⟩
    | succ n ih =>
      intro j hj ji
      obtain ⟨p, hp⟩ : ∃ p, (ls LN)[j]? = some p := ⟨_, List.getElem?_eq_getElem (by omega)⟩
      have hp6 := (S.2.2.2 j p hp).1.2
      have nx := (S.2.2.2 j p hp).2
      rw [hp]
      show zG l w mX3_packetAt 7 [(3, .ref p), (2, .int (nI (i - j))), (0, .ref LN), (1, .int (nI i))] [] h _
      refine g_aload_n 0 dX3_packetAt_7 rfl rfl ?_
      refine g_ifnull dX3_packetAt_8 ?_
      refine g_iload_n 1 dX3_packetAt_11 rfl rfl ?_
      refine g_zif_ne (a := ((i - j : Nat) : Int)) (tgt := 17) (jI_nat _).symm dX3_packetAt_12 (by decide) (by omega) (fun g => ?_) (fun g => ?_)
      · refine g_inc (v := nI (i - (j + 1))) (lv2 := [(2, .int (nI (i - (j + 1)))), (3, .ref p), (0, .ref LN), (1, .int (nI i))]) 1 dX3_packetAt_17 rfl (by rw [show i - j = i - (j + 1) + 1 by omega]; exact nI_dec _) (by decide) rfl ?_
        refine g_aload_n 1 dX3_packetAt_20 rfl rfl ?_
        cases e : (ls LN)[j + 1]? with
        | none =>
          refine g_getrN (f := 201) dX3_packetAt_21 fl_X3_9 hp6 rfl (nx.trans e) ?_
          refine g_astore_nN (lv2 := [(3, .null), (2, .int (nI (i - (j + 1)))), (0, .ref LN), (1, .int (nI i))]) dX3_packetAt_24 rfl (by decide) rfl ?_
          refine g_goto (tgt := 7) dX3_packetAt_25 (by decide) ?_
          have z9 := ih (j + 1) (by omega) (by omega)
          rw [e] at z9
          exact zG.sub [0, 1, 2, 3] rfl z9
        | some q =>
          refine g_getr (f := 201) (b := q) dX3_packetAt_21 fl_X3_9 hp6 rfl (nx.trans e) ?_
          refine g_astore_n (lv2 := [(3, .ref q), (2, .int (nI (i - (j + 1)))), (0, .ref LN), (1, .int (nI i))]) dX3_packetAt_24 rfl (by decide) rfl ?_
          refine g_goto (tgt := 7) dX3_packetAt_25 (by decide) ?_
          have z9 := ih (j + 1) (by omega) (by omega)
          rw [e] at z9
          exact zG.sub [0, 1, 2, 3] rfl z9
      · refine g_aload_n 0 dX3_packetAt_15 rfl rfl ?_
        refine g_areturn dX3_packetAt_16 rfl (Or.inl ⟨_, rfl⟩) (Or.inr ⟨_, rfl⟩) ?_
        exact ⟨by rw [show i = j by omega, hp]; rfl, rfl⟩
  refine g_iload_n 1 dX3_packetAt_0 rfl rfl ?_
  refine g_istore_n (lv2 := [(2, .int (nI i)), (0, .ref LN), (1, .int (nI i))]) dX3_packetAt_1 rfl (by decide) rfl ?_
  refine g_aload_n 1 dX3_packetAt_2 rfl rfl ?_
  have hd := S.1
  rw [List.head?_eq_getElem?] at hd
  cases e : (ls LN)[0]? with
  | none =>
    refine g_getrN (f := 96) dX3_packetAt_3 fl_X3_20 hL.2 rfl (hd.trans e) ?_
    refine g_astore_nN (lv2 := [(3, .null), (2, .int (nI i)), (0, .ref LN), (1, .int (nI i))]) dX3_packetAt_6 rfl (by decide) rfl ?_
    have z9 := loop _ 0 (Nat.zero_add _) (Nat.zero_le _)
    rw [e] at z9
    exact zG.sub [0, 1, 2, 3] rfl z9
  | some q =>
    refine g_getr (f := 96) (b := q) dX3_packetAt_3 fl_X3_20 hL.2 rfl (hd.trans e) ?_
    refine g_astore_n (lv2 := [(3, .ref q), (2, .int (nI i)), (0, .ref LN), (1, .int (nI i))]) dX3_packetAt_6 rfl (by decide) rfl ?_
    have z9 := loop _ 0 (Nat.zero_add _) (Nat.zero_le _)
    rw [e] at z9
    exact zG.sub [0, 1, 2, 3] rfl z9
def pkv (N : nT) (a p k : Nat) : Int := if k = 0 then nA N (368 + 8 * p + 0) - 1 else if k = 6 then shareN N a p else nA N (368 + 8 * p + k)
def qPacket (N : nT) (z i k : Int) : Int × Int := if 0 ≤ i ∧ 0 ≤ k ∧ k ≤ 6 then (if 0 ≤ z ∧ z < nA N 0 then (match (nR N z.toNat)[i.toNat]? with | some p => (0, pkv N z.toNat p k.toNat) | none => (5, -1)) else (2, -1)) else (1, -1)
theorem c_packetM (r : MoN h m N) (hI : iN [] N) {z i k : Int} (zb : -2147483648 ≤ z ∧ z < 2147483648) (ib : -2147483648 ≤ i ∧ i < 2147483648) (kb : -2147483648 ≤ k ∧ k < 2147483648) : zM l w mX10_packet [.ref m, .int (jI z), .int (jI i), .int (jI k)] h (fun u h1 => u = some (.int (jI (qPacket N z i k).2)) ∧ h1 = zSi h 321 m (jI (qPacket N z i k).1)) := by
  refine zM.of (by decide) (Nat.le_of_ble_eq_true rfl) ?_
  have H0 := hI.H.1
  have hB := hI.B
  refine g_iload_n 2 dX10_packet_0 rfl rfl ?_
  refine g_zif_lt (a := i) (tgt := 16) rfl dX10_packet_1 (by decide) (by omega) (fun g => ?_) (fun g => ?_)
  · refine g_aload_n 0 dX10_packet_16 rfl rfl ?_
    refine g_iconst (v := nI 1) dX10_packet_17 (by decide) ?_
    refine g_invv (M' := mX10_refuse) (As := [.int (nI 1)]) (rest := []) dX10_packet_18 ml_X10_289 okX10_refuse imX10_refuse seX10_refuse ⟨(Nat.le_of_ble_eq_true rfl), (Nat.le_of_ble_eq_true rfl)⟩ (ci := 10) rfl rfl r.1.1 rfl rfl (Nat.le_of_ble_eq_true rfl) (c_refuse r.1.1) ?_
    rintro _ q1 ⟨rfl, eq1⟩
    subst q1
    show zG l w mX10_packet 21 [(0, .ref m), (1, .int (jI z)), (2, .int (jI i)), (3, .int (jI k))] [.int (-1)] (zSi h 321 m (nI 1)) _
    refine g_ireturn dX10_packet_21 rfl ?_
    rw [show qPacket N z i k = (1, -1) by unfold qPacket; rw [if_neg (by omega)]]
    exact ⟨rfl, rfl⟩
  · refine g_iload_n 3 dX10_packet_4 rfl rfl ?_
    refine g_i2l dX10_packet_5 ?_
    rw [jI_l (by omega) (by omega)]
    refine g_lconst (v := jL 0) dX10_packet_6 (by decide) ?_
    refine g_ldc2J (z := 6) dX10_packet_7 kl_X10_260 (by decide) ?_
    refine g_invs (M' := mX10_isFrom) (As := [.long (jL k), .long (jL 0), .long (jL 6)]) (rest := []) dX10_packet_10 ml_X10_252 okX10_isFrom stX10_isFrom ⟨(Nat.le_of_ble_eq_true rfl), (Nat.le_of_ble_eq_true rfl)⟩ rfl rfl (Nat.le_of_ble_eq_true rfl) (c_isFrom (by omega) (by omega) (by omega)) ?_
    rintro _ q2 ⟨rfl, eq2⟩
    subst q2
    show zG l w mX10_packet 13 [(0, .ref m), (1, .int (jI z)), (2, .int (jI i)), (3, .int (jI k))] [.int (bI (decide (0 ≤ k ∧ k ≤ 6)))] h _
    refine g_bif_ne (tgt := 22) dX10_packet_13 (by decide) (fun c => ?_) (fun c => ?_)
    · have c := of_decide_eq_true c
      refine g_aload_n 0 dX10_packet_22 rfl rfl ?_
      refine g_iload_n 1 dX10_packet_23 rfl rfl ?_
      refine g_invv (M' := mX10_isLink) (As := [.int (jI z)]) (rest := []) dX10_packet_24 ml_X10_316 okX10_isLink imX10_isLink seX10_isLink ⟨(Nat.le_of_ble_eq_true rfl), (Nat.le_of_ble_eq_true rfl)⟩ (ci := 10) rfl rfl r.1.1 rfl rfl (Nat.le_of_ble_eq_true rfl) (c_isLink r H0 (by omega)) ?_
      rintro _ q4 ⟨rfl, eq4⟩
      subst q4
      show zG l w mX10_packet 27 [(0, .ref m), (1, .int (jI z)), (2, .int (jI i)), (3, .int (jI k))] [.int (bI (decide (0 ≤ z ∧ z < nA N 0)))] h _
      refine g_bif_ne (tgt := 36) dX10_packet_27 (by decide) (fun d => ?_) (fun d => ?_)
      · have d := of_decide_eq_true d
        rw [show qPacket N z i k = (match (nR N z.toNat)[i.toNat]? with | some p => (0, pkv N z.toNat p k.toNat) | none => (5, -1)) by unfold qPacket; rw [if_pos (by omega), if_pos d]]
        obtain ⟨a, ea⟩ : ∃ a : Nat, z = (a : Int) := ⟨_, (Int.toNat_of_nonneg d.1).symm⟩
        subst ea
        obtain ⟨j, ej⟩ : ∃ j : Nat, i = (j : Int) := ⟨_, (Int.toNat_of_nonneg (by omega)).symm⟩
        subst ej
        obtain ⟨n, en⟩ : ∃ n : Nat, k = (n : Int) := ⟨_, (Int.toNat_of_nonneg c.1).symm⟩
        subst en
        simp only [jI_nat]
        have a6 : a < 6 := by omega
        have R60 := (hI.L a d.2).2.1.1
        refine g_iload_n 2 dX10_packet_36 rfl rfl ?_
        refine g_i2l dX10_packet_37 ?_
        rw [nI_l (by omega), ← jL_nat]
        refine g_aload_n 0 dX10_packet_38 rfl rfl ?_
        refine g_iload_n 1 dX10_packet_39 rfl rfl ?_
        refine g_iconst (v := nI 4) dX10_packet_40 (by decide) ?_
        refine g_invv (M' := mX10_ofLink) (As := [.int (nI a), .int (nI 4)]) (rest := [.long (jL ((j : Nat) : Int))]) dX10_packet_41 ml_X10_69 okX10_ofLink imX10_ofLink seX10_ofLink ⟨(Nat.le_of_ble_eq_true rfl), (Nat.le_of_ble_eq_true rfl)⟩ (ci := 10) rfl rfl r.1.1 rfl rfl (Nat.le_of_ble_eq_true rfl) (c_ofStood r (by omega)) ?_
        rintro _ q6 ⟨rfl, eq6⟩
        subst q6
        show zG l w mX10_packet 44 [(0, .ref m), (1, .int (nI a)), (2, .int (nI j)), (3, .int (nI n))] [.long (lN (nR N a).length), .long (jL ((j : Nat) : Int))] h _
        rw [← jL_nat]
        refine g_lif_lt (a := ((j : Nat) : Int)) (b := (((nR N a).length : Nat) : Int)) (tgt := 54) dX10_packet_44 rfl dX10_packet_45 (by decide) (by omega) (by omega) (fun e => ?_) (fun e => ?_)
        · obtain ⟨p, hp⟩ : ∃ p, (nR N a)[j]? = some p := ⟨_, List.getElem?_eq_getElem (by omega)⟩
          rw [show (nR N (a : Int).toNat)[(j : Int).toNat]? = some p from hp]
          have lv := hI.C.memR a6 (List.mem_of_getElem? hp)
          have P := hI.P p lv.1 lv.2
          have p480 := lv.1
          have Lk := hI.L a d.2
          have fl := hI.fl lv.1 lv.2
          have f6 := fl.2.2
          refine g_aload_n 0 dX10_packet_54 rfl rfl ?_
          refine g_sipush (v := nI 4208) dX10_packet_55 (by decide) ?_
          refine g_bipush (v := nI 60) dX10_packet_58 (by decide) ?_
          refine g_iload_n 1 dX10_packet_60 rfl rfl ?_
          refine g_imul dX10_packet_61 ?_
          rw [pk_mul 60 a]
          refine g_iadd dX10_packet_62 ?_
          rw [nI_add 4208 (60 * a)]
          refine g_iload_n 2 dX10_packet_63 rfl rfl ?_
          refine g_iadd dX10_packet_64 ?_
          rw [nI_add (4208 + 60 * a) j]
          refine g_invv (M' := mX10_at) (As := [.int (nI (4208 + 60 * a + j))]) (rest := []) dX10_packet_65 ml_X10_58 okX10_at imX10_at seX10_at ⟨(Nat.le_of_ble_eq_true rfl), (Nat.le_of_ble_eq_true rfl)⟩ (ci := 10) rfl rfl r.1.1 rfl rfl (Nat.le_of_ble_eq_true rfl) (c_atRow r a6 (by omega) hp) ?_
          rintro _ q8 ⟨rfl, eq8⟩
          subst q8
          show zG l w mX10_packet 68 [(0, .ref m), (1, .int (nI a)), (2, .int (nI j)), (3, .int (nI n))] [.int (nI p)] h _
          refine g_istore (lv2 := [(4, .int (nI p)), (0, .ref m), (1, .int (nI a)), (2, .int (nI j)), (3, .int (nI n))]) dX10_packet_68 (by decide) rfl ?_
          refine g_aload_n 1 dX10_packet_70 rfl rfl ?_
          refine g_iload_n 4 dX10_packet_71 rfl rfl ?_
          refine g_zif_ne (a := ((n : Nat) : Int)) (tgt := 85) (jI_nat n).symm dX10_packet_72 (by decide) (by omega) (fun n0 => ?_) (fun n0 => ?_)
          · refine g_iload_n 4 dX10_packet_85 rfl rfl ?_
            refine g_bipush (v := nI 6) dX10_packet_86 (by decide) ?_
            refine g_zcmp_ne (a := ((n : Nat) : Int)) (b := 6) (tgt := 101) (jI_nat n).symm (by decide) dX10_packet_88 (by decide) (by omega) (by omega) (fun n6 => ?_) (fun n6 => ?_)
            · refine g_aload_n 1 dX10_packet_101 rfl rfl ?_
              refine g_iload 0 dX10_packet_102 rfl ?_
              refine g_iload_n 4 dX10_packet_104 rfl rfl ?_
              refine g_invs (M' := mX10_packet0) (As := [.int (nI p), .int (nI n)]) (rest := [.ref m, .ref m]) dX10_packet_105 ml_X10_55 okX10_packet0 stX10_packet0 ⟨(Nat.le_of_ble_eq_true rfl), (Nat.le_of_ble_eq_true rfl)⟩ rfl rfl (Nat.le_of_ble_eq_true rfl) c_packet0 ?_
              rintro _ q13 ⟨rfl, eq13⟩
              subst q13
              show zG l w mX10_packet 108 [(4, .int (nI p)), (0, .ref m), (1, .int (nI a)), (2, .int (nI j)), (3, .int (nI n))] [.int (nI (368 + 8 * p + n)), .ref m, .ref m] h _
              refine g_invv (M' := mX10_of) (As := [.int (nI (368 + 8 * p + n))]) (rest := [.ref m]) dX10_packet_108 ml_X10_48 okX10_of imX10_of seX10_of ⟨(Nat.le_of_ble_eq_true rfl), (Nat.le_of_ble_eq_true rfl)⟩ (ci := 10) rfl rfl r.1.1 rfl rfl (Nat.le_of_ble_eq_true rfl) (c_ofN r (by omega) (by unfold nSp; omega)) ?_
              rintro _ q14 ⟨rfl, eq14⟩
              subst q14
              show zG l w mX10_packet 111 [(4, .int (nI p)), (0, .ref m), (1, .int (nI a)), (2, .int (nI j)), (3, .int (nI n))] [.long (jL (nA N (368 + 8 * p + n))), .ref m] h _
              refine g_invv (M' := mX10_gives) (As := [.long (jL (nA N (368 + 8 * p + n)))]) (rest := []) dX10_packet_111 ml_X10_298 okX10_gives imX10_gives seX10_gives ⟨(Nat.le_of_ble_eq_true rfl), (Nat.le_of_ble_eq_true rfl)⟩ (ci := 10) rfl rfl r.1.1 rfl rfl (Nat.le_of_ble_eq_true rfl) (c_gives r.1.1) ?_
              rintro _ q15 ⟨rfl, eq15⟩
              subst q15
              show zG l w mX10_packet 114 [(4, .int (nI p)), (0, .ref m), (1, .int (nI a)), (2, .int (nI j)), (3, .int (nI n))] [.int (jI (nA N (368 + 8 * p + n)))] (zSi h 321 m (nI 0)) _
              refine g_ireturn dX10_packet_114 rfl ?_
              exact ⟨by show _ = some (Value.int (jI (pkv N a p n))); unfold pkv; rw [if_neg (by omega), if_neg (by omega)], rfl⟩
            · have e6 : n = 6 := by omega
              subst e6
              refine g_aload_n 1 dX10_packet_91 rfl rfl ?_
              refine g_iload_n 2 dX10_packet_92 rfl rfl ?_
              refine g_iload 0 dX10_packet_93 rfl ?_
              refine g_invv (M' := mX10_shareOf) (As := [.int (nI a), .int (nI p)]) (rest := [.ref m]) dX10_packet_95 ml_X10_159 okX10_shareOf imX10_shareOf seX10_shareOf ⟨(Nat.le_of_ble_eq_true rfl), (Nat.le_of_ble_eq_true rfl)⟩ (ci := 10) rfl rfl r.1.1 rfl rfl (Nat.le_of_ble_eq_true rfl) (c_shareOf r hB a6 Lk.q lv.1 P.2.2.2.2.1.1 (Int.lt_of_lt_of_le (by decide) P.2.2.2.1.1)) ?_
              rintro _ q11 ⟨rfl, eq11⟩
              subst q11
              show zG l w mX10_packet 98 [(4, .int (nI p)), (0, .ref m), (1, .int (nI a)), (2, .int (nI j)), (3, .int (nI 6))] [.long (jL (shareN N a p)), .ref m] h _
              refine g_goto (tgt := 111) dX10_packet_98 (by decide) ?_
              refine g_invv (M' := mX10_gives) (As := [.long (jL (shareN N a p))]) (rest := []) dX10_packet_111 ml_X10_298 okX10_gives imX10_gives seX10_gives ⟨(Nat.le_of_ble_eq_true rfl), (Nat.le_of_ble_eq_true rfl)⟩ (ci := 10) rfl rfl r.1.1 rfl rfl (Nat.le_of_ble_eq_true rfl) (c_gives r.1.1) ?_
              rintro _ q12 ⟨rfl, eq12⟩
              subst q12
              show zG l w mX10_packet 114 [(4, .int (nI p)), (0, .ref m), (1, .int (nI a)), (2, .int (nI j)), (3, .int (nI 6))] [.int (jI (shareN N a p))] (zSi h 321 m (nI 0)) _
              refine g_ireturn dX10_packet_114 rfl ?_
              exact ⟨rfl, rfl⟩
          · have e0 : n = 0 := by omega
            subst e0
            refine g_aload_n 1 dX10_packet_75 rfl rfl ?_
            refine g_iload 0 dX10_packet_76 rfl ?_
            refine g_invv (M' := mX10_flowOf) (As := [.int (nI p)]) (rest := [.ref m]) dX10_packet_78 ml_X10_79 okX10_flowOf imX10_flowOf seX10_flowOf ⟨(Nat.le_of_ble_eq_true rfl), (Nat.le_of_ble_eq_true rfl)⟩ (ci := 10) rfl rfl r.1.1 rfl rfl (Nat.le_of_ble_eq_true rfl) (c_flowOf r lv.1 fl.1) ?_
            rintro _ q9 ⟨rfl, eq9⟩
            subst q9
            show zG l w mX10_packet 81 [(4, .int (nI p)), (0, .ref m), (1, .int (nI a)), (2, .int (nI j)), (3, .int (nI 0))] [.int (nI (flN N p)), .ref m] h _
            refine g_i2l dX10_packet_81 ?_
            rw [nI_l (by omega), ← jL_nat]
            refine g_goto (tgt := 111) dX10_packet_82 (by decide) ?_
            refine g_invv (M' := mX10_gives) (As := [.long (jL ((flN N p : Nat) : Int))]) (rest := []) dX10_packet_111 ml_X10_298 okX10_gives imX10_gives seX10_gives ⟨(Nat.le_of_ble_eq_true rfl), (Nat.le_of_ble_eq_true rfl)⟩ (ci := 10) rfl rfl r.1.1 rfl rfl (Nat.le_of_ble_eq_true rfl) (c_gives r.1.1) ?_
            rintro _ q10 ⟨rfl, eq10⟩
            subst q10
            show zG l w mX10_packet 114 [(4, .int (nI p)), (0, .ref m), (1, .int (nI a)), (2, .int (nI j)), (3, .int (nI 0))] [.int (jI ((flN N p : Nat) : Int))] (zSi h 321 m (nI 0)) _
            refine g_ireturn dX10_packet_114 rfl ?_
            exact ⟨by show _ = some (Value.int (jI (nA N (368 + 8 * p + 0) - 1))); rw [fl.1, Int.add_sub_cancel], rfl⟩
        · refine g_aload_n 0 dX10_packet_48 rfl rfl ?_
          refine g_iconst (v := nI 5) dX10_packet_49 (by decide) ?_
          refine g_invv (M' := mX10_refuse) (As := [.int (nI 5)]) (rest := []) dX10_packet_50 ml_X10_289 okX10_refuse imX10_refuse seX10_refuse ⟨(Nat.le_of_ble_eq_true rfl), (Nat.le_of_ble_eq_true rfl)⟩ (ci := 10) rfl rfl r.1.1 rfl rfl (Nat.le_of_ble_eq_true rfl) (c_refuse r.1.1) ?_
          rintro _ q7 ⟨rfl, eq7⟩
          subst q7
          show zG l w mX10_packet 53 [(0, .ref m), (1, .int (nI a)), (2, .int (nI j)), (3, .int (nI n))] [.int (-1)] (zSi h 321 m (nI 5)) _
          refine g_ireturn dX10_packet_53 rfl ?_
          rw [show (nR N (a : Int).toNat)[(j : Int).toNat]? = none from List.getElem?_eq_none (by show (nR N a).length ≤ j; omega)]
          exact ⟨rfl, rfl⟩
      · have d := of_decide_eq_false d
        refine g_aload_n 0 dX10_packet_30 rfl rfl ?_
        refine g_iconst (v := nI 2) dX10_packet_31 (by decide) ?_
        refine g_invv (M' := mX10_refuse) (As := [.int (nI 2)]) (rest := []) dX10_packet_32 ml_X10_289 okX10_refuse imX10_refuse seX10_refuse ⟨(Nat.le_of_ble_eq_true rfl), (Nat.le_of_ble_eq_true rfl)⟩ (ci := 10) rfl rfl r.1.1 rfl rfl (Nat.le_of_ble_eq_true rfl) (c_refuse r.1.1) ?_
        rintro _ q5 ⟨rfl, eq5⟩
        subst q5
        show zG l w mX10_packet 35 [(0, .ref m), (1, .int (jI z)), (2, .int (jI i)), (3, .int (jI k))] [.int (-1)] (zSi h 321 m (nI 2)) _
        refine g_ireturn dX10_packet_35 rfl ?_
        rw [show qPacket N z i k = (2, -1) by unfold qPacket; rw [if_pos (by omega), if_neg d]]
        exact ⟨rfl, rfl⟩
    · have c := of_decide_eq_false c
      refine g_aload_n 0 dX10_packet_16 rfl rfl ?_
      refine g_iconst (v := nI 1) dX10_packet_17 (by decide) ?_
      refine g_invv (M' := mX10_refuse) (As := [.int (nI 1)]) (rest := []) dX10_packet_18 ml_X10_289 okX10_refuse imX10_refuse seX10_refuse ⟨(Nat.le_of_ble_eq_true rfl), (Nat.le_of_ble_eq_true rfl)⟩ (ci := 10) rfl rfl r.1.1 rfl rfl (Nat.le_of_ble_eq_true rfl) (c_refuse r.1.1) ?_
      rintro _ q3 ⟨rfl, eq3⟩
      subst q3
      show zG l w mX10_packet 21 [(0, .ref m), (1, .int (jI z)), (2, .int (jI i)), (3, .int (jI k))] [.int (-1)] (zSi h 321 m (nI 1)) _
      refine g_ireturn dX10_packet_21 rfl ?_
      rw [show qPacket N z i k = (1, -1) by unfold qPacket; rw [if_neg (by omega)]]
      exact ⟨rfl, rfl⟩
theorem c_tellP (c : CX h b π ls N X t) {p : Nat} (hx : liv N p) (hfl : nA N (368 + 8 * p + 0) = (flN N p : Int) + 1) (hh : zi h 194 (π p) = jI (nA N (368 + 8 * p + 2))) {a k : Nat} (k5 : k ≤ 5) : zM l w mX6_tell [.ref (π p), .int (nI k)] h (fun u h1 => u = some (.int (jI (pkv N a p k))) ∧ h1 = h) := by
  refine zM.of (by decide) (Nat.le_of_ble_eq_true rfl) ?_
  rcases (show k = 0 ∨ k = 1 ∨ k = 2 ∨ k = 3 ∨ k = 4 ∨ k = 5 by omega) with rfl | rfl | rfl | rfl | rfl | rfl
  · refine g_iload_n 1 dX6_tell_0 rfl rfl ?_
    refine g_tableIn (off := 35) (tgt := 36) dX6_tell_1 (by decide) (by decide) (by decide) (by decide) ?_
    refine g_aload_n 0 dX6_tell_36 rfl rfl ?_
    refine g_geti (f := 192) dX6_tell_37 fl_X6_9 (c.2.2.2.2.2.1.1 p hx).2.2 (by decide) rfl ?_
    rw [show zi h 192 (π p) = nI (flN N p) from (by rw [(c.2.2.2.2.2.1.1 p hx).1.1, hfl, Int.add_sub_cancel, jI_nat])]
    refine g_ireturn dX6_tell_40 rfl ?_
    exact ⟨by show _ = some (Value.int (jI (nA N (368 + 8 * p + 0) - 1))); rw [hfl, Int.add_sub_cancel, jI_nat], rfl⟩
  · refine g_iload_n 1 dX6_tell_0 rfl rfl ?_
    refine g_tableIn (off := 40) (tgt := 41) dX6_tell_1 (by decide) (by decide) (by decide) (by decide) ?_
    refine g_aload_n 0 dX6_tell_41 rfl rfl ?_
    refine g_geti (f := 193) dX6_tell_42 fl_X6_15 (c.2.2.2.2.2.1.1 p hx).2.2 (by decide) rfl ?_
    rw [show zi h 193 (π p) = jI (nA N (368 + 8 * p + 1)) from (c.2.2.2.2.2.1.1 p hx).1.2.1]
    refine g_ireturn dX6_tell_45 rfl ?_
    exact ⟨rfl, rfl⟩
  · refine g_iload_n 1 dX6_tell_0 rfl rfl ?_
    refine g_tableIn (off := 45) (tgt := 46) dX6_tell_1 (by decide) (by decide) (by decide) (by decide) ?_
    refine g_aload_n 0 dX6_tell_46 rfl rfl ?_
    refine g_geti (f := 194) dX6_tell_47 fl_X6_18 (c.2.2.2.2.2.1.1 p hx).2.2 (by decide) rfl ?_
    rw [show zi h 194 (π p) = jI (nA N (368 + 8 * p + 2)) from hh]
    refine g_ireturn dX6_tell_50 rfl ?_
    exact ⟨rfl, rfl⟩
  · refine g_iload_n 1 dX6_tell_0 rfl rfl ?_
    refine g_tableIn (off := 50) (tgt := 51) dX6_tell_1 (by decide) (by decide) (by decide) (by decide) ?_
    refine g_aload_n 0 dX6_tell_51 rfl rfl ?_
    refine g_geti (f := 195) dX6_tell_52 fl_X6_26 (c.2.2.2.2.2.1.1 p hx).2.2 (by decide) rfl ?_
    rw [show zi h 195 (π p) = jI (nA N (368 + 8 * p + 3)) from (c.2.2.2.2.2.1.1 p hx).1.2.2.1]
    refine g_ireturn dX6_tell_55 rfl ?_
    exact ⟨rfl, rfl⟩
  · refine g_iload_n 1 dX6_tell_0 rfl rfl ?_
    refine g_tableIn (off := 55) (tgt := 56) dX6_tell_1 (by decide) (by decide) (by decide) (by decide) ?_
    refine g_aload_n 0 dX6_tell_56 rfl rfl ?_
    refine g_geti (f := 196) dX6_tell_57 fl_X6_33 (c.2.2.2.2.2.1.1 p hx).2.2 (by decide) rfl ?_
    rw [show zi h 196 (π p) = jI (nA N (368 + 8 * p + 4)) from (c.2.2.2.2.2.1.1 p hx).1.2.2.2.1]
    refine g_ireturn dX6_tell_60 rfl ?_
    exact ⟨rfl, rfl⟩
  · refine g_iload_n 1 dX6_tell_0 rfl rfl ?_
    refine g_tableOut (tgt := 61) dX6_tell_1 (by decide) (by decide) ?_
    refine g_aload_n 0 dX6_tell_61 rfl rfl ?_
    refine g_geti (f := 198) dX6_tell_62 fl_X6_46 (c.2.2.2.2.2.1.1 p hx).2.2 (by decide) rfl ?_
    rw [show zi h 198 (π p) = jI (nA N (368 + 8 * p + 5)) from (c.2.2.2.2.2.1.1 p hx).1.2.2.2.2.2.1]
    refine g_ireturn dX6_tell_65 rfl ?_
    exact ⟨rfl, rfl⟩
theorem c_packetC (c : CX h b π ls N [] t) (xo : XO h x b) (hI : iN [] N) {z i k : Int} (zb : -2147483648 ≤ z ∧ z < 2147483648) (ib : -2147483648 ≤ i ∧ i < 2147483648) (kb : -2147483648 ≤ k ∧ k < 2147483648) : zM l w mX9_packet [.ref x, .int (jI z), .int (jI i), .int (jI k)] h (fun u h1 => u = some (.int (jI (qPacket N z i k).2)) ∧ h1 = zSi h 290 x (jI (qPacket N z i k).1)) := by
  refine zM.of (by decide) (Nat.le_of_ble_eq_true rfl) ?_
  have H0 := hI.H.1
  have hB := hI.B
  refine g_iload_n 2 dX9_packet_0 rfl rfl ?_
  refine g_zif_lt (a := i) (tgt := 14) rfl dX9_packet_1 (by decide) (by omega) (fun g => ?_) (fun g => ?_)
  · refine g_aload_n 0 dX9_packet_14 rfl rfl ?_
    refine g_iconst (v := nI 1) dX9_packet_15 (by decide) ?_
    refine g_invv (M' := mX9_refuse) (As := [.int (nI 1)]) (rest := []) dX9_packet_16 ml_X9_58 okX9_refuse imX9_refuse seX9_refuse ⟨(Nat.le_of_ble_eq_true rfl), (Nat.le_of_ble_eq_true rfl)⟩ (ci := 9) rfl rfl xo.1 rfl rfl (Nat.le_of_ble_eq_true rfl) (c_refC xo.1) ?_
    rintro _ q1 ⟨rfl, eq1⟩
    subst q1
    show zG l w mX9_packet 19 [(0, .ref x), (1, .int (jI z)), (2, .int (jI i)), (3, .int (jI k))] [.int (-1)] (zSi h 290 x (nI 1)) _
    refine g_ireturn dX9_packet_19 rfl ?_
    rw [show qPacket N z i k = (1, -1) by unfold qPacket; rw [if_neg (by omega)]]
    exact ⟨rfl, rfl⟩
  · refine g_iload_n 3 dX9_packet_4 rfl rfl ?_
    refine g_zif_lt (a := k) (tgt := 14) rfl dX9_packet_5 (by decide) (by omega) (fun g2 => ?_) (fun g2 => ?_)
    · refine g_aload_n 0 dX9_packet_14 rfl rfl ?_
      refine g_iconst (v := nI 1) dX9_packet_15 (by decide) ?_
      refine g_invv (M' := mX9_refuse) (As := [.int (nI 1)]) (rest := []) dX9_packet_16 ml_X9_58 okX9_refuse imX9_refuse seX9_refuse ⟨(Nat.le_of_ble_eq_true rfl), (Nat.le_of_ble_eq_true rfl)⟩ (ci := 9) rfl rfl xo.1 rfl rfl (Nat.le_of_ble_eq_true rfl) (c_refC xo.1) ?_
      rintro _ q2 ⟨rfl, eq2⟩
      subst q2
      show zG l w mX9_packet 19 [(0, .ref x), (1, .int (jI z)), (2, .int (jI i)), (3, .int (jI k))] [.int (-1)] (zSi h 290 x (nI 1)) _
      refine g_ireturn dX9_packet_19 rfl ?_
      rw [show qPacket N z i k = (1, -1) by unfold qPacket; rw [if_neg (by omega)]]
      exact ⟨rfl, rfl⟩
    · refine g_iload_n 3 dX9_packet_8 rfl rfl ?_
      refine g_bipush (v := nI 6) dX9_packet_9 (by decide) ?_
      refine g_zcmp_le (a := k) (b := 6) (tgt := 20) rfl (by decide) dX9_packet_11 (by decide) (by omega) (by omega) (fun g3 => ?_) (fun g3 => ?_)
      · refine g_aload_n 0 dX9_packet_20 rfl rfl ?_
        refine g_getr (f := 293) (b := b) dX9_packet_21 fl_X9_23 xo.1 rfl xo.2 ?_
        refine g_iload_n 1 dX9_packet_24 rfl rfl ?_
        by_cases d : 0 ≤ z ∧ z < nA N 0
        · rw [show qPacket N z i k = (match (nR N z.toNat)[i.toNat]? with | some p => (0, pkv N z.toNat p k.toNat) | none => (5, -1)) by unfold qPacket; rw [if_pos (by omega), if_pos d]]
          obtain ⟨a, ea⟩ : ∃ a : Nat, z = (a : Int) := ⟨_, (Int.toNat_of_nonneg d.1).symm⟩
          subst ea
          obtain ⟨j, ej⟩ : ∃ j : Nat, i = (j : Int) := ⟨_, (Int.toNat_of_nonneg (by omega)).symm⟩
          subst ej
          obtain ⟨n, en⟩ : ∃ n : Nat, k = (n : Int) := ⟨_, (Int.toNat_of_nonneg (by omega)).symm⟩
          subst en
          simp only [jI_nat]
          have a6 : a < 6 := by omega
          have pR := c.2.2.2.2.2.1.2.2.2.1 a a6
          refine g_invv (M' := mX5_linkAt) (As := [.int (nI a)]) (rest := []) dX9_packet_25 ml_X9_118 okX5_linkAt imX5_linkAt seX5_linkAt ⟨(Nat.le_of_ble_eq_true rfl), (Nat.le_of_ble_eq_true rfl)⟩ (ci := 5) rfl rfl c.1.1.2 rfl rfl (Nat.le_of_ble_eq_true rfl) (c_linkIn c H0 d.2) ?_
          rintro _ q6 ⟨rfl, eq6⟩
          subst q6
          show zG l w mX9_packet 28 [(0, .ref x), (1, .int (nI a)), (2, .int (nI j)), (3, .int (nI n))] [.ref (b + 11 + 7 * a)] h _
          refine g_astore (lv2 := [(4, .ref (b + 11 + 7 * a)), (0, .ref x), (1, .int (nI a)), (2, .int (nI j)), (3, .int (nI n))]) dX9_packet_28 (by decide) rfl ?_
          refine g_aload 0 dX9_packet_30 rfl ?_
          refine g_ifnonnull (tgt := 41) dX9_packet_32 (by decide) ?_
          refine g_aload 0 dX9_packet_41 rfl ?_
          refine g_getr (f := 132) (b := b + 11 + 7 * a + 1) dX9_packet_43 fl_X9_143 (c.1.2.2.2.2.2.2.2.2.1 a a6).2.1 rfl (c.1.2.2.2.2.2.2.2.2.1 a a6).2.2.1.1 ?_
          refine g_iload_n 3 dX9_packet_46 rfl rfl ?_
          have PA := c_packetAt (l := l) (w := w) c.2.1 (c.1.iR a6) (i := j) (by omega)
          rw [pR.1, List.getElem?_map] at PA
          cases hp : (nR N a)[j]? with
          | none =>
            rw [hp] at PA
            refine g_invv (M' := mX3_packetAt) (As := [.int (nI j)]) (rest := []) dX9_packet_47 ml_X9_146 okX3_packetAt imX3_packetAt seX3_packetAt ⟨(Nat.le_of_ble_eq_true rfl), (Nat.le_of_ble_eq_true rfl)⟩ (ci := 3) rfl rfl (c.1.2.2.2.2.2.2.2.2.1 a a6).2.2.1.2 rfl rfl (Nat.le_of_ble_eq_true rfl) PA ?_
            rintro _ q1 ⟨rfl, eq1⟩
            subst q1
            show zG l w mX9_packet 50 [(4, .ref (b + 11 + 7 * a)), (0, .ref x), (1, .int (nI a)), (2, .int (nI j)), (3, .int (nI n))] [.null] h _
            refine g_astoreN (lv2 := [(5, .null), (4, .ref (b + 11 + 7 * a)), (0, .ref x), (1, .int (nI a)), (2, .int (nI j)), (3, .int (nI n))]) dX9_packet_50 (by decide) rfl ?_
            refine g_aloadN 0 dX9_packet_52 rfl ?_
            refine g_ifnonnullN dX9_packet_54 ?_
            refine g_aload_n 2 dX9_packet_57 rfl rfl ?_
            refine g_iconst (v := nI 5) dX9_packet_58 (by decide) ?_
            refine g_invv (M' := mX9_refuse) (As := [.int (nI 5)]) (rest := []) dX9_packet_59 ml_X9_58 okX9_refuse imX9_refuse seX9_refuse ⟨(Nat.le_of_ble_eq_true rfl), (Nat.le_of_ble_eq_true rfl)⟩ (ci := 9) rfl rfl xo.1 rfl rfl (Nat.le_of_ble_eq_true rfl) (c_refC xo.1) ?_
            rintro _ q7 ⟨rfl, eq7⟩
            subst q7
            show zG l w mX9_packet 62 [(5, .null), (4, .ref (b + 11 + 7 * a)), (0, .ref x), (1, .int (nI a)), (2, .int (nI j)), (3, .int (nI n))] [.int (-1)] (zSi h 290 x (nI 5)) _
            refine g_ireturn dX9_packet_62 rfl ?_
            rw [show (nR N (a : Int).toNat)[(j : Int).toNat]? = none from hp]
            exact ⟨rfl, rfl⟩
          | some p =>
            rw [hp] at PA
            rw [show (nR N (a : Int).toNat)[(j : Int).toNat]? = some p from hp]
            have lv := hI.C.memR a6 (List.mem_of_getElem? hp)
            have P := hI.P p lv.1 lv.2
            have Lk := hI.L a d.2
            have fl := hI.fl lv.1 lv.2
            have hh := (pR.2.2.1 p (List.mem_of_getElem? hp)).1
            refine g_invv (M' := mX3_packetAt) (As := [.int (nI j)]) (rest := []) dX9_packet_47 ml_X9_146 okX3_packetAt imX3_packetAt seX3_packetAt ⟨(Nat.le_of_ble_eq_true rfl), (Nat.le_of_ble_eq_true rfl)⟩ (ci := 3) rfl rfl (c.1.2.2.2.2.2.2.2.2.1 a a6).2.2.1.2 rfl rfl (Nat.le_of_ble_eq_true rfl) PA ?_
            rintro _ q1 ⟨rfl, eq1⟩
            subst q1
            show zG l w mX9_packet 50 [(4, .ref (b + 11 + 7 * a)), (0, .ref x), (1, .int (nI a)), (2, .int (nI j)), (3, .int (nI n))] [.ref (π p)] h _
            refine g_astore (lv2 := [(5, .ref (π p)), (4, .ref (b + 11 + 7 * a)), (0, .ref x), (1, .int (nI a)), (2, .int (nI j)), (3, .int (nI n))]) dX9_packet_50 (by decide) rfl ?_
            refine g_aload 0 dX9_packet_52 rfl ?_
            refine g_ifnonnull (tgt := 63) dX9_packet_54 (by decide) ?_
            refine g_aload_n 2 dX9_packet_63 rfl rfl ?_
            refine g_iload_n 5 dX9_packet_64 rfl rfl ?_
            refine g_bipush (v := nI 6) dX9_packet_65 (by decide) ?_
            refine g_zcmp_ne (a := ((n : Nat) : Int)) (b := 6) (tgt := 86) (jI_nat n).symm (by decide) dX9_packet_67 (by decide) (by omega) (by omega) (fun n6 => ?_) (fun n6 => ?_)
            · refine g_aload 0 dX9_packet_86 rfl ?_
              refine g_iload_n 5 dX9_packet_88 rfl rfl ?_
              refine g_invv (M' := mX6_tell) (As := [.int (nI n)]) (rest := [.ref x]) dX9_packet_89 ml_X9_166 okX6_tell imX6_tell seX6_tell ⟨(Nat.le_of_ble_eq_true rfl), (Nat.le_of_ble_eq_true rfl)⟩ (ci := 6) rfl rfl (c.2.2.2.2.2.1.1 p lv).2.2 rfl rfl (Nat.le_of_ble_eq_true rfl) (c_tellP c lv fl.1 hh (a := a) (by omega)) ?_
              rintro _ q10 ⟨rfl, eq10⟩
              subst q10
              show zG l w mX9_packet 92 [(5, .ref (π p)), (4, .ref (b + 11 + 7 * a)), (0, .ref x), (1, .int (nI a)), (2, .int (nI j)), (3, .int (nI n))] [.int (jI (pkv N a p n)), .ref x] h _
              refine g_invv (M' := mX9_answer) (As := [.int (jI (pkv N a p n))]) (rest := []) dX9_packet_92 ml_X9_75 okX9_answer imX9_answer seX9_answer ⟨(Nat.le_of_ble_eq_true rfl), (Nat.le_of_ble_eq_true rfl)⟩ (ci := 9) rfl rfl xo.1 rfl rfl (Nat.le_of_ble_eq_true rfl) (c_ans xo.1) ?_
              rintro _ q11 ⟨rfl, eq11⟩
              subst q11
              show zG l w mX9_packet 95 [(5, .ref (π p)), (4, .ref (b + 11 + 7 * a)), (0, .ref x), (1, .int (nI a)), (2, .int (nI j)), (3, .int (nI n))] [.int (jI (pkv N a p n))] (zSi h 290 x (nI 0)) _
              refine g_ireturn dX9_packet_95 rfl ?_
              exact ⟨rfl, rfl⟩
            · have e6 : n = 6 := by omega
              subst e6
              refine g_aload 1 dX9_packet_70 rfl ?_
              refine g_getr (f := 140) (b := b + 11 + 7 * a + 6) dX9_packet_72 fl_X9_150 (c.1.2.2.2.2.2.2.2.2.1 a a6).2.1 rfl (c.1.2.2.2.2.2.2.2.2.1 a a6).2.2.2.2.2.1 ?_
              refine g_aload 0 dX9_packet_75 rfl ?_
              refine g_getl (f := 197) dX9_packet_77 fl_X9_154 (c.2.2.2.2.2.1.1 p lv).2.2 rfl ?_
              rw [show zl h 197 (π p) = jL (partN N p) from (c.2.2.2.2.2.1.1 p lv).1.2.2.2.2.1]
              refine g_invv (M' := mX7_shareOf) (As := [.long (jL (partN N p))]) (rest := [.ref x]) dX9_packet_80 ml_X9_160 okX7_shareOf imX7_shareOf seX7_shareOf ⟨(Nat.le_of_ble_eq_true rfl), (Nat.le_of_ble_eq_true rfl)⟩ (ci := 7) rfl rfl (c.1.2.2.2.2.2.2.2.2.1 a a6).2.2.2.2.2.2 rfl rfl (Nat.le_of_ble_eq_true rfl) (c_shareC c d.2 a6 hB Lk.q P.2.2.2.2.1.1 (Int.lt_of_lt_of_le (by decide) P.2.2.2.1.1)) ?_
              rintro _ q8 ⟨rfl, eq8⟩
              subst q8
              show zG l w mX9_packet 83 [(5, .ref (π p)), (4, .ref (b + 11 + 7 * a)), (0, .ref x), (1, .int (nI a)), (2, .int (nI j)), (3, .int (nI 6))] [.int (jI (shareN N a p)), .ref x] h _
              refine g_goto (tgt := 92) dX9_packet_83 (by decide) ?_
              refine g_invv (M' := mX9_answer) (As := [.int (jI (shareN N a p))]) (rest := []) dX9_packet_92 ml_X9_75 okX9_answer imX9_answer seX9_answer ⟨(Nat.le_of_ble_eq_true rfl), (Nat.le_of_ble_eq_true rfl)⟩ (ci := 9) rfl rfl xo.1 rfl rfl (Nat.le_of_ble_eq_true rfl) (c_ans xo.1) ?_
              rintro _ q9 ⟨rfl, eq9⟩
              subst q9
              show zG l w mX9_packet 95 [(5, .ref (π p)), (4, .ref (b + 11 + 7 * a)), (0, .ref x), (1, .int (nI a)), (2, .int (nI j)), (3, .int (nI 6))] [.int (jI (shareN N a p))] (zSi h 290 x (nI 0)) _
              refine g_ireturn dX9_packet_95 rfl ?_
              exact ⟨rfl, rfl⟩
        · refine g_invv (M' := mX5_linkAt) (As := [.int (jI z)]) (rest := []) dX9_packet_25 ml_X9_118 okX5_linkAt imX5_linkAt seX5_linkAt ⟨(Nat.le_of_ble_eq_true rfl), (Nat.le_of_ble_eq_true rfl)⟩ (ci := 5) rfl rfl c.1.1.2 rfl rfl (Nat.le_of_ble_eq_true rfl) (c_linkOut c H0 zb d) ?_
          rintro _ q4 ⟨rfl, eq4⟩
          subst q4
          show zG l w mX9_packet 28 [(0, .ref x), (1, .int (jI z)), (2, .int (jI i)), (3, .int (jI k))] [.null] h _
          refine g_astoreN (lv2 := [(4, .null), (0, .ref x), (1, .int (jI z)), (2, .int (jI i)), (3, .int (jI k))]) dX9_packet_28 (by decide) rfl ?_
          refine g_aloadN 0 dX9_packet_30 rfl ?_
          refine g_ifnonnullN dX9_packet_32 ?_
          refine g_aload_n 1 dX9_packet_35 rfl rfl ?_
          refine g_iconst (v := nI 2) dX9_packet_36 (by decide) ?_
          refine g_invv (M' := mX9_refuse) (As := [.int (nI 2)]) (rest := []) dX9_packet_37 ml_X9_58 okX9_refuse imX9_refuse seX9_refuse ⟨(Nat.le_of_ble_eq_true rfl), (Nat.le_of_ble_eq_true rfl)⟩ (ci := 9) rfl rfl xo.1 rfl rfl (Nat.le_of_ble_eq_true rfl) (c_refC xo.1) ?_
          rintro _ q5 ⟨rfl, eq5⟩
          subst q5
          show zG l w mX9_packet 40 [(4, .null), (0, .ref x), (1, .int (jI z)), (2, .int (jI i)), (3, .int (jI k))] [.int (-1)] (zSi h 290 x (nI 2)) _
          refine g_ireturn dX9_packet_40 rfl ?_
          rw [show qPacket N z i k = (2, -1) by unfold qPacket; rw [if_pos (by omega), if_neg d]]
          exact ⟨rfl, rfl⟩
      · refine g_aload_n 0 dX9_packet_14 rfl rfl ?_
        refine g_iconst (v := nI 1) dX9_packet_15 (by decide) ?_
        refine g_invv (M' := mX9_refuse) (As := [.int (nI 1)]) (rest := []) dX9_packet_16 ml_X9_58 okX9_refuse imX9_refuse seX9_refuse ⟨(Nat.le_of_ble_eq_true rfl), (Nat.le_of_ble_eq_true rfl)⟩ (ci := 9) rfl rfl xo.1 rfl rfl (Nat.le_of_ble_eq_true rfl) (c_refC xo.1) ?_
        rintro _ q3 ⟨rfl, eq3⟩
        subst q3
        show zG l w mX9_packet 19 [(0, .ref x), (1, .int (jI z)), (2, .int (jI i)), (3, .int (jI k))] [.int (-1)] (zSi h 290 x (nI 1)) _
        refine g_ireturn dX9_packet_19 rfl ?_
        rw [show qPacket N z i k = (1, -1) by unfold qPacket; rw [if_neg (by omega)]]
        exact ⟨rfl, rfl⟩
end QE
