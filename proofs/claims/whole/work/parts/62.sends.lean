section M11
variable {l : Launch} {w : zW} {h : zH} {m : Nat} {N : nT} {f : Nat} {X : List Nat}
theorem iN.atX {p : Nat} (h : iN (p :: X) N) : p < 480 ∧ nA N (368 + 8 * p + 0) = (flN N p : Int) + 1 ∧ flN N p < 6 ∧ nPa N (flN N p) ∧ (nK N).length < 480 ∧ 0 ≤ nA N (368 + 8 * p + 4) ∧ 0 < nA N (368 + 8 * p + 3) := by
  have hp := h.C.memX (List.mem_cons_self)
  have hf := h.fl hp.1 hp.2
  have P := h.P p hp.1 hp.2
  have hl := h.C.lenK
  rw [List.length_cons] at hl
  have q := P.2.2.2.1.1
  exact ⟨hp.1, hf.1, hf.2.2, h.pa hf.2.1, by omega, P.2.2.2.2.1.1, by omega⟩
theorem iN.lk {a : Nat} (h : iN X N) (ha : (a : Int) < nA N 0) : a < 6 ∧ (0 ≤ nA N (8 + 40 * a + 14) ∧ nA N (8 + 40 * a + 14) < 64) ∧ nA N (8 + 40 * a + 2) ≤ 60 := by
  have L := h.L _ ha
  have H0 := h.H.1
  exact ⟨by omega, L.2.2.2.1.1, L.1.2.2.1.2⟩
/-- a packet just sent, ahead of its first link, with the event -/
def bornE (N : nT) (f : Nat) : nT := if nA N (248 + 20 * f + 1) - 1 = 0 then evN (bornN N f) 3 (-1) f else bornN N f
theorem bornE_A {k : Nat} : nA (bornE N f) k = nA (bornN N f) k := by
  unfold bornE
  split
  · rw [nA_ev]
  · rfl
theorem bornE_W {a : Nat} : nW (bornE N f) a = nW N a := by
  unfold bornE
  split
  · rfl
  · rfl
theorem iN.begotE (h : iN X N) (hf : (f : Int) < nA N 1) (hm : mayN N f = true) (hS : nA N (248 + 20 * f + 8) < 80000) : iN (freeN N :: X) (bornE N f) ∧ flN (bornE N f) (freeN N) = f ∧ (0 ≤ nA N (248 + 20 * f + (12 + 0)) ∧ hopN (bornE N f) f 0 = hopN N f 0) ∧ (hopN N f 0 : Int) < nA (bornE N f) 0 := by
  have hb := h.begot hf hm hS
  have F := h.F f hf
  have F2 := F.2.1 0 (by have := F.1; omega)
  have h1 := h.H.2.1
  refine ⟨?_, ?_, ⟨F2.1, ?_⟩, ?_⟩
  · unfold bornE
    split
    · exact hb.2.2.1.ev
    · exact hb.2.2.1
  · have q := hb.2.2.2.1
    unfold flN at q ⊢
    rw [bornE_A]
    exact q
  · unfold hopN
    rw [bornE_A, bornN_ne (by omega) (by omega) (by omega) (by omega)]
  · rw [bornE_A, bornN_ne (by omega) (by omega) (by omega) (by omega)]
    unfold hopN
    omega
theorem sendN_E : sendN N f = comeN (bornE N f) (freeN N) (hopN N f 0) := rfl
/-- n at most -/
def sendK (f : Nat) : Nat → nT → nT
  | 0, N => N
  | n + 1, N => if mayN N f then sendK f n (sendN N f) else N
theorem sendK_2 : sendK f 2 N = sendsN N f := rfl
theorem c_sends (r : MoN h m N) (hI : iN [] N) (hW : ∀ a, a < 6 → (nW N a).length ≤ 90) (hf : (f : Int) < nA N 1) (hS : nA N (248 + 20 * f + 8) < 79999) : zM l w mX10_sends [.ref m, .int (nI f)] h (fun v h1 => v = none ∧ MoN h1 m (sendsN N f) ∧ FrM m h h1) := by
  refine zM.of (by decide) (Nat.le_of_ble_eq_true rfl) ?_
  have loop : ∀ n i : Nat, i + n = 2 → ∀ (h' : zH) (N1 : nT), iN [] N1 → (∀ a, a < 6 → (nW N1 a).length ≤ 90) → (f : Int) < nA N1 1 → nA N1 (248 + 20 * f + 8) + n ≤ 80000 → MoN h' m N1 → FrM m h h' → zG l w mX10_sends 2 [(2, .int (nI i)), (0, .ref m), (1, .int (nI f))] [] h' (fun v h1 => v = none ∧ MoN h1 m (sendK f n N1) ∧ FrM m h h1) := by
    intro n
    induction n with
    | zero =>
      intro i hi h' N1 hI hW hf hS r' fr'
      refine g_iload_n 0 dX10_sends_2 rfl rfl ?_
      refine g_iconst (v := nI 2) dX10_sends_3 (by decide) ?_
      refine g_ncmp_ge (tgt := 201) dX10_sends_4 (by decide) (by omega) (by omega) (fun c => ?_) (fun c => ?_)
      · refine g_return dX10_sends_201 rfl ?_
        exact ⟨rfl, r', fr'⟩
      · exact absurd c (by omega)
    | succ n ih =>
      intro i hi h' N1 hI hW hf hS r' fr'
      have hF : nFit N1 := hI.fit hW
      have hB := hI.B
      have H1 := hI.H.2.1
      have F5 := (hI.F f hf).2.2.2.2.2.1
      have F2 := (hI.F f hf).2.2.2.1
      refine g_iload_n 0 dX10_sends_2 rfl rfl ?_
      refine g_iconst (v := nI 2) dX10_sends_3 (by decide) ?_
      refine g_ncmp_ge (tgt := 201) dX10_sends_4 (by decide) (by omega) (by omega) (fun c => ?_) (fun c => ?_)
      · exact absurd c (by omega)
      · refine g_aload_n 1 dX10_sends_7 rfl rfl ?_
        refine g_iload_n 2 dX10_sends_8 rfl rfl ?_
        refine g_invv (M' := mX10_maySend) (As := [.int (nI f)]) (rest := []) dX10_sends_9 ml_X10_136 okX10_maySend imX10_maySend seX10_maySend ⟨(Nat.le_of_ble_eq_true rfl), (Nat.le_of_ble_eq_true rfl)⟩ (ci := 10) rfl rfl r'.1.1 rfl rfl (Nat.le_of_ble_eq_true rfl) (c_maySend r' hB (by omega) F5) ?_
        rintro _ q1 ⟨rfl, eq1⟩
        subst q1
        show zG l w mX10_sends 12 [(2, .int (nI i)), (0, .ref m), (1, .int (nI f))] [.int (bI (mayN N1 f))] h' _
        refine g_bif_eq (tgt := 201) dX10_sends_12 (by decide) (fun g => ?_) (fun g => ?_)
        · refine g_return dX10_sends_201 rfl ?_
          refine ⟨rfl, ?_, fr'⟩
          have e : sendK f (n + 1) N1 = N1 := by unfold sendK; rw [if_neg (by rw [g]; decide)]
          rw [e]
          exact r'
        · have hM := hI.may hf g
          have hq := freeN_spec (hI.places (f := f) (by omega) hM.2)
          have hS' : nA N1 (248 + 20 * f + 8) < 80000 := by omega
          have hb := hI.begotE hf g hS'
          have hX := hb.1.atX
          rw [hb.2.1] at hX
          have hL := hb.1.lk hb.2.2.2
          have hFe : nFit (bornE N1 f) := hb.1.fit (fun a ha => by rw [bornE_W]; exact hW a ha)
          have hFb : nFit (bornN N1 f) := (hI.begot hf g hS').2.2.1.fit (fun a ha => hW a ha)
          have hp0 := hq.1
          refine g_aload_n 1 dX10_sends_15 rfl rfl ?_
          refine g_invv (M' := mX10_freePlace) (As := []) (rest := []) dX10_sends_16 ml_X10_140 okX10_freePlace imX10_freePlace seX10_freePlace ⟨(Nat.le_of_ble_eq_true rfl), (Nat.le_of_ble_eq_true rfl)⟩ (ci := 10) rfl rfl r'.1.1 rfl rfl (Nat.le_of_ble_eq_true rfl) (c_freePlace r' hB hq) ?_
          rintro _ q2 ⟨rfl, eq2⟩
          subst q2
          show zG l w mX10_sends 19 [(2, .int (nI i)), (0, .ref m), (1, .int (nI f))] [.int (nI (freeN N1))] h' _
          refine g_istore_n (lv2 := [(3, .int (nI (freeN N1))), (2, .int (nI i)), (0, .ref m), (1, .int (nI f))]) dX10_sends_19 rfl (by decide) rfl ?_
          refine g_aload_n 2 dX10_sends_20 rfl rfl ?_
          refine g_iload_n 3 dX10_sends_21 rfl rfl ?_
          refine g_iconst (v := nI 1) dX10_sends_22 (by decide) ?_
          refine g_invs (M' := mX10_flow0) (As := [.int (nI f), .int (nI 1)]) (rest := [.ref m]) dX10_sends_23 ml_X10_52 okX10_flow0 stX10_flow0 ⟨(Nat.le_of_ble_eq_true rfl), (Nat.le_of_ble_eq_true rfl)⟩ rfl rfl (Nat.le_of_ble_eq_true rfl) c_flow0 ?_
          rintro _ q3 ⟨rfl, eq3⟩
          subst q3
          show zG l w mX10_sends 26 [(3, .int (nI (freeN N1))), (2, .int (nI i)), (0, .ref m), (1, .int (nI f))] [.int (nI (248 + 20 * f + 1)), .ref m] h' _
          refine g_ldc2J (z := (-1)) dX10_sends_26 kl_X10_74 (by decide) ?_
          refine g_invv (M' := mX10_adds) (As := [.int (nI (248 + 20 * f + 1)), .long (jL (-1))]) (rest := []) dX10_sends_29 ml_X10_76 okX10_adds imX10_adds seX10_adds ⟨(Nat.le_of_ble_eq_true rfl), (Nat.le_of_ble_eq_true rfl)⟩ (ci := 10) rfl rfl r'.1.1 rfl rfl (Nat.le_of_ble_eq_true rfl) (c_addsN r' (by omega) (by unfold nSp; omega)) ?_
          rintro _ y4 ⟨rfl, r4, f4⟩
          show zG l w mX10_sends 32 [(3, .int (nI (freeN N1))), (2, .int (nI i)), (0, .ref m), (1, .int (nI f))] [] y4 _
          refine g_aload_n 2 dX10_sends_32 rfl rfl ?_
          refine g_iload_n 3 dX10_sends_33 rfl rfl ?_
          refine g_bipush (v := nI 8) dX10_sends_34 (by decide) ?_
          refine g_invs (M' := mX10_flow0) (As := [.int (nI f), .int (nI 8)]) (rest := [.ref m]) dX10_sends_36 ml_X10_52 okX10_flow0 stX10_flow0 ⟨(Nat.le_of_ble_eq_true rfl), (Nat.le_of_ble_eq_true rfl)⟩ rfl rfl (Nat.le_of_ble_eq_true rfl) c_flow0 ?_
          rintro _ q5 ⟨rfl, eq5⟩
          subst q5
          show zG l w mX10_sends 39 [(3, .int (nI (freeN N1))), (2, .int (nI i)), (0, .ref m), (1, .int (nI f))] [.int (nI (248 + 20 * f + 8)), .ref m] y4 _
          refine g_lconst (v := jL 1) dX10_sends_39 (by decide) ?_
          refine g_invv (M' := mX10_adds) (As := [.int (nI (248 + 20 * f + 8)), .long (jL 1)]) (rest := []) dX10_sends_40 ml_X10_76 okX10_adds imX10_adds seX10_adds ⟨(Nat.le_of_ble_eq_true rfl), (Nat.le_of_ble_eq_true rfl)⟩ (ci := 10) rfl rfl r4.1.1 rfl rfl (Nat.le_of_ble_eq_true rfl) (c_addsN r4 (by omega) (by unfold nSp; omega)) ?_
          rintro _ y6 ⟨rfl, r6, f6⟩
          rw [show nA (uA N1 (248 + 20 * f + 1) (nA N1 (248 + 20 * f + 1) + -1)) (248 + 20 * f + 8) = nA N1 (248 + 20 * f + 8) by rw [nA_ne (by omega)]] at r6
          show zG l w mX10_sends 43 [(3, .int (nI (freeN N1))), (2, .int (nI i)), (0, .ref m), (1, .int (nI f))] [] y6 _
          refine g_aload_n 2 dX10_sends_43 rfl rfl ?_
          refine g_iload_n 3 dX10_sends_44 rfl rfl ?_
          refine g_bipush (v := nI 6) dX10_sends_45 (by decide) ?_
          refine g_invs (M' := mX10_flow0) (As := [.int (nI f), .int (nI 6)]) (rest := [.ref m]) dX10_sends_47 ml_X10_52 okX10_flow0 stX10_flow0 ⟨(Nat.le_of_ble_eq_true rfl), (Nat.le_of_ble_eq_true rfl)⟩ rfl rfl (Nat.le_of_ble_eq_true rfl) c_flow0 ?_
          rintro _ q7 ⟨rfl, eq7⟩
          subst q7
          show zG l w mX10_sends 50 [(3, .int (nI (freeN N1))), (2, .int (nI i)), (0, .ref m), (1, .int (nI f))] [.int (nI (248 + 20 * f + 6)), .ref m] y6 _
          refine g_lconst (v := jL 1) dX10_sends_50 (by decide) ?_
          refine g_invv (M' := mX10_adds) (As := [.int (nI (248 + 20 * f + 6)), .long (jL 1)]) (rest := []) dX10_sends_51 ml_X10_76 okX10_adds imX10_adds seX10_adds ⟨(Nat.le_of_ble_eq_true rfl), (Nat.le_of_ble_eq_true rfl)⟩ (ci := 10) rfl rfl r6.1.1 rfl rfl (Nat.le_of_ble_eq_true rfl) (c_addsN r6 (by omega) (by unfold nSp; omega)) ?_
          rintro _ y8 ⟨rfl, r8, f8⟩
          rw [show nA (uA (uA N1 (248 + 20 * f + 1) (nA N1 (248 + 20 * f + 1) + -1)) (248 + 20 * f + 8) (nA N1 (248 + 20 * f + 8) + 1)) (248 + 20 * f + 6) = nA N1 (248 + 20 * f + 6) by rw [nA_ne (by omega), nA_ne (by omega)]] at r8
          show zG l w mX10_sends 54 [(3, .int (nI (freeN N1))), (2, .int (nI i)), (0, .ref m), (1, .int (nI f))] [] y8 _
          refine g_aload_n 2 dX10_sends_54 rfl rfl ?_
          refine g_iload_n 0 dX10_sends_55 rfl rfl ?_
          refine g_iconst (v := nI 0) dX10_sends_56 (by decide) ?_
          refine g_invs (M' := mX10_packet0) (As := [.int (nI (freeN N1)), .int (nI 0)]) (rest := [.ref m]) dX10_sends_57 ml_X10_55 okX10_packet0 stX10_packet0 ⟨(Nat.le_of_ble_eq_true rfl), (Nat.le_of_ble_eq_true rfl)⟩ rfl rfl (Nat.le_of_ble_eq_true rfl) c_packet0 ?_
          rintro _ q9 ⟨rfl, eq9⟩
          subst q9
          show zG l w mX10_sends 60 [(3, .int (nI (freeN N1))), (2, .int (nI i)), (0, .ref m), (1, .int (nI f))] [.int (nI (368 + 8 * (freeN N1) + 0)), .ref m] y8 _
          refine g_iload_n 3 dX10_sends_60 rfl rfl ?_
          refine g_i2l dX10_sends_61 ?_
          rw [nI_l (by omega), ← jL_nat]
          refine g_lconst (v := jL 1) dX10_sends_62 (by decide) ?_
          refine g_ladd dX10_sends_63 ?_
          rw [jL_add]
          refine g_invv (M' := mX10_puts) (As := [.int (nI (368 + 8 * (freeN N1) + 0)), .long (jL (((f : Nat) : Int) + 1))]) (rest := []) dX10_sends_64 ml_X10_40 okX10_puts imX10_puts seX10_puts ⟨(Nat.le_of_ble_eq_true rfl), (Nat.le_of_ble_eq_true rfl)⟩ (ci := 10) rfl rfl r8.1.1 rfl rfl (Nat.le_of_ble_eq_true rfl) (c_putsN r8 (by omega) (by unfold nSp; omega)) ?_
          rintro _ y10 ⟨rfl, r10, f10⟩
          show zG l w mX10_sends 67 [(3, .int (nI (freeN N1))), (2, .int (nI i)), (0, .ref m), (1, .int (nI f))] [] y10 _
          refine g_aload_n 2 dX10_sends_67 rfl rfl ?_
          refine g_iload_n 0 dX10_sends_68 rfl rfl ?_
          refine g_iconst (v := nI 1) dX10_sends_69 (by decide) ?_
          refine g_invs (M' := mX10_packet0) (As := [.int (nI (freeN N1)), .int (nI 1)]) (rest := [.ref m]) dX10_sends_70 ml_X10_55 okX10_packet0 stX10_packet0 ⟨(Nat.le_of_ble_eq_true rfl), (Nat.le_of_ble_eq_true rfl)⟩ rfl rfl (Nat.le_of_ble_eq_true rfl) c_packet0 ?_
          rintro _ q11 ⟨rfl, eq11⟩
          subst q11
          show zG l w mX10_sends 73 [(3, .int (nI (freeN N1))), (2, .int (nI i)), (0, .ref m), (1, .int (nI f))] [.int (nI (368 + 8 * (freeN N1) + 1)), .ref m] y10 _
          refine g_aload_n 2 dX10_sends_73 rfl rfl ?_
          refine g_iconst (v := nI 2) dX10_sends_74 (by decide) ?_
          refine g_invv (M' := mX10_of) (As := [.int (nI 2)]) (rest := [.int (nI (368 + 8 * (freeN N1) + 1)), .ref m]) dX10_sends_75 ml_X10_48 okX10_of imX10_of seX10_of ⟨(Nat.le_of_ble_eq_true rfl), (Nat.le_of_ble_eq_true rfl)⟩ (ci := 10) rfl rfl r10.1.1 rfl rfl (Nat.le_of_ble_eq_true rfl) (c_ofN r10 (by omega) (by unfold nSp; omega)) ?_
          rintro _ q12 ⟨rfl, eq12⟩
          subst q12
          show zG l w mX10_sends 78 [(3, .int (nI (freeN N1))), (2, .int (nI i)), (0, .ref m), (1, .int (nI f))] [.long (jL (nA (uA (uA (uA (uA N1 (248 + 20 * f + 1) (nA N1 (248 + 20 * f + 1) + -1)) (248 + 20 * f + 8) (nA N1 (248 + 20 * f + 8) + 1)) (248 + 20 * f + 6) (nA N1 (248 + 20 * f + 6) + 1)) (368 + 8 * (freeN N1) + 0) (((f : Nat) : Int) + 1)) 2)), .int (nI (368 + 8 * (freeN N1) + 1)), .ref m] y10 _
          rw [show nA (uA (uA (uA (uA N1 (248 + 20 * f + 1) (nA N1 (248 + 20 * f + 1) + -1)) (248 + 20 * f + 8) (nA N1 (248 + 20 * f + 8) + 1)) (248 + 20 * f + 6) (nA N1 (248 + 20 * f + 6) + 1)) (368 + 8 * (freeN N1) + 0) (((f : Nat) : Int) + 1)) 2 = nA N1 2 by rw [nA_ne (by omega), nA_ne (by omega), nA_ne (by omega), nA_ne (by omega)]]
          refine g_invv (M' := mX10_puts) (As := [.int (nI (368 + 8 * (freeN N1) + 1)), .long (jL (nA N1 2))]) (rest := []) dX10_sends_78 ml_X10_40 okX10_puts imX10_puts seX10_puts ⟨(Nat.le_of_ble_eq_true rfl), (Nat.le_of_ble_eq_true rfl)⟩ (ci := 10) rfl rfl r10.1.1 rfl rfl (Nat.le_of_ble_eq_true rfl) (c_putsN r10 (by omega) (by unfold nSp; omega)) ?_
          rintro _ y13 ⟨rfl, r13, f13⟩
          show zG l w mX10_sends 81 [(3, .int (nI (freeN N1))), (2, .int (nI i)), (0, .ref m), (1, .int (nI f))] [] y13 _
          refine g_aload_n 2 dX10_sends_81 rfl rfl ?_
          refine g_iload_n 0 dX10_sends_82 rfl rfl ?_
          refine g_iconst (v := nI 2) dX10_sends_83 (by decide) ?_
          refine g_invs (M' := mX10_packet0) (As := [.int (nI (freeN N1)), .int (nI 2)]) (rest := [.ref m]) dX10_sends_84 ml_X10_55 okX10_packet0 stX10_packet0 ⟨(Nat.le_of_ble_eq_true rfl), (Nat.le_of_ble_eq_true rfl)⟩ rfl rfl (Nat.le_of_ble_eq_true rfl) c_packet0 ?_
          rintro _ q14 ⟨rfl, eq14⟩
          subst q14
          show zG l w mX10_sends 87 [(3, .int (nI (freeN N1))), (2, .int (nI i)), (0, .ref m), (1, .int (nI f))] [.int (nI (368 + 8 * (freeN N1) + 2)), .ref m] y13 _
          refine g_lconst (v := jL 0) dX10_sends_87 (by decide) ?_
          refine g_invv (M' := mX10_puts) (As := [.int (nI (368 + 8 * (freeN N1) + 2)), .long (jL 0)]) (rest := []) dX10_sends_88 ml_X10_40 okX10_puts imX10_puts seX10_puts ⟨(Nat.le_of_ble_eq_true rfl), (Nat.le_of_ble_eq_true rfl)⟩ (ci := 10) rfl rfl r13.1.1 rfl rfl (Nat.le_of_ble_eq_true rfl) (c_putsN r13 (by omega) (by unfold nSp; omega)) ?_
          rintro _ y15 ⟨rfl, r15, f15⟩
          show zG l w mX10_sends 91 [(3, .int (nI (freeN N1))), (2, .int (nI i)), (0, .ref m), (1, .int (nI f))] [] y15 _
          refine g_aload_n 2 dX10_sends_91 rfl rfl ?_
          refine g_iload_n 0 dX10_sends_92 rfl rfl ?_
          refine g_iconst (v := nI 3) dX10_sends_93 (by decide) ?_
          refine g_invs (M' := mX10_packet0) (As := [.int (nI (freeN N1)), .int (nI 3)]) (rest := [.ref m]) dX10_sends_94 ml_X10_55 okX10_packet0 stX10_packet0 ⟨(Nat.le_of_ble_eq_true rfl), (Nat.le_of_ble_eq_true rfl)⟩ rfl rfl (Nat.le_of_ble_eq_true rfl) c_packet0 ?_
          rintro _ q16 ⟨rfl, eq16⟩
          subst q16
          show zG l w mX10_sends 97 [(3, .int (nI (freeN N1))), (2, .int (nI i)), (0, .ref m), (1, .int (nI f))] [.int (nI (368 + 8 * (freeN N1) + 3)), .ref m] y15 _
          refine g_aload_n 2 dX10_sends_97 rfl rfl ?_
          refine g_iload_n 3 dX10_sends_98 rfl rfl ?_
          refine g_iconst (v := nI 5) dX10_sends_99 (by decide) ?_
          refine g_invv (M' := mX10_ofFlow) (As := [.int (nI f), .int (nI 5)]) (rest := [.int (nI (368 + 8 * (freeN N1) + 3)), .ref m]) dX10_sends_100 ml_X10_62 okX10_ofFlow imX10_ofFlow seX10_ofFlow ⟨(Nat.le_of_ble_eq_true rfl), (Nat.le_of_ble_eq_true rfl)⟩ (ci := 10) rfl rfl r15.1.1 rfl rfl (Nat.le_of_ble_eq_true rfl) (c_ofFlowN r15 (by omega)) ?_
          rintro _ q17 ⟨rfl, eq17⟩
          subst q17
          show zG l w mX10_sends 103 [(3, .int (nI (freeN N1))), (2, .int (nI i)), (0, .ref m), (1, .int (nI f))] [.long (jL (nA (uA (uA (uA (uA (uA (uA N1 (248 + 20 * f + 1) (nA N1 (248 + 20 * f + 1) + -1)) (248 + 20 * f + 8) (nA N1 (248 + 20 * f + 8) + 1)) (248 + 20 * f + 6) (nA N1 (248 + 20 * f + 6) + 1)) (368 + 8 * (freeN N1) + 0) (((f : Nat) : Int) + 1)) (368 + 8 * (freeN N1) + 1) (nA N1 2)) (368 + 8 * (freeN N1) + 2) 0) (248 + 20 * f + 5))), .int (nI (368 + 8 * (freeN N1) + 3)), .ref m] y15 _
          rw [show nA (uA (uA (uA (uA (uA (uA N1 (248 + 20 * f + 1) (nA N1 (248 + 20 * f + 1) + -1)) (248 + 20 * f + 8) (nA N1 (248 + 20 * f + 8) + 1)) (248 + 20 * f + 6) (nA N1 (248 + 20 * f + 6) + 1)) (368 + 8 * (freeN N1) + 0) (((f : Nat) : Int) + 1)) (368 + 8 * (freeN N1) + 1) (nA N1 2)) (368 + 8 * (freeN N1) + 2) 0) (248 + 20 * f + 5) = nA N1 (248 + 20 * f + 5) by rw [nA_ne (by omega), nA_ne (by omega), nA_ne (by omega), nA_ne (by omega), nA_ne (by omega), nA_ne (by omega)]]
          refine g_invv (M' := mX10_puts) (As := [.int (nI (368 + 8 * (freeN N1) + 3)), .long (jL (nA N1 (248 + 20 * f + 5)))]) (rest := []) dX10_sends_103 ml_X10_40 okX10_puts imX10_puts seX10_puts ⟨(Nat.le_of_ble_eq_true rfl), (Nat.le_of_ble_eq_true rfl)⟩ (ci := 10) rfl rfl r15.1.1 rfl rfl (Nat.le_of_ble_eq_true rfl) (c_putsN r15 (by omega) (by unfold nSp; omega)) ?_
          rintro _ y18 ⟨rfl, r18, f18⟩
          show zG l w mX10_sends 106 [(3, .int (nI (freeN N1))), (2, .int (nI i)), (0, .ref m), (1, .int (nI f))] [] y18 _
          refine g_aload_n 2 dX10_sends_106 rfl rfl ?_
          refine g_iload_n 0 dX10_sends_107 rfl rfl ?_
          refine g_iconst (v := nI 4) dX10_sends_108 (by decide) ?_
          refine g_invs (M' := mX10_packet0) (As := [.int (nI (freeN N1)), .int (nI 4)]) (rest := [.ref m]) dX10_sends_109 ml_X10_55 okX10_packet0 stX10_packet0 ⟨(Nat.le_of_ble_eq_true rfl), (Nat.le_of_ble_eq_true rfl)⟩ rfl rfl (Nat.le_of_ble_eq_true rfl) c_packet0 ?_
          rintro _ q19 ⟨rfl, eq19⟩
          subst q19
          show zG l w mX10_sends 112 [(3, .int (nI (freeN N1))), (2, .int (nI i)), (0, .ref m), (1, .int (nI f))] [.int (nI (368 + 8 * (freeN N1) + 4)), .ref m] y18 _
          refine g_aload_n 2 dX10_sends_112 rfl rfl ?_
          refine g_iload_n 3 dX10_sends_113 rfl rfl ?_
          refine g_bipush (v := nI 7) dX10_sends_114 (by decide) ?_
          refine g_invv (M' := mX10_ofFlow) (As := [.int (nI f), .int (nI 7)]) (rest := [.int (nI (368 + 8 * (freeN N1) + 4)), .ref m]) dX10_sends_116 ml_X10_62 okX10_ofFlow imX10_ofFlow seX10_ofFlow ⟨(Nat.le_of_ble_eq_true rfl), (Nat.le_of_ble_eq_true rfl)⟩ (ci := 10) rfl rfl r18.1.1 rfl rfl (Nat.le_of_ble_eq_true rfl) (c_ofFlowN r18 (by omega)) ?_
          rintro _ q20 ⟨rfl, eq20⟩
          subst q20
          show zG l w mX10_sends 119 [(3, .int (nI (freeN N1))), (2, .int (nI i)), (0, .ref m), (1, .int (nI f))] [.long (jL (nA (uA (uA (uA (uA (uA (uA (uA N1 (248 + 20 * f + 1) (nA N1 (248 + 20 * f + 1) + -1)) (248 + 20 * f + 8) (nA N1 (248 + 20 * f + 8) + 1)) (248 + 20 * f + 6) (nA N1 (248 + 20 * f + 6) + 1)) (368 + 8 * (freeN N1) + 0) (((f : Nat) : Int) + 1)) (368 + 8 * (freeN N1) + 1) (nA N1 2)) (368 + 8 * (freeN N1) + 2) 0) (368 + 8 * (freeN N1) + 3) (nA N1 (248 + 20 * f + 5))) (248 + 20 * f + 7))), .int (nI (368 + 8 * (freeN N1) + 4)), .ref m] y18 _
          rw [show nA (uA (uA (uA (uA (uA (uA (uA N1 (248 + 20 * f + 1) (nA N1 (248 + 20 * f + 1) + -1)) (248 + 20 * f + 8) (nA N1 (248 + 20 * f + 8) + 1)) (248 + 20 * f + 6) (nA N1 (248 + 20 * f + 6) + 1)) (368 + 8 * (freeN N1) + 0) (((f : Nat) : Int) + 1)) (368 + 8 * (freeN N1) + 1) (nA N1 2)) (368 + 8 * (freeN N1) + 2) 0) (368 + 8 * (freeN N1) + 3) (nA N1 (248 + 20 * f + 5))) (248 + 20 * f + 7) = nA N1 (248 + 20 * f + 7) by rw [nA_ne (by omega), nA_ne (by omega), nA_ne (by omega), nA_ne (by omega), nA_ne (by omega), nA_ne (by omega), nA_ne (by omega)]]
          refine g_aload_n 2 dX10_sends_119 rfl rfl ?_
          refine g_iload_n 3 dX10_sends_120 rfl rfl ?_
          refine g_iconst (v := nI 2) dX10_sends_121 (by decide) ?_
          refine g_invv (M' := mX10_ofFlow) (As := [.int (nI f), .int (nI 2)]) (rest := [.long (jL (nA N1 (248 + 20 * f + 7))), .int (nI (368 + 8 * (freeN N1) + 4)), .ref m]) dX10_sends_122 ml_X10_62 okX10_ofFlow imX10_ofFlow seX10_ofFlow ⟨(Nat.le_of_ble_eq_true rfl), (Nat.le_of_ble_eq_true rfl)⟩ (ci := 10) rfl rfl r18.1.1 rfl rfl (Nat.le_of_ble_eq_true rfl) (c_ofFlowN r18 (by omega)) ?_
          rintro _ q21 ⟨rfl, eq21⟩
          subst q21
          show zG l w mX10_sends 125 [(3, .int (nI (freeN N1))), (2, .int (nI i)), (0, .ref m), (1, .int (nI f))] [.long (jL (nA (uA (uA (uA (uA (uA (uA (uA N1 (248 + 20 * f + 1) (nA N1 (248 + 20 * f + 1) + -1)) (248 + 20 * f + 8) (nA N1 (248 + 20 * f + 8) + 1)) (248 + 20 * f + 6) (nA N1 (248 + 20 * f + 6) + 1)) (368 + 8 * (freeN N1) + 0) (((f : Nat) : Int) + 1)) (368 + 8 * (freeN N1) + 1) (nA N1 2)) (368 + 8 * (freeN N1) + 2) 0) (368 + 8 * (freeN N1) + 3) (nA N1 (248 + 20 * f + 5))) (248 + 20 * f + 2))), .long (jL (nA N1 (248 + 20 * f + 7))), .int (nI (368 + 8 * (freeN N1) + 4)), .ref m] y18 _
          rw [show nA (uA (uA (uA (uA (uA (uA (uA N1 (248 + 20 * f + 1) (nA N1 (248 + 20 * f + 1) + -1)) (248 + 20 * f + 8) (nA N1 (248 + 20 * f + 8) + 1)) (248 + 20 * f + 6) (nA N1 (248 + 20 * f + 6) + 1)) (368 + 8 * (freeN N1) + 0) (((f : Nat) : Int) + 1)) (368 + 8 * (freeN N1) + 1) (nA N1 2)) (368 + 8 * (freeN N1) + 2) 0) (368 + 8 * (freeN N1) + 3) (nA N1 (248 + 20 * f + 5))) (248 + 20 * f + 2) = nA N1 (248 + 20 * f + 2) by rw [nA_ne (by omega), nA_ne (by omega), nA_ne (by omega), nA_ne (by omega), nA_ne (by omega), nA_ne (by omega), nA_ne (by omega)]]
          refine g_ldc2J (z := 2) dX10_sends_125 kl_X10_116 (by decide) ?_
          have b22 := hB (248 + 20 * f + 2) (by omega)
          refine g_lif_ne (a := (nA N1 (248 + 20 * f + 2))) (b := 2) (tgt := 138) dX10_sends_128 rfl dX10_sends_129 (by decide) (by omega) (by omega) (fun d => ?_) (fun d => ?_)
          · refine g_lconst (v := jL 1) dX10_sends_138 (by decide) ?_
            refine g_lmul dX10_sends_139 ?_
            rw [jL_mul]
            refine g_invv (M' := mX10_puts) (As := [.int (nI (368 + 8 * (freeN N1) + 4)), .long (jL ((nA N1 (248 + 20 * f + 7)) * 1))]) (rest := []) dX10_sends_140 ml_X10_40 okX10_puts imX10_puts seX10_puts ⟨(Nat.le_of_ble_eq_true rfl), (Nat.le_of_ble_eq_true rfl)⟩ (ci := 10) rfl rfl r18.1.1 rfl rfl (Nat.le_of_ble_eq_true rfl) (c_putsN r18 (by omega) (by unfold nSp; omega)) ?_
            rintro _ y23 ⟨rfl, r23, f23⟩
            show zG l w mX10_sends 143 [(3, .int (nI (freeN N1))), (2, .int (nI i)), (0, .ref m), (1, .int (nI f))] [] y23 _
            refine g_aload_n 2 dX10_sends_143 rfl rfl ?_
            refine g_iload_n 0 dX10_sends_144 rfl rfl ?_
            refine g_iconst (v := nI 5) dX10_sends_145 (by decide) ?_
            refine g_invs (M' := mX10_packet0) (As := [.int (nI (freeN N1)), .int (nI 5)]) (rest := [.ref m]) dX10_sends_146 ml_X10_55 okX10_packet0 stX10_packet0 ⟨(Nat.le_of_ble_eq_true rfl), (Nat.le_of_ble_eq_true rfl)⟩ rfl rfl (Nat.le_of_ble_eq_true rfl) c_packet0 ?_
            rintro _ q24 ⟨rfl, eq24⟩
            subst q24
            show zG l w mX10_sends 149 [(3, .int (nI (freeN N1))), (2, .int (nI i)), (0, .ref m), (1, .int (nI f))] [.int (nI (368 + 8 * (freeN N1) + 5)), .ref m] y23 _
            refine g_ldc2J (z := 1000) dX10_sends_149 kl_X10_144 (by decide) ?_
            refine g_invv (M' := mX10_puts) (As := [.int (nI (368 + 8 * (freeN N1) + 5)), .long (jL 1000)]) (rest := []) dX10_sends_152 ml_X10_40 okX10_puts imX10_puts seX10_puts ⟨(Nat.le_of_ble_eq_true rfl), (Nat.le_of_ble_eq_true rfl)⟩ (ci := 10) rfl rfl r23.1.1 rfl rfl (Nat.le_of_ble_eq_true rfl) (c_putsN r23 (by omega) (by unfold nSp; omega)) ?_
            rintro _ y25 ⟨rfl, r25, f25⟩
            show zG l w mX10_sends 155 [(3, .int (nI (freeN N1))), (2, .int (nI i)), (0, .ref m), (1, .int (nI f))] [] y25 _
            refine g_aload_n 2 dX10_sends_155 rfl rfl ?_
            refine g_iload_n 0 dX10_sends_156 rfl rfl ?_
            refine g_bipush (v := nI 7) dX10_sends_157 (by decide) ?_
            refine g_invs (M' := mX10_packet0) (As := [.int (nI (freeN N1)), .int (nI 7)]) (rest := [.ref m]) dX10_sends_159 ml_X10_55 okX10_packet0 stX10_packet0 ⟨(Nat.le_of_ble_eq_true rfl), (Nat.le_of_ble_eq_true rfl)⟩ rfl rfl (Nat.le_of_ble_eq_true rfl) c_packet0 ?_
            rintro _ q26 ⟨rfl, eq26⟩
            subst q26
            show zG l w mX10_sends 162 [(3, .int (nI (freeN N1))), (2, .int (nI i)), (0, .ref m), (1, .int (nI f))] [.int (nI (368 + 8 * (freeN N1) + 7)), .ref m] y25 _
            refine g_lconst (v := jL 0) dX10_sends_162 (by decide) ?_
            refine g_invv (M' := mX10_puts) (As := [.int (nI (368 + 8 * (freeN N1) + 7)), .long (jL 0)]) (rest := []) dX10_sends_163 ml_X10_40 okX10_puts imX10_puts seX10_puts ⟨(Nat.le_of_ble_eq_true rfl), (Nat.le_of_ble_eq_true rfl)⟩ (ci := 10) rfl rfl r25.1.1 rfl rfl (Nat.le_of_ble_eq_true rfl) (c_putsN r25 (by omega) (by unfold nSp; omega)) ?_
            rintro _ y27 ⟨rfl, r27, f27⟩
            show zG l w mX10_sends 166 [(3, .int (nI (freeN N1))), (2, .int (nI i)), (0, .ref m), (1, .int (nI f))] [] y27 _
            refine g_aload_n 2 dX10_sends_166 rfl rfl ?_
            refine g_iload_n 3 dX10_sends_167 rfl rfl ?_
            refine g_iconst (v := nI 1) dX10_sends_168 (by decide) ?_
            refine g_invv (M' := mX10_ofFlow) (As := [.int (nI f), .int (nI 1)]) (rest := []) dX10_sends_169 ml_X10_62 okX10_ofFlow imX10_ofFlow seX10_ofFlow ⟨(Nat.le_of_ble_eq_true rfl), (Nat.le_of_ble_eq_true rfl)⟩ (ci := 10) rfl rfl r27.1.1 rfl rfl (Nat.le_of_ble_eq_true rfl) (c_ofFlowN r27 (by omega)) ?_
            rintro _ q28 ⟨rfl, eq28⟩
            subst q28
            show zG l w mX10_sends 172 [(3, .int (nI (freeN N1))), (2, .int (nI i)), (0, .ref m), (1, .int (nI f))] [.long (jL (nA (uA (uA (uA (uA (uA (uA (uA (uA (uA (uA N1 (248 + 20 * f + 1) (nA N1 (248 + 20 * f + 1) + -1)) (248 + 20 * f + 8) (nA N1 (248 + 20 * f + 8) + 1)) (248 + 20 * f + 6) (nA N1 (248 + 20 * f + 6) + 1)) (368 + 8 * (freeN N1) + 0) (((f : Nat) : Int) + 1)) (368 + 8 * (freeN N1) + 1) (nA N1 2)) (368 + 8 * (freeN N1) + 2) 0) (368 + 8 * (freeN N1) + 3) (nA N1 (248 + 20 * f + 5))) (368 + 8 * (freeN N1) + 4) ((nA N1 (248 + 20 * f + 7)) * 1)) (368 + 8 * (freeN N1) + 5) 1000) (368 + 8 * (freeN N1) + 7) 0) (248 + 20 * f + 1)))] y27 _
            rw [show nA (uA (uA (uA (uA (uA (uA (uA (uA (uA (uA N1 (248 + 20 * f + 1) (nA N1 (248 + 20 * f + 1) + -1)) (248 + 20 * f + 8) (nA N1 (248 + 20 * f + 8) + 1)) (248 + 20 * f + 6) (nA N1 (248 + 20 * f + 6) + 1)) (368 + 8 * (freeN N1) + 0) (((f : Nat) : Int) + 1)) (368 + 8 * (freeN N1) + 1) (nA N1 2)) (368 + 8 * (freeN N1) + 2) 0) (368 + 8 * (freeN N1) + 3) (nA N1 (248 + 20 * f + 5))) (368 + 8 * (freeN N1) + 4) ((nA N1 (248 + 20 * f + 7)) * 1)) (368 + 8 * (freeN N1) + 5) 1000) (368 + 8 * (freeN N1) + 7) 0) (248 + 20 * f + 1) = nA N1 (248 + 20 * f + 1) + -1 by rw [nA_ne (by omega), nA_ne (by omega), nA_ne (by omega), nA_ne (by omega), nA_ne (by omega), nA_ne (by omega), nA_ne (by omega), nA_ne (by omega), nA_ne (by omega), nA_eq]]
            refine g_lconst (v := jL 0) dX10_sends_172 (by decide) ?_
            have b29 := hB (248 + 20 * f + 1) (by omega)
            refine g_lif_ne (a := (nA N1 (248 + 20 * f + 1) + -1)) (b := 0) (tgt := 184) dX10_sends_173 rfl dX10_sends_174 (by decide) (by omega) (by omega) (fun e => ?_) (fun e => ?_)
            · refine g_aload_n 2 dX10_sends_184 rfl rfl ?_
              refine g_iload_n 0 dX10_sends_185 rfl rfl ?_
              refine g_aload_n 2 dX10_sends_186 rfl rfl ?_
              refine g_iload_n 3 dX10_sends_187 rfl rfl ?_
              refine g_iconst (v := nI 0) dX10_sends_188 (by decide) ?_
              have eB : (uA (uA (uA (uA (uA (uA (uA (uA (uA (uA N1 (248 + 20 * f + 1) (nA N1 (248 + 20 * f + 1) + -1)) (248 + 20 * f + 8) (nA N1 (248 + 20 * f + 8) + 1)) (248 + 20 * f + 6) (nA N1 (248 + 20 * f + 6) + 1)) (368 + 8 * (freeN N1) + 0) (((f : Nat) : Int) + 1)) (368 + 8 * (freeN N1) + 1) (nA N1 2)) (368 + 8 * (freeN N1) + 2) 0) (368 + 8 * (freeN N1) + 3) (nA N1 (248 + 20 * f + 5))) (368 + 8 * (freeN N1) + 4) ((nA N1 (248 + 20 * f + 7)) * 1)) (368 + 8 * (freeN N1) + 5) 1000) (368 + 8 * (freeN N1) + 7) 0) = bornN N1 f := by unfold bornN; rw [if_neg d]; rfl
              rw [eB] at r27
              have rE : MoN y27 m (bornE N1 f) := by unfold bornE; rw [if_neg (by omega)]; exact r27
              refine g_invv (M' := mX10_hop) (As := [.int (nI f), .int (nI 0)]) (rest := [.int (nI (freeN N1)), .ref m]) dX10_sends_189 ml_X10_66 okX10_hop imX10_hop seX10_hop ⟨(Nat.le_of_ble_eq_true rfl), (Nat.le_of_ble_eq_true rfl)⟩ (ci := 10) rfl rfl rE.1.1 rfl rfl (Nat.le_of_ble_eq_true rfl) (c_hop rE (by omega) (by omega) (by rw [bornE_A, bornN_ne (by omega) (by omega) (by omega) (by omega)]; exact hb.2.2.1.1)) ?_
              rintro _ q33 ⟨rfl, eq33⟩
              subst q33
              show zG l w mX10_sends 192 [(3, .int (nI (freeN N1))), (2, .int (nI i)), (0, .ref m), (1, .int (nI f))] [.int (nI (hopN (bornE N1 f) f 0)), .int (nI (freeN N1)), .ref m] y27 _
              rw [hb.2.2.1.2]
              refine g_invv (M' := mX10_comes) (As := [.int (nI (freeN N1)), .int (nI (hopN N1 f 0))]) (rest := []) dX10_sends_192 ml_X10_130 okX10_comes imX10_comes seX10_comes ⟨(Nat.le_of_ble_eq_true rfl), (Nat.le_of_ble_eq_true rfl)⟩ (ci := 10) rfl rfl rE.1.1 rfl rfl (Nat.le_of_ble_eq_true rfl) (c_comes rE hFe hb.1.B (f := f) hX.1 hX.2.1 hX.2.2.1 hL.1 hX.2.2.2.1 hX.2.2.2.2.1 hL.2.1 hL.2.2 hX.2.2.2.2.2.1 hX.2.2.2.2.2.2) ?_
              rintro _ y34 ⟨rfl, r34, f34⟩
              show zG l w mX10_sends 195 [(3, .int (nI (freeN N1))), (2, .int (nI i)), (0, .ref m), (1, .int (nI f))] [] y34 _
              refine g_inc (v := nI (i + 1)) (lv2 := [(2, .int (nI (i + 1))), (3, .int (nI (freeN N1))), (0, .ref m), (1, .int (nI f))]) 1 dX10_sends_195 rfl (nI_add _ 1) (by decide) rfl ?_
              refine g_goto (tgt := 2) dX10_sends_198 (by decide) ?_
              have k := hI.send_kp hf g hS'
              refine zG.sub [0, 2, 3] rfl (zG.mono (ih (i + 1) (by omega) y34 (sendN N1 f) (hI.send hf g hS') (fun a ha => Nat.le_trans (k.1.2.2.1 a ha).1.length_le (hW a ha)) (by rw [k.1.1 1 (Or.inl (Or.inl (by omega)))]; exact hf) (by rw [k.2.1]; omega) (by rw [sendN_E]; exact r34) (((((((((((fr'.tr f4).tr f6).tr f8).tr f10).tr f13).tr f15).tr f18).tr f23).tr f25).tr f27).tr f34)) ?_)
              rintro _ _ ⟨rfl, a1, a2⟩
              refine ⟨rfl, ?_, a2⟩
              have e9 : sendK f (n + 1) N1 = sendK f n (sendN N1 f) := by rw [sendK, if_pos g]
              rw [e9]; exact a1
            · refine g_aload_n 2 dX10_sends_177 rfl rfl ?_
              refine g_iconst (v := nI 3) dX10_sends_178 (by decide) ?_
              refine g_iconst (v := (-1)) dX10_sends_179 (by decide) ?_
              refine g_iload_n 3 dX10_sends_180 rfl rfl ?_
              have eB : (uA (uA (uA (uA (uA (uA (uA (uA (uA (uA N1 (248 + 20 * f + 1) (nA N1 (248 + 20 * f + 1) + -1)) (248 + 20 * f + 8) (nA N1 (248 + 20 * f + 8) + 1)) (248 + 20 * f + 6) (nA N1 (248 + 20 * f + 6) + 1)) (368 + 8 * (freeN N1) + 0) (((f : Nat) : Int) + 1)) (368 + 8 * (freeN N1) + 1) (nA N1 2)) (368 + 8 * (freeN N1) + 2) 0) (368 + 8 * (freeN N1) + 3) (nA N1 (248 + 20 * f + 5))) (368 + 8 * (freeN N1) + 4) ((nA N1 (248 + 20 * f + 7)) * 1)) (368 + 8 * (freeN N1) + 5) 1000) (368 + 8 * (freeN N1) + 7) 0) = bornN N1 f := by unfold bornN; rw [if_neg d]; rfl
              rw [eB] at r27
              refine g_invv (M' := mX10_happens) (As := [.int (nI 3), .int (-1), .int (nI f)]) (rest := []) dX10_sends_181 ml_X10_100 okX10_happens imX10_happens seX10_happens ⟨(Nat.le_of_ble_eq_true rfl), (Nat.le_of_ble_eq_true rfl)⟩ (ci := 10) rfl rfl r27.1.1 rfl rfl (Nat.le_of_ble_eq_true rfl) (c_hapM r27 hFb (by omega) (by omega)) ?_
              rintro _ y30 ⟨rfl, r30, f30⟩
              show zG l w mX10_sends 184 [(3, .int (nI (freeN N1))), (2, .int (nI i)), (0, .ref m), (1, .int (nI f))] [] y30 _
              have rE : MoN y30 m (bornE N1 f) := by unfold bornE; rw [if_pos (by omega)]; exact r30
              refine g_aload_n 2 dX10_sends_184 rfl rfl ?_
              refine g_iload_n 0 dX10_sends_185 rfl rfl ?_
              refine g_aload_n 2 dX10_sends_186 rfl rfl ?_
              refine g_iload_n 3 dX10_sends_187 rfl rfl ?_
              refine g_iconst (v := nI 0) dX10_sends_188 (by decide) ?_
              refine g_invv (M' := mX10_hop) (As := [.int (nI f), .int (nI 0)]) (rest := [.int (nI (freeN N1)), .ref m]) dX10_sends_189 ml_X10_66 okX10_hop imX10_hop seX10_hop ⟨(Nat.le_of_ble_eq_true rfl), (Nat.le_of_ble_eq_true rfl)⟩ (ci := 10) rfl rfl rE.1.1 rfl rfl (Nat.le_of_ble_eq_true rfl) (c_hop rE (by omega) (by omega) (by rw [bornE_A, bornN_ne (by omega) (by omega) (by omega) (by omega)]; exact hb.2.2.1.1)) ?_
              rintro _ q31 ⟨rfl, eq31⟩
              subst q31
              show zG l w mX10_sends 192 [(3, .int (nI (freeN N1))), (2, .int (nI i)), (0, .ref m), (1, .int (nI f))] [.int (nI (hopN (bornE N1 f) f 0)), .int (nI (freeN N1)), .ref m] y30 _
              rw [hb.2.2.1.2]
              refine g_invv (M' := mX10_comes) (As := [.int (nI (freeN N1)), .int (nI (hopN N1 f 0))]) (rest := []) dX10_sends_192 ml_X10_130 okX10_comes imX10_comes seX10_comes ⟨(Nat.le_of_ble_eq_true rfl), (Nat.le_of_ble_eq_true rfl)⟩ (ci := 10) rfl rfl rE.1.1 rfl rfl (Nat.le_of_ble_eq_true rfl) (c_comes rE hFe hb.1.B (f := f) hX.1 hX.2.1 hX.2.2.1 hL.1 hX.2.2.2.1 hX.2.2.2.2.1 hL.2.1 hL.2.2 hX.2.2.2.2.2.1 hX.2.2.2.2.2.2) ?_
              rintro _ y32 ⟨rfl, r32, f32⟩
              show zG l w mX10_sends 195 [(3, .int (nI (freeN N1))), (2, .int (nI i)), (0, .ref m), (1, .int (nI f))] [] y32 _
              refine g_inc (v := nI (i + 1)) (lv2 := [(2, .int (nI (i + 1))), (3, .int (nI (freeN N1))), (0, .ref m), (1, .int (nI f))]) 1 dX10_sends_195 rfl (nI_add _ 1) (by decide) rfl ?_
              refine g_goto (tgt := 2) dX10_sends_198 (by decide) ?_
              have k := hI.send_kp hf g hS'
              refine zG.sub [0, 2, 3] rfl (zG.mono (ih (i + 1) (by omega) y32 (sendN N1 f) (hI.send hf g hS') (fun a ha => Nat.le_trans (k.1.2.2.1 a ha).1.length_le (hW a ha)) (by rw [k.1.1 1 (Or.inl (Or.inl (by omega)))]; exact hf) (by rw [k.2.1]; omega) (by rw [sendN_E]; exact r32) ((((((((((((fr'.tr f4).tr f6).tr f8).tr f10).tr f13).tr f15).tr f18).tr f23).tr f25).tr f27).tr f30).tr f32)) ?_)
              rintro _ _ ⟨rfl, a1, a2⟩
              refine ⟨rfl, ?_, a2⟩
              have e9 : sendK f (n + 1) N1 = sendK f n (sendN N1 f) := by rw [sendK, if_pos g]
              rw [e9]; exact a1
          · refine g_ldc2J (z := 3) dX10_sends_132 kl_X10_134 (by decide) ?_
            refine g_goto (tgt := 139) dX10_sends_135 (by decide) ?_
            refine g_lmul dX10_sends_139 ?_
            rw [jL_mul]
            refine g_invv (M' := mX10_puts) (As := [.int (nI (368 + 8 * (freeN N1) + 4)), .long (jL ((nA N1 (248 + 20 * f + 7)) * 3))]) (rest := []) dX10_sends_140 ml_X10_40 okX10_puts imX10_puts seX10_puts ⟨(Nat.le_of_ble_eq_true rfl), (Nat.le_of_ble_eq_true rfl)⟩ (ci := 10) rfl rfl r18.1.1 rfl rfl (Nat.le_of_ble_eq_true rfl) (c_putsN r18 (by omega) (by unfold nSp; omega)) ?_
            rintro _ y35 ⟨rfl, r35, f35⟩
            show zG l w mX10_sends 143 [(3, .int (nI (freeN N1))), (2, .int (nI i)), (0, .ref m), (1, .int (nI f))] [] y35 _
            refine g_aload_n 2 dX10_sends_143 rfl rfl ?_
            refine g_iload_n 0 dX10_sends_144 rfl rfl ?_
            refine g_iconst (v := nI 5) dX10_sends_145 (by decide) ?_
            refine g_invs (M' := mX10_packet0) (As := [.int (nI (freeN N1)), .int (nI 5)]) (rest := [.ref m]) dX10_sends_146 ml_X10_55 okX10_packet0 stX10_packet0 ⟨(Nat.le_of_ble_eq_true rfl), (Nat.le_of_ble_eq_true rfl)⟩ rfl rfl (Nat.le_of_ble_eq_true rfl) c_packet0 ?_
            rintro _ q36 ⟨rfl, eq36⟩
            subst q36
            show zG l w mX10_sends 149 [(3, .int (nI (freeN N1))), (2, .int (nI i)), (0, .ref m), (1, .int (nI f))] [.int (nI (368 + 8 * (freeN N1) + 5)), .ref m] y35 _
            refine g_ldc2J (z := 1000) dX10_sends_149 kl_X10_144 (by decide) ?_
            refine g_invv (M' := mX10_puts) (As := [.int (nI (368 + 8 * (freeN N1) + 5)), .long (jL 1000)]) (rest := []) dX10_sends_152 ml_X10_40 okX10_puts imX10_puts seX10_puts ⟨(Nat.le_of_ble_eq_true rfl), (Nat.le_of_ble_eq_true rfl)⟩ (ci := 10) rfl rfl r35.1.1 rfl rfl (Nat.le_of_ble_eq_true rfl) (c_putsN r35 (by omega) (by unfold nSp; omega)) ?_
            rintro _ y37 ⟨rfl, r37, f37⟩
            show zG l w mX10_sends 155 [(3, .int (nI (freeN N1))), (2, .int (nI i)), (0, .ref m), (1, .int (nI f))] [] y37 _
            refine g_aload_n 2 dX10_sends_155 rfl rfl ?_
            refine g_iload_n 0 dX10_sends_156 rfl rfl ?_
            refine g_bipush (v := nI 7) dX10_sends_157 (by decide) ?_
            refine g_invs (M' := mX10_packet0) (As := [.int (nI (freeN N1)), .int (nI 7)]) (rest := [.ref m]) dX10_sends_159 ml_X10_55 okX10_packet0 stX10_packet0 ⟨(Nat.le_of_ble_eq_true rfl), (Nat.le_of_ble_eq_true rfl)⟩ rfl rfl (Nat.le_of_ble_eq_true rfl) c_packet0 ?_
            rintro _ q38 ⟨rfl, eq38⟩
            subst q38
            show zG l w mX10_sends 162 [(3, .int (nI (freeN N1))), (2, .int (nI i)), (0, .ref m), (1, .int (nI f))] [.int (nI (368 + 8 * (freeN N1) + 7)), .ref m] y37 _
            refine g_lconst (v := jL 0) dX10_sends_162 (by decide) ?_
            refine g_invv (M' := mX10_puts) (As := [.int (nI (368 + 8 * (freeN N1) + 7)), .long (jL 0)]) (rest := []) dX10_sends_163 ml_X10_40 okX10_puts imX10_puts seX10_puts ⟨(Nat.le_of_ble_eq_true rfl), (Nat.le_of_ble_eq_true rfl)⟩ (ci := 10) rfl rfl r37.1.1 rfl rfl (Nat.le_of_ble_eq_true rfl) (c_putsN r37 (by omega) (by unfold nSp; omega)) ?_
            rintro _ y39 ⟨rfl, r39, f39⟩
            show zG l w mX10_sends 166 [(3, .int (nI (freeN N1))), (2, .int (nI i)), (0, .ref m), (1, .int (nI f))] [] y39 _
            refine g_aload_n 2 dX10_sends_166 rfl rfl ?_
            refine g_iload_n 3 dX10_sends_167 rfl rfl ?_
            refine g_iconst (v := nI 1) dX10_sends_168 (by decide) ?_
            refine g_invv (M' := mX10_ofFlow) (As := [.int (nI f), .int (nI 1)]) (rest := []) dX10_sends_169 ml_X10_62 okX10_ofFlow imX10_ofFlow seX10_ofFlow ⟨(Nat.le_of_ble_eq_true rfl), (Nat.le_of_ble_eq_true rfl)⟩ (ci := 10) rfl rfl r39.1.1 rfl rfl (Nat.le_of_ble_eq_true rfl) (c_ofFlowN r39 (by omega)) ?_
            rintro _ q40 ⟨rfl, eq40⟩
            subst q40
            show zG l w mX10_sends 172 [(3, .int (nI (freeN N1))), (2, .int (nI i)), (0, .ref m), (1, .int (nI f))] [.long (jL (nA (uA (uA (uA (uA (uA (uA (uA (uA (uA (uA N1 (248 + 20 * f + 1) (nA N1 (248 + 20 * f + 1) + -1)) (248 + 20 * f + 8) (nA N1 (248 + 20 * f + 8) + 1)) (248 + 20 * f + 6) (nA N1 (248 + 20 * f + 6) + 1)) (368 + 8 * (freeN N1) + 0) (((f : Nat) : Int) + 1)) (368 + 8 * (freeN N1) + 1) (nA N1 2)) (368 + 8 * (freeN N1) + 2) 0) (368 + 8 * (freeN N1) + 3) (nA N1 (248 + 20 * f + 5))) (368 + 8 * (freeN N1) + 4) ((nA N1 (248 + 20 * f + 7)) * 3)) (368 + 8 * (freeN N1) + 5) 1000) (368 + 8 * (freeN N1) + 7) 0) (248 + 20 * f + 1)))] y39 _
            rw [show nA (uA (uA (uA (uA (uA (uA (uA (uA (uA (uA N1 (248 + 20 * f + 1) (nA N1 (248 + 20 * f + 1) + -1)) (248 + 20 * f + 8) (nA N1 (248 + 20 * f + 8) + 1)) (248 + 20 * f + 6) (nA N1 (248 + 20 * f + 6) + 1)) (368 + 8 * (freeN N1) + 0) (((f : Nat) : Int) + 1)) (368 + 8 * (freeN N1) + 1) (nA N1 2)) (368 + 8 * (freeN N1) + 2) 0) (368 + 8 * (freeN N1) + 3) (nA N1 (248 + 20 * f + 5))) (368 + 8 * (freeN N1) + 4) ((nA N1 (248 + 20 * f + 7)) * 3)) (368 + 8 * (freeN N1) + 5) 1000) (368 + 8 * (freeN N1) + 7) 0) (248 + 20 * f + 1) = nA N1 (248 + 20 * f + 1) + -1 by rw [nA_ne (by omega), nA_ne (by omega), nA_ne (by omega), nA_ne (by omega), nA_ne (by omega), nA_ne (by omega), nA_ne (by omega), nA_ne (by omega), nA_ne (by omega), nA_eq]]
            refine g_lconst (v := jL 0) dX10_sends_172 (by decide) ?_
            have b41 := hB (248 + 20 * f + 1) (by omega)
            refine g_lif_ne (a := (nA N1 (248 + 20 * f + 1) + -1)) (b := 0) (tgt := 184) dX10_sends_173 rfl dX10_sends_174 (by decide) (by omega) (by omega) (fun e => ?_) (fun e => ?_)
            · refine g_aload_n 2 dX10_sends_184 rfl rfl ?_
              refine g_iload_n 0 dX10_sends_185 rfl rfl ?_
              refine g_aload_n 2 dX10_sends_186 rfl rfl ?_
              refine g_iload_n 3 dX10_sends_187 rfl rfl ?_
              refine g_iconst (v := nI 0) dX10_sends_188 (by decide) ?_
              have eB : (uA (uA (uA (uA (uA (uA (uA (uA (uA (uA N1 (248 + 20 * f + 1) (nA N1 (248 + 20 * f + 1) + -1)) (248 + 20 * f + 8) (nA N1 (248 + 20 * f + 8) + 1)) (248 + 20 * f + 6) (nA N1 (248 + 20 * f + 6) + 1)) (368 + 8 * (freeN N1) + 0) (((f : Nat) : Int) + 1)) (368 + 8 * (freeN N1) + 1) (nA N1 2)) (368 + 8 * (freeN N1) + 2) 0) (368 + 8 * (freeN N1) + 3) (nA N1 (248 + 20 * f + 5))) (368 + 8 * (freeN N1) + 4) ((nA N1 (248 + 20 * f + 7)) * 3)) (368 + 8 * (freeN N1) + 5) 1000) (368 + 8 * (freeN N1) + 7) 0) = bornN N1 f := by unfold bornN; rw [if_pos d]; rfl
              rw [eB] at r39
              have rE : MoN y39 m (bornE N1 f) := by unfold bornE; rw [if_neg (by omega)]; exact r39
              refine g_invv (M' := mX10_hop) (As := [.int (nI f), .int (nI 0)]) (rest := [.int (nI (freeN N1)), .ref m]) dX10_sends_189 ml_X10_66 okX10_hop imX10_hop seX10_hop ⟨(Nat.le_of_ble_eq_true rfl), (Nat.le_of_ble_eq_true rfl)⟩ (ci := 10) rfl rfl rE.1.1 rfl rfl (Nat.le_of_ble_eq_true rfl) (c_hop rE (by omega) (by omega) (by rw [bornE_A, bornN_ne (by omega) (by omega) (by omega) (by omega)]; exact hb.2.2.1.1)) ?_
              rintro _ q45 ⟨rfl, eq45⟩
              subst q45
              show zG l w mX10_sends 192 [(3, .int (nI (freeN N1))), (2, .int (nI i)), (0, .ref m), (1, .int (nI f))] [.int (nI (hopN (bornE N1 f) f 0)), .int (nI (freeN N1)), .ref m] y39 _
              rw [hb.2.2.1.2]
              refine g_invv (M' := mX10_comes) (As := [.int (nI (freeN N1)), .int (nI (hopN N1 f 0))]) (rest := []) dX10_sends_192 ml_X10_130 okX10_comes imX10_comes seX10_comes ⟨(Nat.le_of_ble_eq_true rfl), (Nat.le_of_ble_eq_true rfl)⟩ (ci := 10) rfl rfl rE.1.1 rfl rfl (Nat.le_of_ble_eq_true rfl) (c_comes rE hFe hb.1.B (f := f) hX.1 hX.2.1 hX.2.2.1 hL.1 hX.2.2.2.1 hX.2.2.2.2.1 hL.2.1 hL.2.2 hX.2.2.2.2.2.1 hX.2.2.2.2.2.2) ?_
              rintro _ y46 ⟨rfl, r46, f46⟩
              show zG l w mX10_sends 195 [(3, .int (nI (freeN N1))), (2, .int (nI i)), (0, .ref m), (1, .int (nI f))] [] y46 _
              refine g_inc (v := nI (i + 1)) (lv2 := [(2, .int (nI (i + 1))), (3, .int (nI (freeN N1))), (0, .ref m), (1, .int (nI f))]) 1 dX10_sends_195 rfl (nI_add _ 1) (by decide) rfl ?_
              refine g_goto (tgt := 2) dX10_sends_198 (by decide) ?_
              have k := hI.send_kp hf g hS'
              refine zG.sub [0, 2, 3] rfl (zG.mono (ih (i + 1) (by omega) y46 (sendN N1 f) (hI.send hf g hS') (fun a ha => Nat.le_trans (k.1.2.2.1 a ha).1.length_le (hW a ha)) (by rw [k.1.1 1 (Or.inl (Or.inl (by omega)))]; exact hf) (by rw [k.2.1]; omega) (by rw [sendN_E]; exact r46) (((((((((((fr'.tr f4).tr f6).tr f8).tr f10).tr f13).tr f15).tr f18).tr f35).tr f37).tr f39).tr f46)) ?_)
              rintro _ _ ⟨rfl, a1, a2⟩
              refine ⟨rfl, ?_, a2⟩
              have e9 : sendK f (n + 1) N1 = sendK f n (sendN N1 f) := by rw [sendK, if_pos g]
              rw [e9]; exact a1
            · refine g_aload_n 2 dX10_sends_177 rfl rfl ?_
              refine g_iconst (v := nI 3) dX10_sends_178 (by decide) ?_
              refine g_iconst (v := (-1)) dX10_sends_179 (by decide) ?_
              refine g_iload_n 3 dX10_sends_180 rfl rfl ?_
              have eB : (uA (uA (uA (uA (uA (uA (uA (uA (uA (uA N1 (248 + 20 * f + 1) (nA N1 (248 + 20 * f + 1) + -1)) (248 + 20 * f + 8) (nA N1 (248 + 20 * f + 8) + 1)) (248 + 20 * f + 6) (nA N1 (248 + 20 * f + 6) + 1)) (368 + 8 * (freeN N1) + 0) (((f : Nat) : Int) + 1)) (368 + 8 * (freeN N1) + 1) (nA N1 2)) (368 + 8 * (freeN N1) + 2) 0) (368 + 8 * (freeN N1) + 3) (nA N1 (248 + 20 * f + 5))) (368 + 8 * (freeN N1) + 4) ((nA N1 (248 + 20 * f + 7)) * 3)) (368 + 8 * (freeN N1) + 5) 1000) (368 + 8 * (freeN N1) + 7) 0) = bornN N1 f := by unfold bornN; rw [if_pos d]; rfl
              rw [eB] at r39
              refine g_invv (M' := mX10_happens) (As := [.int (nI 3), .int (-1), .int (nI f)]) (rest := []) dX10_sends_181 ml_X10_100 okX10_happens imX10_happens seX10_happens ⟨(Nat.le_of_ble_eq_true rfl), (Nat.le_of_ble_eq_true rfl)⟩ (ci := 10) rfl rfl r39.1.1 rfl rfl (Nat.le_of_ble_eq_true rfl) (c_hapM r39 hFb (by omega) (by omega)) ?_
              rintro _ y42 ⟨rfl, r42, f42⟩
              show zG l w mX10_sends 184 [(3, .int (nI (freeN N1))), (2, .int (nI i)), (0, .ref m), (1, .int (nI f))] [] y42 _
              have rE : MoN y42 m (bornE N1 f) := by unfold bornE; rw [if_pos (by omega)]; exact r42
              refine g_aload_n 2 dX10_sends_184 rfl rfl ?_
              refine g_iload_n 0 dX10_sends_185 rfl rfl ?_
              refine g_aload_n 2 dX10_sends_186 rfl rfl ?_
              refine g_iload_n 3 dX10_sends_187 rfl rfl ?_
              refine g_iconst (v := nI 0) dX10_sends_188 (by decide) ?_
              refine g_invv (M' := mX10_hop) (As := [.int (nI f), .int (nI 0)]) (rest := [.int (nI (freeN N1)), .ref m]) dX10_sends_189 ml_X10_66 okX10_hop imX10_hop seX10_hop ⟨(Nat.le_of_ble_eq_true rfl), (Nat.le_of_ble_eq_true rfl)⟩ (ci := 10) rfl rfl rE.1.1 rfl rfl (Nat.le_of_ble_eq_true rfl) (c_hop rE (by omega) (by omega) (by rw [bornE_A, bornN_ne (by omega) (by omega) (by omega) (by omega)]; exact hb.2.2.1.1)) ?_
              rintro _ q43 ⟨rfl, eq43⟩
              subst q43
              show zG l w mX10_sends 192 [(3, .int (nI (freeN N1))), (2, .int (nI i)), (0, .ref m), (1, .int (nI f))] [.int (nI (hopN (bornE N1 f) f 0)), .int (nI (freeN N1)), .ref m] y42 _
              rw [hb.2.2.1.2]
              refine g_invv (M' := mX10_comes) (As := [.int (nI (freeN N1)), .int (nI (hopN N1 f 0))]) (rest := []) dX10_sends_192 ml_X10_130 okX10_comes imX10_comes seX10_comes ⟨(Nat.le_of_ble_eq_true rfl), (Nat.le_of_ble_eq_true rfl)⟩ (ci := 10) rfl rfl rE.1.1 rfl rfl (Nat.le_of_ble_eq_true rfl) (c_comes rE hFe hb.1.B (f := f) hX.1 hX.2.1 hX.2.2.1 hL.1 hX.2.2.2.1 hX.2.2.2.2.1 hL.2.1 hL.2.2 hX.2.2.2.2.2.1 hX.2.2.2.2.2.2) ?_
              rintro _ y44 ⟨rfl, r44, f44⟩
              show zG l w mX10_sends 195 [(3, .int (nI (freeN N1))), (2, .int (nI i)), (0, .ref m), (1, .int (nI f))] [] y44 _
              refine g_inc (v := nI (i + 1)) (lv2 := [(2, .int (nI (i + 1))), (3, .int (nI (freeN N1))), (0, .ref m), (1, .int (nI f))]) 1 dX10_sends_195 rfl (nI_add _ 1) (by decide) rfl ?_
              refine g_goto (tgt := 2) dX10_sends_198 (by decide) ?_
              have k := hI.send_kp hf g hS'
              refine zG.sub [0, 2, 3] rfl (zG.mono (ih (i + 1) (by omega) y44 (sendN N1 f) (hI.send hf g hS') (fun a ha => Nat.le_trans (k.1.2.2.1 a ha).1.length_le (hW a ha)) (by rw [k.1.1 1 (Or.inl (Or.inl (by omega)))]; exact hf) (by rw [k.2.1]; omega) (by rw [sendN_E]; exact r44) ((((((((((((fr'.tr f4).tr f6).tr f8).tr f10).tr f13).tr f15).tr f18).tr f35).tr f37).tr f39).tr f42).tr f44)) ?_)
              rintro _ _ ⟨rfl, a1, a2⟩
              refine ⟨rfl, ?_, a2⟩
              have e9 : sendK f (n + 1) N1 = sendK f n (sendN N1 f) := by rw [sendK, if_pos g]
              rw [e9]; exact a1
  refine g_iconst (v := nI 0) dX10_sends_0 (by decide) ?_
  refine g_istore_n (lv2 := [(2, .int (nI 0)), (0, .ref m), (1, .int (nI f))]) dX10_sends_1 rfl (by decide) rfl ?_
  exact loop 2 0 rfl h N hI hW hf (by omega) r FrM.rf
end M11
