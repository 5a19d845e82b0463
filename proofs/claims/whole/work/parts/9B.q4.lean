section QD
variable {l : Launch} {w : zW} {h : zH} {m x b : Nat} {π : Nat → Nat} {ls : Nat → List Nat} {N : nT} {X : List Nat} {t : Nat}
theorem xor_nn {a c : Nat} (ha : a < 2 ^ 31) (hc : c < 2 ^ 31) : ¬ (nI a ^^^ nI c < 0) := by
  have hx : a ^^^ c < 2 ^ 31 := Nat.xor_lt_two_pow ha hc
  have e : nI a ^^^ nI c = nI (a ^^^ c) := by
    apply Int32.toBitVec_inj.mp
    show (BitVec.ofNat 32 a) ^^^ (BitVec.ofNat 32 c) = BitVec.ofNat 32 (a ^^^ c)
    exact BitVec.ofNat_xor.symm
  rw [e, ← jI_nat]
  intro q
  have q2 := (jI_lt (a := ((a ^^^ c : Nat) : Int)) (b := 0) (by omega) (by omega)).mp (by rw [show jI 0 = (0 : Int32) by decide]; exact q)
  omega
theorem xor_24 : ∀ n : Nat, n < 48 → ((jI ((n : Int) - 24) ^^^ nI 24 < 0) ↔ n < 24) := by decide +kernel
theorem rem_24 : ∀ n : Nat, n < 48 → jI ((n : Int) - 24) - jI ((n : Int) - 24) / nI 24 * nI 24 = if n < 24 then (if n = 0 then nI 0 else jI ((n : Int) - 24)) else (nI (n - 24)) := by decide +kernel
theorem c_fmN {a c : Nat} (ha : a < 2 ^ 31) (h0 : 0 < c) (hc : c < 2 ^ 31) : zM l w mJ9_floorMod_7cf53 [.int (nI a), .int (nI c)] h (fun u h1 => u = some (.int (nI (a % c))) ∧ h1 = h) := by
  refine zM.ofF (by decide +kernel) (Nat.le_of_ble_eq_true rfl) ?_
  refine g_iload_n 0 dJ9_floorMod_7cf53_0 rfl rfl ?_
  refine g_iload_n 1 dJ9_floorMod_7cf53_1 rfl rfl ?_
  refine g_irem dJ9_floorMod_7cf53_2 (by rw [← jI_nat]; exact jI_ne0 (by omega)) ?_
  refine zG.top (nI_rem ha (by omega) hc) ?_
  refine g_istore_n (lv2 := [(2, .int (nI (a % c))), (0, .int (nI a)), (1, .int (nI c))]) dJ9_floorMod_7cf53_3 rfl (by decide) rfl ?_
  refine g_iload_n 1 dJ9_floorMod_7cf53_4 rfl rfl ?_
  refine g_iload_n 2 dJ9_floorMod_7cf53_5 rfl rfl ?_
  refine g_ixor dJ9_floorMod_7cf53_6 ?_
  refine g_if_ge (tgt := 18) dJ9_floorMod_7cf53_7 (by decide) (fun q => ?_) (fun q => ?_)
  · refine g_iload_n 0 dJ9_floorMod_7cf53_18 rfl rfl ?_
    refine g_ireturn dJ9_floorMod_7cf53_19 rfl ?_
    exact ⟨rfl, rfl⟩
  · exact absurd (Int32.not_le.mp q) (xor_nn ha hc)
theorem jI_nz {z : Int} (hz : -2 ^ 31 ≤ z ∧ z < 2 ^ 31) (h0 : ¬ z = 0) : ¬ jI z = 0 := by
  intro q
  exact h0 ((jI_eq hz (by omega)).mp (q.trans (by decide)))
theorem c_fm24 {n : Nat} (hn : n < 48) : zM l w mJ9_floorMod_7cf53 [.int (jI ((n : Int) - 24)), .int (nI 24)] h (fun u h1 => u = some (.int (nI (n % 24))) ∧ h1 = h) := by
  refine zM.ofF (by decide +kernel) (Nat.le_of_ble_eq_true rfl) ?_
  refine g_iload_n 0 dJ9_floorMod_7cf53_0 rfl rfl ?_
  refine g_iload_n 1 dJ9_floorMod_7cf53_1 rfl rfl ?_
  refine g_irem dJ9_floorMod_7cf53_2 (by decide) ?_
  refine zG.top (rem_24 n hn) ?_
  refine g_istore_n (lv2 := [(2, .int (if n < 24 then (if n = 0 then nI 0 else jI ((n : Int) - 24)) else nI (n - 24))), (0, .int (jI ((n : Int) - 24))), (1, .int (nI 24))]) dJ9_floorMod_7cf53_3 rfl (by decide) rfl ?_
  refine g_iload_n 1 dJ9_floorMod_7cf53_4 rfl rfl ?_
  refine g_iload_n 2 dJ9_floorMod_7cf53_5 rfl rfl ?_
  refine g_ixor dJ9_floorMod_7cf53_6 ?_
  refine g_if_ge (tgt := 18) dJ9_floorMod_7cf53_7 (by decide) (fun q => ?_) (fun q => ?_)
  · have g : ¬ n < 24 := fun z => Int32.not_lt.mpr q ((xor_24 n hn).mpr z)
    refine g_iload_n 0 dJ9_floorMod_7cf53_18 rfl rfl ?_
    refine g_ireturn dJ9_floorMod_7cf53_19 rfl ?_
    exact ⟨by rw [if_neg g, show n % 24 = n - 24 by omega], rfl⟩
  · have g : n < 24 := (xor_24 n hn).mp (Int32.not_le.mp q)
    refine g_iload_n 0 dJ9_floorMod_7cf53_10 rfl rfl ?_
    refine g_if_eq (tgt := 18) dJ9_floorMod_7cf53_11 (by decide) (fun q2 => ?_) (fun q2 => ?_)
    · refine g_iload_n 0 dJ9_floorMod_7cf53_18 rfl rfl ?_
      refine g_ireturn dJ9_floorMod_7cf53_19 rfl ?_
      exact ⟨by
          by_cases e : n = 0
          · rw [if_pos g, if_pos e, e]
          · rw [if_pos g, if_neg e] at q2
            exact absurd q2 (jI_nz (by omega) (by omega)), rfl⟩
    · refine g_iload_n 0 dJ9_floorMod_7cf53_14 rfl rfl ?_
      refine g_iload_n 2 dJ9_floorMod_7cf53_15 rfl rfl ?_
      refine g_iadd dJ9_floorMod_7cf53_16 ?_
      refine g_ireturn dJ9_floorMod_7cf53_17 rfl ?_
      exact ⟨by
          by_cases e : n = 0
          · rw [if_pos g, if_pos e] at q2
            exact absurd rfl q2
          · rw [if_pos g, if_neg e, show n % 24 = n by omega, show nI 24 = jI 24 by decide, jI_add, ← jI_nat]; congr 3; omega, rfl⟩
def evv (e : Int × Int × Int × Int) (k : Nat) : Int := if k = 0 then e.1 else if k = 1 then e.2.1 else if k = 2 then e.2.2.1 else e.2.2.2
def qEvent (N : nT) (z k : Int) : Int × Int := if (0 ≤ z ∧ z ≤ 23) ∧ 0 ≤ k ∧ k ≤ 3 then (match (nE N).reverse[z.toNat]? with | some e => (0, evv e k.toNat) | none => (5, -1)) else (1, -1)
def qPast (N : nT) (z k : Int) : Int × Int := if 0 ≤ k ∧ k ≤ 19 then (if 0 ≤ z ∧ z < nA N 1 then (match (nP N).reverse[k.toNat]? with | some q => (0, q z.toNat) | none => (5, -1)) else (2, -1)) else (1, -1)
theorem rev_get {α : Type} {L : List α} {i : Nat} (h : i < L.length) : ∃ e, L.reverse[i]? = some e ∧ L[L.length - 1 - i]? = some e := by
  rw [List.getElem?_reverse h]
  exact ⟨_, List.getElem?_eq_getElem (by omega), List.getElem?_eq_getElem (by omega)⟩
theorem rev_non {α : Type} {L : List α} {i : Nat} (h : ¬ i < L.length) : L.reverse[i]? = none := List.getElem?_eq_none (by rw [List.length_reverse]; omega)
theorem c_ofE (r : MoN h m N) {j k : Nat} {e : Int × Int × Int × Int} (hj : (nE N)[j]? = some e) (j24 : j < 24) (hk : k < 4) : zM l w mX10_of [.ref m, .int (nI (5588 + 4 * j + k))] h (fun v h1 => v = some (.long (jL (evv e k))) ∧ h1 = h) := by
  have q := r.2.1.2.2.2.2.2.2.1 j e hj
  refine (c_of r.1 (by omega)).mono ?_
  rintro v h1 ⟨rfl, rfl⟩
  refine ⟨?_, rfl⟩
  rcases (show k = 0 ∨ k = 1 ∨ k = 2 ∨ k = 3 by omega) with rfl | rfl | rfl | rfl
  · exact congrArg (fun z => some (Value.long z)) q.1
  · rw [q.2.1]; rfl
  · rw [q.2.2.1]; rfl
  · rw [q.2.2.2]; rfl
theorem c_ofPq (r : MoN h m N) {j f : Nat} {q : Nat → Int} (hj : (nP N)[j]? = some q) (j20 : j < 20) (hf : f < 6) : zM l w mX10_of [.ref m, .int (nI (5684 + 6 * j + f))] h (fun v h1 => v = some (.long (jL (q f))) ∧ h1 = h) := by
  have z := r.2.1.2.2.2.2.2.2.2 j q hj f hf
  refine (c_of r.1 (by omega)).mono ?_
  rintro v h1 ⟨rfl, rfl⟩
  exact ⟨by rw [z], rfl⟩
theorem nI_sub {a c : Nat} (h : c ≤ a) : nI a - nI c = nI (a - c) := by
  rw [← jI_nat, ← jI_nat, ← jI_nat, jI_sub]
  congr 1
  omega
theorem c_eventM (r : MoN h m N) (hI : iN [] N) {z k : Int} (zb : -2147483648 ≤ z ∧ z < 2147483648) (kb : -2147483648 ≤ k ∧ k < 2147483648) : zM l w mX10_event [.ref m, .int (jI z), .int (jI k)] h (fun u h1 => u = some (.int (jI (qEvent N z k).2)) ∧ h1 = zSi h 321 m (jI (qEvent N z k).1)) := by
  refine zM.of (by decide) (Nat.le_of_ble_eq_true rfl) ?_
  have hE := hI.E.1
  refine g_iload_n 1 dX10_event_0 rfl rfl ?_
  refine g_i2l dX10_event_1 ?_
  rw [jI_l (by omega) (by omega)]
  refine g_lconst (v := jL 0) dX10_event_2 (by decide) ?_
  refine g_ldc2J (z := 23) dX10_event_3 kl_X10_164 (by decide) ?_
  refine g_invs (M' := mX10_isFrom) (As := [.long (jL z), .long (jL 0), .long (jL 23)]) (rest := []) dX10_event_6 ml_X10_252 okX10_isFrom stX10_isFrom ⟨(Nat.le_of_ble_eq_true rfl), (Nat.le_of_ble_eq_true rfl)⟩ rfl rfl (Nat.le_of_ble_eq_true rfl) (c_isFrom (by omega) (by omega) (by omega)) ?_
  rintro _ q1 ⟨rfl, eq1⟩
  subst q1
  show zG l w mX10_event 9 [(0, .ref m), (1, .int (jI z)), (2, .int (jI k))] [.int (bI (decide (0 ≤ z ∧ z ≤ 23)))] h _
  refine g_bif_eq (tgt := 24) dX10_event_9 (by decide) (fun c => ?_) (fun c => ?_)
  · have c := of_decide_eq_false c
    refine g_aload_n 0 dX10_event_24 rfl rfl ?_
    refine g_iconst (v := nI 1) dX10_event_25 (by decide) ?_
    refine g_invv (M' := mX10_refuse) (As := [.int (nI 1)]) (rest := []) dX10_event_26 ml_X10_289 okX10_refuse imX10_refuse seX10_refuse ⟨(Nat.le_of_ble_eq_true rfl), (Nat.le_of_ble_eq_true rfl)⟩ (ci := 10) rfl rfl r.1.1 rfl rfl (Nat.le_of_ble_eq_true rfl) (c_refuse r.1.1) ?_
    rintro _ q2 ⟨rfl, eq2⟩
    subst q2
    show zG l w mX10_event 29 [(0, .ref m), (1, .int (jI z)), (2, .int (jI k))] [.int (-1)] (zSi h 321 m (nI 1)) _
    refine g_ireturn dX10_event_29 rfl ?_
    rw [show qEvent N z k = (1, -1) by unfold qEvent; rw [if_neg (by omega)]]
    exact ⟨rfl, rfl⟩
  · have c := of_decide_eq_true c
    refine g_iload_n 2 dX10_event_12 rfl rfl ?_
    refine g_i2l dX10_event_13 ?_
    rw [jI_l (by omega) (by omega)]
    refine g_lconst (v := jL 0) dX10_event_14 (by decide) ?_
    refine g_ldc2J (z := 3) dX10_event_15 kl_X10_134 (by decide) ?_
    refine g_invs (M' := mX10_isFrom) (As := [.long (jL k), .long (jL 0), .long (jL 3)]) (rest := []) dX10_event_18 ml_X10_252 okX10_isFrom stX10_isFrom ⟨(Nat.le_of_ble_eq_true rfl), (Nat.le_of_ble_eq_true rfl)⟩ rfl rfl (Nat.le_of_ble_eq_true rfl) (c_isFrom (by omega) (by omega) (by omega)) ?_
    rintro _ q3 ⟨rfl, eq3⟩
    subst q3
    show zG l w mX10_event 21 [(0, .ref m), (1, .int (jI z)), (2, .int (jI k))] [.int (bI (decide (0 ≤ k ∧ k ≤ 3)))] h _
    refine g_bif_ne (tgt := 30) dX10_event_21 (by decide) (fun c2 => ?_) (fun c2 => ?_)
    · have c2 := of_decide_eq_true c2
      rw [show qEvent N z k = (match (nE N).reverse[z.toNat]? with | some e => (0, evv e k.toNat) | none => (5, -1)) by unfold qEvent; rw [if_pos ⟨c, c2⟩]]
      obtain ⟨i, ei⟩ : ∃ i : Nat, z = (i : Int) := ⟨_, (Int.toNat_of_nonneg c.1).symm⟩
      subst ei
      obtain ⟨j, ej⟩ : ∃ j : Nat, k = (j : Int) := ⟨_, (Int.toNat_of_nonneg c2.1).symm⟩
      subst ej
      simp only [jI_nat]
      refine g_iload_n 1 dX10_event_30 rfl rfl ?_
      refine g_i2l dX10_event_31 ?_
      rw [nI_l (by omega), ← jL_nat]
      refine g_aload_n 0 dX10_event_32 rfl rfl ?_
      refine g_iconst (v := nI 3) dX10_event_33 (by decide) ?_
      refine g_invv (M' := mX10_of) (As := [.int (nI 3)]) (rest := [.long (jL ((i : Nat) : Int))]) dX10_event_34 ml_X10_48 okX10_of imX10_of seX10_of ⟨(Nat.le_of_ble_eq_true rfl), (Nat.le_of_ble_eq_true rfl)⟩ (ci := 10) rfl rfl r.1.1 rfl rfl (Nat.le_of_ble_eq_true rfl) (c_ofLog r) ?_
      rintro _ q5 ⟨rfl, eq5⟩
      subst q5
      show zG l w mX10_event 37 [(0, .ref m), (1, .int (nI i)), (2, .int (nI j))] [.long (lN (nE N).length), .long (jL ((i : Nat) : Int))] h _
      rw [← jL_nat]
      refine g_lif_ge (a := ((i : Nat) : Int)) (b := (((nE N).length : Nat) : Int)) (tgt := 69) dX10_event_37 rfl dX10_event_38 (by decide) (by omega) (by omega) (fun d => ?_) (fun d => ?_)
      · refine g_aload_n 0 dX10_event_69 rfl rfl ?_
        refine g_iconst (v := nI 5) dX10_event_70 (by decide) ?_
        refine g_invv (M' := mX10_refuse) (As := [.int (nI 5)]) (rest := []) dX10_event_71 ml_X10_289 okX10_refuse imX10_refuse seX10_refuse ⟨(Nat.le_of_ble_eq_true rfl), (Nat.le_of_ble_eq_true rfl)⟩ (ci := 10) rfl rfl r.1.1 rfl rfl (Nat.le_of_ble_eq_true rfl) (c_refuse r.1.1) ?_
        rintro _ q6 ⟨rfl, eq6⟩
        subst q6
        show zG l w mX10_event 74 [(0, .ref m), (1, .int (nI i)), (2, .int (nI j))] [.int (-1)] (zSi h 321 m (nI 5)) _
        refine g_ireturn dX10_event_74 rfl ?_
        rw [show (nE N).reverse[(i : Int).toNat]? = none from rev_non (by show ¬ i < _; omega)]
        exact ⟨rfl, rfl⟩
      · obtain ⟨e, e1, e2⟩ := rev_get (L := nE N) (i := i) (by omega)
        refine g_aload_n 0 dX10_event_41 rfl rfl ?_
        refine g_aload_n 0 dX10_event_42 rfl rfl ?_
        refine g_sipush (v := nI 5588) dX10_event_43 (by decide) ?_
        refine g_iconst (v := nI 4) dX10_event_46 (by decide) ?_
        refine g_aload_n 0 dX10_event_47 rfl rfl ?_
        refine g_iconst (v := nI 3) dX10_event_48 (by decide) ?_
        refine g_invv (M' := mX10_at) (As := [.int (nI 3)]) (rest := [.int (nI 4), .int (nI 5588), .ref m, .ref m]) dX10_event_49 ml_X10_58 okX10_at imX10_at seX10_at ⟨(Nat.le_of_ble_eq_true rfl), (Nat.le_of_ble_eq_true rfl)⟩ (ci := 10) rfl rfl r.1.1 rfl rfl (Nat.le_of_ble_eq_true rfl) (c_atLog r) ?_
        rintro _ q7 ⟨rfl, eq7⟩
        subst q7
        show zG l w mX10_event 52 [(0, .ref m), (1, .int (nI i)), (2, .int (nI j))] [.int (nI (nE N).length), .int (nI 4), .int (nI 5588), .ref m, .ref m] h _
        refine g_iconst (v := nI 1) dX10_event_52 (by decide) ?_
        refine g_isub dX10_event_53 ?_
        refine zG.top (nI_sub (a := (nE N).length) (c := 1) (by omega)) ?_
        refine g_iload_n 1 dX10_event_54 rfl rfl ?_
        refine g_isub dX10_event_55 ?_
        refine zG.top (nI_sub (a := ((nE N).length - 1)) (c := i) (by omega)) ?_
        refine g_imul dX10_event_56 ?_
        rw [pk_mul 4 (((nE N).length - 1) - i)]
        refine g_iadd dX10_event_57 ?_
        rw [nI_add 5588 (4 * (((nE N).length - 1) - i))]
        refine g_iload_n 2 dX10_event_58 rfl rfl ?_
        refine g_iadd dX10_event_59 ?_
        rw [nI_add (5588 + 4 * (((nE N).length - 1) - i)) j]
        refine g_invv (M' := mX10_of) (As := [.int (nI (5588 + 4 * (((nE N).length - 1) - i) + j))]) (rest := [.ref m]) dX10_event_60 ml_X10_48 okX10_of imX10_of seX10_of ⟨(Nat.le_of_ble_eq_true rfl), (Nat.le_of_ble_eq_true rfl)⟩ (ci := 10) rfl rfl r.1.1 rfl rfl (Nat.le_of_ble_eq_true rfl) (c_ofE r e2 (by omega) (by omega)) ?_
        rintro _ q8 ⟨rfl, eq8⟩
        subst q8
        show zG l w mX10_event 63 [(0, .ref m), (1, .int (nI i)), (2, .int (nI j))] [.long (jL (evv e j)), .ref m] h _
        refine g_invv (M' := mX10_gives) (As := [.long (jL (evv e j))]) (rest := []) dX10_event_63 ml_X10_298 okX10_gives imX10_gives seX10_gives ⟨(Nat.le_of_ble_eq_true rfl), (Nat.le_of_ble_eq_true rfl)⟩ (ci := 10) rfl rfl r.1.1 rfl rfl (Nat.le_of_ble_eq_true rfl) (c_gives r.1.1) ?_
        rintro _ q9 ⟨rfl, eq9⟩
        subst q9
        show zG l w mX10_event 66 [(0, .ref m), (1, .int (nI i)), (2, .int (nI j))] [.int (jI (evv e j))] (zSi h 321 m (nI 0)) _
        refine g_goto (tgt := 74) dX10_event_66 (by decide) ?_
        refine g_ireturn dX10_event_74 rfl ?_
        rw [show (nE N).reverse[(i : Int).toNat]? = some e from e1]
        exact ⟨rfl, rfl⟩
    · have c2 := of_decide_eq_false c2
      refine g_aload_n 0 dX10_event_24 rfl rfl ?_
      refine g_iconst (v := nI 1) dX10_event_25 (by decide) ?_
      refine g_invv (M' := mX10_refuse) (As := [.int (nI 1)]) (rest := []) dX10_event_26 ml_X10_289 okX10_refuse imX10_refuse seX10_refuse ⟨(Nat.le_of_ble_eq_true rfl), (Nat.le_of_ble_eq_true rfl)⟩ (ci := 10) rfl rfl r.1.1 rfl rfl (Nat.le_of_ble_eq_true rfl) (c_refuse r.1.1) ?_
      rintro _ q4 ⟨rfl, eq4⟩
      subst q4
      show zG l w mX10_event 29 [(0, .ref m), (1, .int (jI z)), (2, .int (jI k))] [.int (-1)] (zSi h 321 m (nI 1)) _
      refine g_ireturn dX10_event_29 rfl ?_
      rw [show qEvent N z k = (1, -1) by unfold qEvent; rw [if_neg (by omega)]]
      exact ⟨rfl, rfl⟩
theorem c_evTell (s : ClS h b) {E : List (Int × Int × Int × Int)} (ev : EvC h b E) {i k : Nat} {e : Int × Int × Int × Int} (he : E.reverse[i]? = some e) (i24 : i < 24) (k4 : k < 4) : zM l w mX1_tell [.ref (b + 5), .int (nI i), .int (nI k)] h (fun u h1 => u = some (.int (jI (evv e k))) ∧ h1 = h) := by
  refine zM.of (by decide) (Nat.le_of_ble_eq_true rfl) ?_
  obtain ⟨sl, e1, e2, e3, e4⟩ := ev
  have q := e4 i e he
  have hm : (sl + 23 - i) % 24 < 24 := Nat.mod_lt _ (by decide)
  refine g_aload_n 0 dX1_tell_0 rfl rfl ?_
  refine g_geti (f := 36) dX1_tell_1 fl_X1_24 s.2.2.2.2.2.1.2 (by decide) rfl ?_
  rw [show zi h 36 (b + 5) = nI sl from e2]
  refine g_iconst (v := nI 1) dX1_tell_4 (by decide) ?_
  refine g_isub dX1_tell_5 ?_
  refine zG.top (show (nI sl) - (nI 1) = jI (((sl : Nat) : Int) - 1) by rw [show nI sl = jI ((sl : Nat) : Int) from (jI_nat sl).symm, show nI 1 = jI 1 from (by decide), jI_sub]) ?_
  refine g_iload_n 1 dX1_tell_6 rfl rfl ?_
  refine g_isub dX1_tell_7 ?_
  refine zG.top (show (jI (((sl : Nat) : Int) - 1)) - (nI i) = jI ((((sl : Nat) : Int) - 1) - ((i : Nat) : Int)) by rw [show nI i = jI ((i : Nat) : Int) from (jI_nat i).symm, jI_sub]) ?_
  refine g_bipush (v := nI 24) dX1_tell_8 (by decide) ?_
  refine zG.sub2 (show jI ((((sl : Nat) : Int) - 1) - ((i : Nat) : Int)) = jI (((sl + 23 - i : Nat) : Int) - 24) by congr 1; omega) ?_
  refine g_invs (M' := mJ9_floorMod_7cf53) (As := [.int (jI (((sl + 23 - i : Nat) : Int) - 24)), .int (nI 24)]) (rest := []) dX1_tell_10 ml_X1_43 okJ9_floorMod_7cf53 stJ9_floorMod_7cf53 ⟨(Nat.le_of_ble_eq_true rfl), (Nat.le_of_ble_eq_true rfl)⟩ rfl rfl (Nat.le_of_ble_eq_true rfl) (c_fm24 (by omega)) ?_
  rintro _ q1 ⟨rfl, eq1⟩
  subst q1
  show zG l w mX1_tell 13 [(0, .ref (b + 5)), (1, .int (nI i)), (2, .int (nI k))] [.int (nI ((sl + 23 - i) % 24))] h _
  refine g_istore_n (lv2 := [(3, .int (nI ((sl + 23 - i) % 24))), (0, .ref (b + 5)), (1, .int (nI i)), (2, .int (nI k))]) dX1_tell_13 rfl (by decide) rfl ?_
  refine g_iload_n 3 dX1_tell_14 rfl rfl ?_
  rcases (show k = 0 ∨ k = 1 ∨ k = 2 ∨ k = 3 by omega) with rfl | rfl | rfl | rfl
  · refine g_tableIn (off := 25) (tgt := 40) dX1_tell_15 (by decide) (by decide) (by decide) (by decide) ?_
    refine g_aload_n 1 dX1_tell_40 rfl rfl ?_
    refine g_getr (f := 32) (b := b + 6) dX1_tell_41 fl_X1_9 s.2.2.2.2.2.1.2 rfl (s.2.2.2.2.2.2.1 0 (by omega)).1 ?_
    refine g_iload_n 0 dX1_tell_44 rfl rfl ?_
    refine g_iald dX1_tell_45 (s.2.2.2.2.2.2.1 0 (by omega)).2.1 (by rw [show zn h (b + 6) = 24 from (s.2.2.2.2.2.2.1 0 (by omega)).2.2]; exact vp_in_nI (by omega) (by omega)) ?_
    rw [nI_clamp (by omega)]
    refine g_ireturn dX1_tell_46 rfl ?_
    exact ⟨by rw [q.1]; rfl, rfl⟩
  · refine g_tableIn (off := 32) (tgt := 47) dX1_tell_15 (by decide) (by decide) (by decide) (by decide) ?_
    refine g_aload_n 1 dX1_tell_47 rfl rfl ?_
    refine g_getr (f := 33) (b := b + 7) dX1_tell_48 fl_X1_15 s.2.2.2.2.2.1.2 rfl (s.2.2.2.2.2.2.1 1 (by omega)).1 ?_
    refine g_iload_n 0 dX1_tell_51 rfl rfl ?_
    refine g_iald dX1_tell_52 (s.2.2.2.2.2.2.1 1 (by omega)).2.1 (by rw [show zn h (b + 7) = 24 from (s.2.2.2.2.2.2.1 1 (by omega)).2.2]; exact vp_in_nI (by omega) (by omega)) ?_
    rw [nI_clamp (by omega)]
    refine g_ireturn dX1_tell_53 rfl ?_
    exact ⟨by rw [q.2.1]; rfl, rfl⟩
  · refine g_tableIn (off := 39) (tgt := 54) dX1_tell_15 (by decide) (by decide) (by decide) (by decide) ?_
    refine g_aload_n 1 dX1_tell_54 rfl rfl ?_
    refine g_getr (f := 34) (b := b + 8) dX1_tell_55 fl_X1_18 s.2.2.2.2.2.1.2 rfl (s.2.2.2.2.2.2.1 2 (by omega)).1 ?_
    refine g_iload_n 0 dX1_tell_58 rfl rfl ?_
    refine g_iald dX1_tell_59 (s.2.2.2.2.2.2.1 2 (by omega)).2.1 (by rw [show zn h (b + 8) = 24 from (s.2.2.2.2.2.2.1 2 (by omega)).2.2]; exact vp_in_nI (by omega) (by omega)) ?_
    rw [nI_clamp (by omega)]
    refine g_ireturn dX1_tell_60 rfl ?_
    exact ⟨by rw [q.2.2.1]; rfl, rfl⟩
  · refine g_tableOut (tgt := 61) dX1_tell_15 (by decide) (by decide) ?_
    refine g_aload_n 1 dX1_tell_61 rfl rfl ?_
    refine g_getr (f := 35) (b := b + 9) dX1_tell_62 fl_X1_21 s.2.2.2.2.2.1.2 rfl (s.2.2.2.2.2.2.1 3 (by omega)).1 ?_
    refine g_iload_n 0 dX1_tell_65 rfl rfl ?_
    refine g_iald dX1_tell_66 (s.2.2.2.2.2.2.1 3 (by omega)).2.1 (by rw [show zn h (b + 9) = 24 from (s.2.2.2.2.2.2.1 3 (by omega)).2.2]; exact vp_in_nI (by omega) (by omega)) ?_
    rw [nI_clamp (by omega)]
    refine g_ireturn dX1_tell_67 rfl ?_
    exact ⟨by rw [q.2.2.2]; rfl, rfl⟩
theorem c_eventC (c : CX h b π ls N [] t) (xo : XO h x b) (hI : iN [] N) {z k : Int} (zb : -2147483648 ≤ z ∧ z < 2147483648) (kb : -2147483648 ≤ k ∧ k < 2147483648) : zM l w mX9_event [.ref x, .int (jI z), .int (jI k)] h (fun u h1 => u = some (.int (jI (qEvent N z k).2)) ∧ h1 = zSi h 290 x (jI (qEvent N z k).1)) := by
  refine zM.of (by decide) (Nat.le_of_ble_eq_true rfl) ?_
  have hE := hI.E.1
  refine g_iload_n 1 dX9_event_0 rfl rfl ?_
  refine g_zif_lt (a := z) (tgt := 19) rfl dX9_event_1 (by decide) (by omega) (fun g => ?_) (fun g => ?_)
  · refine g_aload_n 0 dX9_event_19 rfl rfl ?_
    refine g_iconst (v := nI 1) dX9_event_20 (by decide) ?_
    refine g_invv (M' := mX9_refuse) (As := [.int (nI 1)]) (rest := []) dX9_event_21 ml_X9_58 okX9_refuse imX9_refuse seX9_refuse ⟨(Nat.le_of_ble_eq_true rfl), (Nat.le_of_ble_eq_true rfl)⟩ (ci := 9) rfl rfl xo.1 rfl rfl (Nat.le_of_ble_eq_true rfl) (c_refC xo.1) ?_
    rintro _ q1 ⟨rfl, eq1⟩
    subst q1
    show zG l w mX9_event 24 [(0, .ref x), (1, .int (jI z)), (2, .int (jI k))] [.int (-1)] (zSi h 290 x (nI 1)) _
    refine g_ireturn dX9_event_24 rfl ?_
    rw [show qEvent N z k = (1, -1) by unfold qEvent; rw [if_neg (by omega)]]
    exact ⟨rfl, rfl⟩
  · refine g_iload_n 1 dX9_event_4 rfl rfl ?_
    refine g_bipush (v := nI 24) dX9_event_5 (by decide) ?_
    refine g_zcmp_ge (a := z) (b := 24) (tgt := 19) rfl (by decide) dX9_event_7 (by decide) (by omega) (by omega) (fun g2 => ?_) (fun g2 => ?_)
    · refine g_aload_n 0 dX9_event_19 rfl rfl ?_
      refine g_iconst (v := nI 1) dX9_event_20 (by decide) ?_
      refine g_invv (M' := mX9_refuse) (As := [.int (nI 1)]) (rest := []) dX9_event_21 ml_X9_58 okX9_refuse imX9_refuse seX9_refuse ⟨(Nat.le_of_ble_eq_true rfl), (Nat.le_of_ble_eq_true rfl)⟩ (ci := 9) rfl rfl xo.1 rfl rfl (Nat.le_of_ble_eq_true rfl) (c_refC xo.1) ?_
      rintro _ q2 ⟨rfl, eq2⟩
      subst q2
      show zG l w mX9_event 24 [(0, .ref x), (1, .int (jI z)), (2, .int (jI k))] [.int (-1)] (zSi h 290 x (nI 1)) _
      refine g_ireturn dX9_event_24 rfl ?_
      rw [show qEvent N z k = (1, -1) by unfold qEvent; rw [if_neg (by omega)]]
      exact ⟨rfl, rfl⟩
    · refine g_iload_n 2 dX9_event_10 rfl rfl ?_
      refine g_zif_lt (a := k) (tgt := 19) rfl dX9_event_11 (by decide) (by omega) (fun g3 => ?_) (fun g3 => ?_)
      · refine g_aload_n 0 dX9_event_19 rfl rfl ?_
        refine g_iconst (v := nI 1) dX9_event_20 (by decide) ?_
        refine g_invv (M' := mX9_refuse) (As := [.int (nI 1)]) (rest := []) dX9_event_21 ml_X9_58 okX9_refuse imX9_refuse seX9_refuse ⟨(Nat.le_of_ble_eq_true rfl), (Nat.le_of_ble_eq_true rfl)⟩ (ci := 9) rfl rfl xo.1 rfl rfl (Nat.le_of_ble_eq_true rfl) (c_refC xo.1) ?_
        rintro _ q3 ⟨rfl, eq3⟩
        subst q3
        show zG l w mX9_event 24 [(0, .ref x), (1, .int (jI z)), (2, .int (jI k))] [.int (-1)] (zSi h 290 x (nI 1)) _
        refine g_ireturn dX9_event_24 rfl ?_
        rw [show qEvent N z k = (1, -1) by unfold qEvent; rw [if_neg (by omega)]]
        exact ⟨rfl, rfl⟩
      · refine g_iload_n 2 dX9_event_14 rfl rfl ?_
        refine g_iconst (v := nI 3) dX9_event_15 (by decide) ?_
        refine g_zcmp_le (a := k) (b := 3) (tgt := 25) rfl (by decide) dX9_event_16 (by decide) (by omega) (by omega) (fun g4 => ?_) (fun g4 => ?_)
        · rw [show qEvent N z k = (match (nE N).reverse[z.toNat]? with | some e => (0, evv e k.toNat) | none => (5, -1)) by unfold qEvent; rw [if_pos (by omega)]]
          obtain ⟨i, ei⟩ : ∃ i : Nat, z = (i : Int) := ⟨_, (Int.toNat_of_nonneg (by omega)).symm⟩
          subst ei
          obtain ⟨j, ej⟩ : ∃ j : Nat, k = (j : Int) := ⟨_, (Int.toNat_of_nonneg (by omega)).symm⟩
          subst ej
          simp only [jI_nat]
          have kp : zi h 37 (b + 5) = nI (nE N).length := by obtain ⟨sl, a1, a2, a3, a4⟩ := c.2.2.2.2.2.2.1; exact a3
          refine g_iload_n 1 dX9_event_25 rfl rfl ?_
          refine g_aload_n 0 dX9_event_26 rfl rfl ?_
          refine g_getr (f := 293) (b := b) dX9_event_27 fl_X9_23 xo.1 rfl xo.2 ?_
          refine g_getr (f := 168) (b := b + 5) dX9_event_30 fl_X9_103 c.1.1.2 rfl c.1.2.2.2.2.2.1.1 ?_
          refine g_geti (f := 37) dX9_event_33 fl_X9_107 c.1.2.2.2.2.2.1.2 (by decide) rfl ?_
          rw [show zi h 37 (b + 5) = nI (nE N).length from kp]
          refine g_zcmp_lt (a := ((i : Nat) : Int)) (b := (((nE N).length : Nat) : Int)) (tgt := 45) (jI_nat i).symm (jI_nat ((nE N).length)).symm dX9_event_36 (by decide) (by omega) (by omega) (fun d => ?_) (fun d => ?_)
          · obtain ⟨e, e1, e2⟩ := rev_get (L := nE N) (i := i) (by omega)
            refine g_aload_n 0 dX9_event_45 rfl rfl ?_
            refine g_aload_n 0 dX9_event_46 rfl rfl ?_
            refine g_getr (f := 293) (b := b) dX9_event_47 fl_X9_23 xo.1 rfl xo.2 ?_
            refine g_getr (f := 168) (b := b + 5) dX9_event_50 fl_X9_103 c.1.1.2 rfl c.1.2.2.2.2.2.1.1 ?_
            refine g_iload_n 1 dX9_event_53 rfl rfl ?_
            refine g_iload_n 2 dX9_event_54 rfl rfl ?_
            refine g_invv (M' := mX1_tell) (As := [.int (nI i), .int (nI j)]) (rest := [.ref x]) dX9_event_55 ml_X9_167 okX1_tell imX1_tell seX1_tell ⟨(Nat.le_of_ble_eq_true rfl), (Nat.le_of_ble_eq_true rfl)⟩ (ci := 1) rfl rfl c.1.2.2.2.2.2.1.2 rfl rfl (Nat.le_of_ble_eq_true rfl) (c_evTell c.1 c.2.2.2.2.2.2.1 e1 (by omega) (by omega)) ?_
            rintro _ q6 ⟨rfl, eq6⟩
            subst q6
            show zG l w mX9_event 58 [(0, .ref x), (1, .int (nI i)), (2, .int (nI j))] [.int (jI (evv e j)), .ref x] h _
            refine g_invv (M' := mX9_answer) (As := [.int (jI (evv e j))]) (rest := []) dX9_event_58 ml_X9_75 okX9_answer imX9_answer seX9_answer ⟨(Nat.le_of_ble_eq_true rfl), (Nat.le_of_ble_eq_true rfl)⟩ (ci := 9) rfl rfl xo.1 rfl rfl (Nat.le_of_ble_eq_true rfl) (c_ans xo.1) ?_
            rintro _ q7 ⟨rfl, eq7⟩
            subst q7
            show zG l w mX9_event 61 [(0, .ref x), (1, .int (nI i)), (2, .int (nI j))] [.int (jI (evv e j))] (zSi h 290 x (nI 0)) _
            refine g_ireturn dX9_event_61 rfl ?_
            rw [show (nE N).reverse[(i : Int).toNat]? = some e from e1]
            exact ⟨rfl, rfl⟩
          · refine g_aload_n 0 dX9_event_39 rfl rfl ?_
            refine g_iconst (v := nI 5) dX9_event_40 (by decide) ?_
            refine g_invv (M' := mX9_refuse) (As := [.int (nI 5)]) (rest := []) dX9_event_41 ml_X9_58 okX9_refuse imX9_refuse seX9_refuse ⟨(Nat.le_of_ble_eq_true rfl), (Nat.le_of_ble_eq_true rfl)⟩ (ci := 9) rfl rfl xo.1 rfl rfl (Nat.le_of_ble_eq_true rfl) (c_refC xo.1) ?_
            rintro _ q5 ⟨rfl, eq5⟩
            subst q5
            show zG l w mX9_event 44 [(0, .ref x), (1, .int (nI i)), (2, .int (nI j))] [.int (-1)] (zSi h 290 x (nI 5)) _
            refine g_ireturn dX9_event_44 rfl ?_
            rw [show (nE N).reverse[(i : Int).toNat]? = none from rev_non (by show ¬ i < _; omega)]
            exact ⟨rfl, rfl⟩
        · refine g_aload_n 0 dX9_event_19 rfl rfl ?_
          refine g_iconst (v := nI 1) dX9_event_20 (by decide) ?_
          refine g_invv (M' := mX9_refuse) (As := [.int (nI 1)]) (rest := []) dX9_event_21 ml_X9_58 okX9_refuse imX9_refuse seX9_refuse ⟨(Nat.le_of_ble_eq_true rfl), (Nat.le_of_ble_eq_true rfl)⟩ (ci := 9) rfl rfl xo.1 rfl rfl (Nat.le_of_ble_eq_true rfl) (c_refC xo.1) ?_
          rintro _ q4 ⟨rfl, eq4⟩
          subst q4
          show zG l w mX9_event 24 [(0, .ref x), (1, .int (jI z)), (2, .int (jI k))] [.int (-1)] (zSi h 290 x (nI 1)) _
          refine g_ireturn dX9_event_24 rfl ?_
          rw [show qEvent N z k = (1, -1) by unfold qEvent; rw [if_neg (by omega)]]
          exact ⟨rfl, rfl⟩
theorem c_pastM (r : MoN h m N) (hI : iN [] N) {z k : Int} (zb : -2147483648 ≤ z ∧ z < 2147483648) (kb : -2147483648 ≤ k ∧ k < 2147483648) : zM l w mX10_past [.ref m, .int (jI z), .int (jI k)] h (fun u h1 => u = some (.int (jI (qPast N z k).2)) ∧ h1 = zSi h 321 m (jI (qPast N z k).1)) := by
  refine zM.of (by decide) (Nat.le_of_ble_eq_true rfl) ?_
  have hP := hI.E.2
  have H1 := hI.H.2.1
  refine g_iload_n 2 dX10_past_0 rfl rfl ?_
  refine g_i2l dX10_past_1 ?_
  rw [jI_l (by omega) (by omega)]
  refine g_lconst (v := jL 0) dX10_past_2 (by decide) ?_
  refine g_ldc2J (z := 19) dX10_past_3 kl_X10_331 (by decide) ?_
  refine g_invs (M' := mX10_isFrom) (As := [.long (jL k), .long (jL 0), .long (jL 19)]) (rest := []) dX10_past_6 ml_X10_252 okX10_isFrom stX10_isFrom ⟨(Nat.le_of_ble_eq_true rfl), (Nat.le_of_ble_eq_true rfl)⟩ rfl rfl (Nat.le_of_ble_eq_true rfl) (c_isFrom (by omega) (by omega) (by omega)) ?_
  rintro _ q1 ⟨rfl, eq1⟩
  subst q1
  show zG l w mX10_past 9 [(0, .ref m), (1, .int (jI z)), (2, .int (jI k))] [.int (bI (decide (0 ≤ k ∧ k ≤ 19)))] h _
  refine g_bif_ne (tgt := 18) dX10_past_9 (by decide) (fun c => ?_) (fun c => ?_)
  · have c := of_decide_eq_true c
    refine g_aload_n 0 dX10_past_18 rfl rfl ?_
    refine g_iload_n 1 dX10_past_19 rfl rfl ?_
    refine g_invv (M' := mX10_isFlow) (As := [.int (jI z)]) (rest := []) dX10_past_20 ml_X10_321 okX10_isFlow imX10_isFlow seX10_isFlow ⟨(Nat.le_of_ble_eq_true rfl), (Nat.le_of_ble_eq_true rfl)⟩ (ci := 10) rfl rfl r.1.1 rfl rfl (Nat.le_of_ble_eq_true rfl) (c_isFlow r H1 (by omega)) ?_
    rintro _ q3 ⟨rfl, eq3⟩
    subst q3
    show zG l w mX10_past 23 [(0, .ref m), (1, .int (jI z)), (2, .int (jI k))] [.int (bI (decide (0 ≤ z ∧ z < nA N 1)))] h _
    refine g_bif_ne (tgt := 32) dX10_past_23 (by decide) (fun d => ?_) (fun d => ?_)
    · have d := of_decide_eq_true d
      rw [show qPast N z k = (match (nP N).reverse[k.toNat]? with | some q => (0, q z.toNat) | none => (5, -1)) by unfold qPast; rw [if_pos c, if_pos d]]
      obtain ⟨f, ef⟩ : ∃ f : Nat, z = (f : Int) := ⟨_, (Int.toNat_of_nonneg d.1).symm⟩
      subst ef
      obtain ⟨i, ei⟩ : ∃ i : Nat, k = (i : Int) := ⟨_, (Int.toNat_of_nonneg c.1).symm⟩
      subst ei
      simp only [jI_nat]
      refine g_iload_n 2 dX10_past_32 rfl rfl ?_
      refine g_i2l dX10_past_33 ?_
      rw [nI_l (by omega), ← jL_nat]
      refine g_aload_n 0 dX10_past_34 rfl rfl ?_
      refine g_iconst (v := nI 4) dX10_past_35 (by decide) ?_
      refine g_invv (M' := mX10_of) (As := [.int (nI 4)]) (rest := [.long (jL ((i : Nat) : Int))]) dX10_past_36 ml_X10_48 okX10_of imX10_of seX10_of ⟨(Nat.le_of_ble_eq_true rfl), (Nat.le_of_ble_eq_true rfl)⟩ (ci := 10) rfl rfl r.1.1 rfl rfl (Nat.le_of_ble_eq_true rfl) (c_ofPm r) ?_
      rintro _ q5 ⟨rfl, eq5⟩
      subst q5
      show zG l w mX10_past 39 [(0, .ref m), (1, .int (nI f)), (2, .int (nI i))] [.long (lN (nP N).length), .long (jL ((i : Nat) : Int))] h _
      rw [← jL_nat]
      refine g_lif_ge (a := ((i : Nat) : Int)) (b := (((nP N).length : Nat) : Int)) (tgt := 72) dX10_past_39 rfl dX10_past_40 (by decide) (by omega) (by omega) (fun e => ?_) (fun e => ?_)
      · refine g_aload_n 0 dX10_past_72 rfl rfl ?_
        refine g_iconst (v := nI 5) dX10_past_73 (by decide) ?_
        refine g_invv (M' := mX10_refuse) (As := [.int (nI 5)]) (rest := []) dX10_past_74 ml_X10_289 okX10_refuse imX10_refuse seX10_refuse ⟨(Nat.le_of_ble_eq_true rfl), (Nat.le_of_ble_eq_true rfl)⟩ (ci := 10) rfl rfl r.1.1 rfl rfl (Nat.le_of_ble_eq_true rfl) (c_refuse r.1.1) ?_
        rintro _ q6 ⟨rfl, eq6⟩
        subst q6
        show zG l w mX10_past 77 [(0, .ref m), (1, .int (nI f)), (2, .int (nI i))] [.int (-1)] (zSi h 321 m (nI 5)) _
        refine g_ireturn dX10_past_77 rfl ?_
        rw [show (nP N).reverse[(i : Int).toNat]? = none from rev_non (by show ¬ i < _; omega)]
        exact ⟨rfl, rfl⟩
      · obtain ⟨g, e1, e2⟩ := rev_get (L := nP N) (i := i) (by omega)
        refine g_aload_n 0 dX10_past_43 rfl rfl ?_
        refine g_aload_n 0 dX10_past_44 rfl rfl ?_
        refine g_sipush (v := nI 5684) dX10_past_45 (by decide) ?_
        refine g_bipush (v := nI 6) dX10_past_48 (by decide) ?_
        refine g_aload_n 0 dX10_past_50 rfl rfl ?_
        refine g_iconst (v := nI 4) dX10_past_51 (by decide) ?_
        refine g_invv (M' := mX10_at) (As := [.int (nI 4)]) (rest := [.int (nI 6), .int (nI 5684), .ref m, .ref m]) dX10_past_52 ml_X10_58 okX10_at imX10_at seX10_at ⟨(Nat.le_of_ble_eq_true rfl), (Nat.le_of_ble_eq_true rfl)⟩ (ci := 10) rfl rfl r.1.1 rfl rfl (Nat.le_of_ble_eq_true rfl) (c_atPm r) ?_
        rintro _ q7 ⟨rfl, eq7⟩
        subst q7
        show zG l w mX10_past 55 [(0, .ref m), (1, .int (nI f)), (2, .int (nI i))] [.int (nI (nP N).length), .int (nI 6), .int (nI 5684), .ref m, .ref m] h _
        refine g_iconst (v := nI 1) dX10_past_55 (by decide) ?_
        refine g_isub dX10_past_56 ?_
        refine zG.top (nI_sub (a := (nP N).length) (c := 1) (by omega)) ?_
        refine g_iload_n 2 dX10_past_57 rfl rfl ?_
        refine g_isub dX10_past_58 ?_
        refine zG.top (nI_sub (a := ((nP N).length - 1)) (c := i) (by omega)) ?_
        refine g_imul dX10_past_59 ?_
        rw [pk_mul 6 (((nP N).length - 1) - i)]
        refine g_iadd dX10_past_60 ?_
        rw [nI_add 5684 (6 * (((nP N).length - 1) - i))]
        refine g_iload_n 1 dX10_past_61 rfl rfl ?_
        refine g_iadd dX10_past_62 ?_
        rw [nI_add (5684 + 6 * (((nP N).length - 1) - i)) f]
        refine g_invv (M' := mX10_of) (As := [.int (nI (5684 + 6 * (((nP N).length - 1) - i) + f))]) (rest := [.ref m]) dX10_past_63 ml_X10_48 okX10_of imX10_of seX10_of ⟨(Nat.le_of_ble_eq_true rfl), (Nat.le_of_ble_eq_true rfl)⟩ (ci := 10) rfl rfl r.1.1 rfl rfl (Nat.le_of_ble_eq_true rfl) (c_ofPq r e2 (by omega) (by omega)) ?_
        rintro _ q8 ⟨rfl, eq8⟩
        subst q8
        show zG l w mX10_past 66 [(0, .ref m), (1, .int (nI f)), (2, .int (nI i))] [.long (jL (g f)), .ref m] h _
        refine g_invv (M' := mX10_gives) (As := [.long (jL (g f))]) (rest := []) dX10_past_66 ml_X10_298 okX10_gives imX10_gives seX10_gives ⟨(Nat.le_of_ble_eq_true rfl), (Nat.le_of_ble_eq_true rfl)⟩ (ci := 10) rfl rfl r.1.1 rfl rfl (Nat.le_of_ble_eq_true rfl) (c_gives r.1.1) ?_
        rintro _ q9 ⟨rfl, eq9⟩
        subst q9
        show zG l w mX10_past 69 [(0, .ref m), (1, .int (nI f)), (2, .int (nI i))] [.int (jI (g f))] (zSi h 321 m (nI 0)) _
        refine g_goto (tgt := 77) dX10_past_69 (by decide) ?_
        refine g_ireturn dX10_past_77 rfl ?_
        rw [show (nP N).reverse[(i : Int).toNat]? = some g from e1]
        exact ⟨rfl, rfl⟩
    · have d := of_decide_eq_false d
      refine g_aload_n 0 dX10_past_26 rfl rfl ?_
      refine g_iconst (v := nI 2) dX10_past_27 (by decide) ?_
      refine g_invv (M' := mX10_refuse) (As := [.int (nI 2)]) (rest := []) dX10_past_28 ml_X10_289 okX10_refuse imX10_refuse seX10_refuse ⟨(Nat.le_of_ble_eq_true rfl), (Nat.le_of_ble_eq_true rfl)⟩ (ci := 10) rfl rfl r.1.1 rfl rfl (Nat.le_of_ble_eq_true rfl) (c_refuse r.1.1) ?_
      rintro _ q4 ⟨rfl, eq4⟩
      subst q4
      show zG l w mX10_past 31 [(0, .ref m), (1, .int (jI z)), (2, .int (jI k))] [.int (-1)] (zSi h 321 m (nI 2)) _
      refine g_ireturn dX10_past_31 rfl ?_
      rw [show qPast N z k = (2, -1) by unfold qPast; rw [if_pos c, if_neg d]]
      exact ⟨rfl, rfl⟩
  · have c := of_decide_eq_false c
    refine g_aload_n 0 dX10_past_12 rfl rfl ?_
    refine g_iconst (v := nI 1) dX10_past_13 (by decide) ?_
    refine g_invv (M' := mX10_refuse) (As := [.int (nI 1)]) (rest := []) dX10_past_14 ml_X10_289 okX10_refuse imX10_refuse seX10_refuse ⟨(Nat.le_of_ble_eq_true rfl), (Nat.le_of_ble_eq_true rfl)⟩ (ci := 10) rfl rfl r.1.1 rfl rfl (Nat.le_of_ble_eq_true rfl) (c_refuse r.1.1) ?_
    rintro _ q2 ⟨rfl, eq2⟩
    subst q2
    show zG l w mX10_past 17 [(0, .ref m), (1, .int (jI z)), (2, .int (jI k))] [.int (-1)] (zSi h 321 m (nI 1)) _
    refine g_ireturn dX10_past_17 rfl ?_
    rw [show qPast N z k = (1, -1) by unfold qPast; rw [if_neg c]]
    exact ⟨rfl, rfl⟩
theorem c_pastW (c : CX h b π ls N X t) (h2 : nA N 2 = ((t : Nat) : Int)) (t4 : t ≤ 40000) {i f : Nat} {g : Nat → Int} (he : (nP N).reverse[i]? = some g) (hi : i ≤ t) (hf : (f : Int) < nA N 1) (f6 : f < 6) : zM l w mX5_pastWindow [.ref b, .int (nI f), .int (nI i)] h (fun u h1 => u = some (.int (jI (g f))) ∧ h1 = h) := by
  refine zM.of (by decide) (Nat.le_of_ble_eq_true rfl) ?_
  have q := c.2.2.2.2.2.2.2.2 i g he f hf
  have hm : (t - i) % 20 < 20 := Nat.mod_lt _ (by decide)
  refine g_aload_n 0 dX5_pastWindow_0 rfl rfl ?_
  refine g_geti (f := 164) dX5_pastWindow_1 fl_X5_56 c.1.1.2 (by decide) rfl ?_
  rw [show zi h 164 b = jI (nA N 2) from c.2.2.1.2.2.1]
  refine g_iload_n 2 dX5_pastWindow_4 rfl rfl ?_
  refine g_isub dX5_pastWindow_5 ?_
  refine zG.top (show jI (nA N 2) - nI i = nI (t - i) by rw [h2, jI_nat]; exact nI_sub (by omega)) ?_
  refine g_bipush (v := nI 20) dX5_pastWindow_6 (by decide) ?_
  refine g_invs (M' := mJ9_floorMod_7cf53) (As := [.int (nI (t - i)), .int (nI 20)]) (rest := []) dX5_pastWindow_8 ml_X5_240 okJ9_floorMod_7cf53 stJ9_floorMod_7cf53 ⟨(Nat.le_of_ble_eq_true rfl), (Nat.le_of_ble_eq_true rfl)⟩ rfl rfl (Nat.le_of_ble_eq_true rfl) (c_fmN (by omega) (by omega) (by omega)) ?_
  rintro _ q1 ⟨rfl, eq1⟩
  subst q1
  show zG l w mX5_pastWindow 11 [(0, .ref b), (1, .int (nI f)), (2, .int (nI i))] [.int (nI ((t - i) % 20))] h _
  refine g_bipush (v := nI 6) dX5_pastWindow_11 (by decide) ?_
  refine g_imul dX5_pastWindow_13 ?_
  rw [pk_mul ((t - i) % 20) 6]
  refine g_iload_n 1 dX5_pastWindow_14 rfl rfl ?_
  refine g_iadd dX5_pastWindow_15 ?_
  rw [nI_add (((t - i) % 20) * 6) f]
  refine g_istore_n (lv2 := [(3, .int (nI (((t - i) % 20) * 6 + f))), (0, .ref b), (1, .int (nI f)), (2, .int (nI i))]) dX5_pastWindow_16 rfl (by decide) rfl ?_
  refine g_iload_n 0 dX5_pastWindow_17 rfl rfl ?_
  refine g_zif_lt (a := ((((t - i) % 20) * 6 + f : Nat) : Int)) (tgt := 39) (jI_nat (((t - i) % 20) * 6 + f)).symm dX5_pastWindow_18 (by decide) (by omega) (fun g1 => ?_) (fun g1 => ?_)
  · exact absurd g1 (by omega)
  · refine g_iload_n 0 dX5_pastWindow_21 rfl rfl ?_
    refine g_aload_n 1 dX5_pastWindow_22 rfl rfl ?_
    refine g_getr (f := 169) (b := b + 10) dX5_pastWindow_23 fl_X5_40 c.1.1.2 rfl c.1.2.2.2.2.2.2.2.1.1 ?_
    refine g_alen (t := 1) (v := nI 120) dX5_pastWindow_26 c.1.2.2.2.2.2.2.2.1.2.1 rfl (fun _ => rfl) (congrArg Int32.ofNat (show zn h (b + 10) = 120 from c.1.2.2.2.2.2.2.2.1.2.2)) ?_
    refine g_zcmp_ge (a := ((((t - i) % 20) * 6 + f : Nat) : Int)) (b := 120) (tgt := 39) (jI_nat (((t - i) % 20) * 6 + f)).symm (by decide) dX5_pastWindow_27 (by decide) (by omega) (by omega) (fun g2 => ?_) (fun g2 => ?_)
    · exact absurd g2 (by omega)
    · refine g_aload_n 1 dX5_pastWindow_30 rfl rfl ?_
      refine g_getr (f := 169) (b := b + 10) dX5_pastWindow_31 fl_X5_40 c.1.1.2 rfl c.1.2.2.2.2.2.2.2.1.1 ?_
      refine g_iload_n 0 dX5_pastWindow_34 rfl rfl ?_
      refine g_iald dX5_pastWindow_35 c.1.2.2.2.2.2.2.2.1.2.1 (by rw [show zn h (b + 10) = 120 from c.1.2.2.2.2.2.2.2.1.2.2]; exact vp_in_nI (by omega) (by omega)) ?_
      rw [nI_clamp (by omega)]
      refine g_goto (tgt := 40) dX5_pastWindow_36 (by decide) ?_
      refine g_ireturn dX5_pastWindow_40 rfl ?_
      exact ⟨by rw [q], rfl⟩
theorem c_pastC (c : CX h b π ls N [] t) (xo : XO h x b) (hI : iN [] N) (h2 : nA N 2 = ((t : Nat) : Int)) {z k : Int} (zb : -2147483648 ≤ z ∧ z < 2147483648) (kb : -2147483648 ≤ k ∧ k < 2147483648) : zM l w mX9_past [.ref x, .int (jI z), .int (jI k)] h (fun u h1 => u = some (.int (jI (qPast N z k).2)) ∧ h1 = zSi h 290 x (jI (qPast N z k).1)) := by
  refine zM.of (by decide) (Nat.le_of_ble_eq_true rfl) ?_
  have hP := hI.E.2
  have H1 := hI.H.2.1
  have H2 := hI.H.2.2.1
  have pl := c.2.2.2.2.2.2.2.1
  refine g_iload_n 2 dX9_past_0 rfl rfl ?_
  refine g_zif_lt (a := k) (tgt := 10) rfl dX9_past_1 (by decide) (by omega) (fun g => ?_) (fun g => ?_)
  · refine g_aload_n 0 dX9_past_10 rfl rfl ?_
    refine g_iconst (v := nI 1) dX9_past_11 (by decide) ?_
    refine g_invv (M' := mX9_refuse) (As := [.int (nI 1)]) (rest := []) dX9_past_12 ml_X9_58 okX9_refuse imX9_refuse seX9_refuse ⟨(Nat.le_of_ble_eq_true rfl), (Nat.le_of_ble_eq_true rfl)⟩ (ci := 9) rfl rfl xo.1 rfl rfl (Nat.le_of_ble_eq_true rfl) (c_refC xo.1) ?_
    rintro _ q1 ⟨rfl, eq1⟩
    subst q1
    show zG l w mX9_past 15 [(0, .ref x), (1, .int (jI z)), (2, .int (jI k))] [.int (-1)] (zSi h 290 x (nI 1)) _
    refine g_ireturn dX9_past_15 rfl ?_
    rw [show qPast N z k = (1, -1) by unfold qPast; rw [if_neg (by omega)]]
    exact ⟨rfl, rfl⟩
  · refine g_iload_n 2 dX9_past_4 rfl rfl ?_
    refine g_bipush (v := nI 20) dX9_past_5 (by decide) ?_
    refine g_zcmp_lt (a := k) (b := 20) (tgt := 16) rfl (by decide) dX9_past_7 (by decide) (by omega) (by omega) (fun g2 => ?_) (fun g2 => ?_)
    · refine g_aload_n 0 dX9_past_16 rfl rfl ?_
      refine g_getr (f := 293) (b := b) dX9_past_17 fl_X9_23 xo.1 rfl xo.2 ?_
      refine g_iload_n 1 dX9_past_20 rfl rfl ?_
      by_cases d : 0 ≤ z ∧ z < nA N 1
      · rw [show qPast N z k = (match (nP N).reverse[k.toNat]? with | some q => (0, q z.toNat) | none => (5, -1)) by unfold qPast; rw [if_pos (by omega), if_pos d]]
        obtain ⟨f, ef⟩ : ∃ f : Nat, z = (f : Int) := ⟨_, (Int.toNat_of_nonneg d.1).symm⟩
        subst ef
        obtain ⟨i, ei⟩ : ∃ i : Nat, k = (i : Int) := ⟨_, (Int.toNat_of_nonneg (by omega)).symm⟩
        subst ei
        simp only [jI_nat]
        have f6 : f < 6 := by omega
        refine g_invv (M' := mX5_flowAt) (As := [.int (nI f)]) (rest := []) dX9_past_21 ml_X9_127 okX5_flowAt imX5_flowAt seX5_flowAt ⟨(Nat.le_of_ble_eq_true rfl), (Nat.le_of_ble_eq_true rfl)⟩ (ci := 5) rfl rfl c.1.1.2 rfl rfl (Nat.le_of_ble_eq_true rfl) (c_flowIn c H1 d.2) ?_
        rintro _ q3 ⟨rfl, eq3⟩
        subst q3
        show zG l w mX9_past 24 [(0, .ref x), (1, .int (nI f)), (2, .int (nI i))] [.ref (b + 53 + 2 * f)] h _
        refine g_ifnonnull (tgt := 33) dX9_past_24 (by decide) ?_
        refine g_iload_n 2 dX9_past_33 rfl rfl ?_
        refine g_aload_n 0 dX9_past_34 rfl rfl ?_
        refine g_getr (f := 293) (b := b) dX9_past_35 fl_X9_23 xo.1 rfl xo.2 ?_
        refine g_geti (f := 164) dX9_past_38 fl_X9_81 c.1.1.2 (by decide) rfl ?_
        rw [show zi h 164 b = jI (nA N 2) from c.2.2.1.2.2.1]
        refine g_zcmp_lt (a := ((i : Nat) : Int)) (b := (nA N 2)) (tgt := 50) (jI_nat i).symm rfl dX9_past_41 (by decide) (by omega) (by omega) (fun e => ?_) (fun e => ?_)
        · obtain ⟨g, e1, e2⟩ := rev_get (L := nP N) (i := i) (by omega)
          refine g_aload_n 0 dX9_past_50 rfl rfl ?_
          refine g_aload_n 0 dX9_past_51 rfl rfl ?_
          refine g_getr (f := 293) (b := b) dX9_past_52 fl_X9_23 xo.1 rfl xo.2 ?_
          refine g_iload_n 1 dX9_past_55 rfl rfl ?_
          refine g_iload_n 2 dX9_past_56 rfl rfl ?_
          refine g_invv (M' := mX5_pastWindow) (As := [.int (nI f), .int (nI i)]) (rest := [.ref x]) dX9_past_57 ml_X9_198 okX5_pastWindow imX5_pastWindow seX5_pastWindow ⟨(Nat.le_of_ble_eq_true rfl), (Nat.le_of_ble_eq_true rfl)⟩ (ci := 5) rfl rfl c.1.1.2 rfl rfl (Nat.le_of_ble_eq_true rfl) (c_pastW c h2 (by omega) e1 (by omega) d.2 f6) ?_
          rintro _ q5 ⟨rfl, eq5⟩
          subst q5
          show zG l w mX9_past 60 [(0, .ref x), (1, .int (nI f)), (2, .int (nI i))] [.int (jI (g f)), .ref x] h _
          refine g_invv (M' := mX9_answer) (As := [.int (jI (g f))]) (rest := []) dX9_past_60 ml_X9_75 okX9_answer imX9_answer seX9_answer ⟨(Nat.le_of_ble_eq_true rfl), (Nat.le_of_ble_eq_true rfl)⟩ (ci := 9) rfl rfl xo.1 rfl rfl (Nat.le_of_ble_eq_true rfl) (c_ans xo.1) ?_
          rintro _ q6 ⟨rfl, eq6⟩
          subst q6
          show zG l w mX9_past 63 [(0, .ref x), (1, .int (nI f)), (2, .int (nI i))] [.int (jI (g f))] (zSi h 290 x (nI 0)) _
          refine g_ireturn dX9_past_63 rfl ?_
          rw [show (nP N).reverse[(i : Int).toNat]? = some g from e1]
          exact ⟨rfl, rfl⟩
        · refine g_aload_n 0 dX9_past_44 rfl rfl ?_
          refine g_iconst (v := nI 5) dX9_past_45 (by decide) ?_
          refine g_invv (M' := mX9_refuse) (As := [.int (nI 5)]) (rest := []) dX9_past_46 ml_X9_58 okX9_refuse imX9_refuse seX9_refuse ⟨(Nat.le_of_ble_eq_true rfl), (Nat.le_of_ble_eq_true rfl)⟩ (ci := 9) rfl rfl xo.1 rfl rfl (Nat.le_of_ble_eq_true rfl) (c_refC xo.1) ?_
          rintro _ q4 ⟨rfl, eq4⟩
          subst q4
          show zG l w mX9_past 49 [(0, .ref x), (1, .int (nI f)), (2, .int (nI i))] [.int (-1)] (zSi h 290 x (nI 5)) _
          refine g_ireturn dX9_past_49 rfl ?_
          rw [show (nP N).reverse[(i : Int).toNat]? = none from rev_non (by show ¬ i < _; omega)]
          exact ⟨rfl, rfl⟩
      · refine g_invv (M' := mX5_flowAt) (As := [.int (jI z)]) (rest := []) dX9_past_21 ml_X9_127 okX5_flowAt imX5_flowAt seX5_flowAt ⟨(Nat.le_of_ble_eq_true rfl), (Nat.le_of_ble_eq_true rfl)⟩ (ci := 5) rfl rfl c.1.1.2 rfl rfl (Nat.le_of_ble_eq_true rfl) (c_flowOut c H1 zb d) ?_
        rintro _ q7 ⟨rfl, eq7⟩
        subst q7
        show zG l w mX9_past 24 [(0, .ref x), (1, .int (jI z)), (2, .int (jI k))] [.null] h _
        refine g_ifnonnullN dX9_past_24 ?_
        refine g_aload_n 0 dX9_past_27 rfl rfl ?_
        refine g_iconst (v := nI 2) dX9_past_28 (by decide) ?_
        refine g_invv (M' := mX9_refuse) (As := [.int (nI 2)]) (rest := []) dX9_past_29 ml_X9_58 okX9_refuse imX9_refuse seX9_refuse ⟨(Nat.le_of_ble_eq_true rfl), (Nat.le_of_ble_eq_true rfl)⟩ (ci := 9) rfl rfl xo.1 rfl rfl (Nat.le_of_ble_eq_true rfl) (c_refC xo.1) ?_
        rintro _ q8 ⟨rfl, eq8⟩
        subst q8
        show zG l w mX9_past 32 [(0, .ref x), (1, .int (jI z)), (2, .int (jI k))] [.int (-1)] (zSi h 290 x (nI 2)) _
        refine g_ireturn dX9_past_32 rfl ?_
        rw [show qPast N z k = (2, -1) by unfold qPast; rw [if_pos (by omega), if_neg d]]
        exact ⟨rfl, rfl⟩
    · refine g_aload_n 0 dX9_past_10 rfl rfl ?_
      refine g_iconst (v := nI 1) dX9_past_11 (by decide) ?_
      refine g_invv (M' := mX9_refuse) (As := [.int (nI 1)]) (rest := []) dX9_past_12 ml_X9_58 okX9_refuse imX9_refuse seX9_refuse ⟨(Nat.le_of_ble_eq_true rfl), (Nat.le_of_ble_eq_true rfl)⟩ (ci := 9) rfl rfl xo.1 rfl rfl (Nat.le_of_ble_eq_true rfl) (c_refC xo.1) ?_
      rintro _ q2 ⟨rfl, eq2⟩
      subst q2
      show zG l w mX9_past 15 [(0, .ref x), (1, .int (jI z)), (2, .int (jI k))] [.int (-1)] (zSi h 290 x (nI 1)) _
      refine g_ireturn dX9_past_15 rfl ?_
      rw [show qPast N z k = (1, -1) by unfold qPast; rw [if_neg (by omega)]]
      exact ⟨rfl, rfl⟩
end QD
