section PE1
variable {l : Launch} {w : zW} {h h1 h2 y : zH} {m x b : Nat} {π : Nat → Nat} {ls : Nat → List Nat} {N M : nT} {X : List Nat} {t : Nat} {g : Nat → Int64}
theorem nBd_three {z : Int} (h : nBd N) : nBd (uA N 3 z) := by
  intro j hj
  rw [nA_ne (by omega)]
  exact h j hj
theorem iN.u37 {k : Nat} {z : Int} (h : iN X N) (hk : k = 3 ∨ k = 7 ∧ (z = 0 ∨ z = 1)) : iN X (uA N k z) := by
  have e : ∀ j, j ≠ k → nA (uA N k z) j = nA N j := fun j hj => nA_ne hj
  have hb : nBd (uA N k z) := by
    rcases hk with q | q
    · subst q; exact nBd_three h.B
    · exact nBd_uA h.B (by omega)
  refine ⟨?_, hb, ?_, ?_, ?_, ?_, ?_, ?_, h.E, ?_⟩
  · unfold iH
    rw [e 0 (by omega), e 1 (by omega), e 2 (by omega)]
    refine ⟨h.H.1, h.H.2.1, h.H.2.2.1, ?_⟩
    rcases hk with q | q
    · rw [e 7 (by omega)]; exact h.H.2.2.2
    · rw [q.1, nA_eq]; exact q.2
  · intro x
    rw [e _ (by omega)]
    exact h.C x
  · intro f hf
    rw [e _ (by omega), nFly_congr (fun x _ => e _ (by omega))]
    exact h.Y f hf
  · intro f hf
    rw [e 1 (by omega)] at hf
    exact iF_congr (e 0 (by omega)) (fun k _ => e _ (by omega)) (h.F f hf)
  · intro a ha
    rw [e 0 (by omega)] at ha
    exact iL_congr (e 1 (by omega)) rfl (fun k _ => e _ (by omega)) (h.L a ha)
  · intro x hx hl
    rw [e _ (by omega)] at hl
    exact iP_congr (e 1 (by omega)) (e 2 (by omega)) (fun k _ _ => e _ (by omega)) (fun f => e _ (by omega)) (h.P x hx hl)
  · exact iX_congr (N := N) (fun _ _ => rfl) (fun _ _ => rfl) (fun x => ⟨e _ (by omega), e _ (by omega)⟩) (fun f => e _ (by omega)) h.O
  · intro a ha h0
    rw [e 0 (by omega)] at h0
    exact h.Z a ha h0
theorem iT.u37 {k : Nat} {z : Int} (h : iT N) (hk : k = 3 ∨ k = 7 ∧ (z = 0 ∨ z = 1)) : iT (uA N k z) := by
  have e : ∀ j, j ≠ k → nA (uA N k z) j = nA N j := fun j hj => nA_ne hj
  refine ⟨h.1.u37 hk, fun f hf => ?_, fun a ha => ?_, fun a ha => ?_⟩
  · rw [e _ (by omega), e _ (by omega)]; exact h.2.1 f hf
  · rw [e _ (by omega), e _ (by omega)]; exact h.2.2.1 a ha
  · rw [e _ (by omega), e _ (by omega)]
    exact iW_same (N := N) rfl (fun k hk => e k (by omega)) (h.2.2.2 a ha)
theorem MoR.u37 {k : Nat} {z : Int} (r : MoR g N) (hk : k = 3 ∨ k = 7) : MoR g (uA N k z) := by
  obtain ⟨r1, r2⟩ := r
  refine ⟨fun j hj hs => ?_, r2⟩
  unfold nSp at hs
  rw [nA_ne (by omega)]
  exact r1 j hj (by unfold nSp; exact hs)
theorem CX.u3 {z : Int} (c : CX h b π ls N X t) : CX h b π ls (uA N 3 z) X t := by
  refine c.scal FrSc.rf (fun k hk => nA_ne (by omega)) (nA_ne (by omega)) rfl rfl rfl rfl rfl ?_ ?_ ?_
  · obtain ⟨n1, n2, n3, n4, n5⟩ := c.2.2.1
    unfold NtC
    rw [nA_ne (by omega), nA_ne (by omega), nA_ne (by omega), nA_ne (by omega), nA_ne (by omega)]
    exact ⟨n1, n2, n3, n4, n5⟩
  · intro a ha a6
    rw [nA_ne (by omega)] at ha
    exact (c.2.2.2.1 a ha a6).congr (fun j hj => rfl) rfl (fun _ _ _ => rfl) (fun _ _ _ _ => rfl) (fun k h1 h2 => nA_ne (by omega))
  · intro g hg g6
    rw [nA_ne (by omega)] at hg
    exact (c.2.2.2.2.1 g hg g6).congr (fun j hj => rfl) (fun _ => rfl) (fun k h1 h2 => nA_ne (by omega)) (fun k hk => nA_ne (by omega))
theorem CX.set7 {z : Int} (c : CX h b π ls N X t) : CX (zSi h 171 b (jI z)) b π ls (uA N 7 z) X t ∧ CSt b ls h ls (zSi h 171 b (jI z)) := by
  have f : FrSc b h (zSi h 171 b (jI z)) := FrSc.si (by omega) (by omega)
  refine ⟨c.scal f (fun k hk => nA_ne (by omega)) (nA_ne (by omega)) rfl rfl rfl rfl rfl ?_ ?_ ?_, f.st⟩
  · obtain ⟨n1, n2, n3, n4, n5⟩ := c.2.2.1
    refine ⟨?_, ?_, ?_, ?_, ?_⟩
    · rw [zi_Si, if_neg (by omega), nA_ne (by omega)]; exact n1
    · rw [zi_Si, if_neg (by omega), nA_ne (by omega)]; exact n2
    · rw [zi_Si, if_neg (by omega), nA_ne (by omega)]; exact n3
    · rw [zi_Si, if_neg (by omega), nA_ne (by omega)]; exact n4
    · rw [zi_Si, if_pos ⟨rfl, rfl⟩, nA_eq]
  · intro a ha a6
    rw [nA_ne (by omega)] at ha
    exact (c.2.2.2.1 a ha a6).congr (fun j hj => by have := lkF_bd hj; rw [zi_Si, if_neg (by omega)]) rfl (fun _ _ _ => rfl) (fun _ _ _ _ => rfl) (fun k h1 h2 => nA_ne (by omega))
  · intro g hg g6
    rw [nA_ne (by omega)] at hg
    exact (c.2.2.2.2.1 g hg g6).congr (fun j hj => by rw [zi_Si, if_neg (by omega)]) (fun _ => rfl) (fun k h1 h2 => nA_ne (by omega)) (fun k hk => nA_ne (by omega))
theorem NetC.u3 {z : Int} (c : NetC h b ls N) : NetC h b ls (uA N 3 z) := by
  obtain ⟨π, t, c1, c2, c3⟩ := c
  exact ⟨π, t, c1.u3, c2.u37 (Or.inl rfl), by rw [nA_ne (by omega)]; exact c3⟩
/-- sums over the flows; the longest row -/
def sumN (N : nT) (j : Nat) : Nat → Int
  | 0 => 0
  | n + 1 => sumN N j n + nA N (248 + 20 * n + j)
def lonN (N : nT) : Nat → Int
  | 0 => 0
  | n + 1 => max (lonN N n) ((nR N n).length : Int)
theorem lon_bd (h : iN X N) : ∀ n : Nat, (n : Int) ≤ nA N 0 → 0 ≤ lonN N n ∧ lonN N n ≤ 60 := by
  intro n
  induction n with
  | zero => intro _; exact ⟨Int.le_refl _, (by decide : (0 : Int) ≤ 60)⟩
  | succ n ih =>
    intro hn
    have i1 := ih (by omega)
    have l1 := (h.L n (by omega)).2.1.1
    unfold lonN
    omega
/-- numbers that a paper call's answer doesn't look at -/
theorem sC_cg {N' : nT} (e : ∀ k, 8 ≤ k → nA N' k = nA N k) : ∀ n, sC N' n = sC N n ∧ sW N' n = sW N n ∧ sQ N' n = sQ N n ∧ gM N' n = gM N n ∧ gL N' n = gL N n ∧ ∀ j, sumN N' j n = sumN N j n := by
  intro n
  induction n with
  | zero => exact ⟨rfl, rfl, rfl, rfl, rfl, fun _ => rfl⟩
  | succ n ih =>
    obtain ⟨i1, i2, i3, i4, i5, i6⟩ := ih
    refine ⟨?_, ?_, ?_, ?_, ?_, fun j => ?_⟩
    · unfold sC; rw [i1, e _ (by omega)]
    · unfold sW; rw [i2, e _ (by omega), e _ (by omega)]
    · unfold sQ; rw [i3, e _ (by omega), e _ (by omega)]
    · unfold gM; rw [i4, e _ (by omega), e _ (by omega)]
    · unfold gL; rw [i5, e _ (by omega), e _ (by omega)]
    · unfold sumN; rw [i6 j, e _ (by omega)]
theorem even_cg {N' : nT} (e : ∀ k, 8 ≤ k → nA N' k = nA N k) (e1 : nA N' 1 = nA N 1) : evenN N' = evenN N := by
  have q := sC_cg e (nF N)
  have f : nF N' = nF N := by unfold nF; rw [e1]
  unfold evenN
  rw [f, q.1, q.2.1, q.2.2.1]
theorem gap_cg {N' : nT} (e : ∀ k, 8 ≤ k → nA N' k = nA N k) (e1 : nA N' 1 = nA N 1) : gapN N' = gapN N := by
  have q := sC_cg e (nF N)
  have f : nF N' = nF N := by unfold nF; rw [e1]
  unfold gapN
  rw [f, q.2.2.2.1, q.2.2.2.2.1]
theorem gapN_bd (h : iN X N) : 0 ≤ gapN N ∧ gapN N ≤ 4000 := by
  have H1 := h.H.2.1
  have q := (s_bd h (nF N) (by unfold nF; omega)).2.2.2
  unfold gapN
  omega
/-- what a paper run waits for -/
def rchB (N : nT) (k : Nat) (z : Int) : Bool := if k = 0 then decide (nA N (248 + 20 * z.toNat + 1) = 0) && decide (nA N (248 + 20 * z.toNat + 6) = 0) else if k = 1 then decide (gapN N ≤ z) else decide (¬ caN N z.toNat = 0)
theorem c_flowsSum9 (r : MoN h m N) (hI : iN [] N) : zM l w mX10_flowsSum [.ref m, .int (nI 9)] h (fun u h1 => u = some (.long (jL (sumN N 9 (nF N)))) ∧ h1 = h) := by
  refine zM.of (by decide) (Nat.le_of_ble_eq_true rfl) ?_
  have H1 := hI.H.2.1
  have loop : ∀ n i : Nat, ((i + n : Nat) : Int) = nA N 1 → zG l w mX10_flowsSum 5 [(4, .int (nI i)), (2, .long (jL (sumN N 9 i))), (0, .ref m), (1, .int (nI 9))] [] h (fun u h1 => u = some (.long (jL (sumN N 9 (nF N)))) ∧ h1 = h) := by
    intro n
    induction n with
    | zero =>
      intro i hi
      refine g_iload 0 dX10_flowsSum_5 rfl ?_
      refine g_i2l dX10_flowsSum_7 ?_
      rw [nI_l (by omega), ← jL_nat]
      refine g_aload_n 2 dX10_flowsSum_8 rfl rfl ?_
      refine g_iconst (v := nI 1) dX10_flowsSum_9 (by decide) ?_
      refine g_invv (M' := mX10_of) (As := [.int (nI 1)]) (rest := [.long (jL ((i : Nat) : Int))]) dX10_flowsSum_10 ml_X10_48 okX10_of imX10_of seX10_of ⟨(Nat.le_of_ble_eq_true rfl), (Nat.le_of_ble_eq_true rfl)⟩ (ci := 10) rfl rfl r.1.1 rfl rfl (Nat.le_of_ble_eq_true rfl) (c_ofN r (by omega) (by unfold nSp; omega)) ?_
      rintro _ q1 ⟨rfl, eq1⟩
      subst q1
      show zG l w mX10_flowsSum 13 [(4, .int (nI i)), (2, .long (jL (sumN N 9 i))), (0, .ref m), (1, .int (nI 9))] [.long (jL (nA N 1)), .long (jL ((i : Nat) : Int))] h _
      refine g_lif_ge (a := ((i : Nat) : Int)) (b := (nA N 1)) (tgt := 33) dX10_flowsSum_13 rfl dX10_flowsSum_14 (by decide) (by omega) (by omega) (fun c => ?_) (fun c => ?_)
      · refine g_lload_n 1 dX10_flowsSum_33 rfl rfl ?_
        refine g_lreturn dX10_flowsSum_34 rfl ?_
        exact ⟨by rw [show nF N = i by unfold nF; omega], rfl⟩
      · exact absurd c (by omega)
    | succ n ih =>
      intro i hi
      refine g_iload 0 dX10_flowsSum_5 rfl ?_
      refine g_i2l dX10_flowsSum_7 ?_
      rw [nI_l (by omega), ← jL_nat]
      refine g_aload_n 2 dX10_flowsSum_8 rfl rfl ?_
      refine g_iconst (v := nI 1) dX10_flowsSum_9 (by decide) ?_
      refine g_invv (M' := mX10_of) (As := [.int (nI 1)]) (rest := [.long (jL ((i : Nat) : Int))]) dX10_flowsSum_10 ml_X10_48 okX10_of imX10_of seX10_of ⟨(Nat.le_of_ble_eq_true rfl), (Nat.le_of_ble_eq_true rfl)⟩ (ci := 10) rfl rfl r.1.1 rfl rfl (Nat.le_of_ble_eq_true rfl) (c_ofN r (by omega) (by unfold nSp; omega)) ?_
      rintro _ q2 ⟨rfl, eq2⟩
      subst q2
      show zG l w mX10_flowsSum 13 [(4, .int (nI i)), (2, .long (jL (sumN N 9 i))), (0, .ref m), (1, .int (nI 9))] [.long (jL (nA N 1)), .long (jL ((i : Nat) : Int))] h _
      refine g_lif_ge (a := ((i : Nat) : Int)) (b := (nA N 1)) (tgt := 33) dX10_flowsSum_13 rfl dX10_flowsSum_14 (by decide) (by omega) (by omega) (fun c => ?_) (fun c => ?_)
      · exact absurd c (by omega)
      · have i6 : i < 6 := by omega
        refine g_lload_n 1 dX10_flowsSum_17 rfl rfl ?_
        refine g_aload_n 2 dX10_flowsSum_18 rfl rfl ?_
        refine g_iload 0 dX10_flowsSum_19 rfl ?_
        refine g_iload_n 3 dX10_flowsSum_21 rfl rfl ?_
        refine g_invv (M' := mX10_ofFlow) (As := [.int (nI i), .int (nI 9)]) (rest := [.long (jL (sumN N 9 i))]) dX10_flowsSum_22 ml_X10_62 okX10_ofFlow imX10_ofFlow seX10_ofFlow ⟨(Nat.le_of_ble_eq_true rfl), (Nat.le_of_ble_eq_true rfl)⟩ (ci := 10) rfl rfl r.1.1 rfl rfl (Nat.le_of_ble_eq_true rfl) (c_ofFlowN r (by omega)) ?_
        rintro _ q3 ⟨rfl, eq3⟩
        subst q3
        show zG l w mX10_flowsSum 25 [(4, .int (nI i)), (2, .long (jL (sumN N 9 i))), (0, .ref m), (1, .int (nI 9))] [.long (jL (nA N (248 + 20 * i + 9))), .long (jL (sumN N 9 i))] h _
        refine g_ladd dX10_flowsSum_25 ?_
        rw [jL_add]
        refine g_lstore_n (lv2 := [(2, .long (jL ((sumN N 9 i) + (nA N (248 + 20 * i + 9))))), (4, .int (nI i)), (0, .ref m), (1, .int (nI 9))]) dX10_flowsSum_26 rfl (by decide) rfl ?_
        refine g_inc (v := nI (i + 1)) (lv2 := [(4, .int (nI (i + 1))), (2, .long (jL ((sumN N 9 i) + (nA N (248 + 20 * i + 9))))), (0, .ref m), (1, .int (nI 9))]) 1 dX10_flowsSum_27 rfl (nI_add _ 1) (by decide) rfl ?_
        refine g_goto (tgt := 5) dX10_flowsSum_30 (by decide) ?_
        exact zG.sub [0, 1, 2, 3] rfl (ih (i + 1) (by omega))
  refine g_lconst (v := jL 0) dX10_flowsSum_0 (by decide) ?_
  refine g_lstore_n (lv2 := [(2, .long (jL 0)), (0, .ref m), (1, .int (nI 9))]) dX10_flowsSum_1 rfl (by decide) rfl ?_
  refine g_iconst (v := nI 0) dX10_flowsSum_2 (by decide) ?_
  refine g_istore (lv2 := [(4, .int (nI 0)), (2, .long (jL 0)), (0, .ref m), (1, .int (nI 9))]) dX10_flowsSum_3 (by decide) rfl ?_
  exact zG.sub [0, 1, 2, 3] rfl (loop (nA N 1).toNat 0 (by omega))
theorem c_flowsSum10 (r : MoN h m N) (hI : iN [] N) : zM l w mX10_flowsSum [.ref m, .int (nI 10)] h (fun u h1 => u = some (.long (jL (sumN N 10 (nF N)))) ∧ h1 = h) := by
  refine zM.of (by decide) (Nat.le_of_ble_eq_true rfl) ?_
  have H1 := hI.H.2.1
  have loop : ∀ n i : Nat, ((i + n : Nat) : Int) = nA N 1 → zG l w mX10_flowsSum 5 [(4, .int (nI i)), (2, .long (jL (sumN N 10 i))), (0, .ref m), (1, .int (nI 10))] [] h (fun u h1 => u = some (.long (jL (sumN N 10 (nF N)))) ∧ h1 = h) := by
    intro n
    induction n with
    | zero =>
      intro i hi
      refine g_iload 0 dX10_flowsSum_5 rfl ?_
      refine g_i2l dX10_flowsSum_7 ?_
      rw [nI_l (by omega), ← jL_nat]
      refine g_aload_n 2 dX10_flowsSum_8 rfl rfl ?_
      refine g_iconst (v := nI 1) dX10_flowsSum_9 (by decide) ?_
      refine g_invv (M' := mX10_of) (As := [.int (nI 1)]) (rest := [.long (jL ((i : Nat) : Int))]) dX10_flowsSum_10 ml_X10_48 okX10_of imX10_of seX10_of ⟨(Nat.le_of_ble_eq_true rfl), (Nat.le_of_ble_eq_true rfl)⟩ (ci := 10) rfl rfl r.1.1 rfl rfl (Nat.le_of_ble_eq_true rfl) (c_ofN r (by omega) (by unfold nSp; omega)) ?_
      rintro _ q1 ⟨rfl, eq1⟩
      subst q1
      show zG l w mX10_flowsSum 13 [(4, .int (nI i)), (2, .long (jL (sumN N 10 i))), (0, .ref m), (1, .int (nI 10))] [.long (jL (nA N 1)), .long (jL ((i : Nat) : Int))] h _
      refine g_lif_ge (a := ((i : Nat) : Int)) (b := (nA N 1)) (tgt := 33) dX10_flowsSum_13 rfl dX10_flowsSum_14 (by decide) (by omega) (by omega) (fun c => ?_) (fun c => ?_)
      · refine g_lload_n 1 dX10_flowsSum_33 rfl rfl ?_
        refine g_lreturn dX10_flowsSum_34 rfl ?_
        exact ⟨by rw [show nF N = i by unfold nF; omega], rfl⟩
      · exact absurd c (by omega)
    | succ n ih =>
      intro i hi
      refine g_iload 0 dX10_flowsSum_5 rfl ?_
      refine g_i2l dX10_flowsSum_7 ?_
      rw [nI_l (by omega), ← jL_nat]
      refine g_aload_n 2 dX10_flowsSum_8 rfl rfl ?_
      refine g_iconst (v := nI 1) dX10_flowsSum_9 (by decide) ?_
      refine g_invv (M' := mX10_of) (As := [.int (nI 1)]) (rest := [.long (jL ((i : Nat) : Int))]) dX10_flowsSum_10 ml_X10_48 okX10_of imX10_of seX10_of ⟨(Nat.le_of_ble_eq_true rfl), (Nat.le_of_ble_eq_true rfl)⟩ (ci := 10) rfl rfl r.1.1 rfl rfl (Nat.le_of_ble_eq_true rfl) (c_ofN r (by omega) (by unfold nSp; omega)) ?_
      rintro _ q2 ⟨rfl, eq2⟩
      subst q2
      show zG l w mX10_flowsSum 13 [(4, .int (nI i)), (2, .long (jL (sumN N 10 i))), (0, .ref m), (1, .int (nI 10))] [.long (jL (nA N 1)), .long (jL ((i : Nat) : Int))] h _
      refine g_lif_ge (a := ((i : Nat) : Int)) (b := (nA N 1)) (tgt := 33) dX10_flowsSum_13 rfl dX10_flowsSum_14 (by decide) (by omega) (by omega) (fun c => ?_) (fun c => ?_)
      · exact absurd c (by omega)
      · have i6 : i < 6 := by omega
        refine g_lload_n 1 dX10_flowsSum_17 rfl rfl ?_
        refine g_aload_n 2 dX10_flowsSum_18 rfl rfl ?_
        refine g_iload 0 dX10_flowsSum_19 rfl ?_
        refine g_iload_n 3 dX10_flowsSum_21 rfl rfl ?_
        refine g_invv (M' := mX10_ofFlow) (As := [.int (nI i), .int (nI 10)]) (rest := [.long (jL (sumN N 10 i))]) dX10_flowsSum_22 ml_X10_62 okX10_ofFlow imX10_ofFlow seX10_ofFlow ⟨(Nat.le_of_ble_eq_true rfl), (Nat.le_of_ble_eq_true rfl)⟩ (ci := 10) rfl rfl r.1.1 rfl rfl (Nat.le_of_ble_eq_true rfl) (c_ofFlowN r (by omega)) ?_
        rintro _ q3 ⟨rfl, eq3⟩
        subst q3
        show zG l w mX10_flowsSum 25 [(4, .int (nI i)), (2, .long (jL (sumN N 10 i))), (0, .ref m), (1, .int (nI 10))] [.long (jL (nA N (248 + 20 * i + 10))), .long (jL (sumN N 10 i))] h _
        refine g_ladd dX10_flowsSum_25 ?_
        rw [jL_add]
        refine g_lstore_n (lv2 := [(2, .long (jL ((sumN N 10 i) + (nA N (248 + 20 * i + 10))))), (4, .int (nI i)), (0, .ref m), (1, .int (nI 10))]) dX10_flowsSum_26 rfl (by decide) rfl ?_
        refine g_inc (v := nI (i + 1)) (lv2 := [(4, .int (nI (i + 1))), (2, .long (jL ((sumN N 10 i) + (nA N (248 + 20 * i + 10))))), (0, .ref m), (1, .int (nI 10))]) 1 dX10_flowsSum_27 rfl (nI_add _ 1) (by decide) rfl ?_
        refine g_goto (tgt := 5) dX10_flowsSum_30 (by decide) ?_
        exact zG.sub [0, 1, 2, 3] rfl (ih (i + 1) (by omega))
  refine g_lconst (v := jL 0) dX10_flowsSum_0 (by decide) ?_
  refine g_lstore_n (lv2 := [(2, .long (jL 0)), (0, .ref m), (1, .int (nI 10))]) dX10_flowsSum_1 rfl (by decide) rfl ?_
  refine g_iconst (v := nI 0) dX10_flowsSum_2 (by decide) ?_
  refine g_istore (lv2 := [(4, .int (nI 0)), (2, .long (jL 0)), (0, .ref m), (1, .int (nI 10))]) dX10_flowsSum_3 (by decide) rfl ?_
  exact zG.sub [0, 1, 2, 3] rfl (loop (nA N 1).toNat 0 (by omega))
theorem c_longestM (r : MoN h m N) (hI : iN [] N) : zM l w mX10_longestRow [.ref m] h (fun u h1 => u = some (.long (jL (lonN N (nA N 0).toNat))) ∧ h1 = h) := by
  refine zM.of (by decide) (Nat.le_of_ble_eq_true rfl) ?_
  have H0 := hI.H.1
  have loop : ∀ n i : Nat, ((i + n : Nat) : Int) = nA N 0 → zG l w mX10_longestRow 4 [(3, .int (nI i)), (1, .long (jL (lonN N i))), (0, .ref m)] [] h (fun u h1 => u = some (.long (jL (lonN N (nA N 0).toNat))) ∧ h1 = h) := by
    intro n
    induction n with
    | zero =>
      intro i hi
      refine g_iload_n 0 dX10_longestRow_4 rfl rfl ?_
      refine g_i2l dX10_longestRow_5 ?_
      rw [nI_l (by omega), ← jL_nat]
      refine g_aload_n 2 dX10_longestRow_6 rfl rfl ?_
      refine g_iconst (v := nI 0) dX10_longestRow_7 (by decide) ?_
      refine g_invv (M' := mX10_of) (As := [.int (nI 0)]) (rest := [.long (jL ((i : Nat) : Int))]) dX10_longestRow_8 ml_X10_48 okX10_of imX10_of seX10_of ⟨(Nat.le_of_ble_eq_true rfl), (Nat.le_of_ble_eq_true rfl)⟩ (ci := 10) rfl rfl r.1.1 rfl rfl (Nat.le_of_ble_eq_true rfl) (c_ofN r (by omega) (by unfold nSp; omega)) ?_
      rintro _ q1 ⟨rfl, eq1⟩
      subst q1
      show zG l w mX10_longestRow 11 [(3, .int (nI i)), (1, .long (jL (lonN N i))), (0, .ref m)] [.long (jL (nA N 0)), .long (jL ((i : Nat) : Int))] h _
      refine g_lif_ge (a := ((i : Nat) : Int)) (b := (nA N 0)) (tgt := 32) dX10_longestRow_11 rfl dX10_longestRow_12 (by decide) (by omega) (by omega) (fun c => ?_) (fun c => ?_)
      · refine g_lload_n 1 dX10_longestRow_32 rfl rfl ?_
        refine g_lreturn dX10_longestRow_33 rfl ?_
        exact ⟨by rw [← show i = (nA N 0).toNat by omega], rfl⟩
      · exact absurd c (by omega)
    | succ n ih =>
      intro i hi
      refine g_iload_n 0 dX10_longestRow_4 rfl rfl ?_
      refine g_i2l dX10_longestRow_5 ?_
      rw [nI_l (by omega), ← jL_nat]
      refine g_aload_n 2 dX10_longestRow_6 rfl rfl ?_
      refine g_iconst (v := nI 0) dX10_longestRow_7 (by decide) ?_
      refine g_invv (M' := mX10_of) (As := [.int (nI 0)]) (rest := [.long (jL ((i : Nat) : Int))]) dX10_longestRow_8 ml_X10_48 okX10_of imX10_of seX10_of ⟨(Nat.le_of_ble_eq_true rfl), (Nat.le_of_ble_eq_true rfl)⟩ (ci := 10) rfl rfl r.1.1 rfl rfl (Nat.le_of_ble_eq_true rfl) (c_ofN r (by omega) (by unfold nSp; omega)) ?_
      rintro _ q2 ⟨rfl, eq2⟩
      subst q2
      show zG l w mX10_longestRow 11 [(3, .int (nI i)), (1, .long (jL (lonN N i))), (0, .ref m)] [.long (jL (nA N 0)), .long (jL ((i : Nat) : Int))] h _
      refine g_lif_ge (a := ((i : Nat) : Int)) (b := (nA N 0)) (tgt := 32) dX10_longestRow_11 rfl dX10_longestRow_12 (by decide) (by omega) (by omega) (fun c => ?_) (fun c => ?_)
      · exact absurd c (by omega)
      · have i6 : i < 6 := by omega
        have lb := lon_bd hI i (by omega)
        have rb := (hI.L i (by omega)).2.1.1
        refine g_lload_n 1 dX10_longestRow_15 rfl rfl ?_
        refine g_aload_n 2 dX10_longestRow_16 rfl rfl ?_
        refine g_iload_n 0 dX10_longestRow_17 rfl rfl ?_
        refine g_iconst (v := nI 4) dX10_longestRow_18 (by decide) ?_
        refine g_invv (M' := mX10_ofLink) (As := [.int (nI i), .int (nI 4)]) (rest := [.long (jL (lonN N i))]) dX10_longestRow_19 ml_X10_69 okX10_ofLink imX10_ofLink seX10_ofLink ⟨(Nat.le_of_ble_eq_true rfl), (Nat.le_of_ble_eq_true rfl)⟩ (ci := 10) rfl rfl r.1.1 rfl rfl (Nat.le_of_ble_eq_true rfl) (c_ofStood r (by omega)) ?_
        rintro _ q3 ⟨rfl, eq3⟩
        subst q3
        show zG l w mX10_longestRow 22 [(3, .int (nI i)), (1, .long (jL (lonN N i))), (0, .ref m)] [.long (lN (nR N i).length), .long (jL (lonN N i))] h _
        rw [← jL_nat]
        refine g_invs (M' := mJ9_max_f86c9) (As := [.long (jL (lonN N i)), .long (jL (((nR N i).length : Nat) : Int))]) (rest := []) dX10_longestRow_22 ml_X10_87 okJ9_max_f86c9 stJ9_max_f86c9 ⟨(Nat.le_of_ble_eq_true rfl), (Nat.le_of_ble_eq_true rfl)⟩ rfl rfl (Nat.le_of_ble_eq_true rfl) (c_maxL (by omega) (by omega)) ?_
        rintro _ q4 ⟨rfl, eq4⟩
        subst q4
        show zG l w mX10_longestRow 25 [(3, .int (nI i)), (1, .long (jL (lonN N i))), (0, .ref m)] [.long (jL (max (lonN N i) ((nR N i).length : Int)))] h _
        refine g_lstore_n (lv2 := [(1, .long (jL (max (lonN N i) ((nR N i).length : Int)))), (3, .int (nI i)), (0, .ref m)]) dX10_longestRow_25 rfl (by decide) rfl ?_
        refine g_inc (v := nI (i + 1)) (lv2 := [(3, .int (nI (i + 1))), (1, .long (jL (max (lonN N i) ((nR N i).length : Int)))), (0, .ref m)]) 1 dX10_longestRow_26 rfl (nI_add _ 1) (by decide) rfl ?_
        refine g_goto (tgt := 4) dX10_longestRow_29 (by decide) ?_
        exact zG.sub [0, 1, 2] rfl (ih (i + 1) (by omega))
  refine g_lconst (v := jL 0) dX10_longestRow_0 (by decide) ?_
  refine g_lstore_n (lv2 := [(1, .long (jL 0)), (0, .ref m)]) dX10_longestRow_1 rfl (by decide) rfl ?_
  refine g_iconst (v := nI 0) dX10_longestRow_2 (by decide) ?_
  refine g_istore_n (lv2 := [(3, .int (nI 0)), (1, .long (jL 0)), (0, .ref m)]) dX10_longestRow_3 rfl (by decide) rfl ?_
  exact zG.sub [0, 1, 2] rfl (loop (nA N 0).toNat 0 (by omega))
theorem c_doneInAll (c : CX h b π ls N X t) (hI : iN [] N) : zM l w mX5_doneInAll [.ref b] h (fun u h1 => u = some (.int (jI (sumN N 9 (nF N)))) ∧ h1 = h) := by
  refine zM.of (by decide) (Nat.le_of_ble_eq_true rfl) ?_
  have H1 := hI.H.2.1
  have loop : ∀ n i : Nat, ((i + n : Nat) : Int) = nA N 1 → zG l w mX5_doneInAll 4 [(2, .int (nI i)), (1, .int (jI (sumN N 9 i))), (0, .ref b)] [] h (fun u h1 => u = some (.int (jI (sumN N 9 (nF N)))) ∧ h1 = h) := by
    intro n
    induction n with
    | zero =>
      intro i hi
      refine g_iload_n 0 dX5_doneInAll_4 rfl rfl ?_
      refine g_aload_n 2 dX5_doneInAll_5 rfl rfl ?_
      refine g_geti (f := 163) dX5_doneInAll_6 fl_X5_53 c.1.1.2 (by decide) rfl ?_
      rw [show zi h 163 b = jI (nA N 1) from c.2.2.1.2.1]
      refine g_zcmp_ge (a := ((i : Nat) : Int)) (b := (nA N 1)) (tgt := 30) (jI_nat i).symm rfl dX5_doneInAll_9 (by decide) (by omega) (by omega) (fun g => ?_) (fun g => ?_)
      · refine g_iload_n 1 dX5_doneInAll_30 rfl rfl ?_
        refine g_ireturn dX5_doneInAll_31 rfl ?_
        exact ⟨by rw [show nF N = i by unfold nF; omega], rfl⟩
      · exact absurd g (by omega)
    | succ n ih =>
      intro i hi
      refine g_iload_n 0 dX5_doneInAll_4 rfl rfl ?_
      refine g_aload_n 2 dX5_doneInAll_5 rfl rfl ?_
      refine g_geti (f := 163) dX5_doneInAll_6 fl_X5_53 c.1.1.2 (by decide) rfl ?_
      rw [show zi h 163 b = jI (nA N 1) from c.2.2.1.2.1]
      refine g_zcmp_ge (a := ((i : Nat) : Int)) (b := (nA N 1)) (tgt := 30) (jI_nat i).symm rfl dX5_doneInAll_9 (by decide) (by omega) (by omega) (fun g => ?_) (fun g => ?_)
      · exact absurd g (by omega)
      · have ha : (i : Int) < nA N 1 := by omega
        have i6 : i < 6 := by omega
        refine g_iload_n 1 dX5_doneInAll_12 rfl rfl ?_
        refine g_aload_n 2 dX5_doneInAll_13 rfl rfl ?_
        refine g_getr (f := 162) (b := b + 2) dX5_doneInAll_14 fl_X5_19 c.1.1.2 rfl c.1.2.2.1.1 ?_
        refine g_iload_n 0 dX5_doneInAll_17 rfl rfl ?_
        refine g_aald (t := 4) (b := b + 53 + 2 * i) dX5_doneInAll_18 c.1.2.2.1.2.1 rfl (fun _ => rfl) (by decide) (by rw [show zn h (b + 2) = 6 from c.1.2.2.1.2.2]; exact vp_in_nI (by omega) (by omega)) (by rw [nI_clamp (by omega)]; exact (c.1.2.2.2.2.2.2.2.2.2 i i6).1) ?_
        refine g_geti (f := 74) dX5_doneInAll_19 fl_X5_258 (c.1.2.2.2.2.2.2.2.2.2 i i6).2.1 (by decide) rfl ?_
        rw [show zi h 74 (b + 53 + 2 * i) = jI (nA N (248 + 20 * i + 9)) from (c.2.2.2.2.1 i ha i6).1 9 (by omega) (by omega)]
        refine g_iadd dX5_doneInAll_22 ?_
        refine zG.top (show (jI (sumN N 9 i)) + (jI (nA N (248 + 20 * i + 9))) = jI ((sumN N 9 i) + (nA N (248 + 20 * i + 9))) by rw [jI_add]) ?_
        refine g_istore_n (lv2 := [(1, .int (jI ((sumN N 9 i) + (nA N (248 + 20 * i + 9))))), (2, .int (nI i)), (0, .ref b)]) dX5_doneInAll_23 rfl (by decide) rfl ?_
        refine g_inc (v := nI (i + 1)) (lv2 := [(2, .int (nI (i + 1))), (1, .int (jI ((sumN N 9 i) + (nA N (248 + 20 * i + 9))))), (0, .ref b)]) 1 dX5_doneInAll_24 rfl (nI_add _ 1) (by decide) rfl ?_
        refine g_goto (tgt := 4) dX5_doneInAll_27 (by decide) ?_
        exact zG.sub [0, 1, 2] rfl (ih (i + 1) (by omega))
  refine g_iconst (v := nI 0) dX5_doneInAll_0 (by decide) ?_
  refine g_istore_n (lv2 := [(1, .int (nI 0)), (0, .ref b)]) dX5_doneInAll_1 rfl (by decide) rfl ?_
  refine g_iconst (v := nI 0) dX5_doneInAll_2 (by decide) ?_
  refine g_istore_n (lv2 := [(2, .int (nI 0)), (1, .int (nI 0)), (0, .ref b)]) dX5_doneInAll_3 rfl (by decide) rfl ?_
  exact zG.sub [0, 1, 2] rfl (loop (nA N 1).toNat 0 (by omega))
theorem c_lostInAll (c : CX h b π ls N X t) (hI : iN [] N) : zM l w mX5_lostInAll [.ref b] h (fun u h1 => u = some (.int (jI (sumN N 10 (nF N)))) ∧ h1 = h) := by
  refine zM.of (by decide) (Nat.le_of_ble_eq_true rfl) ?_
  have H1 := hI.H.2.1
  have loop : ∀ n i : Nat, ((i + n : Nat) : Int) = nA N 1 → zG l w mX5_lostInAll 4 [(2, .int (nI i)), (1, .int (jI (sumN N 10 i))), (0, .ref b)] [] h (fun u h1 => u = some (.int (jI (sumN N 10 (nF N)))) ∧ h1 = h) := by
    intro n
    induction n with
    | zero =>
      intro i hi
      refine g_iload_n 0 dX5_lostInAll_4 rfl rfl ?_
      refine g_aload_n 2 dX5_lostInAll_5 rfl rfl ?_
      refine g_geti (f := 163) dX5_lostInAll_6 fl_X5_53 c.1.1.2 (by decide) rfl ?_
      rw [show zi h 163 b = jI (nA N 1) from c.2.2.1.2.1]
      refine g_zcmp_ge (a := ((i : Nat) : Int)) (b := (nA N 1)) (tgt := 30) (jI_nat i).symm rfl dX5_lostInAll_9 (by decide) (by omega) (by omega) (fun g => ?_) (fun g => ?_)
      · refine g_iload_n 1 dX5_lostInAll_30 rfl rfl ?_
        refine g_ireturn dX5_lostInAll_31 rfl ?_
        exact ⟨by rw [show nF N = i by unfold nF; omega], rfl⟩
      · exact absurd g (by omega)
    | succ n ih =>
      intro i hi
      refine g_iload_n 0 dX5_lostInAll_4 rfl rfl ?_
      refine g_aload_n 2 dX5_lostInAll_5 rfl rfl ?_
      refine g_geti (f := 163) dX5_lostInAll_6 fl_X5_53 c.1.1.2 (by decide) rfl ?_
      rw [show zi h 163 b = jI (nA N 1) from c.2.2.1.2.1]
      refine g_zcmp_ge (a := ((i : Nat) : Int)) (b := (nA N 1)) (tgt := 30) (jI_nat i).symm rfl dX5_lostInAll_9 (by decide) (by omega) (by omega) (fun g => ?_) (fun g => ?_)
      · exact absurd g (by omega)
      · have ha : (i : Int) < nA N 1 := by omega
        have i6 : i < 6 := by omega
        refine g_iload_n 1 dX5_lostInAll_12 rfl rfl ?_
        refine g_aload_n 2 dX5_lostInAll_13 rfl rfl ?_
        refine g_getr (f := 162) (b := b + 2) dX5_lostInAll_14 fl_X5_19 c.1.1.2 rfl c.1.2.2.1.1 ?_
        refine g_iload_n 0 dX5_lostInAll_17 rfl rfl ?_
        refine g_aald (t := 4) (b := b + 53 + 2 * i) dX5_lostInAll_18 c.1.2.2.1.2.1 rfl (fun _ => rfl) (by decide) (by rw [show zn h (b + 2) = 6 from c.1.2.2.1.2.2]; exact vp_in_nI (by omega) (by omega)) (by rw [nI_clamp (by omega)]; exact (c.1.2.2.2.2.2.2.2.2.2 i i6).1) ?_
        refine g_geti (f := 75) dX5_lostInAll_19 fl_X5_261 (c.1.2.2.2.2.2.2.2.2.2 i i6).2.1 (by decide) rfl ?_
        rw [show zi h 75 (b + 53 + 2 * i) = jI (nA N (248 + 20 * i + 10)) from (c.2.2.2.2.1 i ha i6).1 10 (by omega) (by omega)]
        refine g_iadd dX5_lostInAll_22 ?_
        refine zG.top (show (jI (sumN N 10 i)) + (jI (nA N (248 + 20 * i + 10))) = jI ((sumN N 10 i) + (nA N (248 + 20 * i + 10))) by rw [jI_add]) ?_
        refine g_istore_n (lv2 := [(1, .int (jI ((sumN N 10 i) + (nA N (248 + 20 * i + 10))))), (2, .int (nI i)), (0, .ref b)]) dX5_lostInAll_23 rfl (by decide) rfl ?_
        refine g_inc (v := nI (i + 1)) (lv2 := [(2, .int (nI (i + 1))), (1, .int (jI ((sumN N 10 i) + (nA N (248 + 20 * i + 10))))), (0, .ref b)]) 1 dX5_lostInAll_24 rfl (nI_add _ 1) (by decide) rfl ?_
        refine g_goto (tgt := 4) dX5_lostInAll_27 (by decide) ?_
        exact zG.sub [0, 1, 2] rfl (ih (i + 1) (by omega))
  refine g_iconst (v := nI 0) dX5_lostInAll_0 (by decide) ?_
  refine g_istore_n (lv2 := [(1, .int (nI 0)), (0, .ref b)]) dX5_lostInAll_1 rfl (by decide) rfl ?_
  refine g_iconst (v := nI 0) dX5_lostInAll_2 (by decide) ?_
  refine g_istore_n (lv2 := [(2, .int (nI 0)), (1, .int (nI 0)), (0, .ref b)]) dX5_lostInAll_3 rfl (by decide) rfl ?_
  exact zG.sub [0, 1, 2] rfl (loop (nA N 1).toNat 0 (by omega))
theorem c_longestC (c : CX h b π ls N X t) (hI : iN [] N) : zM l w mX5_longestRow [.ref b] h (fun u h1 => u = some (.int (jI (lonN N (nA N 0).toNat))) ∧ h1 = h) := by
  refine zM.of (by decide) (Nat.le_of_ble_eq_true rfl) ?_
  have H0 := hI.H.1
  have loop : ∀ n i : Nat, ((i + n : Nat) : Int) = nA N 0 → zG l w mX5_longestRow 4 [(2, .int (nI i)), (1, .int (jI (lonN N i))), (0, .ref b)] [] h (fun u h1 => u = some (.int (jI (lonN N (nA N 0).toNat))) ∧ h1 = h) := by
    intro n
    induction n with
    | zero =>
      intro i hi
      refine g_iload_n 0 dX5_longestRow_4 rfl rfl ?_
      refine g_aload_n 2 dX5_longestRow_5 rfl rfl ?_
      refine g_geti (f := 161) dX5_longestRow_6 fl_X5_49 c.1.1.2 (by decide) rfl ?_
      rw [show zi h 161 b = jI (nA N 0) from c.2.2.1.1]
      refine g_zcmp_ge (a := ((i : Nat) : Int)) (b := (nA N 0)) (tgt := 35) (jI_nat i).symm rfl dX5_longestRow_9 (by decide) (by omega) (by omega) (fun g => ?_) (fun g => ?_)
      · refine g_iload_n 1 dX5_longestRow_35 rfl rfl ?_
        refine g_ireturn dX5_longestRow_36 rfl ?_
        exact ⟨by rw [← show i = (nA N 0).toNat by omega], rfl⟩
      · exact absurd g (by omega)
    | succ n ih =>
      intro i hi
      refine g_iload_n 0 dX5_longestRow_4 rfl rfl ?_
      refine g_aload_n 2 dX5_longestRow_5 rfl rfl ?_
      refine g_geti (f := 161) dX5_longestRow_6 fl_X5_49 c.1.1.2 (by decide) rfl ?_
      rw [show zi h 161 b = jI (nA N 0) from c.2.2.1.1]
      refine g_zcmp_ge (a := ((i : Nat) : Int)) (b := (nA N 0)) (tgt := 35) (jI_nat i).symm rfl dX5_longestRow_9 (by decide) (by omega) (by omega) (fun g => ?_) (fun g => ?_)
      · exact absurd g (by omega)
      · have ha : (i : Int) < nA N 0 := by omega
        have i6 : i < 6 := by omega
        have lb := lon_bd hI i (by omega)
        have rb := (hI.L i (by omega)).2.1.1
        refine g_iload_n 1 dX5_longestRow_12 rfl rfl ?_
        refine g_aload_n 2 dX5_longestRow_13 rfl rfl ?_
        refine g_getr (f := 160) (b := b + 1) dX5_longestRow_14 fl_X5_11 c.1.1.2 rfl c.1.2.1.1 ?_
        refine g_iload_n 0 dX5_longestRow_17 rfl rfl ?_
        refine g_aald (t := 5) (b := b + 11 + 7 * i) dX5_longestRow_18 c.1.2.1.2.1 rfl (fun _ => rfl) (by decide) (by rw [show zn h (b + 1) = 6 from c.1.2.1.2.2]; exact vp_in_nI (by omega) (by omega)) (by rw [nI_clamp (by omega)]; exact (c.1.2.2.2.2.2.2.2.2.1 i i6).1) ?_
        refine g_getr (f := 132) (b := b + 11 + 7 * i + 1) dX5_longestRow_19 fl_X5_73 (c.1.2.2.2.2.2.2.2.2.1 i i6).2.1 rfl (c.1.2.2.2.2.2.2.2.2.1 i i6).2.2.1.1 ?_
        refine g_geti (f := 98) dX5_longestRow_22 fl_X5_163 (c.1.2.2.2.2.2.2.2.2.1 i i6).2.2.1.2 (by decide) rfl ?_
        rw [show zi h 98 (b + 11 + 7 * i + 1) = nI (ls (b + 11 + 7 * i + 1)).length from (c.2.1.1 _ (c.1.iR i6)).2.2.1]
        rw [show nI (ls (b + 11 + 7 * i + 1)).length = jI ((nR N i).length : Int) by rw [(c.2.2.2.2.2.1.2.2.2.1 i i6).1, List.length_map, jI_nat]]
        refine g_invs (M' := mJ9_max_7cf53) (As := [.int (jI (lonN N i)), .int (jI ((nR N i).length : Int))]) (rest := []) dX5_longestRow_25 ml_X5_255 okJ9_max_7cf53 stJ9_max_7cf53 ⟨(Nat.le_of_ble_eq_true rfl), (Nat.le_of_ble_eq_true rfl)⟩ rfl rfl (Nat.le_of_ble_eq_true rfl) (c_maxI (by omega) (by omega)) ?_
        rintro _ q1 ⟨rfl, eq1⟩
        subst q1
        show zG l w mX5_longestRow 28 [(2, .int (nI i)), (1, .int (jI (lonN N i))), (0, .ref b)] [.int (jI (max (lonN N i) ((nR N i).length : Int)))] h _
        refine g_istore_n (lv2 := [(1, .int (jI (max (lonN N i) ((nR N i).length : Int)))), (2, .int (nI i)), (0, .ref b)]) dX5_longestRow_28 rfl (by decide) rfl ?_
        refine g_inc (v := nI (i + 1)) (lv2 := [(2, .int (nI (i + 1))), (1, .int (jI (max (lonN N i) ((nR N i).length : Int)))), (0, .ref b)]) 1 dX5_longestRow_29 rfl (nI_add _ 1) (by decide) rfl ?_
        refine g_goto (tgt := 4) dX5_longestRow_32 (by decide) ?_
        exact zG.sub [0, 1, 2] rfl (ih (i + 1) (by omega))
  refine g_iconst (v := nI 0) dX5_longestRow_0 (by decide) ?_
  refine g_istore_n (lv2 := [(1, .int (nI 0)), (0, .ref b)]) dX5_longestRow_1 rfl (by decide) rfl ?_
  refine g_iconst (v := nI 0) dX5_longestRow_2 (by decide) ?_
  refine g_istore_n (lv2 := [(2, .int (nI 0)), (1, .int (nI 0)), (0, .ref b)]) dX5_longestRow_3 rfl (by decide) rfl ?_
  exact zG.sub [0, 1, 2] rfl (loop (nA N 0).toNat 0 (by omega))
theorem c_reachM0 (r : MoN h m N) (hI : iN [] N) {f : Nat} (hf : (f : Int) < nA N 1) : zM l w mX10_isReached [.ref m, .int (nI 0), .int (nI f)] h (fun u h1 => u = some (.int (bI (rchB N 0 (f : Int)))) ∧ h1 = h) := by
  refine zM.of (by decide) (Nat.le_of_ble_eq_true rfl) ?_
  have H1 := hI.H.2.1
  have f6 : f < 6 := by omega
  have hB := hI.B
  have b1 := hB (248 + 20 * f + 1) (by omega)
  have b6 := hB (248 + 20 * f + 6) (by omega)
  have e0 : rchB N 0 (f : Int) = (decide (nA N (248 + 20 * f + 1) = 0) && decide (nA N (248 + 20 * f + 6) = 0)) := by unfold rchB; rw [if_pos rfl, Int.toNat_natCast]
  rw [e0]
  refine g_iload_n 1 dX10_isReached_0 rfl rfl ?_
  refine g_zif_ne (a := 0) (tgt := 35) (by decide) dX10_isReached_1 (by decide) (by omega) (fun s => ?_) (fun s => ?_)
  · exact absurd s (by omega)
  · refine g_aload_n 0 dX10_isReached_4 rfl rfl ?_
    refine g_iload_n 2 dX10_isReached_5 rfl rfl ?_
    refine g_iconst (v := nI 1) dX10_isReached_6 (by decide) ?_
    refine g_invv (M' := mX10_ofFlow) (As := [.int (nI f), .int (nI 1)]) (rest := []) dX10_isReached_7 ml_X10_62 okX10_ofFlow imX10_ofFlow seX10_ofFlow ⟨(Nat.le_of_ble_eq_true rfl), (Nat.le_of_ble_eq_true rfl)⟩ (ci := 10) rfl rfl r.1.1 rfl rfl (Nat.le_of_ble_eq_true rfl) (c_ofFlowN r (by omega)) ?_
    rintro _ q1 ⟨rfl, eq1⟩
    subst q1
    show zG l w mX10_isReached 10 [(0, .ref m), (1, .int (nI 0)), (2, .int (nI f))] [.long (jL (nA N (248 + 20 * f + 1)))] h _
    refine g_lconst (v := jL 0) dX10_isReached_10 (by decide) ?_
    refine g_lif_ne (a := (nA N (248 + 20 * f + 1))) (b := 0) (tgt := 31) dX10_isReached_11 rfl dX10_isReached_12 (by decide) (by omega) (by omega) (fun c => ?_) (fun c => ?_)
    · refine g_iconst (v := nI 0) dX10_isReached_31 (by decide) ?_
      refine g_goto (tgt := 71) dX10_isReached_32 (by decide) ?_
      refine g_zreturn dX10_isReached_71 rfl (by first | rfl | assumption) ?_
      exact ⟨by rw [decide_eq_false c, Bool.false_and]; rfl, rfl⟩
    · refine g_aload_n 0 dX10_isReached_15 rfl rfl ?_
      refine g_iload_n 2 dX10_isReached_16 rfl rfl ?_
      refine g_bipush (v := nI 6) dX10_isReached_17 (by decide) ?_
      refine g_invv (M' := mX10_ofFlow) (As := [.int (nI f), .int (nI 6)]) (rest := []) dX10_isReached_19 ml_X10_62 okX10_ofFlow imX10_ofFlow seX10_ofFlow ⟨(Nat.le_of_ble_eq_true rfl), (Nat.le_of_ble_eq_true rfl)⟩ (ci := 10) rfl rfl r.1.1 rfl rfl (Nat.le_of_ble_eq_true rfl) (c_ofFlowN r (by omega)) ?_
      rintro _ q2 ⟨rfl, eq2⟩
      subst q2
      show zG l w mX10_isReached 22 [(0, .ref m), (1, .int (nI 0)), (2, .int (nI f))] [.long (jL (nA N (248 + 20 * f + 6)))] h _
      refine g_lconst (v := jL 0) dX10_isReached_22 (by decide) ?_
      refine g_lif_ne (a := (nA N (248 + 20 * f + 6))) (b := 0) (tgt := 31) dX10_isReached_23 rfl dX10_isReached_24 (by decide) (by omega) (by omega) (fun d => ?_) (fun d => ?_)
      · refine g_iconst (v := nI 0) dX10_isReached_31 (by decide) ?_
        refine g_goto (tgt := 71) dX10_isReached_32 (by decide) ?_
        refine g_zreturn dX10_isReached_71 rfl (by first | rfl | assumption) ?_
        exact ⟨by rw [decide_eq_false d, Bool.and_false]; rfl, rfl⟩
      · refine g_iconst (v := nI 1) dX10_isReached_27 (by decide) ?_
        refine g_goto (tgt := 71) dX10_isReached_28 (by decide) ?_
        refine g_zreturn dX10_isReached_71 rfl (by first | rfl | assumption) ?_
        exact ⟨by rw [decide_eq_true (p := nA N (248 + 20 * f + 1) = 0) (by omega), decide_eq_true (p := nA N (248 + 20 * f + 6) = 0) (by omega)]; rfl, rfl⟩
theorem c_reachM1 (r : MoN h m N) (hI : iN [] N) {z : Int} (zb : -2147483648 ≤ z ∧ z < 2147483648) : zM l w mX10_isReached [.ref m, .int (nI 1), .int (jI z)] h (fun u h1 => u = some (.int (bI (rchB N 1 z))) ∧ h1 = h) := by
  refine zM.of (by decide) (Nat.le_of_ble_eq_true rfl) ?_
  have gb := gapN_bd hI
  have e0 : rchB N 1 z = decide (gapN N ≤ z) := by unfold rchB; rw [if_neg (by omega), if_pos rfl]
  rw [e0]
  refine g_iload_n 1 dX10_isReached_0 rfl rfl ?_
  refine g_zif_ne (a := 1) (tgt := 35) (by decide) dX10_isReached_1 (by decide) (by omega) (fun s => ?_) (fun s => ?_)
  · refine g_iload_n 1 dX10_isReached_35 rfl rfl ?_
    refine g_iconst (v := nI 1) dX10_isReached_36 (by decide) ?_
    refine g_zcmp_ne (a := 1) (b := 1) (tgt := 58) (by decide) (by decide) dX10_isReached_37 (by decide) (by omega) (by omega) (fun s => ?_) (fun s => ?_)
    · exact absurd s (by omega)
    · refine g_aload_n 0 dX10_isReached_40 rfl rfl ?_
      refine g_invv (M' := mX10_gap) (As := []) (rest := []) dX10_isReached_41 ml_X10_311 okX10_gap imX10_gap seX10_gap ⟨(Nat.le_of_ble_eq_true rfl), (Nat.le_of_ble_eq_true rfl)⟩ (ci := 10) rfl rfl r.1.1 rfl rfl (Nat.le_of_ble_eq_true rfl) (c_gap r hI) ?_
      rintro _ q1 ⟨rfl, eq1⟩
      subst q1
      show zG l w mX10_isReached 44 [(0, .ref m), (1, .int (nI 1)), (2, .int (jI z))] [.long (jL (gapN N))] h _
      refine g_iload_n 2 dX10_isReached_44 rfl rfl ?_
      refine g_i2l dX10_isReached_45 ?_
      rw [jI_l (by omega) (by omega)]
      refine g_lif_gt (a := (gapN N)) (b := z) (tgt := 54) dX10_isReached_46 rfl dX10_isReached_47 (by decide) (by omega) (by omega) (fun c => ?_) (fun c => ?_)
      · refine g_iconst (v := nI 0) dX10_isReached_54 (by decide) ?_
        refine g_goto (tgt := 71) dX10_isReached_55 (by decide) ?_
        refine g_zreturn dX10_isReached_71 rfl (by first | rfl | assumption) ?_
        exact ⟨by rw [decide_eq_false (by omega)]; rfl, rfl⟩
      · refine g_iconst (v := nI 1) dX10_isReached_50 (by decide) ?_
        refine g_goto (tgt := 71) dX10_isReached_51 (by decide) ?_
        refine g_zreturn dX10_isReached_71 rfl (by first | rfl | assumption) ?_
        exact ⟨by rw [decide_eq_true (by omega)]; rfl, rfl⟩
  · exact absurd s (by omega)
theorem c_reachM2 (r : MoN h m N) (hI : iN [] N) {f : Nat} (hf : (f : Int) < nA N 1) : zM l w mX10_isReached [.ref m, .int (nI 2), .int (nI f)] h (fun u h1 => u = some (.int (bI (rchB N 2 (f : Int)))) ∧ h1 = h) := by
  refine zM.of (by decide) (Nat.le_of_ble_eq_true rfl) ?_
  have H1 := hI.H.2.1
  have f6 : f < 6 := by omega
  have cb := caN_bd (f := f) hI.H.1
  have e0 : rchB N 2 (f : Int) = decide (¬ caN N f = 0) := by unfold rchB; rw [if_neg (by omega), if_neg (by omega), Int.toNat_natCast]
  rw [e0]
  refine g_iload_n 1 dX10_isReached_0 rfl rfl ?_
  refine g_zif_ne (a := 2) (tgt := 35) (by decide) dX10_isReached_1 (by decide) (by omega) (fun s => ?_) (fun s => ?_)
  · refine g_iload_n 1 dX10_isReached_35 rfl rfl ?_
    refine g_iconst (v := nI 1) dX10_isReached_36 (by decide) ?_
    refine g_zcmp_ne (a := 2) (b := 1) (tgt := 58) (by decide) (by decide) dX10_isReached_37 (by decide) (by omega) (by omega) (fun s => ?_) (fun s => ?_)
    · refine g_aload_n 0 dX10_isReached_58 rfl rfl ?_
      refine g_iload_n 2 dX10_isReached_59 rfl rfl ?_
      refine g_invv (M' := mX10_caughtAt) (As := [.int (nI f)]) (rest := []) dX10_isReached_60 ml_X10_324 okX10_caughtAt imX10_caughtAt seX10_caughtAt ⟨(Nat.le_of_ble_eq_true rfl), (Nat.le_of_ble_eq_true rfl)⟩ (ci := 10) rfl rfl r.1.1 rfl rfl (Nat.le_of_ble_eq_true rfl) (c_caughtAt r hI f6) ?_
      rintro _ q1 ⟨rfl, eq1⟩
      subst q1
      show zG l w mX10_isReached 63 [(0, .ref m), (1, .int (nI 2)), (2, .int (nI f))] [.int (jI (caN N f))] h _
      refine g_zif_eq (a := (caN N f)) (tgt := 70) rfl dX10_isReached_63 (by decide) (by omega) (fun c => ?_) (fun c => ?_)
      · refine g_iconst (v := nI 0) dX10_isReached_70 (by decide) ?_
        refine g_zreturn dX10_isReached_71 rfl (by first | rfl | assumption) ?_
        exact ⟨by rw [decide_eq_false (by omega)]; rfl, rfl⟩
      · refine g_iconst (v := nI 1) dX10_isReached_66 (by decide) ?_
        refine g_goto (tgt := 71) dX10_isReached_67 (by decide) ?_
        refine g_zreturn dX10_isReached_71 rfl (by first | rfl | assumption) ?_
        exact ⟨by rw [decide_eq_true (by omega)]; rfl, rfl⟩
    · exact absurd s (by omega)
  · exact absurd s (by omega)
theorem c_flThrough (c : CX h b π ls N X t) (hI : iN [] N) {f : Nat} (hf : (f : Int) < nA N 1) : zM l w mX2_isThrough [.ref (b + 53 + 2 * f)] h (fun u h1 => u = some (.int (bI (decide (nA N (248 + 20 * f + 1) = 0) && decide (nA N (248 + 20 * f + 6) = 0)))) ∧ h1 = h) := by
  refine zM.of (by decide) (Nat.le_of_ble_eq_true rfl) ?_
  have H1 := hI.H.2.1
  have f6 : f < 6 := by omega
  have b1 := (hI.F f hf).2.2.1
  have b6 := hI.Y f f6
  refine g_aload_n 0 dX2_isThrough_0 rfl rfl ?_
  refine g_geti (f := 66) dX2_isThrough_1 fl_X2_19 (c.1.2.2.2.2.2.2.2.2.2 f f6).2.1 (by decide) rfl ?_
  rw [show zi h 66 (b + 53 + 2 * f) = jI (nA N (248 + 20 * f + 1)) from (c.2.2.2.2.1 f hf f6).1 1 (by omega) (by omega)]
  refine g_zif_ne (a := (nA N (248 + 20 * f + 1))) (tgt := 18) rfl dX2_isThrough_4 (by decide) (by omega) (fun d => ?_) (fun d => ?_)
  · refine g_iconst (v := nI 0) dX2_isThrough_18 (by decide) ?_
    refine g_zreturn dX2_isThrough_19 rfl (by first | rfl | assumption) ?_
    exact ⟨by rw [decide_eq_false d, Bool.false_and]; rfl, rfl⟩
  · refine g_aload_n 0 dX2_isThrough_7 rfl rfl ?_
    refine g_geti (f := 71) dX2_isThrough_8 fl_X2_35 (c.1.2.2.2.2.2.2.2.2.2 f f6).2.1 (by decide) rfl ?_
    rw [show zi h 71 (b + 53 + 2 * f) = jI (nA N (248 + 20 * f + 6)) from (c.2.2.2.2.1 f hf f6).1 6 (by omega) (by omega)]
    refine g_zif_ne (a := (nA N (248 + 20 * f + 6))) (tgt := 18) rfl dX2_isThrough_11 (by decide) (by omega) (fun e => ?_) (fun e => ?_)
    · refine g_iconst (v := nI 0) dX2_isThrough_18 (by decide) ?_
      refine g_zreturn dX2_isThrough_19 rfl (by first | rfl | assumption) ?_
      exact ⟨by rw [decide_eq_false e, Bool.and_false]; rfl, rfl⟩
    · refine g_iconst (v := nI 1) dX2_isThrough_14 (by decide) ?_
      refine g_goto (tgt := 19) dX2_isThrough_15 (by decide) ?_
      refine g_zreturn dX2_isThrough_19 rfl (by first | rfl | assumption) ?_
      exact ⟨by rw [decide_eq_true (p := nA N (248 + 20 * f + 1) = 0) (by omega), decide_eq_true (p := nA N (248 + 20 * f + 6) = 0) (by omega)]; rfl, rfl⟩
theorem c_through (c : CX h b π ls N X t) (hI : iN [] N) {f : Nat} (hf : (f : Int) < nA N 1) : zM l w mX5_isThrough [.ref b, .int (nI f)] h (fun u h1 => u = some (.int (bI (rchB N 0 (f : Int)))) ∧ h1 = h) := by
  refine zM.of (by decide) (Nat.le_of_ble_eq_true rfl) ?_
  have H1 := hI.H.2.1
  have f6 : f < 6 := by omega
  have e0 : rchB N 0 (f : Int) = (decide (nA N (248 + 20 * f + 1) = 0) && decide (nA N (248 + 20 * f + 6) = 0)) := by unfold rchB; rw [if_pos rfl, Int.toNat_natCast]
  rw [e0]
  refine g_aload_n 0 dX5_isThrough_0 rfl rfl ?_
  refine g_iload_n 1 dX5_isThrough_1 rfl rfl ?_
  refine g_invv (M' := mX5_flowAt) (As := [.int (nI f)]) (rest := []) dX5_isThrough_2 ml_X5_175 okX5_flowAt imX5_flowAt seX5_flowAt ⟨(Nat.le_of_ble_eq_true rfl), (Nat.le_of_ble_eq_true rfl)⟩ (ci := 5) rfl rfl c.1.1.2 rfl rfl (Nat.le_of_ble_eq_true rfl) (c_flowIn c H1 hf) ?_
  rintro _ q1 ⟨rfl, eq1⟩
  subst q1
  show zG l w mX5_isThrough 5 [(0, .ref b), (1, .int (nI f))] [.ref (b + 53 + 2 * f)] h _
  refine g_astore_n (lv2 := [(2, .ref (b + 53 + 2 * f)), (0, .ref b), (1, .int (nI f))]) dX5_isThrough_5 rfl (by decide) rfl ?_
  refine g_aload_n 0 dX5_isThrough_6 rfl rfl ?_
  refine g_ifnull dX5_isThrough_7 ?_
  refine g_aload_n 0 dX5_isThrough_10 rfl rfl ?_
  refine g_invv (M' := mX2_isThrough) (As := []) (rest := []) dX5_isThrough_11 ml_X5_183 okX2_isThrough imX2_isThrough seX2_isThrough ⟨(Nat.le_of_ble_eq_true rfl), (Nat.le_of_ble_eq_true rfl)⟩ (ci := 2) rfl rfl (c.1.2.2.2.2.2.2.2.2.2 f f6).2.1 rfl rfl (Nat.le_of_ble_eq_true rfl) (c_flThrough c hI hf) ?_
  rintro _ q2 ⟨rfl, eq2⟩
  subst q2
  show zG l w mX5_isThrough 14 [(2, .ref (b + 53 + 2 * f)), (0, .ref b), (1, .int (nI f))] [.int (bI (decide (nA N (248 + 20 * f + 1) = 0) && decide (nA N (248 + 20 * f + 6) = 0)))] h _
  refine g_bif_eq (tgt := 21) dX5_isThrough_14 (by decide) (fun d => ?_) (fun d => ?_)
  · refine g_iconst (v := nI 0) dX5_isThrough_21 (by decide) ?_
    refine g_zreturn dX5_isThrough_22 rfl (by first | rfl | assumption) ?_
    exact ⟨by rw [d]; rfl, rfl⟩
  · refine g_iconst (v := nI 1) dX5_isThrough_17 (by decide) ?_
    refine g_goto (tgt := 22) dX5_isThrough_18 (by decide) ?_
    refine g_zreturn dX5_isThrough_22 rfl (by first | rfl | assumption) ?_
    exact ⟨by rw [d]; rfl, rfl⟩
theorem c_reachC0 (hk : zk h x = 9) (hp : zr h 294 x = some b) (c : CX h b π ls N X t) (hI : iN [] N) {f : Nat} (hf : (f : Int) < nA N 1) : zM l w mX9_isReached [.ref x, .int (nI 0), .int (nI f)] h (fun u h1 => u = some (.int (bI (rchB N 0 (f : Int)))) ∧ h1 = h) := by
  refine zM.of (by decide) (Nat.le_of_ble_eq_true rfl) ?_
  refine g_iload_n 1 dX9_isReached_0 rfl rfl ?_
  refine g_lookup (off := 27) (tgt := 28) dX9_isReached_1 (by decide) (by decide) (by decide) ?_
  refine g_aload_n 0 dX9_isReached_28 rfl rfl ?_
  refine g_getr (f := 294) (b := b) dX9_isReached_29 fl_X9_27 hk rfl hp ?_
  refine g_iload_n 2 dX9_isReached_32 rfl rfl ?_
  refine g_invv (M' := mX5_isThrough) (As := [.int (nI f)]) (rest := []) dX9_isReached_33 ml_X9_276 okX5_isThrough imX5_isThrough seX5_isThrough ⟨(Nat.le_of_ble_eq_true rfl), (Nat.le_of_ble_eq_true rfl)⟩ (ci := 5) rfl rfl c.1.1.2 rfl rfl (Nat.le_of_ble_eq_true rfl) (c_through c hI hf) ?_
  rintro _ q1 ⟨rfl, eq1⟩
  subst q1
  show zG l w mX9_isReached 36 [(0, .ref x), (1, .int (nI 0)), (2, .int (nI f))] [.int (bI (rchB N 0 (f : Int)))] h _
  refine g_zreturn dX9_isReached_36 rfl (by cases rchB N 0 (f : Int) <;> rfl) ?_
  exact ⟨rfl, rfl⟩
theorem c_reachC1 (hk : zk h x = 9) (hp : zr h 294 x = some b) (c : CX h b π ls N X t) (hI : iN [] N) {z : Int} (zb : -2147483648 ≤ z ∧ z < 2147483648) : zM l w mX9_isReached [.ref x, .int (nI 1), .int (jI z)] h (fun u h1 => u = some (.int (bI (rchB N 1 z))) ∧ h1 = h) := by
  refine zM.of (by decide) (Nat.le_of_ble_eq_true rfl) ?_
  have gb := gapN_bd hI
  have e0 : rchB N 1 z = decide (gapN N ≤ z) := by unfold rchB; rw [if_neg (by omega), if_pos rfl]
  rw [e0]
  refine g_iload_n 1 dX9_isReached_0 rfl rfl ?_
  refine g_lookup (off := 36) (tgt := 37) dX9_isReached_1 (by decide) (by decide) (by decide) ?_
  refine g_aload_n 0 dX9_isReached_37 rfl rfl ?_
  refine g_getr (f := 294) (b := b) dX9_isReached_38 fl_X9_27 hk rfl hp ?_
  refine g_invv (M' := mX5_windowGap) (As := []) (rest := []) dX9_isReached_41 ml_X9_115 okX5_windowGap imX5_windowGap seX5_windowGap ⟨(Nat.le_of_ble_eq_true rfl), (Nat.le_of_ble_eq_true rfl)⟩ (ci := 5) rfl rfl c.1.1.2 rfl rfl (Nat.le_of_ble_eq_true rfl) (c_windowGap c hI) ?_
  rintro _ q1 ⟨rfl, eq1⟩
  subst q1
  show zG l w mX9_isReached 44 [(0, .ref x), (1, .int (nI 1)), (2, .int (jI z))] [.int (jI (gapN N))] h _
  refine g_iload_n 2 dX9_isReached_44 rfl rfl ?_
  refine g_zcmp_gt (a := (gapN N)) (b := z) (tgt := 52) rfl rfl dX9_isReached_45 (by decide) (by omega) (by omega) (fun d => ?_) (fun d => ?_)
  · refine g_iconst (v := nI 0) dX9_isReached_52 (by decide) ?_
    refine g_zreturn dX9_isReached_53 rfl (by first | rfl | assumption) ?_
    exact ⟨by rw [decide_eq_false (by omega)]; rfl, rfl⟩
  · refine g_iconst (v := nI 1) dX9_isReached_48 (by decide) ?_
    refine g_goto (tgt := 53) dX9_isReached_49 (by decide) ?_
    refine g_zreturn dX9_isReached_53 rfl (by first | rfl | assumption) ?_
    exact ⟨by rw [decide_eq_true (by omega)]; rfl, rfl⟩
theorem c_reachC2 (hk : zk h x = 9) (hp : zr h 294 x = some b) (c : CX h b π ls N X t) (hI : iN [] N) {f : Nat} (hf : (f : Int) < nA N 1) : zM l w mX9_isReached [.ref x, .int (nI 2), .int (nI f)] h (fun u h1 => u = some (.int (bI (rchB N 2 (f : Int)))) ∧ h1 = h) := by
  refine zM.of (by decide) (Nat.le_of_ble_eq_true rfl) ?_
  have H1 := hI.H.2.1
  have f6 : f < 6 := by omega
  have cb := caN_bd (f := f) hI.H.1
  have e0 : rchB N 2 (f : Int) = decide (¬ caN N f = 0) := by unfold rchB; rw [if_neg (by omega), if_neg (by omega), Int.toNat_natCast]
  rw [e0]
  refine g_iload_n 1 dX9_isReached_0 rfl rfl ?_
  refine g_lookup (off := 53) (tgt := 54) dX9_isReached_1 (by decide) (by decide) (by decide) ?_
  refine g_aload_n 0 dX9_isReached_54 rfl rfl ?_
  refine g_getr (f := 294) (b := b) dX9_isReached_55 fl_X9_27 hk rfl hp ?_
  refine g_iload_n 2 dX9_isReached_58 rfl rfl ?_
  refine g_invv (M' := mX5_linksThatCaught) (As := [.int (nI f)]) (rest := []) dX9_isReached_59 ml_X9_131 okX5_linksThatCaught imX5_linksThatCaught seX5_linksThatCaught ⟨(Nat.le_of_ble_eq_true rfl), (Nat.le_of_ble_eq_true rfl)⟩ (ci := 5) rfl rfl c.1.1.2 rfl rfl (Nat.le_of_ble_eq_true rfl) (c_linksCaught c hI f6) ?_
  rintro _ q1 ⟨rfl, eq1⟩
  subst q1
  show zG l w mX9_isReached 62 [(0, .ref x), (1, .int (nI 2)), (2, .int (nI f))] [.int (jI (caN N f))] h _
  refine g_zif_eq (a := (caN N f)) (tgt := 69) rfl dX9_isReached_62 (by decide) (by omega) (fun d => ?_) (fun d => ?_)
  · refine g_iconst (v := nI 0) dX9_isReached_69 (by decide) ?_
    refine g_zreturn dX9_isReached_70 rfl (by first | rfl | assumption) ?_
    exact ⟨by rw [decide_eq_false (by omega)]; rfl, rfl⟩
  · refine g_iconst (v := nI 1) dX9_isReached_65 (by decide) ?_
    refine g_goto (tgt := 70) dX9_isReached_66 (by decide) ?_
    refine g_zreturn dX9_isReached_70 rfl (by first | rfl | assumption) ?_
    exact ⟨by rw [decide_eq_true (by omega)]; rfl, rfl⟩
end PE1
