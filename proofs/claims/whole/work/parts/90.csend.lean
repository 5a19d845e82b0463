section CZ2
variable {l : Launch} {w : zW} {h : zH} {b : Nat} {π : Nat → Nat} {ls : Nat → List Nat} {N : nT} {X : List Nat} {t f : Nat}
theorem c_noteSentF (c : CX h b π ls N X t) (hf : (f : Int) < nA N 1) (f6 : f < 6) : zM l w mX2_noteSent [.ref (b + 53 + 2 * f)] h (fun v h1 => v = none ∧ CX h1 b π ls (sentN N f) X t ∧ CSt b ls h ls h1 ∧ FrSc b h h1) := by
  refine zM.of (by decide) (Nat.le_of_ble_eq_true rfl) ?_
  refine g_aload_n 0 dX2_noteSent_0 rfl rfl ?_
  refine g_dup dX2_noteSent_1 rfl ?_
  refine g_geti (f := 66) dX2_noteSent_2 fl_X2_19 (c.1.2.2.2.2.2.2.2.2.2 f f6).2.1 (by decide) rfl ?_
  rw [show zi h 66 (b + 53 + 2 * f) = jI (nA N (248 + 20 * f + 1)) from (c.2.2.2.2.1 f hf f6).1 1 (by omega) (by omega)]
  refine g_iconst (v := nI 1) dX2_noteSent_5 (by decide) ?_
  refine g_isub dX2_noteSent_6 ?_
  refine zG.top (show (jI (nA N (248 + 20 * f + 1))) - (nI 1) = jI ((nA N (248 + 20 * f + 1)) - 1) by rw [show nI 1 = jI 1 from (by decide), jI_sub]) ?_
  refine g_puti (f := 66) dX2_noteSent_7 fl_X2_19 (Or.inl rfl) (c.1.2.2.2.2.2.2.2.2.2 f f6).2.1 rfl ?_
  have cx1 : CX (zSi h 66 (b + 53 + 2 * f) (jI ((nA N (248 + 20 * f + 1)) - 1))) b π ls (uA N (248 + 20 * f + 1) ((nA N (248 + 20 * f + 1)) - 1)) X t ∧ CSt b ls h ls (zSi h 66 (b + 53 + 2 * f) (jI ((nA N (248 + 20 * f + 1)) - 1))) := c.setF (j := 1) f6 (by omega) (by omega) (by omega)
  have fs1 : FrSc b h (zSi h 66 (b + 53 + 2 * f) (jI ((nA N (248 + 20 * f + 1)) - 1))) := FrSc.si (by omega) (by omega)
  generalize zSi h 66 (b + 53 + 2 * f) (jI ((nA N (248 + 20 * f + 1)) - 1)) = y1 at cx1 fs1 ⊢
  refine g_aload_n 0 dX2_noteSent_10 rfl rfl ?_
  refine g_dup dX2_noteSent_11 rfl ?_
  refine g_geti (f := 73) dX2_noteSent_12 fl_X2_41 (cx1.1.1.2.2.2.2.2.2.2.2.2 f f6).2.1 (by decide) rfl ?_
  rw [show zi y1 73 (b + 53 + 2 * f) = jI (nA (uA N (248 + 20 * f + 1) ((nA N (248 + 20 * f + 1)) - 1)) (248 + 20 * f + 8)) from (cx1.1.2.2.2.2.1 f (by rw [nA_ne (by omega)]; exact hf) f6).1 8 (by omega) (by omega)]
  rw [show nA (uA N (248 + 20 * f + 1) ((nA N (248 + 20 * f + 1)) - 1)) (248 + 20 * f + 8) = nA N (248 + 20 * f + 8) by rw [nA_ne (by omega)]]
  refine g_iconst (v := nI 1) dX2_noteSent_15 (by decide) ?_
  refine g_iadd dX2_noteSent_16 ?_
  refine zG.top (show (jI (nA N (248 + 20 * f + 8))) + (nI 1) = jI ((nA N (248 + 20 * f + 8)) + 1) by rw [show nI 1 = jI 1 from (by decide), jI_add]) ?_
  refine g_puti (f := 73) dX2_noteSent_17 fl_X2_41 (Or.inl rfl) (cx1.1.1.2.2.2.2.2.2.2.2.2 f f6).2.1 rfl ?_
  have cx2 : CX (zSi y1 73 (b + 53 + 2 * f) (jI ((nA N (248 + 20 * f + 8)) + 1))) b π ls (uA (uA N (248 + 20 * f + 1) ((nA N (248 + 20 * f + 1)) - 1)) (248 + 20 * f + 8) ((nA N (248 + 20 * f + 8)) + 1)) X t ∧ CSt b ls y1 ls (zSi y1 73 (b + 53 + 2 * f) (jI ((nA N (248 + 20 * f + 8)) + 1))) := cx1.1.setF (j := 8) f6 (by omega) (by omega) (by omega)
  have fs2 : FrSc b y1 (zSi y1 73 (b + 53 + 2 * f) (jI ((nA N (248 + 20 * f + 8)) + 1))) := FrSc.si (by omega) (by omega)
  generalize zSi y1 73 (b + 53 + 2 * f) (jI ((nA N (248 + 20 * f + 8)) + 1)) = y2 at cx2 fs2 ⊢
  refine g_aload_n 0 dX2_noteSent_20 rfl rfl ?_
  refine g_dup dX2_noteSent_21 rfl ?_
  refine g_geti (f := 71) dX2_noteSent_22 fl_X2_35 (cx2.1.1.2.2.2.2.2.2.2.2.2 f f6).2.1 (by decide) rfl ?_
  rw [show zi y2 71 (b + 53 + 2 * f) = jI (nA (uA (uA N (248 + 20 * f + 1) ((nA N (248 + 20 * f + 1)) - 1)) (248 + 20 * f + 8) ((nA N (248 + 20 * f + 8)) + 1)) (248 + 20 * f + 6)) from (cx2.1.2.2.2.2.1 f (by rw [nA_ne (by omega), nA_ne (by omega)]; exact hf) f6).1 6 (by omega) (by omega)]
  rw [show nA (uA (uA N (248 + 20 * f + 1) ((nA N (248 + 20 * f + 1)) - 1)) (248 + 20 * f + 8) ((nA N (248 + 20 * f + 8)) + 1)) (248 + 20 * f + 6) = nA N (248 + 20 * f + 6) by rw [nA_ne (by omega), nA_ne (by omega)]]
  refine g_iconst (v := nI 1) dX2_noteSent_25 (by decide) ?_
  refine g_iadd dX2_noteSent_26 ?_
  refine zG.top (show (jI (nA N (248 + 20 * f + 6))) + (nI 1) = jI ((nA N (248 + 20 * f + 6)) + 1) by rw [show nI 1 = jI 1 from (by decide), jI_add]) ?_
  refine g_puti (f := 71) dX2_noteSent_27 fl_X2_35 (Or.inl rfl) (cx2.1.1.2.2.2.2.2.2.2.2.2 f f6).2.1 rfl ?_
  have cx3 : CX (zSi y2 71 (b + 53 + 2 * f) (jI ((nA N (248 + 20 * f + 6)) + 1))) b π ls (uA (uA (uA N (248 + 20 * f + 1) ((nA N (248 + 20 * f + 1)) - 1)) (248 + 20 * f + 8) ((nA N (248 + 20 * f + 8)) + 1)) (248 + 20 * f + 6) ((nA N (248 + 20 * f + 6)) + 1)) X t ∧ CSt b ls y2 ls (zSi y2 71 (b + 53 + 2 * f) (jI ((nA N (248 + 20 * f + 6)) + 1))) := cx2.1.setF (j := 6) f6 (by omega) (by omega) (by omega)
  have fs3 : FrSc b y2 (zSi y2 71 (b + 53 + 2 * f) (jI ((nA N (248 + 20 * f + 6)) + 1))) := FrSc.si (by omega) (by omega)
  generalize zSi y2 71 (b + 53 + 2 * f) (jI ((nA N (248 + 20 * f + 6)) + 1)) = y3 at cx3 fs3 ⊢
  refine g_return dX2_noteSent_30 rfl ?_
  exact ⟨rfl, cx3.1, (((CSt.rf.tr cx1.2).tr cx2.2).tr cx3.2), (((FrSc.rf.tr fs1).tr fs2).tr fs3)⟩
theorem c_evMF (c : CX h b π ls N X t) (hE : (nE N).length ≤ 24) {k f : Nat} : zM l w mX1_add [.ref (b + 5), .int (nI k), .int (jI (nA N 2)), .int (-1), .int (nI f)] h (fun v h1 => v = none ∧ CX h1 b π ls (evN N k (-1) f) X t ∧ CSt b ls h ls h1 ∧ FrEv b h h1) := by
  have e := c_evAdd (l := l) (w := w) c.1 c.2.2.2.2.2.2.1 hE (k := (k : Int)) (n := nA N 2) (q := -1) (f := (f : Int))
  rw [jI_nat, jI_nat, show jI (-1) = (-1 : Int32) by decide] at e
  refine e.mono ?_
  rintro v h1 ⟨rfl, e1, e2⟩
  exact ⟨rfl, (c.uEv e2 e1).1, (c.uEv e2 e1).2, e2⟩
/-- a packet's own numbers as it is sent -/
def pkN (N : nT) (f x : Nat) : nT := (uA (uA (uA (uA (uA (uA (uA N (368 + 8 * x + 0) ((f : Int) + 1)) (368 + 8 * x + 1) (nA N 2)) (368 + 8 * x + 2) (0)) (368 + 8 * x + 3) (nA N (248 + 20 * f + 5))) (368 + 8 * x + 4) (nA N (248 + 20 * f + 7) * (if nA N (248 + 20 * f + 2) = 2 then 3 else 1))) (368 + 8 * x + 5) (1000)) (368 + 8 * x + 7) (0))
theorem pkN_ne {x k : Nat} (hk : k < 368 + 8 * x + 0 ∨ 368 + 8 * x + 8 ≤ k) : nA (pkN N f x) k = nA N k := by
  unfold pkN
  rw [nA_ne (by omega), nA_ne (by omega), nA_ne (by omega), nA_ne (by omega), nA_ne (by omega), nA_ne (by omega), nA_ne (by omega)]
theorem born_eq (f6 : f < 6) : sentN (pkN N f (freeN N)) f = bornN N f := by
  have e1 : nA (pkN N f (freeN N)) (248 + 20 * f + 1) = nA N (248 + 20 * f + 1) := pkN_ne (by omega)
  have e8 : nA (pkN N f (freeN N)) (248 + 20 * f + 8) = nA N (248 + 20 * f + 8) := pkN_ne (by omega)
  have e6 : nA (pkN N f (freeN N)) (248 + 20 * f + 6) = nA N (248 + 20 * f + 6) := pkN_ne (by omega)
  unfold sentN
  rw [e1, e8, e6]
  unfold pkN bornN
  generalize freeN N = x
  rw [uA_swap (k := 368 + 8 * x + 7) (j := 248 + 20 * f + 1) (by omega),
    uA_swap (k := 368 + 8 * x + 5) (j := 248 + 20 * f + 1) (by omega),
    uA_swap (k := 368 + 8 * x + 4) (j := 248 + 20 * f + 1) (by omega),
    uA_swap (k := 368 + 8 * x + 3) (j := 248 + 20 * f + 1) (by omega),
    uA_swap (k := 368 + 8 * x + 2) (j := 248 + 20 * f + 1) (by omega),
    uA_swap (k := 368 + 8 * x + 1) (j := 248 + 20 * f + 1) (by omega),
    uA_swap (k := 368 + 8 * x + 0) (j := 248 + 20 * f + 1) (by omega),
    uA_swap (k := 368 + 8 * x + 7) (j := 248 + 20 * f + 8) (by omega),
    uA_swap (k := 368 + 8 * x + 5) (j := 248 + 20 * f + 8) (by omega),
    uA_swap (k := 368 + 8 * x + 4) (j := 248 + 20 * f + 8) (by omega),
    uA_swap (k := 368 + 8 * x + 3) (j := 248 + 20 * f + 8) (by omega),
    uA_swap (k := 368 + 8 * x + 2) (j := 248 + 20 * f + 8) (by omega),
    uA_swap (k := 368 + 8 * x + 1) (j := 248 + 20 * f + 8) (by omega),
    uA_swap (k := 368 + 8 * x + 0) (j := 248 + 20 * f + 8) (by omega),
    uA_swap (k := 368 + 8 * x + 7) (j := 248 + 20 * f + 6) (by omega),
    uA_swap (k := 368 + 8 * x + 5) (j := 248 + 20 * f + 6) (by omega),
    uA_swap (k := 368 + 8 * x + 4) (j := 248 + 20 * f + 6) (by omega),
    uA_swap (k := 368 + 8 * x + 3) (j := 248 + 20 * f + 6) (by omega),
    uA_swap (k := 368 + 8 * x + 2) (j := 248 + 20 * f + 6) (by omega),
    uA_swap (k := 368 + 8 * x + 1) (j := 248 + 20 * f + 6) (by omega),
    uA_swap (k := 368 + 8 * x + 0) (j := 248 + 20 * f + 6) (by omega)]
theorem pkN_C {h1 : zH} {p x : Nat} (x480 : x < 480) (v : zi h1 192 p = nI f ∧ zi h1 193 p = jI (nA N 2) ∧ zi h1 194 p = nI 0 ∧ zi h1 195 p = jI (nA N (248 + 20 * f + 5)) ∧ zi h1 196 p = jI (nA N (248 + 20 * f + 7) * (if nA N (248 + 20 * f + 2) = 2 then 3 else 1)) ∧ zl h1 197 p = jL (max 1 (10000 * (nA N (248 + 20 * f + 7) * (if nA N (248 + 20 * f + 2) = 2 then 3 else 1)) / nA N (248 + 20 * f + 5))) ∧ zi h1 198 p = nI 1000 ∧ zi h1 200 p = nI 0) : PkC h1 (pkN N f x) p x := by
  obtain ⟨v0, v1, v2, v3, v4, v5, v6, v7⟩ := v
  have n3 : nA (pkN N f x) (368 + 8 * x + 3) = nA N (248 + 20 * f + 5) := by unfold pkN; rw [nA_ne (by omega), nA_ne (by omega), nA_ne (by omega), nA_eq]
  have n4 : nA (pkN N f x) (368 + 8 * x + 4) = nA N (248 + 20 * f + 7) * (if nA N (248 + 20 * f + 2) = 2 then 3 else 1) := by unfold pkN; rw [nA_ne (by omega), nA_ne (by omega), nA_eq]
  refine ⟨?_, ?_, ?_, ?_, ?_, ?_, ?_⟩
  · rw [v0, show nA (pkN N f x) (368 + 8 * x + 0) = (f : Int) + 1 from by unfold pkN; rw [nA_ne (by omega), nA_ne (by omega), nA_ne (by omega), nA_ne (by omega), nA_ne (by omega), nA_ne (by omega), nA_eq], Int.add_sub_cancel, jI_nat]
  · rw [v1, show nA (pkN N f x) (368 + 8 * x + 1) = nA N 2 from by unfold pkN; rw [nA_ne (by omega), nA_ne (by omega), nA_ne (by omega), nA_ne (by omega), nA_ne (by omega), nA_eq]]
  · rw [v3, n3]
  · rw [v4, n4]
  · rw [v5]
    unfold partN
    rw [n3, n4]
  · rw [v6, show nA (pkN N f x) (368 + 8 * x + 5) = 1000 from by unfold pkN; rw [nA_ne (by omega), nA_eq]]
    decide
  · rw [v7, show nA (pkN N f x) (368 + 8 * x + 7) = 0 from by unfold pkN; rw [nA_eq]]
    decide
theorem iN.nLv480 (h : iN X N) {x : Nat} (hx : x < 480) (nl : ¬ 0 < nA N (368 + 8 * x + 0)) : nLv N < 480 := by
  have e := countP_one (fun _ => true) (fun y => !decide (y = x)) (x := x) (n := 480) hx rfl (by simp) (fun y hy => by simp [hy])
  have l1 : (List.range 480).countP (fun _ => true) = 480 := by rw [List.countP_true, List.length_range]
  have l2 : nLv N ≤ (List.range 480).countP (fun y => !decide (y = x)) := List.countP_mono_left (fun y hy q => by
    have q' := of_decide_eq_true q
    have : ¬ y = x := fun z => nl (z ▸ q')
    simp [this])
  omega
theorem iN.ntd (h : iN X N) {x : Nat} (nl : ¬ 0 < nA N (368 + 8 * x + 0)) : ntin N x := ⟨fun a ha => ⟨fun hm => nl (h.C.memR ha hm).2, fun hm => nl (h.C.memW ha hm).2⟩, fun hm => nl (h.C.memK hm).2⟩
theorem c_sendFrom (c : CX h b π ls N [] t) (hI : iN [] N) (hf : (f : Int) < nA N 1) (hS : nA N (248 + 20 * f + 8) < 79999) : zM l w mX5_sendFrom [.ref b, .int (nI f), .ref (b + 53 + 2 * f)] h (fun v h1 => v = none ∧ ∃ π1 ls1, CX h1 b π1 ls1 (if nA N (248 + 20 * f + 3) = 1 then sendsN N f else N) [] t ∧ CSt b ls h ls1 h1) := by
  refine zM.of (by decide) (Nat.le_of_ble_eq_true rfl) ?_
  have loop : ∀ n i : Nat, i + n = 2 → ∀ (h' : zH) (N1 : nT) (π' : Nat → Nat) (ls' : Nat → List Nat), iN [] N1 → (f : Int) < nA N1 1 → nA N1 (248 + 20 * f + 8) + n ≤ 80000 → CX h' b π' ls' N1 [] t → CSt b ls h ls' h' → zG l w mX5_sendFrom 2 [(3, .int (nI i)), (0, .ref b), (1, .int (nI f)), (2, .ref (b + 53 + 2 * f))] [] h' (fun v h1 => v = none ∧ ∃ π1 ls1, CX h1 b π1 ls1 (if nA N1 (248 + 20 * f + 3) = 1 then sendK f n N1 else N1) [] t ∧ CSt b ls h ls1 h1) := by
    intro n
    induction n with
    | zero =>
      intro i hi h' N1 π' ls' hI hf hS c' s'
      refine g_iload_n 0 dX5_sendFrom_2 rfl rfl ?_
      refine g_iconst (v := nI 2) dX5_sendFrom_3 (by decide) ?_
      refine g_zcmp_ge (a := ((i : Nat) : Int)) (b := 2) (tgt := 77) (jI_nat i).symm (by decide) dX5_sendFrom_4 (by decide) (by omega) (by omega) (fun q => ?_) (fun q => ?_)
      · refine g_return dX5_sendFrom_77 rfl ?_
        refine ⟨rfl, π', ls', ?_, s'⟩
        have e : (if nA N1 (248 + 20 * f + 3) = 1 then sendK f 0 N1 else N1) = N1 := by split <;> rfl
        rw [e]
        exact c'
      · exact absurd q (by omega)
    | succ n ih =>
      intro i hi h' N1 π' ls' hI hf hS c' s'
      have H1 := hI.H.2.1
      have f6 : f < 6 := by omega
      have F0 := hI.F f hf
      have Y := hI.Y f f6
      refine g_iload_n 0 dX5_sendFrom_2 rfl rfl ?_
      refine g_iconst (v := nI 2) dX5_sendFrom_3 (by decide) ?_
      refine g_zcmp_ge (a := ((i : Nat) : Int)) (b := 2) (tgt := 77) (jI_nat i).symm (by decide) dX5_sendFrom_4 (by decide) (by omega) (by omega) (fun q => ?_) (fun q => ?_)
      · exact absurd q (by omega)
      · refine g_aload_n 3 dX5_sendFrom_7 rfl rfl ?_
        refine g_invv (M' := mX2_maySend) (As := []) (rest := []) dX5_sendFrom_8 ml_X5_195 okX2_maySend imX2_maySend seX2_maySend ⟨(Nat.le_of_ble_eq_true rfl), (Nat.le_of_ble_eq_true rfl)⟩ (ci := 2) rfl rfl (c'.1.2.2.2.2.2.2.2.2.2 f f6).2.1 rfl rfl (Nat.le_of_ble_eq_true rfl) (c_mayC c' hf f6 F0 (by omega)) ?_
        rintro _ q1 ⟨rfl, eq1⟩
        subst q1
        show zG l w mX5_sendFrom 11 [(3, .int (nI i)), (0, .ref b), (1, .int (nI f)), (2, .ref (b + 53 + 2 * f))] [.int (bI (decide (nA N1 (248 + 20 * f + 3) = 1) && mayN N1 f))] h' _
        refine g_bif_eq (tgt := 77) dX5_sendFrom_11 (by decide) (fun g => ?_) (fun g => ?_)
        · refine g_return dX5_sendFrom_77 rfl ?_
          refine ⟨rfl, π', ls', ?_, s'⟩
          have e : (if nA N1 (248 + 20 * f + 3) = 1 then sendK f (n + 1) N1 else N1) = N1 := by
            split
            · rename_i o1
              rw [decide_eq_true o1, Bool.true_and] at g
              unfold sendK; rw [if_neg (by rw [g]; decide)]
            · rfl
          rw [e]
          exact c'
        · rw [Bool.and_eq_true] at g
          have on := of_decide_eq_true g.1
          have g := g.2
          have hM := hI.may hf g
          have hq := freeN_spec (hI.places (f := f) f6 hM.2)
          have hS' : nA N1 (248 + 20 * f + 8) < 80000 := by omega
          have hb := hI.begotE hf g hS'
          have x480 := hq.1
          refine g_aload_n 1 dX5_sendFrom_14 rfl rfl ?_
          refine g_invv (M' := mX5_freshPacket) (As := []) (rest := []) dX5_sendFrom_15 ml_X5_103 okX5_freshPacket imX5_freshPacket seX5_freshPacket ⟨(Nat.le_of_ble_eq_true rfl), (Nat.le_of_ble_eq_true rfl)⟩ (ci := 5) rfl rfl c'.1.1.2 rfl rfl (Nat.le_of_ble_eq_true rfl) (c_freshPacket c' (hI.nLv480 hq.1 hq.2.1)) ?_
          rintro _ y1 ⟨p, rfl, ls1, c1, s1⟩
          show zG l w mX5_sendFrom 18 [(3, .int (nI i)), (0, .ref b), (1, .int (nI f)), (2, .ref (b + 53 + 2 * f))] [.ref p] y1 _
          refine g_astore (lv2 := [(4, .ref p), (3, .int (nI i)), (0, .ref b), (1, .int (nI f)), (2, .ref (b + 53 + 2 * f))]) dX5_sendFrom_18 (by decide) rfl ?_
          refine g_aload 0 dX5_sendFrom_20 rfl ?_
          refine g_ifnonnull (tgt := 28) dX5_sendFrom_22 (by decide) ?_
          refine g_aload 0 dX5_sendFrom_28 rfl ?_
          refine g_iload_n 3 dX5_sendFrom_30 rfl rfl ?_
          refine g_aload_n 2 dX5_sendFrom_31 rfl rfl ?_
          refine g_geti (f := 164) dX5_sendFrom_32 fl_X5_56 c1.1.1.1.2 (by decide) rfl ?_
          rw [show zi y1 164 b = jI (nA N1 2) from c1.1.2.2.1.2.2.1]
          refine g_aload_n 4 dX5_sendFrom_35 rfl rfl ?_
          refine g_invv (M' := mX6_begin) (As := [.int (nI f), .int (jI (nA N1 2)), .ref (b + 53 + 2 * f)]) (rest := []) dX5_sendFrom_36 ml_X5_198 okX6_begin imX6_begin seX6_begin ⟨(Nat.le_of_ble_eq_true rfl), (Nat.le_of_ble_eq_true rfl)⟩ (ci := 6) rfl rfl c1.2.2.1.2.2 rfl rfl (Nat.le_of_ble_eq_true rfl) (c_pkBegin c1.2.2.1.2.2 (c1.1.1.2.2.2.2.2.2.2.2.2 f f6).2.1 (c1.1.2.2.2.2.1 f hf f6) F0.2.2.2.2.2.1 F0.2.2.2.2.2.2.1 F0.2.2.2.1) ?_
          rintro _ y2 ⟨rfl, f2, v2⟩
          show zG l w mX5_sendFrom 39 [(4, .ref p), (3, .int (nI i)), (0, .ref b), (1, .int (nI f)), (2, .ref (b + 53 + 2 * f))] [] y2 _
          have nt := hI.ntd hq.2.1
          have u2 := c1.use (N' := pkN N1 f (freeN N1)) hq.1 hq.2.1 nt.1 nt.2 f2 (fun k hk => pkN_ne hk) rfl rfl rfl rfl rfl (by unfold pkN; rw [nA_ne (by omega), nA_ne (by omega), nA_ne (by omega), nA_ne (by omega), nA_ne (by omega), nA_ne (by omega), nA_eq]; omega) (pkN_C hq.1 v2)
          have hf2 : (f : Int) < nA (pkN N1 f (freeN N1)) 1 := by rw [pkN_ne (by omega)]; exact hf
          refine g_aload_n 4 dX5_sendFrom_39 rfl rfl ?_
          refine g_invv (M' := mX2_noteSent) (As := []) (rest := []) dX5_sendFrom_40 ml_X5_202 okX2_noteSent imX2_noteSent seX2_noteSent ⟨(Nat.le_of_ble_eq_true rfl), (Nat.le_of_ble_eq_true rfl)⟩ (ci := 2) rfl rfl (u2.1.1.2.2.2.2.2.2.2.2.2 f f6).2.1 rfl rfl (Nat.le_of_ble_eq_true rfl) (c_noteSentF u2.1 hf2 f6) ?_
          rintro _ y3 ⟨rfl, c3, s3, f3⟩
          show zG l w mX5_sendFrom 43 [(4, .ref p), (3, .int (nI i)), (0, .ref b), (1, .int (nI f)), (2, .ref (b + 53 + 2 * f))] [] y3 _
          rw [born_eq f6] at c3
          have ne : ∀ k, k < 368 → k ≠ 248 + 20 * f + 1 → k ≠ 248 + 20 * f + 8 → k ≠ 248 + 20 * f + 6 → nA (bornN N1 f) k = nA N1 k := fun k h3 h4 h5 h6 => bornN_ne h4 h5 h6 (by omega)
          have b1 : nA (bornN N1 f) (248 + 20 * f + 1) = nA N1 (248 + 20 * f + 1) - 1 := by unfold bornN; rw [nA_ne (by omega), nA_ne (by omega), nA_ne (by omega), nA_ne (by omega), nA_ne (by omega), nA_ne (by omega), nA_ne (by omega), nA_ne (by omega), nA_ne (by omega), nA_eq]
          have hf3 : (f : Int) < nA (bornN N1 f) 1 := by rw [ne 1 (by omega) (by omega) (by omega) (by omega)]; exact hf
          have F1 := F0.2.2.1
          have hop3 : zi y3 194 p = jI 0 := (f3.2.2.2.2.1 194 p (by omega)).trans (v2.2.2.1.trans (by decide))
          have h7b : nA (bornN N1 f) (368 + 8 * (freeN N1) + 7) = 0 := by unfold bornN; rw [nA_eq]
          have h2b : nA (bornN N1 f) (368 + 8 * (freeN N1) + 2) = 0 := (hI.begot hf g hS').2.2.2.2
          refine g_aload_n 4 dX5_sendFrom_43 rfl rfl ?_
          refine g_geti (f := 66) dX5_sendFrom_44 fl_X5_205 (c3.1.2.2.2.2.2.2.2.2.2 f f6).2.1 (by decide) rfl ?_
          rw [show zi y3 66 (b + 53 + 2 * f) = jI (nA N1 (248 + 20 * f + 1) - 1) from (by rw [(c3.2.2.2.2.1 f hf3 f6).1 1 (by omega) (by omega), b1])]
          refine g_zif_ne (a := (nA N1 (248 + 20 * f + 1) - 1)) (tgt := 64) rfl dX5_sendFrom_47 (by decide) (by omega) (fun d => ?_) (fun d => ?_)
          · have cE : CX y3 b (updP π' (freeN N1) p) ls1 (bornE N1 f) [freeN N1] t := by unfold bornE; rw [if_neg d]; exact c3
            have ef := hb.2.1
            have go0 : goN (bornE N1 f) (freeN N1) = sendN N1 f := by
              have F1 := F0.1
              unfold goN
              rw [ef, bornE_A, h2b, bornE_A, ne (248 + 20 * f + 0) (by omega) (by omega) (by omega) (by omega), if_neg (by omega), sendN_E]
              exact congrArg (comeN (bornE N1 f) (freeN N1)) hb.2.2.1.2
            have G := c_goOn (l := l) (w := w) cE hb.1 (by rw [updP_eq, bornE_A, h2b]; exact hop3) (by rw [bornE_A]; exact h7b)
            rw [ef, go0, updP_eq] at G
            refine g_aload_n 2 dX5_sendFrom_64 rfl rfl ?_
            refine g_aload 0 dX5_sendFrom_65 rfl ?_
            refine g_aload_n 4 dX5_sendFrom_67 rfl rfl ?_
            refine g_invv (M' := mX5_goOn) (As := [.ref p, .ref (b + 53 + 2 * f)]) (rest := []) dX5_sendFrom_68 ml_X5_191 okX5_goOn imX5_goOn seX5_goOn ⟨(Nat.le_of_ble_eq_true rfl), (Nat.le_of_ble_eq_true rfl)⟩ (ci := 5) rfl rfl cE.1.1.2 rfl rfl (Nat.le_of_ble_eq_true rfl) G ?_
            rintro _ y3 ⟨rfl, ls3, cx3, sx3⟩
            show zG l w mX5_sendFrom 71 [(4, .ref p), (3, .int (nI i)), (0, .ref b), (1, .int (nI f)), (2, .ref (b + 53 + 2 * f))] [] y3 _
            refine g_inc (v := nI (i + 1)) (lv2 := [(3, .int (nI (i + 1))), (4, .ref p), (0, .ref b), (1, .int (nI f)), (2, .ref (b + 53 + 2 * f))]) 1 dX5_sendFrom_71 rfl (nI_add _ 1) (by decide) rfl ?_
            refine g_goto (tgt := 2) dX5_sendFrom_74 (by decide) ?_
            have k := hI.send_kp hf g hS'
            refine zG.sub [0, 2, 3, 4] rfl (zG.mono (ih (i + 1) (by omega) y3 (sendN N1 f) _ _ (hI.send hf g hS') (by rw [k.1.1 1 (Or.inl (Or.inl (by omega)))]; exact hf) (by rw [k.2.1]; omega) cx3 ((((s'.tr s1).tr u2.2).tr s3).tr sx3)) ?_)
            rintro _ _ ⟨rfl, π9, ls9, a1, a2⟩
            refine ⟨rfl, π9, ls9, ?_, a2⟩
            have e9 : sendK f (n + 1) N1 = sendK f n (sendN N1 f) := by rw [sendK, if_pos g]
            have o9 : nA (sendN N1 f) (248 + 20 * f + 3) = 1 := by rw [k.1.1 _ (Or.inl (by unfold stK; omega))]; exact on
            rw [if_pos o9] at a1
            rw [if_pos on, e9]
            exact a1
          · refine g_aload_n 2 dX5_sendFrom_50 rfl rfl ?_
            refine g_getr (f := 168) (b := b + 5) dX5_sendFrom_51 fl_X5_36 c3.1.1.2 rfl c3.1.2.2.2.2.2.1.1 ?_
            refine g_iconst (v := nI 3) dX5_sendFrom_54 (by decide) ?_
            refine g_aload_n 2 dX5_sendFrom_55 rfl rfl ?_
            refine g_geti (f := 164) dX5_sendFrom_56 fl_X5_56 c3.1.1.2 (by decide) rfl ?_
            rw [show zi y3 164 b = jI (nA (bornN N1 f) 2) from c3.2.2.1.2.2.1]
            refine g_iconst (v := (-1)) dX5_sendFrom_59 (by decide) ?_
            refine g_iload_n 3 dX5_sendFrom_60 rfl rfl ?_
            refine g_invv (M' := mX1_add) (As := [.int (nI 3), .int (jI (nA (bornN N1 f) 2)), .int (-1), .int (nI f)]) (rest := []) dX5_sendFrom_61 ml_X5_187 okX1_add imX1_add seX1_add ⟨(Nat.le_of_ble_eq_true rfl), (Nat.le_of_ble_eq_true rfl)⟩ (ci := 1) rfl rfl c3.1.2.2.2.2.2.1.2 rfl rfl (Nat.le_of_ble_eq_true rfl) (c_evMF c3 (k := 3) (f := f) hI.E.1) ?_
            rintro _ y4 ⟨rfl, c4, s4, f4⟩
            show zG l w mX5_sendFrom 64 [(4, .ref p), (3, .int (nI i)), (0, .ref b), (1, .int (nI f)), (2, .ref (b + 53 + 2 * f))] [] y4 _
            have cE : CX y4 b (updP π' (freeN N1) p) ls1 (bornE N1 f) [freeN N1] t := by unfold bornE; rw [if_pos d]; exact c4
            have hop4 : zi y4 194 p = jI 0 := (f4.2.2.2.2.1 194 p (by omega)).trans hop3
            have ef := hb.2.1
            have go0 : goN (bornE N1 f) (freeN N1) = sendN N1 f := by
              have F1 := F0.1
              unfold goN
              rw [ef, bornE_A, h2b, bornE_A, ne (248 + 20 * f + 0) (by omega) (by omega) (by omega) (by omega), if_neg (by omega), sendN_E]
              exact congrArg (comeN (bornE N1 f) (freeN N1)) hb.2.2.1.2
            have G := c_goOn (l := l) (w := w) cE hb.1 (by rw [updP_eq, bornE_A, h2b]; exact hop4) (by rw [bornE_A]; exact h7b)
            rw [ef, go0, updP_eq] at G
            refine g_aload_n 2 dX5_sendFrom_64 rfl rfl ?_
            refine g_aload 0 dX5_sendFrom_65 rfl ?_
            refine g_aload_n 4 dX5_sendFrom_67 rfl rfl ?_
            refine g_invv (M' := mX5_goOn) (As := [.ref p, .ref (b + 53 + 2 * f)]) (rest := []) dX5_sendFrom_68 ml_X5_191 okX5_goOn imX5_goOn seX5_goOn ⟨(Nat.le_of_ble_eq_true rfl), (Nat.le_of_ble_eq_true rfl)⟩ (ci := 5) rfl rfl cE.1.1.2 rfl rfl (Nat.le_of_ble_eq_true rfl) G ?_
            rintro _ y5 ⟨rfl, ls5, cx5, sx5⟩
            show zG l w mX5_sendFrom 71 [(4, .ref p), (3, .int (nI i)), (0, .ref b), (1, .int (nI f)), (2, .ref (b + 53 + 2 * f))] [] y5 _
            refine g_inc (v := nI (i + 1)) (lv2 := [(3, .int (nI (i + 1))), (4, .ref p), (0, .ref b), (1, .int (nI f)), (2, .ref (b + 53 + 2 * f))]) 1 dX5_sendFrom_71 rfl (nI_add _ 1) (by decide) rfl ?_
            refine g_goto (tgt := 2) dX5_sendFrom_74 (by decide) ?_
            have k := hI.send_kp hf g hS'
            refine zG.sub [0, 2, 3, 4] rfl (zG.mono (ih (i + 1) (by omega) y5 (sendN N1 f) _ _ (hI.send hf g hS') (by rw [k.1.1 1 (Or.inl (Or.inl (by omega)))]; exact hf) (by rw [k.2.1]; omega) cx5 (((((s'.tr s1).tr u2.2).tr s3).tr s4).tr sx5)) ?_)
            rintro _ _ ⟨rfl, π9, ls9, a1, a2⟩
            refine ⟨rfl, π9, ls9, ?_, a2⟩
            have e9 : sendK f (n + 1) N1 = sendK f n (sendN N1 f) := by rw [sendK, if_pos g]
            have o9 : nA (sendN N1 f) (248 + 20 * f + 3) = 1 := by rw [k.1.1 _ (Or.inl (by unfold stK; omega))]; exact on
            rw [if_pos o9] at a1
            rw [if_pos on, e9]
            exact a1
  refine g_iconst (v := nI 0) dX5_sendFrom_0 (by decide) ?_
  refine g_istore_n (lv2 := [(3, .int (nI 0)), (0, .ref b), (1, .int (nI f)), (2, .ref (b + 53 + 2 * f))]) dX5_sendFrom_1 rfl (by decide) rfl ?_
  exact zG.sub [0, 1, 2, 3] rfl (loop 2 0 rfl h N π ls hI hf (by omega) c CSt.rf)
end CZ2
