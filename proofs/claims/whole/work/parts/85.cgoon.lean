section CY6
variable {l : Launch} {w : zW} {h : zH} {b : Nat} {π : Nat → Nat} {ls : Nat → List Nat} {N : nT} {X : List Nat} {t : Nat}
theorem c_evN (c : CX h b π ls N X t) (hE : (nE N).length ≤ 24) {k q f : Nat} : zM l w mX1_add [.ref (b + 5), .int (nI k), .int (jI (nA N 2)), .int (nI q), .int (nI f)] h (fun v h1 => v = none ∧ CX h1 b π ls (evN N k q f) X t ∧ CSt b ls h ls h1) := by
  have e := c_evAdd (l := l) (w := w) c.1 c.2.2.2.2.2.2.1 hE (k := (k : Int)) (n := nA N 2) (q := (q : Int)) (f := (f : Int))
  rw [jI_nat, jI_nat, jI_nat] at e
  refine e.mono ?_
  rintro v h1 ⟨rfl, e1, e2⟩
  exact ⟨rfl, c.uEv e2 e1⟩
theorem c_evM (c : CX h b π ls N X t) (hE : (nE N).length ≤ 24) {k f : Nat} : zM l w mX1_add [.ref (b + 5), .int (nI k), .int (jI (nA N 2)), .int (-1), .int (nI f)] h (fun v h1 => v = none ∧ CX h1 b π ls (evN N k (-1) f) X t ∧ CSt b ls h ls h1) := by
  have e := c_evAdd (l := l) (w := w) c.1 c.2.2.2.2.2.2.1 hE (k := (k : Int)) (n := nA N 2) (q := -1) (f := (f : Int))
  rw [jI_nat, jI_nat, show jI (-1) = (-1 : Int32) by decide] at e
  refine e.mono ?_
  rintro v h1 ⟨rfl, e1, e2⟩
  exact ⟨rfl, c.uEv e2 e1⟩
/-- a packet under way goes on: it is back, or it comes to a link -/
def goN (N : nT) (x : Nat) : nT := if nA N (368 + 8 * x + 2) = nA N (248 + 20 * (flN N x) + 0) then cbN N x 0 else comeN N x (hopN N (flN N x) (nA N (368 + 8 * x + 2)).toNat)
theorem sb_cb {x f : Nat} (hf : flN N x = f) (h7 : nA N (368 + 8 * x + 7) = 0) : sbN N x f = cbN N x 0 := by
  unfold sbN cbN
  rw [hf, uA_id (k := 368 + 8 * x + 7) (z := 0) (by rw [nA_ne (by omega)]; exact h7)]
theorem sb_lost {x f a : Nat} {z : Int} (hf : flN N x = f) (f6 : f < 6) (h6 : ∀ i : Nat, (i : Int) < nA N (248 + 20 * f + 0) → hopN N f i < 6) (h4 : nA N (248 + 20 * f + 0) ≤ 4) : sbN (evN (uA (uA N (368 + 8 * x + 7) 1) 6 z) 0 a f) x f = cbN (evN (uA N 6 z) 0 a f) x 1 := by
  have e1 : evN (uA (uA N (368 + 8 * x + 7) 1) 6 z) 0 a f = uA (evN (uA N 6 z) 0 a f) (368 + 8 * x + 7) 1 := by rw [uA_swap (k := 368 + 8 * x + 7) (j := 6) (by omega), evN_uA (k := 368 + 8 * x + 7) (by omega)]
  have e2 : flN (evN (uA N 6 z) 0 a f) x = f := by unfold flN at *; rw [nA_ev, nA_ne (by omega)]; exact hf
  have eh : ∀ i, hopN (evN (uA N 6 z) 0 a f) f i = hopN N f i := fun i => by unfold hopN; rw [nA_ev, nA_ne (by omega)]
  have e0 : nA (evN (uA N 6 z) 0 a f) (248 + 20 * f + 0) = nA N (248 + 20 * f + 0) := by rw [nA_ev, nA_ne (by omega)]
  have B := (backN_same (N := evN (uA N 6 z) 0 a f) (N' := uA (evN (uA N 6 z) 0 a f) (368 + 8 * x + 7) 1) (f := f) (nA_ne (by omega)) (fun i hi => nA_ne (by rw [e0] at hi; omega)) (fun i hi => by rw [eh]; exact h6 i (by rw [← e0]; exact hi)) (fun c hc => nA_ne (by omega))).1
  rw [e1]
  unfold sbN cbN
  rw [e2, B, nA_ne (k := 368 + 8 * x + 7) (j := 2) (by omega), uA_swap (k := 368 + 8 * x + 7) (j := 368 + 8 * x + 6) (by omega)]
  rfl
theorem c_goOn {x : Nat} (c : CX h b π ls N [x] t) (hI : iN [x] N) (hh : zi h 194 (π x) = jI (nA N (368 + 8 * x + 2))) (h7 : nA N (368 + 8 * x + 7) = 0) : zM l w mX5_goOn [.ref b, .ref (π x), .ref (b + 53 + 2 * (flN N x))] h (fun v h1 => v = none ∧ ∃ ls1, CX h1 b π ls1 (goN N x) [] t ∧ CSt b ls h ls1 h1) := by
  refine zM.of (by decide) (Nat.le_of_ble_eq_true rfl) ?_
  have hx := hI.lv
  have hn := hI.nt
  have H0 := hI.H.1
  have H1 := hI.H.2.1
  have q0 := hI.fl hx.1 hx.2
  have hfl := q0.1
  have hf := q0.2.1
  have f6 := q0.2.2
  have P := hI.P x hx.1 hx.2
  have P2 := P.2.2.1
  obtain ⟨f, ef⟩ : ∃ f, flN N x = f := ⟨_, rfl⟩
  rw [ef] at hfl hf f6 P2 ⊢
  have F := hI.F f hf
  have F1 := F.1
  have hE := hI.E.1
  have hB := hI.B
  have x480 := hx.1
  refine g_aload_n 2 dX5_goOn_0 rfl rfl ?_
  refine g_ifnonnull (tgt := 13) dX5_goOn_1 (by decide) ?_
  refine g_aload_n 2 dX5_goOn_13 rfl rfl ?_
  refine g_aload_n 1 dX5_goOn_14 rfl rfl ?_
  refine g_geti (f := 194) dX5_goOn_15 fl_X5_208 (c.2.2.2.2.2.1.1 x hx).2.2 (by decide) rfl ?_
  rw [show zi h 194 (π x) = jI (nA N (368 + 8 * x + 2)) from hh]
  by_cases g : nA N (368 + 8 * x + 2) = nA N (248 + 20 * f + 0)
  · refine g_invv (M' := mX2_pathAt) (As := [.int (jI (nA N (368 + 8 * x + 2)))]) (rest := []) dX5_goOn_18 ml_X5_128 okX2_pathAt imX2_pathAt seX2_pathAt ⟨(Nat.le_of_ble_eq_true rfl), (Nat.le_of_ble_eq_true rfl)⟩ (ci := 2) rfl rfl (c.1.2.2.2.2.2.2.2.2.2 f f6).2.1 rfl rfl (Nat.le_of_ble_eq_true rfl) (c_pathOut c hf f6 (by omega) (by omega) (by omega)) ?_
    rintro _ q1 ⟨rfl, eq1⟩
    subst q1
    show zG l w mX5_goOn 21 [(0, .ref b), (1, .ref (π x)), (2, .ref (b + 53 + 2 * f))] [.int (-1)] h _
    refine g_istore_n (lv2 := [(3, .int (-1)), (0, .ref b), (1, .ref (π x)), (2, .ref (b + 53 + 2 * f))]) dX5_goOn_21 rfl (by decide) rfl ?_
    refine g_aload_n 1 dX5_goOn_22 rfl rfl ?_
    refine g_iload_n 0 dX5_goOn_23 rfl rfl ?_
    refine zG.top (show (-1 : Int32) = jI (-1) by decide) ?_
    refine g_invv (M' := mX5_linkAt) (As := [.int (jI (-1))]) (rest := []) dX5_goOn_24 ml_X5_132 okX5_linkAt imX5_linkAt seX5_linkAt ⟨(Nat.le_of_ble_eq_true rfl), (Nat.le_of_ble_eq_true rfl)⟩ (ci := 5) rfl rfl c.1.1.2 rfl rfl (Nat.le_of_ble_eq_true rfl) (c_linkOut c H0 (by omega) (by omega)) ?_
    rintro _ q2 ⟨rfl, eq2⟩
    subst q2
    show zG l w mX5_goOn 27 [(3, .int (-1)), (0, .ref b), (1, .ref (π x)), (2, .ref (b + 53 + 2 * f))] [.null] h _
    refine g_astoreN (lv2 := [(4, .null), (3, .int (-1)), (0, .ref b), (1, .ref (π x)), (2, .ref (b + 53 + 2 * f))]) dX5_goOn_27 (by decide) rfl ?_
    refine g_aloadN 0 dX5_goOn_29 rfl ?_
    refine g_ifnonnullN dX5_goOn_31 ?_
    refine g_aload_n 2 dX5_goOn_34 rfl rfl ?_
    refine g_aload_n 3 dX5_goOn_35 rfl rfl ?_
    refine g_aload_n 4 dX5_goOn_36 rfl rfl ?_
    refine g_invv (M' := mX5_sendBack) (As := [.ref (π x), .ref (b + 53 + 2 * f)]) (rest := []) dX5_goOn_37 ml_X5_211 okX5_sendBack imX5_sendBack seX5_sendBack ⟨(Nat.le_of_ble_eq_true rfl), (Nat.le_of_ble_eq_true rfl)⟩ (ci := 5) rfl rfl c.1.1.2 rfl rfl (Nat.le_of_ble_eq_true rfl) (c_sendBack c hx hfl f6 hf hn (by have q := (hI.pa hf).2.2; have q2 := hI.H.2.2.1; omega)) ?_
    rintro _ y3 ⟨rfl, ls3, cx3, sx3⟩
    show zG l w mX5_goOn 40 [(4, .null), (3, .int (-1)), (0, .ref b), (1, .ref (π x)), (2, .ref (b + 53 + 2 * f))] [] y3 _
    refine g_goto (tgt := 102) dX5_goOn_40 (by decide) ?_
    refine g_return dX5_goOn_102 rfl ?_
    refine ⟨rfl, _, ?_, (CSt.rf.tr sx3)⟩
    unfold goN
    rw [ef, if_pos g, ← sb_cb ef h7]
    exact cx3
  · have F2 := F.2.1 (nA N (368 + 8 * x + 2)).toNat (by omega)
    refine zG.top (show jI (nA N (368 + 8 * x + 2)) = nI (nA N (368 + 8 * x + 2)).toNat by rw [← jI_nat, Int.toNat_of_nonneg P2.1]) ?_
    refine g_invv (M' := mX2_pathAt) (As := [.int (nI (nA N (368 + 8 * x + 2)).toNat)]) (rest := []) dX5_goOn_18 ml_X5_128 okX2_pathAt imX2_pathAt seX2_pathAt ⟨(Nat.le_of_ble_eq_true rfl), (Nat.le_of_ble_eq_true rfl)⟩ (ci := 2) rfl rfl (c.1.2.2.2.2.2.2.2.2.2 f f6).2.1 rfl rfl (Nat.le_of_ble_eq_true rfl) (c_pathIn c hf f6 (by omega) F2.1) ?_
    rintro _ q4 ⟨rfl, eq4⟩
    subst q4
    show zG l w mX5_goOn 21 [(0, .ref b), (1, .ref (π x)), (2, .ref (b + 53 + 2 * f))] [.int (nI (hopN N f (nA N (368 + 8 * x + 2)).toNat))] h _
    have ha : (hopN N f (nA N (368 + 8 * x + 2)).toNat : Int) < nA N 0 := by unfold hopN; omega
    have eg : goN N x = comeN N x (hopN N f (nA N (368 + 8 * x + 2)).toNat) := by unfold goN; rw [ef, if_neg g]
    rw [eg]
    generalize hopN N f (nA N (368 + 8 * x + 2)).toNat = a at ha ⊢
    have a6 : a < 6 := by omega
    have L := hI.L a ha
    have Lr := L.2.1
    have Lf := (L.2.2.2.2 f f6).1
    refine g_istore_n (lv2 := [(3, .int (nI a)), (0, .ref b), (1, .ref (π x)), (2, .ref (b + 53 + 2 * f))]) dX5_goOn_21 rfl (by decide) rfl ?_
    refine g_aload_n 1 dX5_goOn_22 rfl rfl ?_
    refine g_iload_n 0 dX5_goOn_23 rfl rfl ?_
    refine g_invv (M' := mX5_linkAt) (As := [.int (nI a)]) (rest := []) dX5_goOn_24 ml_X5_132 okX5_linkAt imX5_linkAt seX5_linkAt ⟨(Nat.le_of_ble_eq_true rfl), (Nat.le_of_ble_eq_true rfl)⟩ (ci := 5) rfl rfl c.1.1.2 rfl rfl (Nat.le_of_ble_eq_true rfl) (c_linkIn c H0 ha) ?_
    rintro _ q5 ⟨rfl, eq5⟩
    subst q5
    show zG l w mX5_goOn 27 [(3, .int (nI a)), (0, .ref b), (1, .ref (π x)), (2, .ref (b + 53 + 2 * f))] [.ref (b + 11 + 7 * a)] h _
    refine g_astore (lv2 := [(4, .ref (b + 11 + 7 * a)), (3, .int (nI a)), (0, .ref b), (1, .ref (π x)), (2, .ref (b + 53 + 2 * f))]) dX5_goOn_27 (by decide) rfl ?_
    refine g_aload 0 dX5_goOn_29 rfl ?_
    refine g_ifnonnull (tgt := 43) dX5_goOn_31 (by decide) ?_
    refine g_aload 0 dX5_goOn_43 rfl ?_
    refine g_aload_n 3 dX5_goOn_45 rfl rfl ?_
    refine g_geti (f := 192) dX5_goOn_46 fl_X5_172 (c.2.2.2.2.2.1.1 x hx).2.2 (by decide) rfl ?_
    rw [show zi h 192 (π x) = nI f from (by rw [(c.2.2.2.2.2.1.1 x hx).1.1, hfl, Int.add_sub_cancel, jI_nat])]
    refine g_invv (M' := mX4_letsIn) (As := [.int (nI f)]) (rest := []) dX5_goOn_49 ml_X5_214 okX4_letsIn imX4_letsIn seX4_letsIn ⟨(Nat.le_of_ble_eq_true rfl), (Nat.le_of_ble_eq_true rfl)⟩ (ci := 4) rfl rfl (c.1.2.2.2.2.2.2.2.2.1 a a6).2.1 rfl rfl (Nat.le_of_ble_eq_true rfl) (c_letsIn c ha a6 hB f6 L.2.2.2.1.1 (by have q := L.1.2.2.1; omega) Lr.1 (by omega) L.2.2.2.1.2.2) ?_
    rintro _ q6 ⟨rfl, eq6⟩
    subst q6
    show zG l w mX5_goOn 52 [(4, .ref (b + 11 + 7 * a)), (3, .int (nI a)), (0, .ref b), (1, .ref (π x)), (2, .ref (b + 53 + 2 * f))] [.int (bI (!shutN N f a))] h _
    refine g_bif_eq (tgt := 64) dX5_goOn_52 (by decide) (fun k => ?_) (fun k => ?_)
    · have k' : shutN N f a = true := by cases q : shutN N f a; rw [q] at k; exact absurd k (by decide); rfl
      refine g_aload_n 3 dX5_goOn_64 rfl rfl ?_
      refine g_iconst (v := nI 1) dX5_goOn_65 (by decide) ?_
      refine zG.top (show nI 1 = jI 1 by decide) ?_
      refine g_putz (f := 200) dX5_goOn_66 fl_X5_221 (Or.inl rfl) (c.2.2.2.2.2.1.1 x hx).2.2 rfl (by decide) ?_
      have cx0 : CX (zSi h 200 (π x) (jI 1)) b π ls (uA N (368 + 8 * x + 7) 1) [x] t ∧ CSt b ls h ls (zSi h 200 (π x) (jI 1)) := c.setLost hx hn
      generalize zSi h 200 (π x) (jI 1) = y0 at cx0 ⊢
      refine g_aload_n 2 dX5_goOn_69 rfl rfl ?_
      refine g_dup dX5_goOn_70 rfl ?_
      refine g_geti (f := 170) dX5_goOn_71 fl_X5_62 cx0.1.1.1.2 (by decide) rfl ?_
      rw [show zi y0 170 b = jI (nA (uA N (368 + 8 * x + 7) 1) 6) from cx0.1.2.2.1.2.2.2.1]
      rw [show nA (uA N (368 + 8 * x + 7) 1) 6 = nA N 6 by rw [nA_ne (by omega)]]
      refine g_iconst (v := nI 1) dX5_goOn_74 (by decide) ?_
      refine g_iadd dX5_goOn_75 ?_
      refine zG.top (show (jI (nA N 6)) + (nI 1) = jI ((nA N 6) + 1) by rw [show nI 1 = jI 1 from (by decide), jI_add]) ?_
      refine g_puti (f := 170) dX5_goOn_76 fl_X5_62 (Or.inl rfl) cx0.1.1.1.2 rfl ?_
      have cx8 : CX (zSi y0 170 b (jI ((nA N 6) + 1))) b π ls (uA (uA N (368 + 8 * x + 7) 1) 6 ((nA N 6) + 1)) [x] t ∧ CSt b ls y0 ls (zSi y0 170 b (jI ((nA N 6) + 1))) := cx0.1.setLoss
      generalize zSi y0 170 b (jI ((nA N 6) + 1)) = y8 at cx8 ⊢
      refine g_aload_n 2 dX5_goOn_79 rfl rfl ?_
      refine g_getr (f := 168) (b := b + 5) dX5_goOn_80 fl_X5_36 cx8.1.1.1.2 rfl cx8.1.1.2.2.2.2.2.1.1 ?_
      refine g_iconst (v := nI 0) dX5_goOn_83 (by decide) ?_
      refine g_aload_n 2 dX5_goOn_84 rfl rfl ?_
      refine g_geti (f := 164) dX5_goOn_85 fl_X5_56 cx8.1.1.1.2 (by decide) rfl ?_
      rw [show zi y8 164 b = jI (nA (uA (uA N (368 + 8 * x + 7) 1) 6 ((nA N 6) + 1)) 2) from cx8.1.2.2.1.2.2.1]
      rw [show nA (uA (uA N (368 + 8 * x + 7) 1) 6 ((nA N 6) + 1)) 2 = nA N 2 by rw [nA_ne (by omega), nA_ne (by omega)]]
      refine g_iload_n 1 dX5_goOn_88 rfl rfl ?_
      refine g_aload_n 3 dX5_goOn_89 rfl rfl ?_
      refine g_geti (f := 192) dX5_goOn_90 fl_X5_172 (cx8.1.2.2.2.2.2.1.1 x (liv_mk hx.1 (by rw [nA_ne (by omega), nA_ne (by omega)]; exact hx.2))).2.2 (by decide) rfl ?_
      rw [show zi y8 192 (π x) = nI f from (by rw [(cx8.1.2.2.2.2.2.1.1 x (liv_mk hx.1 (by rw [nA_ne (by omega), nA_ne (by omega)]; exact hx.2))).1.1, nA_ne (by omega), nA_ne (by omega), hfl, Int.add_sub_cancel, jI_nat])]
      have e2 : nA (uA (uA N (368 + 8 * x + 7) 1) 6 ((nA N 6) + 1)) 2 = nA N 2 := by rw [nA_ne (by omega), nA_ne (by omega)]
      refine g_invv (M' := mX1_add) (As := [.int (nI 0), .int (jI (nA N 2)), .int (nI a), .int (nI f)]) (rest := []) dX5_goOn_93 ml_X5_187 okX1_add imX1_add seX1_add ⟨(Nat.le_of_ble_eq_true rfl), (Nat.le_of_ble_eq_true rfl)⟩ (ci := 1) rfl rfl cx8.1.1.2.2.2.2.2.1.2 rfl rfl (Nat.le_of_ble_eq_true rfl) (by have q := c_evN (l := l) (w := w) cx8.1 (k := 0) (q := a) (f := f) hE; rw [e2] at q; exact q) ?_
      rintro _ y9 ⟨rfl, cx9, sx9⟩
      show zG l w mX5_goOn 96 [(4, .ref (b + 11 + 7 * a)), (3, .int (nI a)), (0, .ref b), (1, .ref (π x)), (2, .ref (b + 53 + 2 * f))] [] y9 _
      refine g_aload_n 2 dX5_goOn_96 rfl rfl ?_
      refine g_aload_n 3 dX5_goOn_97 rfl rfl ?_
      refine g_aload_n 4 dX5_goOn_98 rfl rfl ?_
      have bk : backN (evN (uA (uA N (368 + 8 * x + 7) 1) 6 ((nA N 6) + 1)) ((0 : Nat) : Int) a f) f = backN N f := (backN_same (N := N) (by rw [nA_ev, nA_ne (by omega), nA_ne (by omega)]) (fun i hi => by rw [nA_ev, nA_ne (by omega), nA_ne (by omega)]) (fun i hi => by have q := F.2.1 i hi; unfold hopN; omega) (fun k hk => by rw [nA_ev, nA_ne (by omega), nA_ne (by omega)])).1
      refine g_invv (M' := mX5_sendBack) (As := [.ref (π x), .ref (b + 53 + 2 * f)]) (rest := []) dX5_goOn_99 ml_X5_211 okX5_sendBack imX5_sendBack seX5_sendBack ⟨(Nat.le_of_ble_eq_true rfl), (Nat.le_of_ble_eq_true rfl)⟩ (ci := 5) rfl rfl cx9.1.1.2 rfl rfl (Nat.le_of_ble_eq_true rfl) (c_sendBack cx9 (liv_mk hx.1 (by rw [nA_ev, nA_ne (by omega), nA_ne (by omega)]; exact hx.2)) (by rw [nA_ev, nA_ne (by omega), nA_ne (by omega)]; exact hfl) f6 (by rw [nA_ev, nA_ne (by omega), nA_ne (by omega)]; exact hf) hn (by rw [bk, nA_ev, nA_ne (by omega), nA_ne (by omega)]; have q := (hI.pa hf).2.2; have q2 := hI.H.2.2.1; omega)) ?_
      rintro _ y10 ⟨rfl, ls10, cx10, sx10⟩
      show zG l w mX5_goOn 102 [(4, .ref (b + 11 + 7 * a)), (3, .int (nI a)), (0, .ref b), (1, .ref (π x)), (2, .ref (b + 53 + 2 * f))] [] y10 _
      refine g_return dX5_goOn_102 rfl ?_
      refine ⟨rfl, _, ?_, (((cx0.2.tr cx8.2).tr sx9).tr sx10)⟩
      have e := cx10
      rw [show sbN (evN (uA (uA N (368 + 8 * x + 7) 1) 6 ((nA N 6) + 1)) ((0 : Nat) : Int) a f) x f = sbN (evN (uA (uA N (368 + 8 * x + 7) 1) 6 (nA N 6 + 1)) 0 a f) x f from rfl, sb_lost ef f6 (fun i hi => by have q := F.2.1 i hi; unfold hopN; omega) F1.2] at e
      rw [comeN_in, ef, k', if_pos rfl]
      exact e
    · have k' : shutN N f a = false := by cases q : shutN N f a; rfl; rw [q] at k; exact absurd k (by decide)
      refine g_aload 0 dX5_goOn_55 rfl ?_
      refine g_aload_n 3 dX5_goOn_57 rfl rfl ?_
      refine g_invv (M' := mX4_takeIn) (As := [.ref (π x)]) (rest := []) dX5_goOn_58 ml_X5_218 okX4_takeIn imX4_takeIn seX4_takeIn ⟨(Nat.le_of_ble_eq_true rfl), (Nat.le_of_ble_eq_true rfl)⟩ (ci := 4) rfl rfl (c.1.2.2.2.2.2.2.2.2.1 a a6).2.1 rfl rfl (Nat.le_of_ble_eq_true rfl) (c_takeIn c hx hfl f6 ha a6 hh h7 Lf.1) ?_
      rintro _ y7 ⟨rfl, ls7, cx7, sx7⟩
      show zG l w mX5_goOn 61 [(4, .ref (b + 11 + 7 * a)), (3, .int (nI a)), (0, .ref b), (1, .ref (π x)), (2, .ref (b + 53 + 2 * f))] [] y7 _
      refine g_goto (tgt := 102) dX5_goOn_61 (by decide) ?_
      refine g_return dX5_goOn_102 rfl ?_
      refine ⟨rfl, _, ?_, (CSt.rf.tr sx7)⟩
      rw [comeN_in, ef, k', if_neg (by decide)]
      exact cx7
end CY6
