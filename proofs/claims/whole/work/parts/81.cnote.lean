theorem jI_div {a b : Int} (ha : 0 ≤ a ∧ a < 2 ^ 31) (hb : 0 < b ∧ b < 2 ^ 31) : jI a / jI b = jI (a / b) := by
  have h0 : 0 ≤ a / b := Int.ediv_nonneg ha.1 (Int.le_of_lt hb.1)
  have h1 : a / b ≤ a := Int.ediv_le_self b ha.1
  apply Int32.toInt_inj.mp
  rw [Int32.toInt_div_of_ne_right _ _ (fun q => ?_), jI_toInt (by omega) (by omega), jI_toInt (by omega) (by omega), jI_toInt (by omega) (by omega), Int.tdiv_eq_ediv_of_nonneg ha.1]
  have := congrArg Int32.toInt q
  rw [jI_toInt (by omega) (by omega)] at this
  have e : (-1 : Int32).toInt = -1 := by decide
  omega
theorem jI_ne0 {b : Int} (hb : 0 < b ∧ b < 2 ^ 31) : ¬ jI b = 0 := fun q => by
  have := congrArg Int32.toInt q
  rw [jI_toInt (by omega) (by omega)] at this
  have e : (0 : Int32).toInt = 0 := by decide
  omega
theorem liv_mk {N : nT} {x : Nat} (h1 : x < 480) (h2 : 0 < nA N (368 + 8 * x + 0)) : liv N x := ⟨h1, h2⟩
theorem uA_same {N : nT} {k : Nat} {y z : Int} : uA (uA N k y) k z = uA N k z := by
  unfold uA
  congr 1
  funext j
  show (if j = k then z else if j = k then y else N.1 j) = if j = k then z else N.1 j
  by_cases c : j = k
  · rw [if_pos c, if_pos c]
  · rw [if_neg c, if_neg c, if_neg c]
theorem uA_swap {N : nT} {k j : Nat} {y z : Int} (e : k ≠ j) : uA (uA N k y) j z = uA (uA N j z) k y := by
  unfold uA
  congr 1
  funext i
  show (if i = j then z else if i = k then y else N.1 i) = if i = k then y else if i = j then z else N.1 i
  by_cases c : i = j
  · rw [if_pos c, if_neg (by omega), if_pos c]
  · rw [if_neg c]
    by_cases d : i = k
    · rw [if_pos d, if_pos d]
    · rw [if_neg d, if_neg d, if_neg c]
theorem evN_uA {N : nT} {k : Nat} {y a b c : Int} (e : k ≠ 2) : evN (uA N k y) a b c = uA (evN N a b c) k y := by
  unfold evN
  rw [nA_ne (by omega)]
  rfl
/-- what the flow notes as p comes back -/
def dN (N : nT) (f p : Nat) : Int := if nA N 7 = 1 then 10000 / nA N (248 + 20 * f + 5) else nA N (368 + 8 * p + 5)
def noteN (N : nT) (f p : Nat) : nT :=
  if nA N (368 + 8 * p + 7) = 1 then uA (uA (uA (uA (uA N (248 + 20 * f + 6) (nA N (248 + 20 * f + 6) - 1)) (248 + 20 * f + 7) (nA N 2 - nA N (368 + 8 * p + 1))) (248 + 20 * f + 10) (nA N (248 + 20 * f + 10) + 1)) (248 + 20 * f + 1) (min (nA N (248 + 20 * f + 1) + 1) 9999)) (248 + 20 * f + 5) (max 100 (min (nA N (248 + 20 * f + 5) / 2) 4000))
  else uA (uA (uA (uA N (248 + 20 * f + 6) (nA N (248 + 20 * f + 6) - 1)) (248 + 20 * f + 7) (nA N 2 - nA N (368 + 8 * p + 1))) (248 + 20 * f + 9) (nA N (248 + 20 * f + 9) + 1)) (248 + 20 * f + 5) (max 100 (min (nA N (248 + 20 * f + 5) + (if nA N 7 = 1 then 10000 / nA N (248 + 20 * f + 5) else if nA N (248 + 20 * f + 2) = 1 then max 0 (nA N (368 + 8 * p + 5)) else nA N (368 + 8 * p + 5))) 4000))
theorem retN_note {N : nT} {p : Nat} (f6 : flN N p < 6) (h5 : 0 ≤ nA N (248 + 20 * (flN N p) + 5)) : retN N p = uA (if ¬ nA N (368 + 8 * p + 7) = 1 ∧ nA N (248 + 20 * (flN N p) + 1) = 0 ∧ nA N (248 + 20 * (flN N p) + 6) - 1 = 0 then evN (noteN N (flN N p) p) 4 (-1) (flN N p) else noteN N (flN N p) p) (368 + 8 * p + 0) 0 := by
  unfold retN noteN
  simp only []
  by_cases c : nA N (368 + 8 * p + 7) = 1
  · rw [if_pos c, if_pos c, if_neg (fun q => q.1 c), Int.min_comm 9999, Int.min_comm 4000]
  · rw [if_neg c, if_neg c]
    have e : (if nA N (248 + 20 * (flN N p) + 2) = 1 ∧ (if nA N 7 = 1 then 10000 / nA N (248 + 20 * (flN N p) + 5) else nA N (368 + 8 * p + 5)) < 0 then 0 else (if nA N 7 = 1 then 10000 / nA N (248 + 20 * (flN N p) + 5) else nA N (368 + 8 * p + 5))) = (if nA N 7 = 1 then 10000 / nA N (248 + 20 * (flN N p) + 5) else if nA N (248 + 20 * (flN N p) + 2) = 1 then max 0 (nA N (368 + 8 * p + 5)) else nA N (368 + 8 * p + 5)) := by
      by_cases d : nA N 7 = 1
      · simp only [if_pos d]
        have : 0 ≤ 10000 / nA N (248 + 20 * (flN N p) + 5) := Int.ediv_nonneg (by omega) h5
        rw [if_neg (by omega)]
      · simp only [if_neg d]
        by_cases g : nA N (248 + 20 * (flN N p) + 2) = 1
        · rw [if_pos g]
          by_cases z : nA N (368 + 8 * p + 5) < 0
          · rw [if_pos ⟨g, z⟩]; omega
          · rw [if_neg (fun q => z q.2)]; omega
        · rw [if_neg (fun q => g q.1), if_neg g]
    rw [e, Int.min_comm 4000]
    generalize (if nA N 7 = 1 then 10000 / nA N (248 + 20 * (flN N p) + 5) else if nA N (248 + 20 * (flN N p) + 2) = 1 then max 0 (nA N (368 + 8 * p + 5)) else nA N (368 + 8 * p + 5)) = D
    by_cases g : nA N (248 + 20 * (flN N p) + 1) = 0 ∧ nA N (248 + 20 * (flN N p) + 6) - 1 = 0
    · rw [if_pos g, if_pos ⟨c, g⟩, evN_uA (k := 248 + 20 * (flN N p) + 5) (by omega)]
    · rw [if_neg g, if_neg (fun q => g q.2)]
section CY2
variable {l : Launch} {w : zW} {h : zH} {b : Nat} {π : Nat → Nat} {ls : Nat → List Nat} {N : nT} {X : List Nat} {t : Nat}
def sentN (N : nT) (f : Nat) : nT := (uA (uA (uA N (248 + 20 * f + 1) ((nA N (248 + 20 * f + 1)) - 1)) (248 + 20 * f + 8) ((nA N (248 + 20 * f + 8)) + 1)) (248 + 20 * f + 6) ((nA N (248 + 20 * f + 6)) + 1))
theorem c_noteSent (c : CX h b π ls N X t) {f : Nat} (hf : (f : Int) < nA N 1) (f6 : f < 6) : zM l w mX2_noteSent [.ref (b + 53 + 2 * f)] h (fun v h1 => v = none ∧ CX h1 b π ls (sentN N f) X t ∧ CSt b ls h ls h1) := by
  refine zM.of (by decide) (Nat.le_of_ble_eq_true rfl) ?_
  refine g_aload_n 0 dX2_noteSent_0 rfl rfl ?_
  refine g_dup dX2_noteSent_1 rfl ?_
  refine g_geti (f := 66) dX2_noteSent_2 fl_X2_19 (c.1.2.2.2.2.2.2.2.2.2 f f6).2.1 (by decide) rfl ?_
  rw [show zi h 66 (b + 53 + 2 * f) = jI (nA N (248 + 20 * f + 1)) from (c.2.2.2.2.1 f hf f6).1 1 (by omega) (by omega)]
  refine g_iconst (v := nI 1) dX2_noteSent_5 (by decide) ?_
  refine g_isub dX2_noteSent_6 ?_
  refine zG.top (show (jI (nA N (248 + 20 * f + 1))) - (nI 1) = jI ((nA N (248 + 20 * f + 1)) - 1) by rw [show nI 1 = jI 1 from (by decide), jI_sub]) ?_
  refine g_puti (f := 66) dX2_noteSent_7 fl_X2_19 (Or.inl rfl) (c.1.2.2.2.2.2.2.2.2.2 f f6).2.1 rfl ?_
  have cx1 : CX (zSi h 66 (b + 53 + 2 * f) (jI ((nA N (248 + 20 * f + 1)) - 1))) b π ls (uA N (248 + 20 * f + 1) ((nA N (248 + 20 * f + 1)) - 1)) X t ∧ CSt b ls h ls (zSi h 66 (b + 53 + 2 * f) (jI ((nA N (248 + 20 * f + 1)) - 1))) := c.setF (j := 1) f6 (by omega) (by omega) (by omega)
  generalize zSi h 66 (b + 53 + 2 * f) (jI ((nA N (248 + 20 * f + 1)) - 1)) = y1 at cx1 ⊢
  refine g_aload_n 0 dX2_noteSent_10 rfl rfl ?_
  refine g_dup dX2_noteSent_11 rfl ?_
  refine g_geti (f := 73) dX2_noteSent_12 fl_X2_41 (cx1.1.1.2.2.2.2.2.2.2.2.2 f f6).2.1 (by decide) rfl ?_
  rw [show zi y1 73 (b + 53 + 2 * f) = jI (nA (uA N (248 + 20 * f + 1) ((nA N (248 + 20 * f + 1)) - 1)) (248 + 20 * f + 8)) from (cx1.1.2.2.2.2.1 f (by rw [nA_ne (by omega)]; exact hf) f6).1 8 (by omega) (by omega)]
  rw [show nA (uA N (248 + 20 * f + 1) ((nA N (248 + 20 * f + 1)) - 1)) (248 + 20 * f + 8) = nA N (248 + 20 * f + 8) by rw [nA_ne (by omega)]]
  refine g_iconst (v := nI 1) dX2_noteSent_15 (by decide) ?_
  refine g_iadd dX2_noteSent_16 ?_
  refine zG.top (show (jI (nA N (248 + 20 * f + 8))) + (nI 1) = jI ((nA N (248 + 20 * f + 8)) + 1) by rw [show nI 1 = jI 1 from (by decide), jI_add]) ?_
  refine g_puti (f := 73) dX2_noteSent_17 fl_X2_41 (Or.inl rfl) (cx1.1.1.2.2.2.2.2.2.2.2.2 f f6).2.1 rfl ?_
  have cx2 : CX (zSi y1 73 (b + 53 + 2 * f) (jI ((nA N (248 + 20 * f + 8)) + 1))) b π ls (uA (uA N (248 + 20 * f + 1) ((nA N (248 + 20 * f + 1)) - 1)) (248 + 20 * f + 8) ((nA N (248 + 20 * f + 8)) + 1)) X t ∧ CSt b ls y1 ls (zSi y1 73 (b + 53 + 2 * f) (jI ((nA N (248 + 20 * f + 8)) + 1))) := cx1.1.setF (j := 8) f6 (by omega) (by omega) (by omega)
  generalize zSi y1 73 (b + 53 + 2 * f) (jI ((nA N (248 + 20 * f + 8)) + 1)) = y2 at cx2 ⊢
  refine g_aload_n 0 dX2_noteSent_20 rfl rfl ?_
  refine g_dup dX2_noteSent_21 rfl ?_
  refine g_geti (f := 71) dX2_noteSent_22 fl_X2_35 (cx2.1.1.2.2.2.2.2.2.2.2.2 f f6).2.1 (by decide) rfl ?_
  rw [show zi y2 71 (b + 53 + 2 * f) = jI (nA (uA (uA N (248 + 20 * f + 1) ((nA N (248 + 20 * f + 1)) - 1)) (248 + 20 * f + 8) ((nA N (248 + 20 * f + 8)) + 1)) (248 + 20 * f + 6)) from (cx2.1.2.2.2.2.1 f (by rw [nA_ne (by omega), nA_ne (by omega)]; exact hf) f6).1 6 (by omega) (by omega)]
  rw [show nA (uA (uA N (248 + 20 * f + 1) ((nA N (248 + 20 * f + 1)) - 1)) (248 + 20 * f + 8) ((nA N (248 + 20 * f + 8)) + 1)) (248 + 20 * f + 6) = nA N (248 + 20 * f + 6) by rw [nA_ne (by omega), nA_ne (by omega)]]
  refine g_iconst (v := nI 1) dX2_noteSent_25 (by decide) ?_
  refine g_iadd dX2_noteSent_26 ?_
  refine zG.top (show (jI (nA N (248 + 20 * f + 6))) + (nI 1) = jI ((nA N (248 + 20 * f + 6)) + 1) by rw [show nI 1 = jI 1 from (by decide), jI_add]) ?_
  refine g_puti (f := 71) dX2_noteSent_27 fl_X2_35 (Or.inl rfl) (cx2.1.1.2.2.2.2.2.2.2.2.2 f f6).2.1 rfl ?_
  have cx3 : CX (zSi y2 71 (b + 53 + 2 * f) (jI ((nA N (248 + 20 * f + 6)) + 1))) b π ls (uA (uA (uA N (248 + 20 * f + 1) ((nA N (248 + 20 * f + 1)) - 1)) (248 + 20 * f + 8) ((nA N (248 + 20 * f + 8)) + 1)) (248 + 20 * f + 6) ((nA N (248 + 20 * f + 6)) + 1)) X t ∧ CSt b ls y2 ls (zSi y2 71 (b + 53 + 2 * f) (jI ((nA N (248 + 20 * f + 6)) + 1))) := cx2.1.setF (j := 6) f6 (by omega) (by omega) (by omega)
  generalize zSi y2 71 (b + 53 + 2 * f) (jI ((nA N (248 + 20 * f + 6)) + 1)) = y3 at cx3 ⊢
  refine g_return dX2_noteSent_30 rfl ?_
  exact ⟨rfl, cx3.1, (((CSt.rf.tr cx1.2).tr cx2.2).tr cx3.2)⟩
theorem zG.sub2 {M : zMe} {pc : Nat} {lv : List (Nat × Value)} {rest : List Value} {Q : Option Value → zH → Prop} {v : Value} {x y : Int32} (e : x = y) (k : zG l w M pc lv (v :: .int y :: rest) h Q) : zG l w M pc lv (v :: .int x :: rest) h Q := e ▸ k
theorem c_gain (c : CX h b π ls N X t) {f : Nat} (hf : (f : Int) < nA N 1) (f6 : f < 6) {z y : Int} (hz : -2147483648 ≤ z ∧ z < 2147483648) (hy : y = 0 ∨ y = 1) (h5 : 100 ≤ nA N (248 + 20 * f + 5) ∧ nA N (248 + 20 * f + 5) ≤ 4000) (h2 : 0 ≤ nA N (248 + 20 * f + 2) ∧ nA N (248 + 20 * f + 2) ≤ 3) : zM l w mX2_gain [.ref (b + 53 + 2 * f), .int (jI z), .int (jI y)] h (fun v h1 => v = some (.int (jI (if y = 1 then 10000 / nA N (248 + 20 * f + 5) else if nA N (248 + 20 * f + 2) = 1 then max 0 z else z))) ∧ h1 = h) := by
  refine zM.of (by decide) (Nat.le_of_ble_eq_true rfl) ?_
  refine g_iload_n 2 dX2_gain_0 rfl rfl ?_
  refine g_zif_eq (a := y) (tgt := 24) rfl dX2_gain_1 (by decide) (by omega) (fun q => ?_) (fun q => ?_)
  · refine g_aload_n 0 dX2_gain_24 rfl rfl ?_
    refine g_geti (f := 67) dX2_gain_25 fl_X2_22 (c.1.2.2.2.2.2.2.2.2.2 f f6).2.1 (by decide) rfl ?_
    rw [show zi h 67 (b + 53 + 2 * f) = jI (nA N (248 + 20 * f + 2)) from (c.2.2.2.2.1 f hf f6).1 2 (by omega) (by omega)]
    refine g_iconst (v := nI 1) dX2_gain_28 (by decide) ?_
    refine g_zcmp_ne (a := (nA N (248 + 20 * f + 2))) (b := 1) (tgt := 40) rfl (by decide) dX2_gain_29 (by decide) (by omega) (by omega) (fun q2 => ?_) (fun q2 => ?_)
    · refine g_iload_n 1 dX2_gain_40 rfl rfl ?_
      refine g_ireturn dX2_gain_41 rfl ?_
      exact ⟨by rw [if_neg (by omega), if_neg q2], rfl⟩
    · refine g_iconst (v := nI 0) dX2_gain_32 (by decide) ?_
      refine g_iload_n 1 dX2_gain_33 rfl rfl ?_
      refine zG.sub2 (show nI 0 = jI 0 by decide) ?_
      refine g_invs (M' := mJ9_max_7cf53) (As := [.int (jI 0), .int (jI z)]) (rest := []) dX2_gain_34 ml_X2_84 okJ9_max_7cf53 stJ9_max_7cf53 ⟨(Nat.le_of_ble_eq_true rfl), (Nat.le_of_ble_eq_true rfl)⟩ rfl rfl (Nat.le_of_ble_eq_true rfl) (c_maxI (by omega) (by omega)) ?_
      rintro _ q1 ⟨rfl, eq1⟩
      subst q1
      show zG l w mX2_gain 37 [(0, .ref (b + 53 + 2 * f)), (1, .int (jI z)), (2, .int (jI y))] [.int (jI (max 0 z))] h _
      refine g_goto (tgt := 41) dX2_gain_37 (by decide) ?_
      refine g_ireturn dX2_gain_41 rfl ?_
      exact ⟨by rw [if_neg (by omega), if_pos q2], rfl⟩
  · refine g_aload_n 0 dX2_gain_4 rfl rfl ?_
    refine g_geti (f := 70) dX2_gain_5 fl_X2_32 (c.1.2.2.2.2.2.2.2.2.2 f f6).2.1 (by decide) rfl ?_
    rw [show zi h 70 (b + 53 + 2 * f) = jI (nA N (248 + 20 * f + 5)) from (c.2.2.2.2.1 f hf f6).1 5 (by omega) (by omega)]
    refine g_zif_le (a := (nA N (248 + 20 * f + 5))) (tgt := 22) rfl dX2_gain_8 (by decide) (by omega) (fun q3 => ?_) (fun q3 => ?_)
    · exact absurd q3 (by omega)
    · refine g_sipush (v := nI 10000) dX2_gain_11 (by decide) ?_
      refine g_aload_n 0 dX2_gain_14 rfl rfl ?_
      refine g_geti (f := 70) dX2_gain_15 fl_X2_32 (c.1.2.2.2.2.2.2.2.2.2 f f6).2.1 (by decide) rfl ?_
      rw [show zi h 70 (b + 53 + 2 * f) = jI (nA N (248 + 20 * f + 5)) from (c.2.2.2.2.1 f hf f6).1 5 (by omega) (by omega)]
      refine g_idiv dX2_gain_18 (jI_ne0 (by omega)) ?_
      refine zG.top (show nI 10000 / jI (nA N (248 + 20 * f + 5)) = jI (10000 / nA N (248 + 20 * f + 5)) by rw [show nI 10000 = jI 10000 by decide, jI_div (by omega) (by omega)]) ?_
      refine g_goto (tgt := 23) dX2_gain_19 (by decide) ?_
      refine g_ireturn dX2_gain_23 rfl ?_
      exact ⟨by rw [if_pos (by omega)], rfl⟩
theorem c_noteReturn (c : CX h b π ls N X t) {f : Nat} (hf : (f : Int) < nA N 1) (f6 : f < 6) {x : Nat} (hx : liv N x) (hF : iF N f) (hP : iP N x) (hb : nA N 7 = 0 ∨ nA N 7 = 1) : zM l w mX2_noteReturn [.ref (b + 53 + 2 * f), .ref (π x), .int (jI (nA N 2)), .int (jI (nA N 7))] h (fun v h1 => v = none ∧ CX h1 b π ls (noteN N f x) X t ∧ CSt b ls h ls h1) := by
  refine zM.of (by decide) (Nat.le_of_ble_eq_true rfl) ?_
  have x480 := hx.1
  have P7 := hP.2.2.2.2.2.2
  have P5 := hP.2.2.2.2.2.1
  have F1 := hF.2.2.1
  have F2 := hF.2.2.2.1
  have F5 := hF.2.2.2.2.2.1
  refine g_aload_n 0 dX2_noteReturn_0 rfl rfl ?_
  refine g_dup dX2_noteReturn_1 rfl ?_
  refine g_geti (f := 71) dX2_noteReturn_2 fl_X2_35 (c.1.2.2.2.2.2.2.2.2.2 f f6).2.1 (by decide) rfl ?_
  rw [show zi h 71 (b + 53 + 2 * f) = jI (nA N (248 + 20 * f + 6)) from (c.2.2.2.2.1 f hf f6).1 6 (by omega) (by omega)]
  refine g_iconst (v := nI 1) dX2_noteReturn_5 (by decide) ?_
  refine g_isub dX2_noteReturn_6 ?_
  refine zG.top (show (jI (nA N (248 + 20 * f + 6))) - (nI 1) = jI ((nA N (248 + 20 * f + 6)) - 1) by rw [show nI 1 = jI 1 from (by decide), jI_sub]) ?_
  refine g_puti (f := 71) dX2_noteReturn_7 fl_X2_35 (Or.inl rfl) (c.1.2.2.2.2.2.2.2.2.2 f f6).2.1 rfl ?_
  have cx1 : CX (zSi h 71 (b + 53 + 2 * f) (jI ((nA N (248 + 20 * f + 6)) - 1))) b π ls (uA N (248 + 20 * f + 6) ((nA N (248 + 20 * f + 6)) - 1)) X t ∧ CSt b ls h ls (zSi h 71 (b + 53 + 2 * f) (jI ((nA N (248 + 20 * f + 6)) - 1))) := c.setF (j := 6) f6 (by omega) (by omega) (by omega)
  generalize zSi h 71 (b + 53 + 2 * f) (jI ((nA N (248 + 20 * f + 6)) - 1)) = y1 at cx1 ⊢
  refine g_aload_n 0 dX2_noteReturn_10 rfl rfl ?_
  refine g_iload_n 2 dX2_noteReturn_11 rfl rfl ?_
  refine g_aload_n 1 dX2_noteReturn_12 rfl rfl ?_
  refine g_geti (f := 193) dX2_noteReturn_13 fl_X2_64 (cx1.1.2.2.2.2.2.1.1 x (liv_mk hx.1 (by rw [nA_ne (by omega)]; exact hx.2))).2.2 (by decide) rfl ?_
  rw [show zi y1 193 (π x) = jI (nA (uA N (248 + 20 * f + 6) ((nA N (248 + 20 * f + 6)) - 1)) (368 + 8 * x + 1)) from (cx1.1.2.2.2.2.2.1.1 x (liv_mk hx.1 (by rw [nA_ne (by omega)]; exact hx.2))).1.2.1]
  rw [show nA (uA N (248 + 20 * f + 6) ((nA N (248 + 20 * f + 6)) - 1)) (368 + 8 * x + 1) = nA N (368 + 8 * x + 1) by rw [nA_ne (by omega)]]
  refine g_isub dX2_noteReturn_16 ?_
  refine zG.top (show (jI (nA N 2)) - (jI (nA N (368 + 8 * x + 1))) = jI ((nA N 2) - (nA N (368 + 8 * x + 1))) by rw [jI_sub]) ?_
  refine g_puti (f := 72) dX2_noteReturn_17 fl_X2_38 (Or.inl rfl) (cx1.1.1.2.2.2.2.2.2.2.2.2 f f6).2.1 rfl ?_
  have cx2 : CX (zSi y1 72 (b + 53 + 2 * f) (jI ((nA N 2) - (nA N (368 + 8 * x + 1))))) b π ls (uA (uA N (248 + 20 * f + 6) ((nA N (248 + 20 * f + 6)) - 1)) (248 + 20 * f + 7) ((nA N 2) - (nA N (368 + 8 * x + 1)))) X t ∧ CSt b ls y1 ls (zSi y1 72 (b + 53 + 2 * f) (jI ((nA N 2) - (nA N (368 + 8 * x + 1))))) := cx1.1.setF (j := 7) f6 (by omega) (by omega) (by omega)
  generalize zSi y1 72 (b + 53 + 2 * f) (jI ((nA N 2) - (nA N (368 + 8 * x + 1)))) = y2 at cx2 ⊢
  refine g_aload_n 1 dX2_noteReturn_20 rfl rfl ?_
  refine g_geti (f := 200) dX2_noteReturn_21 fl_X2_69 (cx2.1.2.2.2.2.2.1.1 x (liv_mk hx.1 (by rw [nA_ne (by omega), nA_ne (by omega)]; exact hx.2))).2.2 (by decide) rfl ?_
  rw [show zi y2 200 (π x) = jI (nA (uA (uA N (248 + 20 * f + 6) ((nA N (248 + 20 * f + 6)) - 1)) (248 + 20 * f + 7) ((nA N 2) - (nA N (368 + 8 * x + 1)))) (368 + 8 * x + 7)) from (cx2.1.2.2.2.2.2.1.1 x (liv_mk hx.1 (by rw [nA_ne (by omega), nA_ne (by omega)]; exact hx.2))).1.2.2.2.2.2.2]
  rw [show nA (uA (uA N (248 + 20 * f + 6) ((nA N (248 + 20 * f + 6)) - 1)) (248 + 20 * f + 7) ((nA N 2) - (nA N (368 + 8 * x + 1)))) (368 + 8 * x + 7) = nA N (368 + 8 * x + 7) by rw [nA_ne (by omega), nA_ne (by omega)]]
  refine g_zif_eq (a := (nA N (368 + 8 * x + 7))) (tgt := 66) rfl dX2_noteReturn_24 (by decide) (by omega) (fun q => ?_) (fun q => ?_)
  · refine g_aload_n 0 dX2_noteReturn_66 rfl rfl ?_
    refine g_dup dX2_noteReturn_67 rfl ?_
    refine g_geti (f := 74) dX2_noteReturn_68 fl_X2_44 (cx2.1.1.2.2.2.2.2.2.2.2.2 f f6).2.1 (by decide) rfl ?_
    rw [show zi y2 74 (b + 53 + 2 * f) = jI (nA (uA (uA N (248 + 20 * f + 6) ((nA N (248 + 20 * f + 6)) - 1)) (248 + 20 * f + 7) ((nA N 2) - (nA N (368 + 8 * x + 1)))) (248 + 20 * f + 9)) from (cx2.1.2.2.2.2.1 f (by rw [nA_ne (by omega), nA_ne (by omega)]; exact hf) f6).1 9 (by omega) (by omega)]
    rw [show nA (uA (uA N (248 + 20 * f + 6) ((nA N (248 + 20 * f + 6)) - 1)) (248 + 20 * f + 7) ((nA N 2) - (nA N (368 + 8 * x + 1)))) (248 + 20 * f + 9) = nA N (248 + 20 * f + 9) by rw [nA_ne (by omega), nA_ne (by omega)]]
    refine g_iconst (v := nI 1) dX2_noteReturn_71 (by decide) ?_
    refine g_iadd dX2_noteReturn_72 ?_
    refine zG.top (show (jI (nA N (248 + 20 * f + 9))) + (nI 1) = jI ((nA N (248 + 20 * f + 9)) + 1) by rw [show nI 1 = jI 1 from (by decide), jI_add]) ?_
    refine g_puti (f := 74) dX2_noteReturn_73 fl_X2_44 (Or.inl rfl) (cx2.1.1.2.2.2.2.2.2.2.2.2 f f6).2.1 rfl ?_
    have cx10 : CX (zSi y2 74 (b + 53 + 2 * f) (jI ((nA N (248 + 20 * f + 9)) + 1))) b π ls (uA (uA (uA N (248 + 20 * f + 6) ((nA N (248 + 20 * f + 6)) - 1)) (248 + 20 * f + 7) ((nA N 2) - (nA N (368 + 8 * x + 1)))) (248 + 20 * f + 9) ((nA N (248 + 20 * f + 9)) + 1)) X t ∧ CSt b ls y2 ls (zSi y2 74 (b + 53 + 2 * f) (jI ((nA N (248 + 20 * f + 9)) + 1))) := cx2.1.setF (j := 9) f6 (by omega) (by omega) (by omega)
    generalize zSi y2 74 (b + 53 + 2 * f) (jI ((nA N (248 + 20 * f + 9)) + 1)) = y10 at cx10 ⊢
    refine g_aload_n 0 dX2_noteReturn_76 rfl rfl ?_
    refine g_dup dX2_noteReturn_77 rfl ?_
    refine g_geti (f := 70) dX2_noteReturn_78 fl_X2_32 (cx10.1.1.2.2.2.2.2.2.2.2.2 f f6).2.1 (by decide) rfl ?_
    rw [show zi y10 70 (b + 53 + 2 * f) = jI (nA (uA (uA (uA N (248 + 20 * f + 6) ((nA N (248 + 20 * f + 6)) - 1)) (248 + 20 * f + 7) ((nA N 2) - (nA N (368 + 8 * x + 1)))) (248 + 20 * f + 9) ((nA N (248 + 20 * f + 9)) + 1)) (248 + 20 * f + 5)) from (cx10.1.2.2.2.2.1 f (by rw [nA_ne (by omega), nA_ne (by omega), nA_ne (by omega)]; exact hf) f6).1 5 (by omega) (by omega)]
    rw [show nA (uA (uA (uA N (248 + 20 * f + 6) ((nA N (248 + 20 * f + 6)) - 1)) (248 + 20 * f + 7) ((nA N 2) - (nA N (368 + 8 * x + 1)))) (248 + 20 * f + 9) ((nA N (248 + 20 * f + 9)) + 1)) (248 + 20 * f + 5) = nA N (248 + 20 * f + 5) by rw [nA_ne (by omega), nA_ne (by omega), nA_ne (by omega)]]
    refine g_aload_n 0 dX2_noteReturn_81 rfl rfl ?_
    refine g_aload_n 1 dX2_noteReturn_82 rfl rfl ?_
    refine g_geti (f := 198) dX2_noteReturn_83 fl_X2_77 (cx10.1.2.2.2.2.2.1.1 x (liv_mk hx.1 (by rw [nA_ne (by omega), nA_ne (by omega), nA_ne (by omega)]; exact hx.2))).2.2 (by decide) rfl ?_
    rw [show zi y10 198 (π x) = jI (nA (uA (uA (uA N (248 + 20 * f + 6) ((nA N (248 + 20 * f + 6)) - 1)) (248 + 20 * f + 7) ((nA N 2) - (nA N (368 + 8 * x + 1)))) (248 + 20 * f + 9) ((nA N (248 + 20 * f + 9)) + 1)) (368 + 8 * x + 5)) from (cx10.1.2.2.2.2.2.1.1 x (liv_mk hx.1 (by rw [nA_ne (by omega), nA_ne (by omega), nA_ne (by omega)]; exact hx.2))).1.2.2.2.2.2.1]
    rw [show nA (uA (uA (uA N (248 + 20 * f + 6) ((nA N (248 + 20 * f + 6)) - 1)) (248 + 20 * f + 7) ((nA N 2) - (nA N (368 + 8 * x + 1)))) (248 + 20 * f + 9) ((nA N (248 + 20 * f + 9)) + 1)) (368 + 8 * x + 5) = nA N (368 + 8 * x + 5) by rw [nA_ne (by omega), nA_ne (by omega), nA_ne (by omega)]]
    refine g_iload_n 3 dX2_noteReturn_86 rfl rfl ?_
    refine g_invv (M' := mX2_gain) (As := [.int (jI (nA N (368 + 8 * x + 5))), .int (jI (nA N 7))]) (rest := [.int (jI (nA N (248 + 20 * f + 5))), .ref (b + 53 + 2 * f)]) dX2_noteReturn_87 ml_X2_80 okX2_gain imX2_gain seX2_gain ⟨(Nat.le_of_ble_eq_true rfl), (Nat.le_of_ble_eq_true rfl)⟩ (ci := 2) rfl rfl (cx10.1.1.2.2.2.2.2.2.2.2.2 f f6).2.1 rfl rfl (Nat.le_of_ble_eq_true rfl) (c_gain cx10.1 (by rw [nA_ne (by omega), nA_ne (by omega), nA_ne (by omega)]; exact hf) f6 (by omega) hb (by rw [nA_ne (by omega), nA_ne (by omega), nA_ne (by omega)]; exact F5) (by rw [nA_ne (by omega), nA_ne (by omega), nA_ne (by omega)]; exact F2)) ?_
    rintro _ q11 ⟨rfl, eq11⟩
    subst q11
    show zG l w mX2_noteReturn 90 [(0, .ref (b + 53 + 2 * f)), (1, .ref (π x)), (2, .int (jI (nA N 2))), (3, .int (jI (nA N 7)))] [.int (jI (if nA N 7 = 1 then 10000 / nA (uA (uA (uA N (248 + 20 * f + 6) ((nA N (248 + 20 * f + 6)) - 1)) (248 + 20 * f + 7) ((nA N 2) - (nA N (368 + 8 * x + 1)))) (248 + 20 * f + 9) ((nA N (248 + 20 * f + 9)) + 1)) (248 + 20 * f + 5) else if nA (uA (uA (uA N (248 + 20 * f + 6) ((nA N (248 + 20 * f + 6)) - 1)) (248 + 20 * f + 7) ((nA N 2) - (nA N (368 + 8 * x + 1)))) (248 + 20 * f + 9) ((nA N (248 + 20 * f + 9)) + 1)) (248 + 20 * f + 2) = 1 then max 0 (nA N (368 + 8 * x + 5)) else nA N (368 + 8 * x + 5))), .int (jI (nA N (248 + 20 * f + 5))), .ref (b + 53 + 2 * f)] y10 _
    refine zG.top (show jI (if nA N 7 = 1 then 10000 / nA (uA (uA (uA N (248 + 20 * f + 6) ((nA N (248 + 20 * f + 6)) - 1)) (248 + 20 * f + 7) ((nA N 2) - (nA N (368 + 8 * x + 1)))) (248 + 20 * f + 9) ((nA N (248 + 20 * f + 9)) + 1)) (248 + 20 * f + 5) else if nA (uA (uA (uA N (248 + 20 * f + 6) ((nA N (248 + 20 * f + 6)) - 1)) (248 + 20 * f + 7) ((nA N 2) - (nA N (368 + 8 * x + 1)))) (248 + 20 * f + 9) ((nA N (248 + 20 * f + 9)) + 1)) (248 + 20 * f + 2) = 1 then max 0 (nA N (368 + 8 * x + 5)) else nA N (368 + 8 * x + 5)) = jI (if nA N 7 = 1 then 10000 / nA N (248 + 20 * f + 5) else if nA N (248 + 20 * f + 2) = 1 then max 0 (nA N (368 + 8 * x + 5)) else nA N (368 + 8 * x + 5)) by rw [nA_ne (by omega), nA_ne (by omega), nA_ne (by omega), nA_ne (by omega), nA_ne (by omega), nA_ne (by omega)]) ?_
    have gb : -20000000 ≤ (if nA N 7 = 1 then 10000 / nA N (248 + 20 * f + 5) else if nA N (248 + 20 * f + 2) = 1 then max 0 (nA N (368 + 8 * x + 5)) else nA N (368 + 8 * x + 5)) ∧ (if nA N 7 = 1 then 10000 / nA N (248 + 20 * f + 5) else if nA N (248 + 20 * f + 2) = 1 then max 0 (nA N (368 + 8 * x + 5)) else nA N (368 + 8 * x + 5)) ≤ 10000 := by
      have d0 : 0 ≤ 10000 / nA N (248 + 20 * f + 5) := Int.ediv_nonneg (by omega) (by omega)
      have d1 : 10000 / nA N (248 + 20 * f + 5) ≤ 10000 := Int.ediv_le_self _ (by omega)
      split
      · omega
      · split <;> omega
    refine g_iadd dX2_noteReturn_90 ?_
    refine zG.top (show (jI (nA N (248 + 20 * f + 5))) + (jI (if nA N 7 = 1 then 10000 / nA N (248 + 20 * f + 5) else if nA N (248 + 20 * f + 2) = 1 then max 0 (nA N (368 + 8 * x + 5)) else nA N (368 + 8 * x + 5))) = jI ((nA N (248 + 20 * f + 5)) + (if nA N 7 = 1 then 10000 / nA N (248 + 20 * f + 5) else if nA N (248 + 20 * f + 2) = 1 then max 0 (nA N (368 + 8 * x + 5)) else nA N (368 + 8 * x + 5))) by rw [jI_add]) ?_
    refine g_puti (f := 70) dX2_noteReturn_91 fl_X2_32 (Or.inl rfl) (cx10.1.1.2.2.2.2.2.2.2.2.2 f f6).2.1 rfl ?_
    have cx12 : CX (zSi y10 70 (b + 53 + 2 * f) (jI ((nA N (248 + 20 * f + 5)) + (if nA N 7 = 1 then 10000 / nA N (248 + 20 * f + 5) else if nA N (248 + 20 * f + 2) = 1 then max 0 (nA N (368 + 8 * x + 5)) else nA N (368 + 8 * x + 5))))) b π ls (uA (uA (uA (uA N (248 + 20 * f + 6) ((nA N (248 + 20 * f + 6)) - 1)) (248 + 20 * f + 7) ((nA N 2) - (nA N (368 + 8 * x + 1)))) (248 + 20 * f + 9) ((nA N (248 + 20 * f + 9)) + 1)) (248 + 20 * f + 5) ((nA N (248 + 20 * f + 5)) + (if nA N 7 = 1 then 10000 / nA N (248 + 20 * f + 5) else if nA N (248 + 20 * f + 2) = 1 then max 0 (nA N (368 + 8 * x + 5)) else nA N (368 + 8 * x + 5)))) X t ∧ CSt b ls y10 ls (zSi y10 70 (b + 53 + 2 * f) (jI ((nA N (248 + 20 * f + 5)) + (if nA N 7 = 1 then 10000 / nA N (248 + 20 * f + 5) else if nA N (248 + 20 * f + 2) = 1 then max 0 (nA N (368 + 8 * x + 5)) else nA N (368 + 8 * x + 5))))) := cx10.1.setF (j := 5) f6 (by omega) (by omega) (by omega)
    generalize zSi y10 70 (b + 53 + 2 * f) (jI ((nA N (248 + 20 * f + 5)) + (if nA N 7 = 1 then 10000 / nA N (248 + 20 * f + 5) else if nA N (248 + 20 * f + 2) = 1 then max 0 (nA N (368 + 8 * x + 5)) else nA N (368 + 8 * x + 5)))) = y12 at cx12 ⊢
    refine g_aload_n 0 dX2_noteReturn_94 rfl rfl ?_
    refine g_bipush (v := nI 100) dX2_noteReturn_95 (by decide) ?_
    refine g_aload_n 0 dX2_noteReturn_97 rfl rfl ?_
    refine g_geti (f := 70) dX2_noteReturn_98 fl_X2_32 (cx12.1.1.2.2.2.2.2.2.2.2.2 f f6).2.1 (by decide) rfl ?_
    rw [show zi y12 70 (b + 53 + 2 * f) = jI (nA (uA (uA (uA (uA N (248 + 20 * f + 6) ((nA N (248 + 20 * f + 6)) - 1)) (248 + 20 * f + 7) ((nA N 2) - (nA N (368 + 8 * x + 1)))) (248 + 20 * f + 9) ((nA N (248 + 20 * f + 9)) + 1)) (248 + 20 * f + 5) ((nA N (248 + 20 * f + 5)) + (if nA N 7 = 1 then 10000 / nA N (248 + 20 * f + 5) else if nA N (248 + 20 * f + 2) = 1 then max 0 (nA N (368 + 8 * x + 5)) else nA N (368 + 8 * x + 5)))) (248 + 20 * f + 5)) from (cx12.1.2.2.2.2.1 f (by rw [nA_ne (by omega), nA_ne (by omega), nA_ne (by omega), nA_ne (by omega)]; exact hf) f6).1 5 (by omega) (by omega)]
    rw [show nA (uA (uA (uA (uA N (248 + 20 * f + 6) ((nA N (248 + 20 * f + 6)) - 1)) (248 + 20 * f + 7) ((nA N 2) - (nA N (368 + 8 * x + 1)))) (248 + 20 * f + 9) ((nA N (248 + 20 * f + 9)) + 1)) (248 + 20 * f + 5) ((nA N (248 + 20 * f + 5)) + (if nA N 7 = 1 then 10000 / nA N (248 + 20 * f + 5) else if nA N (248 + 20 * f + 2) = 1 then max 0 (nA N (368 + 8 * x + 5)) else nA N (368 + 8 * x + 5)))) (248 + 20 * f + 5) = (nA N (248 + 20 * f + 5)) + (if nA N 7 = 1 then 10000 / nA N (248 + 20 * f + 5) else if nA N (248 + 20 * f + 2) = 1 then max 0 (nA N (368 + 8 * x + 5)) else nA N (368 + 8 * x + 5)) by rw [nA_eq]]
    refine g_sipush (v := nI 4000) dX2_noteReturn_101 (by decide) ?_
    refine zG.top (show nI 4000 = jI 4000 by decide) ?_
    refine g_invs (M' := mJ9_min_7cf53) (As := [.int (jI ((nA N (248 + 20 * f + 5)) + (if nA N 7 = 1 then 10000 / nA N (248 + 20 * f + 5) else if nA N (248 + 20 * f + 2) = 1 then max 0 (nA N (368 + 8 * x + 5)) else nA N (368 + 8 * x + 5)))), .int (jI 4000)]) (rest := [.int (nI 100), .ref (b + 53 + 2 * f)]) dX2_noteReturn_104 ml_X2_71 okJ9_min_7cf53 stJ9_min_7cf53 ⟨(Nat.le_of_ble_eq_true rfl), (Nat.le_of_ble_eq_true rfl)⟩ rfl rfl (Nat.le_of_ble_eq_true rfl) (c_minI (by omega) (by omega)) ?_
    rintro _ q13 ⟨rfl, eq13⟩
    subst q13
    show zG l w mX2_noteReturn 107 [(0, .ref (b + 53 + 2 * f)), (1, .ref (π x)), (2, .int (jI (nA N 2))), (3, .int (jI (nA N 7)))] [.int (jI (min ((nA N (248 + 20 * f + 5)) + (if nA N 7 = 1 then 10000 / nA N (248 + 20 * f + 5) else if nA N (248 + 20 * f + 2) = 1 then max 0 (nA N (368 + 8 * x + 5)) else nA N (368 + 8 * x + 5))) 4000)), .int (nI 100), .ref (b + 53 + 2 * f)] y12 _
    refine zG.sub2 (show nI 100 = jI 100 by decide) ?_
    refine g_invs (M' := mJ9_max_7cf53) (As := [.int (jI 100), .int (jI (min ((nA N (248 + 20 * f + 5)) + (if nA N 7 = 1 then 10000 / nA N (248 + 20 * f + 5) else if nA N (248 + 20 * f + 2) = 1 then max 0 (nA N (368 + 8 * x + 5)) else nA N (368 + 8 * x + 5))) 4000))]) (rest := [.ref (b + 53 + 2 * f)]) dX2_noteReturn_107 ml_X2_84 okJ9_max_7cf53 stJ9_max_7cf53 ⟨(Nat.le_of_ble_eq_true rfl), (Nat.le_of_ble_eq_true rfl)⟩ rfl rfl (Nat.le_of_ble_eq_true rfl) (c_maxI (by omega) (by omega)) ?_
    rintro _ q14 ⟨rfl, eq14⟩
    subst q14
    show zG l w mX2_noteReturn 110 [(0, .ref (b + 53 + 2 * f)), (1, .ref (π x)), (2, .int (jI (nA N 2))), (3, .int (jI (nA N 7)))] [.int (jI (max 100 (min ((nA N (248 + 20 * f + 5)) + (if nA N 7 = 1 then 10000 / nA N (248 + 20 * f + 5) else if nA N (248 + 20 * f + 2) = 1 then max 0 (nA N (368 + 8 * x + 5)) else nA N (368 + 8 * x + 5))) 4000))), .ref (b + 53 + 2 * f)] y12 _
    refine g_puti (f := 70) dX2_noteReturn_110 fl_X2_32 (Or.inl rfl) (cx12.1.1.2.2.2.2.2.2.2.2.2 f f6).2.1 rfl ?_
    have cx15 : CX (zSi y12 70 (b + 53 + 2 * f) (jI (max 100 (min ((nA N (248 + 20 * f + 5)) + (if nA N 7 = 1 then 10000 / nA N (248 + 20 * f + 5) else if nA N (248 + 20 * f + 2) = 1 then max 0 (nA N (368 + 8 * x + 5)) else nA N (368 + 8 * x + 5))) 4000)))) b π ls (uA (uA (uA (uA (uA N (248 + 20 * f + 6) ((nA N (248 + 20 * f + 6)) - 1)) (248 + 20 * f + 7) ((nA N 2) - (nA N (368 + 8 * x + 1)))) (248 + 20 * f + 9) ((nA N (248 + 20 * f + 9)) + 1)) (248 + 20 * f + 5) ((nA N (248 + 20 * f + 5)) + (if nA N 7 = 1 then 10000 / nA N (248 + 20 * f + 5) else if nA N (248 + 20 * f + 2) = 1 then max 0 (nA N (368 + 8 * x + 5)) else nA N (368 + 8 * x + 5)))) (248 + 20 * f + 5) (max 100 (min ((nA N (248 + 20 * f + 5)) + (if nA N 7 = 1 then 10000 / nA N (248 + 20 * f + 5) else if nA N (248 + 20 * f + 2) = 1 then max 0 (nA N (368 + 8 * x + 5)) else nA N (368 + 8 * x + 5))) 4000))) X t ∧ CSt b ls y12 ls (zSi y12 70 (b + 53 + 2 * f) (jI (max 100 (min ((nA N (248 + 20 * f + 5)) + (if nA N 7 = 1 then 10000 / nA N (248 + 20 * f + 5) else if nA N (248 + 20 * f + 2) = 1 then max 0 (nA N (368 + 8 * x + 5)) else nA N (368 + 8 * x + 5))) 4000)))) := cx12.1.setF (j := 5) f6 (by omega) (by omega) (by omega)
    generalize zSi y12 70 (b + 53 + 2 * f) (jI (max 100 (min ((nA N (248 + 20 * f + 5)) + (if nA N 7 = 1 then 10000 / nA N (248 + 20 * f + 5) else if nA N (248 + 20 * f + 2) = 1 then max 0 (nA N (368 + 8 * x + 5)) else nA N (368 + 8 * x + 5))) 4000))) = y15 at cx15 ⊢
    refine g_return dX2_noteReturn_113 rfl ?_
    refine ⟨rfl, ?_, (((((CSt.rf.tr cx1.2).tr cx2.2).tr cx10.2).tr cx12.2).tr cx15.2)⟩
    have e := cx15.1
    rw [uA_same] at e
    unfold noteN
    rw [if_neg (by omega)]
    exact e
  · refine g_aload_n 0 dX2_noteReturn_27 rfl rfl ?_
    refine g_dup dX2_noteReturn_28 rfl ?_
    refine g_geti (f := 75) dX2_noteReturn_29 fl_X2_47 (cx2.1.1.2.2.2.2.2.2.2.2.2 f f6).2.1 (by decide) rfl ?_
    rw [show zi y2 75 (b + 53 + 2 * f) = jI (nA (uA (uA N (248 + 20 * f + 6) ((nA N (248 + 20 * f + 6)) - 1)) (248 + 20 * f + 7) ((nA N 2) - (nA N (368 + 8 * x + 1)))) (248 + 20 * f + 10)) from (cx2.1.2.2.2.2.1 f (by rw [nA_ne (by omega), nA_ne (by omega)]; exact hf) f6).1 10 (by omega) (by omega)]
    rw [show nA (uA (uA N (248 + 20 * f + 6) ((nA N (248 + 20 * f + 6)) - 1)) (248 + 20 * f + 7) ((nA N 2) - (nA N (368 + 8 * x + 1)))) (248 + 20 * f + 10) = nA N (248 + 20 * f + 10) by rw [nA_ne (by omega), nA_ne (by omega)]]
    refine g_iconst (v := nI 1) dX2_noteReturn_32 (by decide) ?_
    refine g_iadd dX2_noteReturn_33 ?_
    refine zG.top (show (jI (nA N (248 + 20 * f + 10))) + (nI 1) = jI ((nA N (248 + 20 * f + 10)) + 1) by rw [show nI 1 = jI 1 from (by decide), jI_add]) ?_
    refine g_puti (f := 75) dX2_noteReturn_34 fl_X2_47 (Or.inl rfl) (cx2.1.1.2.2.2.2.2.2.2.2.2 f f6).2.1 rfl ?_
    have cx3 : CX (zSi y2 75 (b + 53 + 2 * f) (jI ((nA N (248 + 20 * f + 10)) + 1))) b π ls (uA (uA (uA N (248 + 20 * f + 6) ((nA N (248 + 20 * f + 6)) - 1)) (248 + 20 * f + 7) ((nA N 2) - (nA N (368 + 8 * x + 1)))) (248 + 20 * f + 10) ((nA N (248 + 20 * f + 10)) + 1)) X t ∧ CSt b ls y2 ls (zSi y2 75 (b + 53 + 2 * f) (jI ((nA N (248 + 20 * f + 10)) + 1))) := cx2.1.setF (j := 10) f6 (by omega) (by omega) (by omega)
    generalize zSi y2 75 (b + 53 + 2 * f) (jI ((nA N (248 + 20 * f + 10)) + 1)) = y3 at cx3 ⊢
    refine g_aload_n 0 dX2_noteReturn_37 rfl rfl ?_
    refine g_aload_n 0 dX2_noteReturn_38 rfl rfl ?_
    refine g_geti (f := 66) dX2_noteReturn_39 fl_X2_19 (cx3.1.1.2.2.2.2.2.2.2.2.2 f f6).2.1 (by decide) rfl ?_
    rw [show zi y3 66 (b + 53 + 2 * f) = jI (nA (uA (uA (uA N (248 + 20 * f + 6) ((nA N (248 + 20 * f + 6)) - 1)) (248 + 20 * f + 7) ((nA N 2) - (nA N (368 + 8 * x + 1)))) (248 + 20 * f + 10) ((nA N (248 + 20 * f + 10)) + 1)) (248 + 20 * f + 1)) from (cx3.1.2.2.2.2.1 f (by rw [nA_ne (by omega), nA_ne (by omega), nA_ne (by omega)]; exact hf) f6).1 1 (by omega) (by omega)]
    rw [show nA (uA (uA (uA N (248 + 20 * f + 6) ((nA N (248 + 20 * f + 6)) - 1)) (248 + 20 * f + 7) ((nA N 2) - (nA N (368 + 8 * x + 1)))) (248 + 20 * f + 10) ((nA N (248 + 20 * f + 10)) + 1)) (248 + 20 * f + 1) = nA N (248 + 20 * f + 1) by rw [nA_ne (by omega), nA_ne (by omega), nA_ne (by omega)]]
    refine g_iconst (v := nI 1) dX2_noteReturn_42 (by decide) ?_
    refine g_iadd dX2_noteReturn_43 ?_
    refine zG.top (show (jI (nA N (248 + 20 * f + 1))) + (nI 1) = jI ((nA N (248 + 20 * f + 1)) + 1) by rw [show nI 1 = jI 1 from (by decide), jI_add]) ?_
    refine g_sipush (v := nI 9999) dX2_noteReturn_44 (by decide) ?_
    refine zG.top (show nI 9999 = jI 9999 by decide) ?_
    refine g_invs (M' := mJ9_min_7cf53) (As := [.int (jI ((nA N (248 + 20 * f + 1)) + 1)), .int (jI 9999)]) (rest := [.ref (b + 53 + 2 * f)]) dX2_noteReturn_47 ml_X2_71 okJ9_min_7cf53 stJ9_min_7cf53 ⟨(Nat.le_of_ble_eq_true rfl), (Nat.le_of_ble_eq_true rfl)⟩ rfl rfl (Nat.le_of_ble_eq_true rfl) (c_minI (by omega) (by omega)) ?_
    rintro _ q4 ⟨rfl, eq4⟩
    subst q4
    show zG l w mX2_noteReturn 50 [(0, .ref (b + 53 + 2 * f)), (1, .ref (π x)), (2, .int (jI (nA N 2))), (3, .int (jI (nA N 7)))] [.int (jI (min ((nA N (248 + 20 * f + 1)) + 1) 9999)), .ref (b + 53 + 2 * f)] y3 _
    refine g_puti (f := 66) dX2_noteReturn_50 fl_X2_19 (Or.inl rfl) (cx3.1.1.2.2.2.2.2.2.2.2.2 f f6).2.1 rfl ?_
    have cx5 : CX (zSi y3 66 (b + 53 + 2 * f) (jI (min ((nA N (248 + 20 * f + 1)) + 1) 9999))) b π ls (uA (uA (uA (uA N (248 + 20 * f + 6) ((nA N (248 + 20 * f + 6)) - 1)) (248 + 20 * f + 7) ((nA N 2) - (nA N (368 + 8 * x + 1)))) (248 + 20 * f + 10) ((nA N (248 + 20 * f + 10)) + 1)) (248 + 20 * f + 1) (min ((nA N (248 + 20 * f + 1)) + 1) 9999)) X t ∧ CSt b ls y3 ls (zSi y3 66 (b + 53 + 2 * f) (jI (min ((nA N (248 + 20 * f + 1)) + 1) 9999))) := cx3.1.setF (j := 1) f6 (by omega) (by omega) (by omega)
    generalize zSi y3 66 (b + 53 + 2 * f) (jI (min ((nA N (248 + 20 * f + 1)) + 1) 9999)) = y5 at cx5 ⊢
    refine g_aload_n 0 dX2_noteReturn_53 rfl rfl ?_
    refine g_dup dX2_noteReturn_54 rfl ?_
    refine g_geti (f := 70) dX2_noteReturn_55 fl_X2_32 (cx5.1.1.2.2.2.2.2.2.2.2.2 f f6).2.1 (by decide) rfl ?_
    rw [show zi y5 70 (b + 53 + 2 * f) = jI (nA (uA (uA (uA (uA N (248 + 20 * f + 6) ((nA N (248 + 20 * f + 6)) - 1)) (248 + 20 * f + 7) ((nA N 2) - (nA N (368 + 8 * x + 1)))) (248 + 20 * f + 10) ((nA N (248 + 20 * f + 10)) + 1)) (248 + 20 * f + 1) (min ((nA N (248 + 20 * f + 1)) + 1) 9999)) (248 + 20 * f + 5)) from (cx5.1.2.2.2.2.1 f (by rw [nA_ne (by omega), nA_ne (by omega), nA_ne (by omega), nA_ne (by omega)]; exact hf) f6).1 5 (by omega) (by omega)]
    rw [show nA (uA (uA (uA (uA N (248 + 20 * f + 6) ((nA N (248 + 20 * f + 6)) - 1)) (248 + 20 * f + 7) ((nA N 2) - (nA N (368 + 8 * x + 1)))) (248 + 20 * f + 10) ((nA N (248 + 20 * f + 10)) + 1)) (248 + 20 * f + 1) (min ((nA N (248 + 20 * f + 1)) + 1) 9999)) (248 + 20 * f + 5) = nA N (248 + 20 * f + 5) by rw [nA_ne (by omega), nA_ne (by omega), nA_ne (by omega), nA_ne (by omega)]]
    refine g_iconst (v := nI 2) dX2_noteReturn_58 (by decide) ?_
    refine g_idiv dX2_noteReturn_59 (by decide) ?_
    refine zG.top (show jI (nA N (248 + 20 * f + 5)) / nI 2 = jI (nA N (248 + 20 * f + 5) / 2) by rw [show nI 2 = jI 2 by decide, jI_div (by omega) (by omega)]) ?_
    refine g_puti (f := 70) dX2_noteReturn_60 fl_X2_32 (Or.inl rfl) (cx5.1.1.2.2.2.2.2.2.2.2.2 f f6).2.1 rfl ?_
    have cx6 : CX (zSi y5 70 (b + 53 + 2 * f) (jI (nA N (248 + 20 * f + 5) / 2))) b π ls (uA (uA (uA (uA (uA N (248 + 20 * f + 6) ((nA N (248 + 20 * f + 6)) - 1)) (248 + 20 * f + 7) ((nA N 2) - (nA N (368 + 8 * x + 1)))) (248 + 20 * f + 10) ((nA N (248 + 20 * f + 10)) + 1)) (248 + 20 * f + 1) (min ((nA N (248 + 20 * f + 1)) + 1) 9999)) (248 + 20 * f + 5) (nA N (248 + 20 * f + 5) / 2)) X t ∧ CSt b ls y5 ls (zSi y5 70 (b + 53 + 2 * f) (jI (nA N (248 + 20 * f + 5) / 2))) := cx5.1.setF (j := 5) f6 (by omega) (by omega) (by omega)
    generalize zSi y5 70 (b + 53 + 2 * f) (jI (nA N (248 + 20 * f + 5) / 2)) = y6 at cx6 ⊢
    refine g_goto (tgt := 94) dX2_noteReturn_63 (by decide) ?_
    refine g_aload_n 0 dX2_noteReturn_94 rfl rfl ?_
    refine g_bipush (v := nI 100) dX2_noteReturn_95 (by decide) ?_
    refine g_aload_n 0 dX2_noteReturn_97 rfl rfl ?_
    refine g_geti (f := 70) dX2_noteReturn_98 fl_X2_32 (cx6.1.1.2.2.2.2.2.2.2.2.2 f f6).2.1 (by decide) rfl ?_
    rw [show zi y6 70 (b + 53 + 2 * f) = jI (nA (uA (uA (uA (uA (uA N (248 + 20 * f + 6) ((nA N (248 + 20 * f + 6)) - 1)) (248 + 20 * f + 7) ((nA N 2) - (nA N (368 + 8 * x + 1)))) (248 + 20 * f + 10) ((nA N (248 + 20 * f + 10)) + 1)) (248 + 20 * f + 1) (min ((nA N (248 + 20 * f + 1)) + 1) 9999)) (248 + 20 * f + 5) (nA N (248 + 20 * f + 5) / 2)) (248 + 20 * f + 5)) from (cx6.1.2.2.2.2.1 f (by rw [nA_ne (by omega), nA_ne (by omega), nA_ne (by omega), nA_ne (by omega), nA_ne (by omega)]; exact hf) f6).1 5 (by omega) (by omega)]
    rw [show nA (uA (uA (uA (uA (uA N (248 + 20 * f + 6) ((nA N (248 + 20 * f + 6)) - 1)) (248 + 20 * f + 7) ((nA N 2) - (nA N (368 + 8 * x + 1)))) (248 + 20 * f + 10) ((nA N (248 + 20 * f + 10)) + 1)) (248 + 20 * f + 1) (min ((nA N (248 + 20 * f + 1)) + 1) 9999)) (248 + 20 * f + 5) (nA N (248 + 20 * f + 5) / 2)) (248 + 20 * f + 5) = nA N (248 + 20 * f + 5) / 2 by rw [nA_eq]]
    refine g_sipush (v := nI 4000) dX2_noteReturn_101 (by decide) ?_
    refine zG.top (show nI 4000 = jI 4000 by decide) ?_
    refine g_invs (M' := mJ9_min_7cf53) (As := [.int (jI (nA N (248 + 20 * f + 5) / 2)), .int (jI 4000)]) (rest := [.int (nI 100), .ref (b + 53 + 2 * f)]) dX2_noteReturn_104 ml_X2_71 okJ9_min_7cf53 stJ9_min_7cf53 ⟨(Nat.le_of_ble_eq_true rfl), (Nat.le_of_ble_eq_true rfl)⟩ rfl rfl (Nat.le_of_ble_eq_true rfl) (c_minI (by omega) (by omega)) ?_
    rintro _ q7 ⟨rfl, eq7⟩
    subst q7
    show zG l w mX2_noteReturn 107 [(0, .ref (b + 53 + 2 * f)), (1, .ref (π x)), (2, .int (jI (nA N 2))), (3, .int (jI (nA N 7)))] [.int (jI (min (nA N (248 + 20 * f + 5) / 2) 4000)), .int (nI 100), .ref (b + 53 + 2 * f)] y6 _
    refine zG.sub2 (show nI 100 = jI 100 by decide) ?_
    refine g_invs (M' := mJ9_max_7cf53) (As := [.int (jI 100), .int (jI (min (nA N (248 + 20 * f + 5) / 2) 4000))]) (rest := [.ref (b + 53 + 2 * f)]) dX2_noteReturn_107 ml_X2_84 okJ9_max_7cf53 stJ9_max_7cf53 ⟨(Nat.le_of_ble_eq_true rfl), (Nat.le_of_ble_eq_true rfl)⟩ rfl rfl (Nat.le_of_ble_eq_true rfl) (c_maxI (by omega) (by omega)) ?_
    rintro _ q8 ⟨rfl, eq8⟩
    subst q8
    show zG l w mX2_noteReturn 110 [(0, .ref (b + 53 + 2 * f)), (1, .ref (π x)), (2, .int (jI (nA N 2))), (3, .int (jI (nA N 7)))] [.int (jI (max 100 (min (nA N (248 + 20 * f + 5) / 2) 4000))), .ref (b + 53 + 2 * f)] y6 _
    refine g_puti (f := 70) dX2_noteReturn_110 fl_X2_32 (Or.inl rfl) (cx6.1.1.2.2.2.2.2.2.2.2.2 f f6).2.1 rfl ?_
    have cx9 : CX (zSi y6 70 (b + 53 + 2 * f) (jI (max 100 (min (nA N (248 + 20 * f + 5) / 2) 4000)))) b π ls (uA (uA (uA (uA (uA (uA N (248 + 20 * f + 6) ((nA N (248 + 20 * f + 6)) - 1)) (248 + 20 * f + 7) ((nA N 2) - (nA N (368 + 8 * x + 1)))) (248 + 20 * f + 10) ((nA N (248 + 20 * f + 10)) + 1)) (248 + 20 * f + 1) (min ((nA N (248 + 20 * f + 1)) + 1) 9999)) (248 + 20 * f + 5) (nA N (248 + 20 * f + 5) / 2)) (248 + 20 * f + 5) (max 100 (min (nA N (248 + 20 * f + 5) / 2) 4000))) X t ∧ CSt b ls y6 ls (zSi y6 70 (b + 53 + 2 * f) (jI (max 100 (min (nA N (248 + 20 * f + 5) / 2) 4000)))) := cx6.1.setF (j := 5) f6 (by omega) (by omega) (by omega)
    generalize zSi y6 70 (b + 53 + 2 * f) (jI (max 100 (min (nA N (248 + 20 * f + 5) / 2) 4000))) = y9 at cx9 ⊢
    refine g_return dX2_noteReturn_113 rfl ?_
    refine ⟨rfl, ?_, ((((((CSt.rf.tr cx1.2).tr cx2.2).tr cx3.2).tr cx5.2).tr cx6.2).tr cx9.2)⟩
    have e := cx9.1
    rw [uA_same] at e
    unfold noteN
    rw [if_pos (by omega)]
    exact e
end CY2
