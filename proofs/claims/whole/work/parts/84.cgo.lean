section CY5
variable {l : Launch} {w : zW} {h : zH} {b : Nat} {π : Nat → Nat} {ls : Nat → List Nat} {N : nT} {X : List Nat} {t : Nat}
/-- a packet is let in -/
def tkI (N : nT) (x a f : Nat) : nT := uA (uA (uA (uA (uA (uR N a (nR N a ++ [x])) (8 + 40 * a + 6) (nA N (8 + 40 * a + 6) + 1)) (8 + 40 * a + (20 + f)) (nA N (8 + 40 * a + (20 + f)) + 1)) (8 + 40 * a + 18) (nA N (8 + 40 * a + 18) + partN N x)) (8 + 40 * a + (26 + f)) (nA N (368 + 8 * x + 3))) (8 + 40 * a + (32 + f)) (nA N (368 + 8 * x + 4))
theorem comeN_in {x a : Nat} : comeN N x a = if shutN N (flN N x) a then cbN (evN (uA N 6 (nA N 6 + 1)) 0 a (flN N x)) x 1 else tkI N x a (flN N x) := rfl
theorem c_takeIn {x f : Nat} (c : CX h b π ls N [x] t) (hx : liv N x) (hfl : nA N (368 + 8 * x + 0) = (f : Int) + 1) (f6 : f < 6) {a : Nat} (ha : (a : Int) < nA N 0) (a6 : a < 6) (hh : zi h 194 (π x) = jI (nA N (368 + 8 * x + 2))) (h7 : nA N (368 + 8 * x + 7) = 0) (h20 : 0 ≤ nA N (8 + 40 * a + (20 + f))) : zM l w mX4_takeIn [.ref (b + 11 + 7 * a), .ref (π x)] h (fun v h1 => v = none ∧ ∃ ls1, CX h1 b π ls1 (tkI N x a f) [] t ∧ CSt b ls h ls1 h1) := by
  refine zM.of (by decide) (Nat.le_of_ble_eq_true rfl) ?_
  have x480 := hx.1
  refine g_aload_n 0 dX4_takeIn_0 rfl rfl ?_
  refine g_getr (f := 132) (b := b + 11 + 7 * a + 1) dX4_takeIn_1 fl_X4_12 (c.1.2.2.2.2.2.2.2.2.1 a a6).2.1 rfl (c.1.2.2.2.2.2.2.2.2.1 a a6).2.2.1.1 ?_
  refine g_aload_n 1 dX4_takeIn_4 rfl rfl ?_
  refine g_invv (M' := mX3_append) (As := [.ref (π x)]) (rest := []) dX4_takeIn_5 ml_X4_96 okX3_append imX3_append seX3_append ⟨(Nat.le_of_ble_eq_true rfl), (Nat.le_of_ble_eq_true rfl)⟩ (ci := 3) rfl rfl (c.1.2.2.2.2.2.2.2.2.1 a a6).2.2.1.2 rfl rfl (Nat.le_of_ble_eq_true rfl) (c_append c.2.1 (c.1.iR a6) (c.2.2.2.2.2.1.1 x hx).2 c.outX) ?_
  rintro _ y1 ⟨rfl, ap1, fp1⟩
  show zG l w mX4_takeIn 8 [(0, .ref (b + 11 + 7 * a)), (1, .ref (π x))] [] y1 _
  have cx1 := c.appR hx a6 fp1 ap1 hh h7
  refine g_aload_n 0 dX4_takeIn_8 rfl rfl ?_
  refine g_dup dX4_takeIn_9 rfl ?_
  refine g_geti (f := 134) dX4_takeIn_10 fl_X4_66 (cx1.1.1.2.2.2.2.2.2.2.2.1 a a6).2.1 (by decide) rfl ?_
  rw [show zi y1 134 (b + 11 + 7 * a) = jI (nA (uR N a (nR N a ++ [x])) (8 + 40 * a + 6)) from (cx1.1.2.2.2.1 a (by rw [nA_uR]; exact ha) a6).1 6 (by unfold lkJ; omega)]
  rw [show nA (uR N a (nR N a ++ [x])) (8 + 40 * a + 6) = nA N (8 + 40 * a + 6) by rw [nA_uR]]
  refine g_iconst (v := nI 1) dX4_takeIn_13 (by decide) ?_
  refine g_iadd dX4_takeIn_14 ?_
  refine zG.top (show (jI (nA N (8 + 40 * a + 6))) + (nI 1) = jI ((nA N (8 + 40 * a + 6)) + 1) by rw [show nI 1 = jI 1 from (by decide), jI_add]) ?_
  refine g_puti (f := 134) dX4_takeIn_15 fl_X4_66 (Or.inl rfl) (cx1.1.1.2.2.2.2.2.2.2.2.1 a a6).2.1 rfl ?_
  have cx2 : CX (zSi y1 134 (b + 11 + 7 * a) (jI ((nA N (8 + 40 * a + 6)) + 1))) b π (updF ls (b + 11 + 7 * a + 1) (ls (b + 11 + 7 * a + 1) ++ [π x])) (uA (uR N a (nR N a ++ [x])) (8 + 40 * a + 6) ((nA N (8 + 40 * a + 6)) + 1)) [] t ∧ CSt b (updF ls (b + 11 + 7 * a + 1) (ls (b + 11 + 7 * a + 1) ++ [π x])) y1 (updF ls (b + 11 + 7 * a + 1) (ls (b + 11 + 7 * a + 1) ++ [π x])) (zSi y1 134 (b + 11 + 7 * a) (jI ((nA N (8 + 40 * a + 6)) + 1))) := cx1.1.setL (j := 6) a6 (by unfold lkJ; omega) (by omega)
  generalize zSi y1 134 (b + 11 + 7 * a) (jI ((nA N (8 + 40 * a + 6)) + 1)) = y2 at cx2 ⊢
  refine g_aload_n 0 dX4_takeIn_18 rfl rfl ?_
  refine g_dup dX4_takeIn_19 rfl ?_
  refine g_getl (f := 136) dX4_takeIn_20 fl_X4_72 (cx2.1.1.2.2.2.2.2.2.2.2.1 a a6).2.1 rfl ?_
  rw [show zl y2 136 (b + 11 + 7 * a) = jL (nA (uA (uR N a (nR N a ++ [x])) (8 + 40 * a + 6) ((nA N (8 + 40 * a + 6)) + 1)) (8 + 40 * a + 18)) from (cx2.1.2.2.2.1 a (by rw [nA_ne (by omega), nA_uR]; exact ha) a6).2.1]
  rw [show nA (uA (uR N a (nR N a ++ [x])) (8 + 40 * a + 6) ((nA N (8 + 40 * a + 6)) + 1)) (8 + 40 * a + 18) = nA N (8 + 40 * a + 18) by rw [nA_ne (by omega), nA_uR]]
  refine g_aload_n 1 dX4_takeIn_23 rfl rfl ?_
  refine g_getl (f := 197) dX4_takeIn_24 fl_X4_100 (cx2.1.2.2.2.2.2.1.1 x (liv_mk hx.1 (by rw [nA_ne (by omega), nA_uR]; exact hx.2))).2.2 rfl ?_
  rw [show zl y2 197 (π x) = jL (partN N x) from ((cx2.1.2.2.2.2.2.1.1 x (liv_mk hx.1 (by rw [nA_ne (by omega), nA_uR]; exact hx.2))).1.2.2.2.2.1.trans (congrArg jL (partN_congr (by rw [nA_ne (by omega), nA_uR]) (by rw [nA_ne (by omega), nA_uR]))))]
  refine g_ladd dX4_takeIn_27 ?_
  rw [jL_add]
  refine g_putl (f := 136) dX4_takeIn_28 fl_X4_72 (Or.inl rfl) (cx2.1.1.2.2.2.2.2.2.2.2.1 a a6).2.1 rfl ?_
  have cx3 : CX (zSl y2 136 (b + 11 + 7 * a) (jL ((nA N (8 + 40 * a + 18)) + (partN N x)))) b π (updF ls (b + 11 + 7 * a + 1) (ls (b + 11 + 7 * a + 1) ++ [π x])) (uA (uA (uR N a (nR N a ++ [x])) (8 + 40 * a + 6) ((nA N (8 + 40 * a + 6)) + 1)) (8 + 40 * a + 18) ((nA N (8 + 40 * a + 18)) + (partN N x))) [] t ∧ CSt b (updF ls (b + 11 + 7 * a + 1) (ls (b + 11 + 7 * a + 1) ++ [π x])) y2 (updF ls (b + 11 + 7 * a + 1) (ls (b + 11 + 7 * a + 1) ++ [π x])) (zSl y2 136 (b + 11 + 7 * a) (jL ((nA N (8 + 40 * a + 18)) + (partN N x)))) := cx2.1.setP a6
  generalize zSl y2 136 (b + 11 + 7 * a) (jL ((nA N (8 + 40 * a + 18)) + (partN N x))) = y3 at cx3 ⊢
  refine g_aload_n 1 dX4_takeIn_31 rfl rfl ?_
  refine g_geti (f := 192) dX4_takeIn_32 fl_X4_105 (cx3.1.2.2.2.2.2.1.1 x (liv_mk hx.1 (by rw [nA_ne (by omega), nA_ne (by omega), nA_uR]; exact hx.2))).2.2 (by decide) rfl ?_
  rw [show zi y3 192 (π x) = nI f from (by rw [(cx3.1.2.2.2.2.2.1.1 x (liv_mk hx.1 (by rw [nA_ne (by omega), nA_ne (by omega), nA_uR]; exact hx.2))).1.1, nA_ne (by omega), nA_ne (by omega), nA_uR, hfl, Int.add_sub_cancel, jI_nat])]
  refine g_istore_n (lv2 := [(2, .int (nI f)), (0, .ref (b + 11 + 7 * a)), (1, .ref (π x))]) dX4_takeIn_35 rfl (by decide) rfl ?_
  refine g_iload_n 0 dX4_takeIn_36 rfl rfl ?_
  refine g_zif_lt (a := ((f : Nat) : Int)) (tgt := 79) (jI_nat f).symm dX4_takeIn_37 (by decide) (by omega) (fun q => ?_) (fun q => ?_)
  · exact absurd q (by omega)
  · refine g_iload_n 0 dX4_takeIn_40 rfl rfl ?_
    refine g_aload_n 1 dX4_takeIn_41 rfl rfl ?_
    refine g_getr (f := 137) (b := b + 11 + 7 * a + 3) dX4_takeIn_42 fl_X4_21 (cx3.1.1.2.2.2.2.2.2.2.2.1 a a6).2.1 rfl ((cx3.1.1.2.2.2.2.2.2.2.2.1 a a6).2.2.2.2.1 0 (by omega)).1 ?_
    refine g_alen (t := 1) (v := nI 6) dX4_takeIn_45 ((cx3.1.1.2.2.2.2.2.2.2.2.1 a a6).2.2.2.2.1 0 (by omega)).2.1 rfl (fun _ => rfl) (congrArg Int32.ofNat (show zn y3 (b + 11 + 7 * a + 3) = 6 from ((cx3.1.1.2.2.2.2.2.2.2.2.1 a a6).2.2.2.2.1 0 (by omega)).2.2)) ?_
    refine g_zcmp_ge (a := ((f : Nat) : Int)) (b := 6) (tgt := 79) (jI_nat f).symm (by decide) dX4_takeIn_46 (by decide) (by omega) (by omega) (fun q2 => ?_) (fun q2 => ?_)
    · exact absurd q2 (by omega)
    · refine g_aload_n 1 dX4_takeIn_49 rfl rfl ?_
      refine g_getr (f := 137) (b := b + 11 + 7 * a + 3) dX4_takeIn_50 fl_X4_21 (cx3.1.1.2.2.2.2.2.2.2.2.1 a a6).2.1 rfl ((cx3.1.1.2.2.2.2.2.2.2.2.1 a a6).2.2.2.2.1 0 (by omega)).1 ?_
      refine g_iload_n 0 dX4_takeIn_53 rfl rfl ?_
      refine g_dup2 dX4_takeIn_54 rfl rfl ?_
      have F4 := (cx3.1.2.2.2.1 a (by rw [nA_ne (by omega), nA_ne (by omega), nA_uR]; exact ha) a6).2.2.2 f f6
      refine g_iald dX4_takeIn_55 ((cx3.1.1.2.2.2.2.2.2.2.2.1 a a6).2.2.2.2.1 0 (by omega)).2.1 (by rw [show zn y3 (b + 11 + 7 * a + 3) = 6 from ((cx3.1.1.2.2.2.2.2.2.2.2.1 a a6).2.2.2.2.1 0 (by omega)).2.2]; exact vp_in_nI (by omega) (by omega)) ?_
      rw [nI_clamp (by omega)]
      refine zG.top (show zI y3 (b + 11 + 7 * a + 3) f = jI (nA N (8 + 40 * a + (20 + f))) by rw [F4.1, nA_ne (by omega), nA_ne (by omega), nA_uR]) ?_
      refine g_iconst (v := nI 1) dX4_takeIn_56 (by decide) ?_
      refine g_iadd dX4_takeIn_57 ?_
      refine zG.top (show (jI (nA N (8 + 40 * a + (20 + f)))) + (nI 1) = jI ((nA N (8 + 40 * a + (20 + f))) + 1) by rw [show nI 1 = jI 1 from (by decide), jI_add]) ?_
      refine g_iast (n := f) dX4_takeIn_58 ((cx3.1.1.2.2.2.2.2.2.2.2.1 a a6).2.2.2.2.1 0 (by omega)).2.1 (by rw [show zn y3 (b + 11 + 7 * a + 3) = 6 from ((cx3.1.1.2.2.2.2.2.2.2.2.1 a a6).2.2.2.2.1 0 (by omega)).2.2]; exact vp_in_nI (by omega) (by omega)) (nI_clamp (by omega)) ?_
      refine g_aload_n 1 dX4_takeIn_59 rfl rfl ?_
      refine g_getr (f := 138) (b := b + 11 + 7 * a + 4) dX4_takeIn_60 fl_X4_25 (cx3.1.1.2.2.2.2.2.2.2.2.1 a a6).2.1 rfl ((cx3.1.1.2.2.2.2.2.2.2.2.1 a a6).2.2.2.2.1 1 (by omega)).1 ?_
      refine g_iload_n 0 dX4_takeIn_63 rfl rfl ?_
      refine g_aload_n 2 dX4_takeIn_64 rfl rfl ?_
      refine g_geti (f := 195) dX4_takeIn_65 fl_X4_108 (cx3.1.2.2.2.2.2.1.1 x (liv_mk hx.1 (by rw [nA_ne (by omega), nA_ne (by omega), nA_uR]; exact hx.2))).2.2 (by decide) rfl ?_
      rw [show zi (zSI y3 (b + 11 + 7 * a + 3) f (jI ((nA N (8 + 40 * a + (20 + f))) + 1))) 195 (π x) = jI (nA (uA (uA (uR N a (nR N a ++ [x])) (8 + 40 * a + 6) ((nA N (8 + 40 * a + 6)) + 1)) (8 + 40 * a + 18) ((nA N (8 + 40 * a + 18)) + (partN N x))) (368 + 8 * x + 3)) from (cx3.1.2.2.2.2.2.1.1 x (liv_mk hx.1 (by rw [nA_ne (by omega), nA_ne (by omega), nA_uR]; exact hx.2))).1.2.2.1]
      rw [show nA (uA (uA (uR N a (nR N a ++ [x])) (8 + 40 * a + 6) ((nA N (8 + 40 * a + 6)) + 1)) (8 + 40 * a + 18) ((nA N (8 + 40 * a + 18)) + (partN N x))) (368 + 8 * x + 3) = nA N (368 + 8 * x + 3) by rw [nA_ne (by omega), nA_ne (by omega), nA_uR]]
      refine g_iast (n := f) dX4_takeIn_68 ((cx3.1.1.2.2.2.2.2.2.2.2.1 a a6).2.2.2.2.1 1 (by omega)).2.1 (by rw [show zn (zSI y3 (b + 11 + 7 * a + 3) f (jI ((nA N (8 + 40 * a + (20 + f))) + 1))) (b + 11 + 7 * a + 4) = 6 from ((cx3.1.1.2.2.2.2.2.2.2.2.1 a a6).2.2.2.2.1 1 (by omega)).2.2]; exact vp_in_nI (by omega) (by omega)) (nI_clamp (by omega)) ?_
      refine g_aload_n 1 dX4_takeIn_69 rfl rfl ?_
      refine g_getr (f := 139) (b := b + 11 + 7 * a + 5) dX4_takeIn_70 fl_X4_28 (cx3.1.1.2.2.2.2.2.2.2.2.1 a a6).2.1 rfl ((cx3.1.1.2.2.2.2.2.2.2.2.1 a a6).2.2.2.2.1 2 (by omega)).1 ?_
      refine g_iload_n 0 dX4_takeIn_73 rfl rfl ?_
      refine g_aload_n 2 dX4_takeIn_74 rfl rfl ?_
      refine g_geti (f := 196) dX4_takeIn_75 fl_X4_111 (cx3.1.2.2.2.2.2.1.1 x (liv_mk hx.1 (by rw [nA_ne (by omega), nA_ne (by omega), nA_uR]; exact hx.2))).2.2 (by decide) rfl ?_
      rw [show zi (zSI (zSI y3 (b + 11 + 7 * a + 3) f (jI ((nA N (8 + 40 * a + (20 + f))) + 1))) (b + 11 + 7 * a + 4) f (jI (nA N (368 + 8 * x + 3)))) 196 (π x) = jI (nA (uA (uA (uR N a (nR N a ++ [x])) (8 + 40 * a + 6) ((nA N (8 + 40 * a + 6)) + 1)) (8 + 40 * a + 18) ((nA N (8 + 40 * a + 18)) + (partN N x))) (368 + 8 * x + 4)) from (cx3.1.2.2.2.2.2.1.1 x (liv_mk hx.1 (by rw [nA_ne (by omega), nA_ne (by omega), nA_uR]; exact hx.2))).1.2.2.2.1]
      rw [show nA (uA (uA (uR N a (nR N a ++ [x])) (8 + 40 * a + 6) ((nA N (8 + 40 * a + 6)) + 1)) (8 + 40 * a + 18) ((nA N (8 + 40 * a + 18)) + (partN N x))) (368 + 8 * x + 4) = nA N (368 + 8 * x + 4) by rw [nA_ne (by omega), nA_ne (by omega), nA_uR]]
      refine g_iast (n := f) dX4_takeIn_78 ((cx3.1.1.2.2.2.2.2.2.2.2.1 a a6).2.2.2.2.1 2 (by omega)).2.1 (by rw [show zn (zSI (zSI y3 (b + 11 + 7 * a + 3) f (jI ((nA N (8 + 40 * a + (20 + f))) + 1))) (b + 11 + 7 * a + 4) f (jI (nA N (368 + 8 * x + 3)))) (b + 11 + 7 * a + 5) = 6 from ((cx3.1.1.2.2.2.2.2.2.2.2.1 a a6).2.2.2.2.1 2 (by omega)).2.2]; exact vp_in_nI (by omega) (by omega)) (nI_clamp (by omega)) ?_
      have cz := cx3.1.setC (a := a) (f := f) (z := nA N (8 + 40 * a + (20 + f)) + 1) (y := nA N (368 + 8 * x + 3)) (x := nA N (368 + 8 * x + 4)) a6 f6 (by omega)
      refine g_return dX4_takeIn_79 rfl ?_
      refine ⟨rfl, _, ?_, (((CSt.rf.tr cx1.2).tr cx2.2).tr cx3.2).tr cz.2⟩
      have e := cz.1
      unfold tkI
      rw [uA_swap (k := 8 + 40 * a + (20 + f)) (j := 8 + 40 * a + 18) (by omega)]
      exact e
def sbN (N : nT) (x f : Nat) : nT := (uK (uA N (368 + 8 * x + 6) ((nA N 2) + (backN N f))) (nK N ++ [x]))
theorem c_sendBack {x f : Nat} (c : CX h b π ls N [x] t) (hx : liv N x) (hfl : nA N (368 + 8 * x + 0) = (f : Int) + 1) (f6 : f < 6) (hf : (f : Int) < nA N 1) (hn : ntin N x) (hbd : 0 ≤ nA N 2 + backN N f ∧ nA N 2 + backN N f < 100000) : zM l w mX5_sendBack [.ref b, .ref (π x), .ref (b + 53 + 2 * f)] h (fun v h1 => v = none ∧ ∃ ls1, CX h1 b π ls1 (sbN N x f) [] t ∧ CSt b ls h ls1 h1) := by
  refine zM.of (by decide) (Nat.le_of_ble_eq_true rfl) ?_
  have x480 := hx.1
  refine g_aload_n 1 dX5_sendBack_0 rfl rfl ?_
  refine g_aload_n 0 dX5_sendBack_1 rfl rfl ?_
  refine g_geti (f := 164) dX5_sendBack_2 fl_X5_56 c.1.1.2 (by decide) rfl ?_
  rw [show zi h 164 b = jI (nA N 2) from c.2.2.1.2.2.1]
  refine g_aload_n 2 dX5_sendBack_5 rfl rfl ?_
  refine g_geti (f := 69) dX5_sendBack_6 fl_X5_139 (c.1.2.2.2.2.2.2.2.2.2 f f6).2.1 (by decide) rfl ?_
  rw [show zi h 69 (b + 53 + 2 * f) = jI (backN N f) from (c.2.2.2.2.1 f hf f6).2.1]
  refine g_iadd dX5_sendBack_9 ?_
  refine zG.top (show (jI (nA N 2)) + (jI (backN N f)) = jI ((nA N 2) + (backN N f)) by rw [jI_add]) ?_
  refine g_puti (f := 199) dX5_sendBack_10 fl_X5_166 (Or.inl rfl) (c.2.2.2.2.2.1.1 x hx).2.2 rfl ?_
  have hd : zi (zSi h 199 (π x) (jI ((nA N 2) + (backN N f)))) 199 (π x) = jI ((nA N 2) + (backN N f)) := by rw [zi_Si, if_pos ⟨rfl, rfl⟩]
  have cx0 : CX (zSi h 199 (π x) (jI ((nA N 2) + (backN N f)))) b π ls (uA N (368 + 8 * x + 6) ((nA N 2) + (backN N f))) [x] t ∧ CSt b ls h ls (zSi h 199 (π x) (jI ((nA N 2) + (backN N f)))) := c.setDue hx hn
  generalize zSi h 199 (π x) (jI ((nA N 2) + (backN N f))) = y0 at cx0 hd ⊢
  refine g_aload_n 0 dX5_sendBack_13 rfl rfl ?_
  refine g_getr (f := 165) (b := b + 3) dX5_sendBack_14 fl_X5_26 cx0.1.1.1.2 rfl cx0.1.1.2.2.2.1.1 ?_
  refine g_aload_n 1 dX5_sendBack_17 rfl rfl ?_
  refine g_invv (M' := mX3_append) (As := [.ref (π x)]) (rest := []) dX5_sendBack_18 ml_X5_112 okX3_append imX3_append seX3_append ⟨(Nat.le_of_ble_eq_true rfl), (Nat.le_of_ble_eq_true rfl)⟩ (ci := 3) rfl rfl cx0.1.1.2.2.2.1.2 rfl rfl (Nat.le_of_ble_eq_true rfl) (c_append cx0.1.2.1 cx0.1.1.iK (cx0.1.2.2.2.2.2.1.1 x (liv_mk hx.1 (by rw [nA_ne (by omega)]; exact hx.2))).2 cx0.1.outX) ?_
  rintro _ y1 ⟨rfl, ap1, fp1⟩
  show zG l w mX5_sendBack 21 [(0, .ref b), (1, .ref (π x)), (2, .ref (b + 53 + 2 * f))] [] y1 _
  have cx1 := cx0.1.appK (liv_mk hx.1 (by rw [nA_ne (by omega)]; exact hx.2)) fp1 ap1 (by rw [nA_eq]; exact hd) (by rw [nA_eq]; exact hbd)
  refine g_return dX5_sendBack_21 rfl ?_
  exact ⟨rfl, _, cx1.1, (cx0.2.tr cx1.2)⟩
end CY5
