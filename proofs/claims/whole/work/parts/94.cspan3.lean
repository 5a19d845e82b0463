section CZ7
variable {l : Launch} {w : zW} {h : zH} {b : Nat} {π : Nat → Nat} {ls : Nat → List Nat} {N : nT} {X : List Nat} {t a : Nat}
theorem jI_rem {a b : Int} (ha : 0 ≤ a ∧ a < 2 ^ 31) (hb : 0 < b ∧ b < 2 ^ 31) : jI a - jI a / jI b * jI b = jI (a % b) := by
  rw [jI_div ha hb, jI_mul, jI_sub, Int.emod_def, Int.mul_comm]
theorem or_cal : ∀ s, s < 64 → ∀ f, f < 6 → s < 2 ^ f → nI s ||| (nI 1 <<< (nI f &&& 31)) = nI (s + 2 ^ f) := by decide +kernel
theorem isN_mo {f : Nat} (h26 : 0 ≤ nA N (8 + 40 * a + (26 + f))) (h32 : 0 ≤ nA N (8 + 40 * a + (32 + f))) (h3 : 0 ≤ nA N (8 + 40 * a + 3)) : isN N a f = decide (moN N a f < nA N (8 + 40 * a + (20 + f))) := by
  by_cases c : nA N (8 + 40 * a + (20 + f)) = 0
  · rw [isN_zero c h26 h32 h3]
    unfold moN
    rw [if_pos c, c]
    rfl
  · unfold moN isN
    rw [if_neg c]
theorem moN_same {M : nT} {f : Nat} (e3 : nA M (8 + 40 * a + 3) = nA N (8 + 40 * a + 3)) (e20 : nA M (8 + 40 * a + (20 + f)) = nA N (8 + 40 * a + (20 + f))) (e26 : nA M (8 + 40 * a + (26 + f)) = nA N (8 + 40 * a + (26 + f))) (e32 : nA M (8 + 40 * a + (32 + f)) = nA N (8 + 40 * a + (32 + f))) : moN M a f = moN N a f := by
  unfold moN
  rw [e3, e20, e26, e32]
theorem moN_bd {f : Nat} (L3 : 2 ≤ nA N (8 + 40 * a + 3) ∧ nA N (8 + 40 * a + 3) ≤ 30) (Lf2 : 0 ≤ nA N (8 + 40 * a + (26 + f)) ∧ nA N (8 + 40 * a + (26 + f)) ≤ 4000) (Lf3 : 0 ≤ nA N (8 + 40 * a + (32 + f)) ∧ nA N (8 + 40 * a + (32 + f)) ≤ 123000) : 0 ≤ moN N a f ∧ moN N a f ≤ 200000 := by
  have hp : 0 ≤ nA N (8 + 40 * a + (26 + f)) * nA N (8 + 40 * a + 3) ∧ nA N (8 + 40 * a + (26 + f)) * nA N (8 + 40 * a + 3) ≤ 120000 := ⟨Int.mul_nonneg Lf2.1 (by omega), Int.le_trans (Int.mul_le_mul Lf2.2 L3.2 (by omega) (by omega)) (by decide)⟩
  have e : 0 ≤ (if nA N (8 + 40 * a + (32 + f)) = 0 then 0 else nA N (8 + 40 * a + (26 + f)) * nA N (8 + 40 * a + 3) / (100 * nA N (8 + 40 * a + (32 + f)))) ∧ (if nA N (8 + 40 * a + (32 + f)) = 0 then 0 else nA N (8 + 40 * a + (26 + f)) * nA N (8 + 40 * a + 3) / (100 * nA N (8 + 40 * a + (32 + f)))) ≤ 120000 := by
    split
    · omega
    · exact ⟨Int.ediv_nonneg hp.1 (by omega), Int.le_trans (Int.ediv_le_self _ hp.1) hp.2⟩
  unfold moN
  generalize (if nA N (8 + 40 * a + (32 + f)) = 0 then 0 else nA N (8 + 40 * a + (26 + f)) * nA N (8 + 40 * a + 3) / (100 * nA N (8 + 40 * a + (32 + f)))) = q at e ⊢
  split <;> omega
theorem c_endsAt (c : CX h b π ls N X t) (ha : (a : Int) < nA N 0) (a6 : a < 6) {n : Int} (hn : 0 ≤ n ∧ n < 2147483648) (h3 : 2 ≤ nA N (8 + 40 * a + 3) ∧ nA N (8 + 40 * a + 3) ≤ 30) : zM l w mX4_endsSpanAt [.ref (b + 11 + 7 * a), .int (jI n)] h (fun v h1 => v = some (.int (bI (decide (n % nA N (8 + 40 * a + 3) = 0)))) ∧ h1 = h) := by
  refine zM.of (by decide) (Nat.le_of_ble_eq_true rfl) ?_
  refine g_aload_n 0 dX4_endsSpanAt_0 rfl rfl ?_
  refine g_geti (f := 131) dX4_endsSpanAt_1 fl_X4_45 (c.1.2.2.2.2.2.2.2.2.1 a a6).2.1 (by decide) rfl ?_
  rw [show zi h 131 (b + 11 + 7 * a) = jI (nA N (8 + 40 * a + 3)) from (c.2.2.2.1 a ha a6).1 3 (by unfold lkJ; omega)]
  refine g_zif_le (a := (nA N (8 + 40 * a + 3))) (tgt := 20) rfl dX4_endsSpanAt_4 (by decide) (by omega) (fun q => ?_) (fun q => ?_)
  · exact absurd q (by omega)
  · refine g_iload_n 1 dX4_endsSpanAt_7 rfl rfl ?_
    refine g_aload_n 0 dX4_endsSpanAt_8 rfl rfl ?_
    refine g_geti (f := 131) dX4_endsSpanAt_9 fl_X4_45 (c.1.2.2.2.2.2.2.2.2.1 a a6).2.1 (by decide) rfl ?_
    rw [show zi h 131 (b + 11 + 7 * a) = jI (nA N (8 + 40 * a + 3)) from (c.2.2.2.1 a ha a6).1 3 (by unfold lkJ; omega)]
    refine g_irem dX4_endsSpanAt_12 (jI_ne0 (by omega)) ?_
    refine zG.top (jI_rem (by omega) (by omega)) ?_
    have mb : 0 ≤ n % nA N (8 + 40 * a + 3) ∧ n % nA N (8 + 40 * a + 3) < nA N (8 + 40 * a + 3) := ⟨Int.emod_nonneg _ (by omega), Int.emod_lt_of_pos _ (by omega)⟩
    refine g_zif_ne (a := (n % nA N (8 + 40 * a + 3))) (tgt := 20) rfl dX4_endsSpanAt_13 (by decide) (by omega) (fun q2 => ?_) (fun q2 => ?_)
    · refine g_iconst (v := bI false) dX4_endsSpanAt_20 (by decide) ?_
      refine g_zreturn dX4_endsSpanAt_21 rfl (bI_nar _) ?_
      exact ⟨by rw [decide_eq_false q2], rfl⟩
    · refine g_iconst (v := bI true) dX4_endsSpanAt_16 (by decide) ?_
      refine g_goto (tgt := 21) dX4_endsSpanAt_17 (by decide) ?_
      refine g_zreturn dX4_endsSpanAt_21 rfl (bI_nar _) ?_
      exact ⟨by rw [decide_eq_true q2], rfl⟩
def esN (N : nT) (a : Nat) : nT := bsN (uA (uA (uA (sp1 N a) (8 + 40 * a + 14) (csN N a 6)) (8 + 40 * a + 15) (max 1 (spT N a / max 1 ((cmN N a 6 : Nat) : Int)))) (8 + 40 * a + 17) (nA N (8 + 40 * a + 16))) a
theorem es_end (hI : iN [] N) (ha : (a : Int) < nA N 0) (a6 : a < 6) {h' : zH} (c' : CX h' b π ls (uA (sp1 N a) (8 + 40 * a + 14) (csN N a 6)) X t) (s' : CSt b ls h ls h') : zG l w mX4_endSpan 95 [(2, .int (nI 6)), (1, .int (nI (cmN N a 6))), (0, .ref (b + 11 + 7 * a))] [] h' (fun v h1 => v = none ∧ CX h1 b π ls (esN N a) X t ∧ CSt b ls h ls h1) := by
  have L := hI.L a ha
  have H0 := hI.H.1
  have tb := spT_bd L
  have L6 := L.2.1
  have L3 := L.1.2.2.2
  have cb := @cmN_le N a 6
  have s0 : nA (sp1 N a) (8 + 40 * a + 0) = nA N (8 + 40 * a + 0) := sp1_ne (by omega)
  have s3 : nA (sp1 N a) (8 + 40 * a + 3) = nA N (8 + 40 * a + 3) := sp1_ne (by omega)
  have s16 : nA (sp1 N a) (8 + 40 * a + 16) = nA N (8 + 40 * a + 16) := sp1_ne (by omega)
  have s2 : nA (sp1 N a) (8 + 40 * a + 2) = nA N (8 + 40 * a + 2) := sp1_ne (by omega)
  have ha' : (a : Int) < nA (sp1 N a) 0 := by rw [sp1_ne (by omega)]; exact ha
  refine g_aload_n 2 dX4_endSpan_95 rfl rfl ?_
  refine g_iconst (v := nI 1) dX4_endSpan_96 (by decide) ?_
  refine g_aload_n 2 dX4_endSpan_97 rfl rfl ?_
  refine g_geti (f := 128) dX4_endSpan_98 fl_X4_38 (c'.1.2.2.2.2.2.2.2.2.1 a a6).2.1 (by decide) rfl ?_
  rw [show zi h' 128 (b + 11 + 7 * a) = jI (nA (uA (sp1 N a) (8 + 40 * a + 14) (csN N a 6)) (8 + 40 * a + 0)) from (c'.2.2.2.1 a (by rw [nA_ne (by omega)]; exact ha') a6).1 0 (by unfold lkJ; omega)]
  rw [show nA (uA (sp1 N a) (8 + 40 * a + 14) (csN N a 6)) (8 + 40 * a + 0) = nA (sp1 N a) (8 + 40 * a + 0) by rw [nA_ne (by omega)]]
  refine g_aload_n 2 dX4_endSpan_101 rfl rfl ?_
  refine g_geti (f := 131) dX4_endSpan_102 fl_X4_45 (c'.1.2.2.2.2.2.2.2.2.1 a a6).2.1 (by decide) rfl ?_
  rw [show zi h' 131 (b + 11 + 7 * a) = jI (nA (uA (sp1 N a) (8 + 40 * a + 14) (csN N a 6)) (8 + 40 * a + 3)) from (c'.2.2.2.1 a (by rw [nA_ne (by omega)]; exact ha') a6).1 3 (by unfold lkJ; omega)]
  rw [show nA (uA (sp1 N a) (8 + 40 * a + 14) (csN N a 6)) (8 + 40 * a + 3) = nA (sp1 N a) (8 + 40 * a + 3) by rw [nA_ne (by omega)]]
  rw [s0, s3]
  refine g_imul dX4_endSpan_105 ?_
  refine zG.top (show (jI (nA N (8 + 40 * a + 0))) * (jI (nA N (8 + 40 * a + 3))) = jI ((nA N (8 + 40 * a + 0)) * (nA N (8 + 40 * a + 3))) by rw [jI_mul]) ?_
  refine zG.top (show jI (nA N (8 + 40 * a + 0) * nA N (8 + 40 * a + 3)) = jI (spT N a) from rfl) ?_
  refine g_iconst (v := nI 1) dX4_endSpan_106 (by decide) ?_
  refine g_iload_n 1 dX4_endSpan_107 rfl rfl ?_
  refine zG.top (show nI (cmN N a 6) = jI ((cmN N a 6 : Nat) : Int) from (jI_nat _).symm) ?_
  refine zG.sub2 (show nI 1 = jI 1 by decide) ?_
  refine g_invs (M' := mJ9_max_7cf53) (As := [.int (jI 1), .int (jI ((cmN N a 6 : Nat) : Int))]) (rest := [.int (jI (spT N a)), .int (nI 1), .ref (b + 11 + 7 * a)]) dX4_endSpan_108 ml_X4_145 okJ9_max_7cf53 stJ9_max_7cf53 ⟨(Nat.le_of_ble_eq_true rfl), (Nat.le_of_ble_eq_true rfl)⟩ rfl rfl (Nat.le_of_ble_eq_true rfl) (c_maxI (by omega) (by omega)) ?_
  rintro _ q1 ⟨rfl, eq1⟩
  subst q1
  show zG l w mX4_endSpan 111 [(2, .int (nI 6)), (1, .int (nI (cmN N a 6))), (0, .ref (b + 11 + 7 * a))] [.int (jI (max 1 ((cmN N a 6 : Nat) : Int))), .int (jI (spT N a)), .int (nI 1), .ref (b + 11 + 7 * a)] h' _
  refine g_idiv dX4_endSpan_111 (jI_ne0 (by omega)) ?_
  refine zG.top (jI_div (by omega) (by omega)) ?_
  have db : 0 ≤ (spT N a / max 1 ((cmN N a 6 : Nat) : Int)) ∧ (spT N a / max 1 ((cmN N a 6 : Nat) : Int)) ≤ spT N a := ⟨Int.ediv_nonneg (by omega) (by omega), Int.ediv_le_self _ (by omega)⟩
  refine zG.sub2 (show nI 1 = jI 1 by decide) ?_
  refine g_invs (M' := mJ9_max_7cf53) (As := [.int (jI 1), .int (jI (spT N a / max 1 ((cmN N a 6 : Nat) : Int)))]) (rest := [.ref (b + 11 + 7 * a)]) dX4_endSpan_112 ml_X4_145 okJ9_max_7cf53 stJ9_max_7cf53 ⟨(Nat.le_of_ble_eq_true rfl), (Nat.le_of_ble_eq_true rfl)⟩ rfl rfl (Nat.le_of_ble_eq_true rfl) (c_maxI (by omega) (by omega)) ?_
  rintro _ q2 ⟨rfl, eq2⟩
  subst q2
  show zG l w mX4_endSpan 115 [(2, .int (nI 6)), (1, .int (nI (cmN N a 6))), (0, .ref (b + 11 + 7 * a))] [.int (jI (max 1 (spT N a / max 1 ((cmN N a 6 : Nat) : Int)))), .ref (b + 11 + 7 * a)] h' _
  refine g_puti (f := 142) dX4_endSpan_115 fl_X4_54 (Or.inl rfl) (c'.1.2.2.2.2.2.2.2.2.1 a a6).2.1 rfl ?_
  have cx3 : CX (zSi h' 142 (b + 11 + 7 * a) (jI (max 1 (spT N a / max 1 ((cmN N a 6 : Nat) : Int))))) b π ls (uA (uA (sp1 N a) (8 + 40 * a + 14) (csN N a 6)) (8 + 40 * a + 15) (max 1 (spT N a / max 1 ((cmN N a 6 : Nat) : Int)))) X t ∧ CSt b ls h' ls (zSi h' 142 (b + 11 + 7 * a) (jI (max 1 (spT N a / max 1 ((cmN N a 6 : Nat) : Int))))) := c'.setL (j := 15) a6 (by unfold lkJ; omega) (by omega)
  generalize zSi h' 142 (b + 11 + 7 * a) (jI (max 1 (spT N a / max 1 ((cmN N a 6 : Nat) : Int)))) = y3 at cx3 ⊢
  refine g_aload_n 2 dX4_endSpan_118 rfl rfl ?_
  refine g_aload_n 2 dX4_endSpan_119 rfl rfl ?_
  refine g_geti (f := 143) dX4_endSpan_120 fl_X4_86 (cx3.1.1.2.2.2.2.2.2.2.2.1 a a6).2.1 (by decide) rfl ?_
  rw [show zi y3 143 (b + 11 + 7 * a) = jI (nA (uA (uA (sp1 N a) (8 + 40 * a + 14) (csN N a 6)) (8 + 40 * a + 15) (max 1 (spT N a / max 1 ((cmN N a 6 : Nat) : Int)))) (8 + 40 * a + 16)) from (cx3.1.2.2.2.1 a (by rw [nA_ne (by omega), nA_ne (by omega)]; exact ha') a6).1 16 (by unfold lkJ; omega)]
  rw [show nA (uA (uA (sp1 N a) (8 + 40 * a + 14) (csN N a 6)) (8 + 40 * a + 15) (max 1 (spT N a / max 1 ((cmN N a 6 : Nat) : Int)))) (8 + 40 * a + 16) = nA (sp1 N a) (8 + 40 * a + 16) by rw [nA_ne (by omega), nA_ne (by omega)]]
  rw [s16]
  refine g_puti (f := 144) dX4_endSpan_123 fl_X4_57 (Or.inl rfl) (cx3.1.1.2.2.2.2.2.2.2.2.1 a a6).2.1 rfl ?_
  have cx4 : CX (zSi y3 144 (b + 11 + 7 * a) (jI (nA N (8 + 40 * a + 16)))) b π ls (uA (uA (uA (sp1 N a) (8 + 40 * a + 14) (csN N a 6)) (8 + 40 * a + 15) (max 1 (spT N a / max 1 ((cmN N a 6 : Nat) : Int)))) (8 + 40 * a + 17) (nA N (8 + 40 * a + 16))) X t ∧ CSt b ls y3 ls (zSi y3 144 (b + 11 + 7 * a) (jI (nA N (8 + 40 * a + 16)))) := cx3.1.setL (j := 17) a6 (by unfold lkJ; omega) (by omega)
  generalize zSi y3 144 (b + 11 + 7 * a) (jI (nA N (8 + 40 * a + 16))) = y4 at cx4 ⊢
  refine g_aload_n 2 dX4_endSpan_126 rfl rfl ?_
  refine g_invv (M' := mX4_beginSpan) (As := []) (rest := []) dX4_endSpan_127 ml_X4_60 okX4_beginSpan imX4_beginSpan seX4_beginSpan ⟨(Nat.le_of_ble_eq_true rfl), (Nat.le_of_ble_eq_true rfl)⟩ (ci := 4) rfl rfl (cx4.1.1.2.2.2.2.2.2.2.2.1 a a6).2.1 rfl rfl (Nat.le_of_ble_eq_true rfl) (c_beginSpan cx4.1 (by rw [nA_ne (by omega), nA_ne (by omega), nA_ne (by omega)]; exact ha') a6) ?_
  rintro _ y5 ⟨rfl, cx5, sx5⟩
  show zG l w mX4_endSpan 130 [(2, .int (nI 6)), (1, .int (nI (cmN N a 6))), (0, .ref (b + 11 + 7 * a))] [] y5 _
  refine g_return dX4_endSpan_130 rfl ?_
  exact ⟨rfl, cx5, (((s'.tr cx3.2).tr cx4.2).tr sx5)⟩
theorem es_loop (hI : iN [] N) (ha : (a : Int) < nA N 0) (a6 : a < 6) : ∀ n i : Nat, i + n = 6 → ∀ (h' : zH), CX h' b π ls (uA (sp1 N a) (8 + 40 * a + 14) (csN N a i)) X t → CSt b ls h ls h' → zG l w mX4_endSpan 45 [(2, .int (nI i)), (1, .int (nI (cmN N a i))), (0, .ref (b + 11 + 7 * a))] [] h' (fun v h1 => v = none ∧ CX h1 b π ls (esN N a) X t ∧ CSt b ls h ls h1) := by
  intro n
  induction n with
  | zero =>
    intro i hi h' c' s'
    have L := hI.L a ha
    have H0 := hI.H.1
    have tb := spT_bd L
    have L6 := L.2.1
    have L3 := L.1.2.2.2
    have ha' : (a : Int) < nA (sp1 N a) 0 := by rw [sp1_ne (by omega)]; exact ha
    refine g_iload_n 0 dX4_endSpan_45 rfl rfl ?_
    refine g_bipush (v := nI 6) dX4_endSpan_46 (by decide) ?_
    refine g_zcmp_ge (a := ((i : Nat) : Int)) (b := 6) (tgt := 95) (jI_nat i).symm (by decide) dX4_endSpan_48 (by decide) (by omega) (by omega) (fun q => ?_) (fun q => ?_)
    · have e : i = 6 := by omega
      subst e
      exact es_end hI ha a6 c' s'
    · exact absurd q (by omega)
  | succ n ih =>
    intro i hi h' c' s'
    have L := hI.L a ha
    have H0 := hI.H.1
    have tb := spT_bd L
    have L6 := L.2.1
    have L3 := L.1.2.2.2
    have ha' : (a : Int) < nA (sp1 N a) 0 := by rw [sp1_ne (by omega)]; exact ha
    refine g_iload_n 0 dX4_endSpan_45 rfl rfl ?_
    refine g_bipush (v := nI 6) dX4_endSpan_46 (by decide) ?_
    refine g_zcmp_ge (a := ((i : Nat) : Int)) (b := 6) (tgt := 95) (jI_nat i).symm (by decide) dX4_endSpan_48 (by decide) (by omega) (by omega) (fun q => ?_) (fun q => ?_)
    · exact absurd q (by omega)
    · have i6 : i < 6 := by omega
      have Lf := L.2.2.2.2 i i6
      have cb := @cmN_le N a i
      have Lf1 := Lf.1
      have F4 := ((c'.2.2.2.1 a (by rw [nA_ne (by omega)]; exact ha') a6)).2.2.2 i i6
      have e20 : nA (uA (sp1 N a) (8 + 40 * a + 14) (csN N a i)) (8 + 40 * a + (20 + i)) = nA N (8 + 40 * a + (20 + i)) := by rw [nA_ne (by omega)]; exact sp1_ne (by omega)
      have c20 : zI h' (b + 11 + 7 * a + 3) i = jI (nA N (8 + 40 * a + (20 + i))) := by rw [F4.1, e20]
      have e3 : nA (uA (sp1 N a) (8 + 40 * a + 14) (csN N a i)) (8 + 40 * a + 3) = nA N (8 + 40 * a + 3) := by rw [nA_ne (by omega)]; exact sp1_ne (by omega)
      have e26 : nA (uA (sp1 N a) (8 + 40 * a + 14) (csN N a i)) (8 + 40 * a + (26 + i)) = nA N (8 + 40 * a + (26 + i)) := by rw [nA_ne (by omega)]; exact sp1_ne (by omega)
      have e32 : nA (uA (sp1 N a) (8 + 40 * a + 14) (csN N a i)) (8 + 40 * a + (32 + i)) = nA N (8 + 40 * a + (32 + i)) := by rw [nA_ne (by omega)]; exact sp1_ne (by omega)
      have em := moN_same (M := (uA (sp1 N a) (8 + 40 * a + 14) (csN N a i))) e3 e20 e26 e32
      have mb := moN_bd L3 Lf.2.1 Lf.2.2.1
      have is := isN_mo (N := N) (a := a) (f := i) Lf.2.1.1 Lf.2.2.1.1 (by omega)
      refine g_aload_n 2 dX4_endSpan_51 rfl rfl ?_
      refine g_getr (f := 137) (b := b + 11 + 7 * a + 3) dX4_endSpan_52 fl_X4_21 (c'.1.2.2.2.2.2.2.2.2.1 a a6).2.1 rfl ((c'.1.2.2.2.2.2.2.2.2.1 a a6).2.2.2.2.1 0 (by omega)).1 ?_
      refine g_iload_n 0 dX4_endSpan_55 rfl rfl ?_
      refine g_iald dX4_endSpan_56 ((c'.1.2.2.2.2.2.2.2.2.1 a a6).2.2.2.2.1 0 (by omega)).2.1 (by rw [show zn h' (b + 11 + 7 * a + 3) = 6 from ((c'.1.2.2.2.2.2.2.2.2.1 a a6).2.2.2.2.1 0 (by omega)).2.2]; exact vp_in_nI (by omega) (by omega)) ?_
      rw [nI_clamp (by omega)]
      rw [c20]
      refine g_zif_le (a := (nA N (8 + 40 * a + (20 + i)))) (tgt := 63) rfl dX4_endSpan_57 (by decide) (by omega) (fun g => ?_) (fun g => ?_)
      · refine g_aload_n 2 dX4_endSpan_63 rfl rfl ?_
        refine g_getr (f := 137) (b := b + 11 + 7 * a + 3) dX4_endSpan_64 fl_X4_21 (c'.1.2.2.2.2.2.2.2.2.1 a a6).2.1 rfl ((c'.1.2.2.2.2.2.2.2.2.1 a a6).2.2.2.2.1 0 (by omega)).1 ?_
        refine g_iload_n 0 dX4_endSpan_67 rfl rfl ?_
        refine g_iald dX4_endSpan_68 ((c'.1.2.2.2.2.2.2.2.2.1 a a6).2.2.2.2.1 0 (by omega)).2.1 (by rw [show zn h' (b + 11 + 7 * a + 3) = 6 from ((c'.1.2.2.2.2.2.2.2.2.1 a a6).2.2.2.2.1 0 (by omega)).2.2]; exact vp_in_nI (by omega) (by omega)) ?_
        rw [nI_clamp (by omega)]
        rw [c20]
        refine g_aload_n 2 dX4_endSpan_69 rfl rfl ?_
        refine g_iload_n 0 dX4_endSpan_70 rfl rfl ?_
        refine g_invv (M' := mX4_mostAllowed) (As := [.int (nI i)]) (rest := [.int (jI (nA N (8 + 40 * a + (20 + i))))]) dX4_endSpan_71 ml_X4_141 okX4_mostAllowed imX4_mostAllowed seX4_mostAllowed ⟨(Nat.le_of_ble_eq_true rfl), (Nat.le_of_ble_eq_true rfl)⟩ (ci := 4) rfl rfl (c'.1.2.2.2.2.2.2.2.2.1 a a6).2.1 rfl rfl (Nat.le_of_ble_eq_true rfl) (c_mostAllowed c' (by rw [nA_ne (by omega)]; exact ha') a6 i6 (by rw [e3]; exact L3) (by rw [e26]; exact Lf.2.1) (by rw [e32]; exact Lf.2.2.1)) ?_
        rintro _ q1 ⟨rfl, eq1⟩
        subst q1
        show zG l w mX4_endSpan 74 [(2, .int (nI i)), (1, .int (nI (cmN N a i))), (0, .ref (b + 11 + 7 * a))] [.int (jI (moN (uA (sp1 N a) (8 + 40 * a + 14) (csN N a i)) a i)), .int (jI (nA N (8 + 40 * a + (20 + i))))] h' _
        rw [em]
        refine g_zcmp_le (a := (nA N (8 + 40 * a + (20 + i)))) (b := (moN N a i)) (tgt := 89) rfl rfl dX4_endSpan_74 (by decide) (by omega) (by omega) (fun k => ?_) (fun k => ?_)
        · refine g_inc (v := nI (i + 1)) (lv2 := [(2, .int (nI (i + 1))), (1, .int (nI (cmN N a i))), (0, .ref (b + 11 + 7 * a))]) 0 dX4_endSpan_89 rfl (nI_add _ 1) (by decide) rfl ?_
          refine g_goto (tgt := 45) dX4_endSpan_92 (by decide) ?_
          refine zG.sub [0, 1, 2] ?_ (ih (i + 1) (by omega) h' ?_ s')
          · rw [cmN_succ, if_neg (by omega)]; rfl
          · rw [show csN N a (i + 1) = csN N a i by rw [csN, is, decide_eq_false (by omega), if_neg (by decide)]]; exact c'
        · have bd := @csN_bd N a i
          have p6 : (2 : Int) ^ i ≤ 2 ^ 6 := p2_le (by omega)
          have e64 : (2 : Int) ^ 6 = 64 := by decide
          obtain ⟨sn, en⟩ : ∃ sn : Nat, csN N a i = (sn : Int) := ⟨(csN N a i).toNat, (Int.toNat_of_nonneg bd.1).symm⟩
          have hsn : sn < 2 ^ i := by have q9 := bd.2; rw [en] at q9; exact Int.ofNat_lt.mp (by rw [Int.natCast_pow]; exact q9)
          refine g_aload_n 2 dX4_endSpan_77 rfl rfl ?_
          refine g_dup dX4_endSpan_78 rfl ?_
          refine g_geti (f := 141) dX4_endSpan_79 fl_X4_51 (c'.1.2.2.2.2.2.2.2.2.1 a a6).2.1 (by decide) rfl ?_
          rw [show zi h' 141 (b + 11 + 7 * a) = jI (nA (uA (sp1 N a) (8 + 40 * a + 14) (csN N a i)) (8 + 40 * a + 14)) from (c'.2.2.2.1 a (by rw [nA_ne (by omega)]; exact ha') a6).1 14 (by unfold lkJ; omega)]
          rw [show nA (uA (sp1 N a) (8 + 40 * a + 14) (csN N a i)) (8 + 40 * a + 14) = csN N a i by rw [nA_eq]]
          refine zG.top (show jI (csN N a i) = nI sn by rw [en, jI_nat]) ?_
          refine g_iconst (v := nI 1) dX4_endSpan_82 (by decide) ?_
          refine g_iload_n 0 dX4_endSpan_83 rfl rfl ?_
          refine g_ishl dX4_endSpan_84 ?_
          refine g_ior dX4_endSpan_85 ?_
          refine zG.top (show nI sn ||| (nI 1 <<< (nI i &&& 31)) = jI (csN N a i + 2 ^ i) by rw [or_cal sn (by omega) i i6 hsn, en, ← jI_nat, Int.natCast_add, Int.natCast_pow]; rfl) ?_
          refine g_puti (f := 141) dX4_endSpan_86 fl_X4_51 (Or.inl rfl) (c'.1.2.2.2.2.2.2.2.2.1 a a6).2.1 rfl ?_
          have cx2 : CX (zSi h' 141 (b + 11 + 7 * a) (jI (csN N a i + 2 ^ i))) b π ls (uA (uA (sp1 N a) (8 + 40 * a + 14) (csN N a i)) (8 + 40 * a + 14) (csN N a i + 2 ^ i)) X t ∧ CSt b ls h' ls (zSi h' 141 (b + 11 + 7 * a) (jI (csN N a i + 2 ^ i))) := c'.setL (j := 14) a6 (by unfold lkJ; omega) (by omega)
          generalize zSi h' 141 (b + 11 + 7 * a) (jI (csN N a i + 2 ^ i)) = y2 at cx2 ⊢
          refine g_inc (v := nI (i + 1)) (lv2 := [(2, .int (nI (i + 1))), (1, .int (nI (cmN N a i))), (0, .ref (b + 11 + 7 * a))]) 0 dX4_endSpan_89 rfl (nI_add _ 1) (by decide) rfl ?_
          refine g_goto (tgt := 45) dX4_endSpan_92 (by decide) ?_
          refine zG.sub [0, 1, 2] ?_ (ih (i + 1) (by omega) y2 ?_ (s'.tr cx2.2))
          · rw [cmN_succ, if_neg (by omega)]; rfl
          · rw [show csN N a (i + 1) = csN N a i + 2 ^ i by rw [csN, is, decide_eq_true (by omega), if_pos rfl]]; have z := cx2.1; rw [uA_same] at z; exact z
      · refine g_inc (v := nI ((cmN N a i) + 1)) (lv2 := [(1, .int (nI ((cmN N a i) + 1))), (2, .int (nI i)), (0, .ref (b + 11 + 7 * a))]) 1 dX4_endSpan_60 rfl (nI_add _ 1) (by decide) rfl ?_
        refine g_aload_n 2 dX4_endSpan_63 rfl rfl ?_
        refine g_getr (f := 137) (b := b + 11 + 7 * a + 3) dX4_endSpan_64 fl_X4_21 (c'.1.2.2.2.2.2.2.2.2.1 a a6).2.1 rfl ((c'.1.2.2.2.2.2.2.2.2.1 a a6).2.2.2.2.1 0 (by omega)).1 ?_
        refine g_iload_n 1 dX4_endSpan_67 rfl rfl ?_
        refine g_iald dX4_endSpan_68 ((c'.1.2.2.2.2.2.2.2.2.1 a a6).2.2.2.2.1 0 (by omega)).2.1 (by rw [show zn h' (b + 11 + 7 * a + 3) = 6 from ((c'.1.2.2.2.2.2.2.2.2.1 a a6).2.2.2.2.1 0 (by omega)).2.2]; exact vp_in_nI (by omega) (by omega)) ?_
        rw [nI_clamp (by omega)]
        rw [c20]
        refine g_aload_n 2 dX4_endSpan_69 rfl rfl ?_
        refine g_iload_n 1 dX4_endSpan_70 rfl rfl ?_
        refine g_invv (M' := mX4_mostAllowed) (As := [.int (nI i)]) (rest := [.int (jI (nA N (8 + 40 * a + (20 + i))))]) dX4_endSpan_71 ml_X4_141 okX4_mostAllowed imX4_mostAllowed seX4_mostAllowed ⟨(Nat.le_of_ble_eq_true rfl), (Nat.le_of_ble_eq_true rfl)⟩ (ci := 4) rfl rfl (c'.1.2.2.2.2.2.2.2.2.1 a a6).2.1 rfl rfl (Nat.le_of_ble_eq_true rfl) (c_mostAllowed c' (by rw [nA_ne (by omega)]; exact ha') a6 i6 (by rw [e3]; exact L3) (by rw [e26]; exact Lf.2.1) (by rw [e32]; exact Lf.2.2.1)) ?_
        rintro _ q3 ⟨rfl, eq3⟩
        subst q3
        show zG l w mX4_endSpan 74 [(1, .int (nI ((cmN N a i) + 1))), (2, .int (nI i)), (0, .ref (b + 11 + 7 * a))] [.int (jI (moN (uA (sp1 N a) (8 + 40 * a + 14) (csN N a i)) a i)), .int (jI (nA N (8 + 40 * a + (20 + i))))] h' _
        rw [em]
        refine g_zcmp_le (a := (nA N (8 + 40 * a + (20 + i)))) (b := (moN N a i)) (tgt := 89) rfl rfl dX4_endSpan_74 (by decide) (by omega) (by omega) (fun k => ?_) (fun k => ?_)
        · refine g_inc (v := nI (i + 1)) (lv2 := [(2, .int (nI (i + 1))), (1, .int (nI ((cmN N a i) + 1))), (0, .ref (b + 11 + 7 * a))]) 1 dX4_endSpan_89 rfl (nI_add _ 1) (by decide) rfl ?_
          refine g_goto (tgt := 45) dX4_endSpan_92 (by decide) ?_
          refine zG.sub [0, 1, 2] ?_ (ih (i + 1) (by omega) h' ?_ s')
          · rw [cmN_succ, if_pos (by omega)]; rfl
          · rw [show csN N a (i + 1) = csN N a i by rw [csN, is, decide_eq_false (by omega), if_neg (by decide)]]; exact c'
        · have bd := @csN_bd N a i
          have p6 : (2 : Int) ^ i ≤ 2 ^ 6 := p2_le (by omega)
          have e64 : (2 : Int) ^ 6 = 64 := by decide
          obtain ⟨sn, en⟩ : ∃ sn : Nat, csN N a i = (sn : Int) := ⟨(csN N a i).toNat, (Int.toNat_of_nonneg bd.1).symm⟩
          have hsn : sn < 2 ^ i := by have q9 := bd.2; rw [en] at q9; exact Int.ofNat_lt.mp (by rw [Int.natCast_pow]; exact q9)
          refine g_aload_n 2 dX4_endSpan_77 rfl rfl ?_
          refine g_dup dX4_endSpan_78 rfl ?_
          refine g_geti (f := 141) dX4_endSpan_79 fl_X4_51 (c'.1.2.2.2.2.2.2.2.2.1 a a6).2.1 (by decide) rfl ?_
          rw [show zi h' 141 (b + 11 + 7 * a) = jI (nA (uA (sp1 N a) (8 + 40 * a + 14) (csN N a i)) (8 + 40 * a + 14)) from (c'.2.2.2.1 a (by rw [nA_ne (by omega)]; exact ha') a6).1 14 (by unfold lkJ; omega)]
          rw [show nA (uA (sp1 N a) (8 + 40 * a + 14) (csN N a i)) (8 + 40 * a + 14) = csN N a i by rw [nA_eq]]
          refine zG.top (show jI (csN N a i) = nI sn by rw [en, jI_nat]) ?_
          refine g_iconst (v := nI 1) dX4_endSpan_82 (by decide) ?_
          refine g_iload_n 1 dX4_endSpan_83 rfl rfl ?_
          refine g_ishl dX4_endSpan_84 ?_
          refine g_ior dX4_endSpan_85 ?_
          refine zG.top (show nI sn ||| (nI 1 <<< (nI i &&& 31)) = jI (csN N a i + 2 ^ i) by rw [or_cal sn (by omega) i i6 hsn, en, ← jI_nat, Int.natCast_add, Int.natCast_pow]; rfl) ?_
          refine g_puti (f := 141) dX4_endSpan_86 fl_X4_51 (Or.inl rfl) (c'.1.2.2.2.2.2.2.2.2.1 a a6).2.1 rfl ?_
          have cx4 : CX (zSi h' 141 (b + 11 + 7 * a) (jI (csN N a i + 2 ^ i))) b π ls (uA (uA (sp1 N a) (8 + 40 * a + 14) (csN N a i)) (8 + 40 * a + 14) (csN N a i + 2 ^ i)) X t ∧ CSt b ls h' ls (zSi h' 141 (b + 11 + 7 * a) (jI (csN N a i + 2 ^ i))) := c'.setL (j := 14) a6 (by unfold lkJ; omega) (by omega)
          generalize zSi h' 141 (b + 11 + 7 * a) (jI (csN N a i + 2 ^ i)) = y4 at cx4 ⊢
          refine g_inc (v := nI (i + 1)) (lv2 := [(2, .int (nI (i + 1))), (1, .int (nI ((cmN N a i) + 1))), (0, .ref (b + 11 + 7 * a))]) 1 dX4_endSpan_89 rfl (nI_add _ 1) (by decide) rfl ?_
          refine g_goto (tgt := 45) dX4_endSpan_92 (by decide) ?_
          refine zG.sub [0, 1, 2] ?_ (ih (i + 1) (by omega) y4 ?_ (s'.tr cx4.2))
          · rw [cmN_succ, if_pos (by omega)]; rfl
          · rw [show csN N a (i + 1) = csN N a i + 2 ^ i by rw [csN, is, decide_eq_true (by omega), if_pos rfl]]; have z := cx4.1; rw [uA_same] at z; exact z
theorem c_endSpan (c : CX h b π ls N X t) (hI : iN [] N) (ha : (a : Int) < nA N 0) (a6 : a < 6) : zM l w mX4_endSpan [.ref (b + 11 + 7 * a)] h (fun v h1 => v = none ∧ CX h1 b π ls (esN N a) X t ∧ CSt b ls h ls h1) := by
  refine zM.of (by decide) (Nat.le_of_ble_eq_true rfl) ?_
  have L := hI.L a ha
  have H0 := hI.H.1
  have tb := spT_bd L
  have L6 := L.2.1
  have L3 := L.1.2.2.2
  refine g_aload_n 0 dX4_endSpan_0 rfl rfl ?_
  refine g_getr (f := 140) (b := b + 11 + 7 * a + 6) dX4_endSpan_1 fl_X4_34 (c.1.2.2.2.2.2.2.2.2.1 a a6).2.1 rfl (c.1.2.2.2.2.2.2.2.2.1 a a6).2.2.2.2.2.1 ?_
  refine g_aload_n 0 dX4_endSpan_4 rfl rfl ?_
  refine g_geti (f := 128) dX4_endSpan_5 fl_X4_38 (c.1.2.2.2.2.2.2.2.2.1 a a6).2.1 (by decide) rfl ?_
  rw [show zi h 128 (b + 11 + 7 * a) = jI (nA N (8 + 40 * a + 0)) from (c.2.2.2.1 a ha a6).1 0 (by unfold lkJ; omega)]
  refine g_aload_n 0 dX4_endSpan_8 rfl rfl ?_
  refine g_geti (f := 131) dX4_endSpan_9 fl_X4_45 (c.1.2.2.2.2.2.2.2.2.1 a a6).2.1 (by decide) rfl ?_
  rw [show zi h 131 (b + 11 + 7 * a) = jI (nA N (8 + 40 * a + 3)) from (c.2.2.2.1 a ha a6).1 3 (by unfold lkJ; omega)]
  refine g_imul dX4_endSpan_12 ?_
  refine zG.top (show (jI (nA N (8 + 40 * a + 0))) * (jI (nA N (8 + 40 * a + 3))) = jI ((nA N (8 + 40 * a + 0)) * (nA N (8 + 40 * a + 3))) by rw [jI_mul]) ?_
  refine zG.top (show jI (nA N (8 + 40 * a + 0) * nA N (8 + 40 * a + 3)) = jI (spT N a) from rfl) ?_
  refine g_aload_n 0 dX4_endSpan_13 rfl rfl ?_
  refine g_geti (f := 134) dX4_endSpan_14 fl_X4_66 (c.1.2.2.2.2.2.2.2.2.1 a a6).2.1 (by decide) rfl ?_
  rw [show zi h 134 (b + 11 + 7 * a) = jI (nA N (8 + 40 * a + 6)) from (c.2.2.2.1 a ha a6).1 6 (by unfold lkJ; omega)]
  refine g_isub dX4_endSpan_17 ?_
  refine zG.top (show (jI (spT N a)) - (jI (nA N (8 + 40 * a + 6))) = jI ((spT N a) - (nA N (8 + 40 * a + 6))) by rw [jI_sub]) ?_
  refine g_i2l dX4_endSpan_18 ?_
  rw [jI_l (by omega) (by omega)]
  refine g_aload_n 0 dX4_endSpan_19 rfl rfl ?_
  refine g_geti (f := 135) dX4_endSpan_20 fl_X4_69 (c.1.2.2.2.2.2.2.2.2.1 a a6).2.1 (by decide) rfl ?_
  rw [show zi h 135 (b + 11 + 7 * a) = jI (nA N (8 + 40 * a + 7)) from (c.2.2.2.1 a ha a6).1 7 (by unfold lkJ; omega)]
  refine g_i2l dX4_endSpan_23 ?_
  rw [jI_l (by omega) (by omega)]
  refine g_aload_n 0 dX4_endSpan_24 rfl rfl ?_
  refine g_geti (f := 134) dX4_endSpan_25 fl_X4_66 (c.1.2.2.2.2.2.2.2.2.1 a a6).2.1 (by decide) rfl ?_
  rw [show zi h 134 (b + 11 + 7 * a) = jI (nA N (8 + 40 * a + 6)) from (c.2.2.2.1 a ha a6).1 6 (by unfold lkJ; omega)]
  refine g_i2l dX4_endSpan_28 ?_
  rw [jI_l (by omega) (by omega)]
  refine g_aload_n 0 dX4_endSpan_29 rfl rfl ?_
  refine g_getl (f := 136) dX4_endSpan_30 fl_X4_72 (c.1.2.2.2.2.2.2.2.2.1 a a6).2.1 rfl ?_
  rw [show zl h 136 (b + 11 + 7 * a) = jL (nA N (8 + 40 * a + 18)) from (c.2.2.2.1 a ha a6).2.1]
  refine g_invv (M' := mX7_renew) (As := [.long (jL ((spT N a) - (nA N (8 + 40 * a + 6)))), .long (jL (nA N (8 + 40 * a + 7))), .long (jL (nA N (8 + 40 * a + 6))), .long (jL (nA N (8 + 40 * a + 18)))]) (rest := []) dX4_endSpan_33 ml_X4_137 okX7_renew imX7_renew seX7_renew ⟨(Nat.le_of_ble_eq_true rfl), (Nat.le_of_ble_eq_true rfl)⟩ (ci := 7) rfl rfl (c.1.2.2.2.2.2.2.2.2.1 a a6).2.2.2.2.2.2 rfl rfl (Nat.le_of_ble_eq_true rfl) (c_renew c ha a6 L) ?_
  rintro _ y1 ⟨rfl, cx1, sx1⟩
  show zG l w mX4_endSpan 36 [(0, .ref (b + 11 + 7 * a))] [] y1 _
  have ha' : (a : Int) < nA (sp1 N a) 0 := by rw [sp1_ne (by omega)]; exact ha
  refine g_aload_n 0 dX4_endSpan_36 rfl rfl ?_
  refine g_iconst (v := nI 0) dX4_endSpan_37 (by decide) ?_
  refine zG.top (show nI 0 = jI 0 from (by decide)) ?_
  refine g_puti (f := 141) dX4_endSpan_38 fl_X4_51 (Or.inl rfl) (cx1.1.2.2.2.2.2.2.2.2.1 a a6).2.1 rfl ?_
  have cx2 : CX (zSi y1 141 (b + 11 + 7 * a) (jI 0)) b π ls (uA (sp1 N a) (8 + 40 * a + 14) 0) X t ∧ CSt b ls y1 ls (zSi y1 141 (b + 11 + 7 * a) (jI 0)) := cx1.setL (j := 14) a6 (by unfold lkJ; omega) (by omega)
  generalize zSi y1 141 (b + 11 + 7 * a) (jI 0) = y2 at cx2 ⊢
  refine g_iconst (v := nI 0) dX4_endSpan_41 (by decide) ?_
  refine g_istore_n (lv2 := [(1, .int (nI 0)), (0, .ref (b + 11 + 7 * a))]) dX4_endSpan_42 rfl (by decide) rfl ?_
  refine g_iconst (v := nI 0) dX4_endSpan_43 (by decide) ?_
  refine g_istore_n (lv2 := [(2, .int (nI 0)), (1, .int (nI 0)), (0, .ref (b + 11 + 7 * a))]) dX4_endSpan_44 rfl (by decide) rfl ?_
  exact zG.sub [0, 1, 2] rfl (es_loop hI ha a6 6 0 rfl y2 cx2.1 ((CSt.rf.tr sx1).tr cx2.2))
end CZ7
