section BSC
variable {l : Launch} {w : zW} {h y : zH} {x e b n : Nat} {π : Nat → Nat} {ls : Nat → List Nat} {N : nT} {S : (Nat → Int) × (Nat → Int)} {a i t : Nat} {v : Int} {B : Nat → Nat} {Ms : Nat → nT}
/-- the class's rows of rates, necks and who grows -/
def BsO (h : zH) (e : Nat) : Prop := zk h e = 0 ∧ (zr h 0 e = some (e + 1) ∧ zk h (e + 1) = 21 ∧ zn h (e + 1) = 6) ∧ (zr h 1 e = some (e + 2) ∧ zk h (e + 2) = 21 ∧ zn h (e + 2) = 6) ∧ (zr h 2 e = some (e + 3) ∧ zk h (e + 3) = 23 ∧ zn h (e + 3) = 6)
def BsV (h : zH) (e : Nat) (N : nT) (S : (Nat → Int) × (Nat → Int)) : Prop := (∀ f, f < 6 → zI h (e + 1) f = jI (S.1 f)) ∧ (∀ f, f < 6 → zI h (e + 2) f = jI (S.2 f)) ∧ ∀ f, f < 6 → zI h (e + 3) f = bI (grB N S f)
/-- only these rows have changed -/
def FrR (e : Nat) (h y : zH) : Prop := (zx y = zx h ∧ zt y = zt h) ∧ (∀ a, zk y a = zk h a ∧ zn y a = zn h a) ∧ (∀ f a, zi y f a = zi h f a ∧ zl y f a = zl h f a ∧ zr y f a = zr h f a) ∧ (∀ a i, zL y a i = zL h a i ∧ zR y a i = zR h a i) ∧ ∀ a i, (a < e + 1 ∨ e + 3 < a) → zI y a i = zI h a i
theorem FrR.rf : FrR e h h := ⟨⟨rfl, rfl⟩, fun _ => ⟨rfl, rfl⟩, fun _ _ => ⟨rfl, rfl, rfl⟩, fun _ _ => ⟨rfl, rfl⟩, fun _ _ _ => rfl⟩
theorem FrR.sI {k i : Nat} {v : Int32} (F : FrR e h y) (hk : 1 ≤ k ∧ k ≤ 3) : FrR e h (zSI y (e + k) i v) := ⟨F.1, F.2.1, F.2.2.1, F.2.2.2.1, fun a j q => by rw [zI_SI, if_neg (fun z => by omega)]; exact F.2.2.2.2 a j q⟩
theorem FrR.sm {a : Nat} (F : FrR e h y) (ha : a < e + 1 ∨ e + 3 < a) : SmA h y a := ⟨F.2.1 a, fun f => F.2.2.1 f a, fun i => ⟨F.2.2.2.2 a i ha, (F.2.2.2.1 a i).1, (F.2.2.2.1 a i).2⟩⟩
theorem BsO.fr (o : BsO h e) (F : FrR e h y) : BsO y e := by
  unfold BsO
  rw [(F.2.1 _).1, (F.2.1 _).1, (F.2.1 _).1, (F.2.1 _).1, (F.2.1 _).2, (F.2.1 _).2, (F.2.1 _).2, (F.2.2.1 _ _).2.2, (F.2.2.1 _ _).2.2, (F.2.2.1 _ _).2.2]
  exact o
theorem lnS.frR (s : lnS h ls) (F : FrR e h y) (o : BsO h e) : lnS y ls := s.tf (by rw [F.1.1]; exact Nat.le_refl _) (fun L hL => ⟨by rw [← F.1.1]; exact hL.1, (F.2.1 L).1.symm.trans hL.2⟩) (fun a _ ka => F.sm (by
  have k1 := o.2.1.2.1
  have k2 := o.2.2.1.2.1
  have k3 := o.2.2.2.2.1
  by_cases q1 : a = e + 1
  · rw [q1, k1] at ka; omega
  · by_cases q2 : a = e + 2
    · rw [q2, k2] at ka; omega
    · by_cases q3 : a = e + 3
      · rw [q3, k3] at ka; omega
      · omega))
theorem CX.frR (c : CX h b π ls N [] t) (hc : iC [] N) (F : FrR e h y) (o : BsO h e) (dj : b + 65 ≤ e ∨ e + 4 ≤ b) : CX y b π ls N [] t := by
  refine c.tf hc (by rw [F.1.1]; exact Nat.le_refl _) (fun a h1 h2 => F.sm (by omega)) (fun k hk p hp => F.sm ?_) (c.2.1.frR F o) (fun _ _ => rfl)
  obtain ⟨j, hj⟩ := List.getElem?_of_mem hp
  have k6 := ((c.2.1.1 _ (lin_isL c.1 hk)).2.2.2 j p hj).1.2
  have k1 := o.2.1.2.1
  have k2 := o.2.2.1.2.1
  have k3 := o.2.2.2.2.1
  by_cases q1 : p = e + 1
  · rw [q1, k1] at k6; omega
  · by_cases q2 : p = e + 2
    · rw [q2, k2] at k6; omega
    · by_cases q3 : p = e + 3
      · rw [q3, k3] at k6; omega
      · omega
theorem grB_up {f : Nat} (ns : stB N S a i = true) : grB N (bup N S a v (i + 1)) f = if f = i then false else grB N (bup N S a v i) f := by
  by_cases q : f = i
  · subst q
    rw [if_pos rfl]
    by_cases g : grB N (bup N S a v (f + 1)) f = true
    · have := gr_n1 g
      rw [(bup_1 ns (by omega)).2] at this
      omega
    · exact Bool.eq_false_iff.mpr g
  · rw [if_neg q]
    unfold grB
    rw [(bup_ne q).2]
theorem grB_cg {S' : (Nat → Int) × (Nat → Int)} {f : Nat} (e : S'.2 f = S.2 f) : grB N S' f = grB N S f := by unfold grB; rw [e]
def lsT (N : nT) (S : (Nat → Int) × (Nat → Int)) (k : Nat) : Int := if btN N S k = -1 then 0 else eaN N S (btN N S k).toNat
theorem c_crosses (c : CX h b π ls N [] t) (hI : iN [] N) (O : BsO h e) (hi : i < 1000) (a6 : a < 6) : zM l w mX0_crosses [.ref e, .ref b, .int (nI i), .int (nI a)] h (fun u h1 => u = some (.int (bI (crN N i a))) ∧ h1 = h) := by
  refine zM.of (by decide) (Nat.le_of_ble_eq_true rfl) ?_
  have H1 := hI.H.2.1
  by_cases hf : (i : Int) < nA N 1
  · rw [crN_in hf]
    refine g_aload_n 1 dX0_crosses_0 rfl rfl ?_
    refine g_iload_n 2 dX0_crosses_1 rfl rfl ?_
    refine g_invv (M' := mX5_flowAt) (As := [.int (nI i)]) (rest := []) dX0_crosses_2 ml_X0_22 okX5_flowAt imX5_flowAt seX5_flowAt ⟨(Nat.le_of_ble_eq_true rfl), (Nat.le_of_ble_eq_true rfl)⟩ (ci := 5) rfl rfl c.1.1.2 rfl rfl (Nat.le_of_ble_eq_true rfl) (c_flowIn c H1 hf) ?_
    rintro _ q1 ⟨rfl, eq1⟩
    subst q1
    show zG l w mX0_crosses 5 [(0, .ref e), (1, .ref b), (2, .int (nI i)), (3, .int (nI a))] [.ref (b + 53 + 2 * i)] h _
    refine g_astore (lv2 := [(4, .ref (b + 53 + 2 * i)), (0, .ref e), (1, .ref b), (2, .int (nI i)), (3, .int (nI a))]) dX0_crosses_5 (by decide) rfl ?_
    refine g_aload 0 dX0_crosses_7 rfl ?_
    refine g_ifnull dX0_crosses_9 ?_
    refine g_aload 0 dX0_crosses_12 rfl ?_
    refine g_iload_n 4 dX0_crosses_14 rfl rfl ?_
    have i6 : i < 6 := by omega
    refine g_invv (M' := mX2_goesOver) (As := [.int (nI a)]) (rest := []) dX0_crosses_15 ml_X0_59 okX2_goesOver imX2_goesOver seX2_goesOver ⟨(Nat.le_of_ble_eq_true rfl), (Nat.le_of_ble_eq_true rfl)⟩ (ci := 2) rfl rfl (c.1.2.2.2.2.2.2.2.2.2 i i6).2.1 rfl rfl (Nat.le_of_ble_eq_true rfl) (c_goesOver c hI hf a6) ?_
    rintro _ q2 ⟨rfl, eq2⟩
    subst q2
    show zG l w mX0_crosses 18 [(4, .ref (b + 53 + 2 * i)), (0, .ref e), (1, .ref b), (2, .int (nI i)), (3, .int (nI a))] [.int (bI (inB N i (a : Int)))] h _
    refine g_bif_eq (tgt := 25) dX0_crosses_18 (by decide) (fun d => ?_) (fun d => ?_)
    · refine g_iconst (v := nI 0) dX0_crosses_25 (by decide) ?_
      refine g_zreturn dX0_crosses_26 rfl (by first | rfl | assumption) ?_
      exact ⟨by rw [d]; rfl, rfl⟩
    · refine g_iconst (v := nI 1) dX0_crosses_21 (by decide) ?_
      refine g_goto (tgt := 26) dX0_crosses_22 (by decide) ?_
      refine g_zreturn dX0_crosses_26 rfl (by first | rfl | assumption) ?_
      exact ⟨by rw [d]; rfl, rfl⟩
  · rw [crN_out (by omega)]
    refine g_aload_n 1 dX0_crosses_0 rfl rfl ?_
    refine g_iload_n 2 dX0_crosses_1 rfl rfl ?_
    refine g_invv (M' := mX5_flowAt) (As := [.int (nI i)]) (rest := []) dX0_crosses_2 ml_X0_22 okX5_flowAt imX5_flowAt seX5_flowAt ⟨(Nat.le_of_ble_eq_true rfl), (Nat.le_of_ble_eq_true rfl)⟩ (ci := 5) rfl rfl c.1.1.2 rfl rfl (Nat.le_of_ble_eq_true rfl) (by have z := c_flowOut (l := l) (w := w) c H1 (z := (i : Int)) (by omega) (by omega); rw [jI_nat] at z; exact z) ?_
    rintro _ q3 ⟨rfl, eq3⟩
    subst q3
    show zG l w mX0_crosses 5 [(0, .ref e), (1, .ref b), (2, .int (nI i)), (3, .int (nI a))] [.null] h _
    refine g_astoreN (lv2 := [(4, .null), (0, .ref e), (1, .ref b), (2, .int (nI i)), (3, .int (nI a))]) dX0_crosses_5 (by decide) rfl ?_
    refine g_aloadN 0 dX0_crosses_7 rfl ?_
    refine g_ifnullN (tgt := 25) dX0_crosses_9 (by decide) ?_
    refine g_iconst (v := nI 0) dX0_crosses_25 (by decide) ?_
    refine g_zreturn dX0_crosses_26 rfl (by first | rfl | assumption) ?_
    exact ⟨rfl, rfl⟩
theorem c_roomFor (c : CX h b π ls N [] t) (hI : iN [] N) (O : BsO h e) (V : BsV h e N S) (hS : bsI N S) (ha : (a : Int) < nA N 0) : zM l w mX0_roomForEach [.ref e, .ref b, .int (nI a)] h (fun u h1 => u = some (.int (if 0 < gwN N S a 6 then jI (eaN N S a) else -1)) ∧ h1 = h) := by
  refine zM.of (by decide) (Nat.le_of_ble_eq_true rfl) ?_
  have H0 := hI.H.1
  have a6 : a < 6 := by omega
  have rb := hS.1 a ha
  have gl := gw_le (N := N) (S := S) (a := a) 6
  have loop : ∀ n i : Nat, i + n = 6 → zG l w mX0_roomForEach 28 [(6, .int (nI i)), (5, .int (nI (gwN N S a i))), (4, .int (jI (rsN N S a i))), (3, .ref (b + 11 + 7 * a)), (0, .ref e), (1, .ref b), (2, .int (nI a))] [] h (fun u h1 => u = some (.int (if 0 < gwN N S a 6 then jI (eaN N S a) else -1)) ∧ h1 = h) := by
    intro n
    induction n with
    | zero =>
      intro i hi
      obtain rfl : i = 6 := by omega
      refine g_iload 0 dX0_roomForEach_28 rfl ?_
      refine g_bipush (v := nI 6) dX0_roomForEach_30 (by decide) ?_
      refine g_ncmp_ge (tgt := 84) dX0_roomForEach_32 (by decide) (by omega) (by omega) (fun g => ?_) (fun g => ?_)
      · refine g_iload 1 dX0_roomForEach_84 rfl ?_
        refine g_zif_le (a := ((gwN N S a 6 : Nat) : Int)) (tgt := 97) (jI_nat (gwN N S a 6)).symm dX0_roomForEach_86 (by decide) (by omega) (fun d => ?_) (fun d => ?_)
        · refine g_iconst (v := (-1)) dX0_roomForEach_97 (by decide) ?_
          refine g_ireturn dX0_roomForEach_98 rfl ?_
          exact ⟨by rw [if_neg (by omega)], rfl⟩
        · refine g_iload 2 dX0_roomForEach_89 rfl ?_
          refine g_iload 1 dX0_roomForEach_91 rfl ?_
          rw [show nI (gwN N S a 6) = jI ((gwN N S a 6 : Nat) : Int) from (jI_nat _).symm]
          refine g_idiv dX0_roomForEach_93 (jI_ne0 (by omega)) ?_
          rw [jI_div (by omega) (by omega)]
          refine g_goto (tgt := 98) dX0_roomForEach_94 (by decide) ?_
          refine g_ireturn dX0_roomForEach_98 rfl ?_
          exact ⟨by rw [if_pos (by omega)]; rfl, rfl⟩
      · exact absurd g (by omega)
    | succ n ih =>
      intro i hi
      refine g_iload 0 dX0_roomForEach_28 rfl ?_
      refine g_bipush (v := nI 6) dX0_roomForEach_30 (by decide) ?_
      refine g_ncmp_ge (tgt := 84) dX0_roomForEach_32 (by decide) (by omega) (by omega) (fun g => ?_) (fun g => ?_)
      · exact absurd g (by omega)
      · refine g_aload_n 4 dX0_roomForEach_35 rfl rfl ?_
        refine g_aload_n 5 dX0_roomForEach_36 rfl rfl ?_
        refine g_iload 0 dX0_roomForEach_37 rfl ?_
        refine g_iload_n 6 dX0_roomForEach_39 rfl rfl ?_
        refine g_invv (M' := mX0_crosses) (As := [.ref b, .int (nI i), .int (nI a)]) (rest := []) dX0_roomForEach_40 ml_X0_46 okX0_crosses imX0_crosses seX0_crosses ⟨(Nat.le_of_ble_eq_true rfl), (Nat.le_of_ble_eq_true rfl)⟩ (ci := 0) rfl rfl O.1 rfl rfl (Nat.le_of_ble_eq_true rfl) (c_crosses c hI O (by omega) a6) ?_
        rintro _ q1 ⟨rfl, eq1⟩
        subst q1
        show zG l w mX0_roomForEach 43 [(6, .int (nI i)), (5, .int (nI (gwN N S a i))), (4, .int (jI (rsN N S a i))), (3, .ref (b + 11 + 7 * a)), (0, .ref e), (1, .ref b), (2, .int (nI a))] [.int (bI (crN N i a))] h _
        refine g_bif_eq (tgt := 78) dX0_roomForEach_43 (by decide) (fun d => ?_) (fun d => ?_)
        · refine g_inc (v := nI (i + 1)) (lv2 := [(6, .int (nI (i + 1))), (5, .int (nI (gwN N S a i))), (4, .int (jI (rsN N S a i))), (3, .ref (b + 11 + 7 * a)), (0, .ref e), (1, .ref b), (2, .int (nI a))]) 0 dX0_roomForEach_78 rfl (nI_add _ 1) (by decide) rfl ?_
          refine g_goto (tgt := 28) dX0_roomForEach_81 (by decide) ?_
          have e1 : gwN N S a (i + 1) = gwN N S a i + 0 := by rw [gwN, d, Bool.false_and, if_neg (by decide)]
          have e2 : rsN N S a (i + 1) = rsN N S a i := by rw [rsN, d, if_neg (by decide), Int.sub_zero]
          exact zG.sub [0, 1, 2, 3, 4, 5, 6] (by rw [e1, e2]; rfl) (ih (i + 1) (by omega))
        · refine g_iload 2 dX0_roomForEach_46 rfl ?_
          refine g_aload_n 4 dX0_roomForEach_48 rfl rfl ?_
          refine g_getr (f := 0) (b := e + 1) dX0_roomForEach_49 fl_X0_9 O.1 rfl O.2.1.1 ?_
          refine g_iload 0 dX0_roomForEach_52 rfl ?_
          refine g_iald dX0_roomForEach_54 O.2.1.2.1 (by rw [show zn h (e + 1) = 6 from O.2.1.2.2]; exact vp_in_nI (by omega) (by omega)) ?_
          rw [nI_clamp (by omega)]
          rw [show zI h (e + 1) i = jI (S.1 i) from V.1 i (by omega)]
          refine g_isub dX0_roomForEach_55 ?_
          rw [jI_sub]
          refine g_istore (lv2 := [(4, .int (jI (rsN N S a i - S.1 i))), (6, .int (nI i)), (5, .int (nI (gwN N S a i))), (3, .ref (b + 11 + 7 * a)), (0, .ref e), (1, .ref b), (2, .int (nI a))]) dX0_roomForEach_56 (by decide) rfl ?_
          refine g_iload 2 dX0_roomForEach_58 rfl ?_
          refine g_aload_n 4 dX0_roomForEach_60 rfl rfl ?_
          refine g_getr (f := 2) (b := e + 3) dX0_roomForEach_61 fl_X0_18 O.1 rfl O.2.2.2.1 ?_
          refine g_iload 1 dX0_roomForEach_64 rfl ?_
          refine g_zald dX0_roomForEach_66 O.2.2.2.2.1 (by rw [show zn h (e + 3) = 6 from O.2.2.2.2.2]; exact vp_in_nI (by omega) (by omega)) ?_
          rw [nI_clamp (by omega)]
          rw [show zI h (e + 3) i = bI (grB N S i) from V.2.2 i (by omega)]
          refine g_bif_eq (tgt := 74) dX0_roomForEach_67 (by decide) (fun d2 => ?_) (fun d2 => ?_)
          · refine g_iconst (v := nI 0) dX0_roomForEach_74 (by decide) ?_
            refine g_iadd dX0_roomForEach_75 ?_
            rw [nI_add (gwN N S a i) 0]
            refine g_istore (lv2 := [(5, .int (nI (gwN N S a i + 0))), (4, .int (jI (rsN N S a i - S.1 i))), (6, .int (nI i)), (3, .ref (b + 11 + 7 * a)), (0, .ref e), (1, .ref b), (2, .int (nI a))]) dX0_roomForEach_76 (by decide) rfl ?_
            refine g_inc (v := nI (i + 1)) (lv2 := [(6, .int (nI (i + 1))), (5, .int (nI (gwN N S a i + 0))), (4, .int (jI (rsN N S a i - S.1 i))), (3, .ref (b + 11 + 7 * a)), (0, .ref e), (1, .ref b), (2, .int (nI a))]) 2 dX0_roomForEach_78 rfl (nI_add _ 1) (by decide) rfl ?_
            refine g_goto (tgt := 28) dX0_roomForEach_81 (by decide) ?_
            have e1 : gwN N S a (i + 1) = gwN N S a i + 0 := by rw [gwN, d, d2, Bool.and_false, if_neg (by decide)]
            have e2 : rsN N S a (i + 1) = rsN N S a i - S.1 i := by rw [rsN, d, if_pos rfl]
            exact zG.sub [0, 1, 2, 3, 4, 5, 6] (by rw [e1, e2]; rfl) (ih (i + 1) (by omega))
          · refine g_iconst (v := nI 1) dX0_roomForEach_70 (by decide) ?_
            refine g_goto (tgt := 75) dX0_roomForEach_71 (by decide) ?_
            refine g_iadd dX0_roomForEach_75 ?_
            rw [nI_add (gwN N S a i) 1]
            refine g_istore (lv2 := [(5, .int (nI (gwN N S a i + 1))), (4, .int (jI (rsN N S a i - S.1 i))), (6, .int (nI i)), (3, .ref (b + 11 + 7 * a)), (0, .ref e), (1, .ref b), (2, .int (nI a))]) dX0_roomForEach_76 (by decide) rfl ?_
            refine g_inc (v := nI (i + 1)) (lv2 := [(6, .int (nI (i + 1))), (5, .int (nI (gwN N S a i + 1))), (4, .int (jI (rsN N S a i - S.1 i))), (3, .ref (b + 11 + 7 * a)), (0, .ref e), (1, .ref b), (2, .int (nI a))]) 2 dX0_roomForEach_78 rfl (nI_add _ 1) (by decide) rfl ?_
            refine g_goto (tgt := 28) dX0_roomForEach_81 (by decide) ?_
            have e1 : gwN N S a (i + 1) = gwN N S a i + 1 := by rw [gwN, d, d2, if_pos (by rfl)]
            have e2 : rsN N S a (i + 1) = rsN N S a i - S.1 i := by rw [rsN, d, if_pos rfl]
            exact zG.sub [0, 1, 2, 3, 4, 5, 6] (by rw [e1, e2]; rfl) (ih (i + 1) (by omega))
  refine g_aload_n 1 dX0_roomForEach_0 rfl rfl ?_
  refine g_iload_n 2 dX0_roomForEach_1 rfl rfl ?_
  refine g_invv (M' := mX5_linkAt) (As := [.int (nI a)]) (rest := []) dX0_roomForEach_2 ml_X0_50 okX5_linkAt imX5_linkAt seX5_linkAt ⟨(Nat.le_of_ble_eq_true rfl), (Nat.le_of_ble_eq_true rfl)⟩ (ci := 5) rfl rfl c.1.1.2 rfl rfl (Nat.le_of_ble_eq_true rfl) (c_linkIn c H0 ha) ?_
  rintro _ q1 ⟨rfl, eq1⟩
  subst q1
  show zG l w mX0_roomForEach 5 [(0, .ref e), (1, .ref b), (2, .int (nI a))] [.ref (b + 11 + 7 * a)] h _
  refine g_astore_n (lv2 := [(3, .ref (b + 11 + 7 * a)), (0, .ref e), (1, .ref b), (2, .int (nI a))]) dX0_roomForEach_5 rfl (by decide) rfl ?_
  refine g_aload_n 0 dX0_roomForEach_6 rfl rfl ?_
  refine g_ifnonnull (tgt := 12) dX0_roomForEach_7 (by decide) ?_
  refine g_sipush (v := nI 1000) dX0_roomForEach_12 (by decide) ?_
  refine g_aload_n 0 dX0_roomForEach_15 rfl rfl ?_
  refine g_geti (f := 128) dX0_roomForEach_16 fl_X0_54 (c.1.2.2.2.2.2.2.2.2.1 a a6).2.1 (by decide) rfl ?_
  rw [show zi h 128 (b + 11 + 7 * a) = jI (nA N (8 + 40 * a + 0)) from (c.2.2.2.1 a ha a6).1 0 (by unfold lkJ; omega)]
  refine g_imul dX0_roomForEach_19 ?_
  rw [show nI 1000 = jI 1000 from rfl, jI_mul]
  refine g_istore (lv2 := [(4, .int (jI (1000 * nA N (8 + 40 * a + 0)))), (3, .ref (b + 11 + 7 * a)), (0, .ref e), (1, .ref b), (2, .int (nI a))]) dX0_roomForEach_20 (by decide) rfl ?_
  refine g_iconst (v := nI 0) dX0_roomForEach_22 (by decide) ?_
  refine g_istore (lv2 := [(5, .int (nI 0)), (4, .int (jI (1000 * nA N (8 + 40 * a + 0)))), (3, .ref (b + 11 + 7 * a)), (0, .ref e), (1, .ref b), (2, .int (nI a))]) dX0_roomForEach_23 (by decide) rfl ?_
  refine g_iconst (v := nI 0) dX0_roomForEach_25 (by decide) ?_
  refine g_istore (lv2 := [(6, .int (nI 0)), (5, .int (nI 0)), (4, .int (jI (1000 * nA N (8 + 40 * a + 0)))), (3, .ref (b + 11 + 7 * a)), (0, .ref e), (1, .ref b), (2, .int (nI a))]) dX0_roomForEach_26 (by decide) rfl ?_
  exact zG.sub [0, 1, 2, 3, 4, 5, 6] rfl (loop 6 0 rfl)
theorem c_stopAt (c : CX h b π ls N [] t) (hI : iN [] N) (O : BsO h e) (V : BsV h e N S) (hS : bsI N S) (dj : b + 65 ≤ e ∨ e + 4 ≤ b) : zM l w mX0_stopAtTightest [.ref e, .ref b] h (fun u h1 => u = none ∧ BsV h1 e N (bst N S) ∧ FrR e h h1) := by
  refine zM.of (by decide) (Nat.le_of_ble_eq_true rfl) ?_
  have H0 := hI.H.1
  have H1 := hI.H.2.1
  have after : ∀ i : Nat, zG l w mX0_stopAtTightest 54 [(4, .int (nI i)), (3, .int (jI (lsT N S (nA N 0).toNat))), (2, .int (jI (bzN N S))), (0, .ref e), (1, .ref b)] [] h (fun u h1 => u = none ∧ BsV h1 e N (bst N S) ∧ FrR e h h1) := by
    intro i
    have zi := btN_bd (N := N) (S := S) (nA N 0).toNat
    have zi : -1 ≤ bzN N S ∧ bzN N S < ((nA N 0).toNat : Int) + 1 := zi
    by_cases g1 : bzN N S = -1
    · refine g_iconst (v := nI 0) dX0_stopAtTightest_54 (by decide) ?_
      refine g_istore (lv2 := [(4, .int (nI 0)), (3, .int (jI (lsT N S (nA N 0).toNat))), (2, .int (jI (bzN N S))), (0, .ref e), (1, .ref b)]) dX0_stopAtTightest_55 (by decide) rfl ?_
      refine g_iload 0 dX0_stopAtTightest_57 rfl ?_
      refine g_bipush (v := nI 6) dX0_stopAtTightest_59 (by decide) ?_
      refine g_ncmp_ge (tgt := 120) dX0_stopAtTightest_61 (by decide) (by omega) (by omega) (fun g => ?_) (fun g => ?_)
      · exact absurd g (by omega)
      · refine g_iload_n 2 dX0_stopAtTightest_64 rfl rfl ?_
        refine g_iconst (v := (-1)) dX0_stopAtTightest_65 (by decide) ?_
        refine g_zcmp_eq (a := (bzN N S)) (b := (-1)) (tgt := 120) rfl (by decide) dX0_stopAtTightest_66 (by decide) (by omega) (by omega) (fun g3 => ?_) (fun g3 => ?_)
        · refine g_return dX0_stopAtTightest_120 rfl ?_
          have eb : bst N S = S := by unfold bst; rw [if_pos g1]
          exact ⟨rfl, by rw [eb]; exact V, FrR.rf⟩
        · exact absurd g1 g3
    · obtain ⟨z1, ez, z0, z16, zg, zm⟩ := bz_in hI g1
      have eb := ea_bd hS z0 zg
      have el : lsT N S (nA N 0).toNat = eaN N S z1 := by
        have ez2 : btN N S (nA N 0).toNat = (z1 : Int) := ez
        unfold lsT
        rw [ez2, if_neg (by omega), Int.toNat_natCast]
      rw [el, ez, jI_nat]
      have bq : bst N S = bup N S z1 (eaN N S z1) 6 := by unfold bst; rw [if_neg g1, ez, Int.toNat_natCast]
      have put : ∀ k i : Nat, i + k = 6 → ∀ y : zH, BsV y e N (bup N S z1 (eaN N S z1) i) → FrR e h y → zG l w mX0_stopAtTightest 57 [(4, .int (nI i)), (3, .int (jI (eaN N S z1))), (2, .int (nI z1)), (0, .ref e), (1, .ref b)] [] y (fun u h1 => u = none ∧ BsV h1 e N (bst N S) ∧ FrR e h h1) := by
        intro k
        induction k with
        | zero =>
          intro i hi y Vy fy
          have Oy := O.fr fy
          have cy := c.frR hI.2.2.1 fy O dj
          refine g_iload 0 dX0_stopAtTightest_57 rfl ?_
          refine g_bipush (v := nI 6) dX0_stopAtTightest_59 (by decide) ?_
          refine g_ncmp_ge (tgt := 120) dX0_stopAtTightest_61 (by decide) (by omega) (by omega) (fun g => ?_) (fun g => ?_)
          · refine g_return dX0_stopAtTightest_120 rfl ?_
            exact ⟨rfl, by rw [bq, ← show i = 6 by omega]; exact Vy, fy⟩
          · exact absurd g (by omega)
        | succ k ih =>
          intro i hi y Vy fy
          have Oy := O.fr fy
          have cy := c.frR hI.2.2.1 fy O dj
          have s2 : (bup N S z1 (eaN N S z1) i).2 i = S.2 i := (bup_0 (fun q => absurd q.1 (by omega))).2
          have sg : grB N (bup N S z1 (eaN N S z1) i) i = grB N S i := grB_cg s2
          refine g_iload 0 dX0_stopAtTightest_57 rfl ?_
          refine g_bipush (v := nI 6) dX0_stopAtTightest_59 (by decide) ?_
          refine g_ncmp_ge (tgt := 120) dX0_stopAtTightest_61 (by decide) (by omega) (by omega) (fun g => ?_) (fun g => ?_)
          · exact absurd g (by omega)
          · refine g_iload_n 2 dX0_stopAtTightest_64 rfl rfl ?_
            refine g_iconst (v := (-1)) dX0_stopAtTightest_65 (by decide) ?_
            refine g_zcmp_eq (a := ((z1 : Nat) : Int)) (b := (-1)) (tgt := 120) (jI_nat z1).symm (by decide) dX0_stopAtTightest_66 (by decide) (by omega) (by omega) (fun g3 => ?_) (fun g3 => ?_)
            · exact absurd g3 (by omega)
            · refine g_aload_n 3 dX0_stopAtTightest_69 rfl rfl ?_
              refine g_getr (f := 2) (b := e + 3) dX0_stopAtTightest_70 fl_X0_18 Oy.1 rfl Oy.2.2.2.1 ?_
              refine g_iload 0 dX0_stopAtTightest_73 rfl ?_
              refine g_zald dX0_stopAtTightest_75 Oy.2.2.2.2.1 (by rw [show zn y (e + 3) = 6 from Oy.2.2.2.2.2]; exact vp_in_nI (by omega) (by omega)) ?_
              rw [nI_clamp (by omega)]
              rw [show zI y (e + 3) i = bI (grB N S i) from (Vy.2.2 i (by omega)).trans (congrArg bI sg)]
              refine g_bif_eq (tgt := 114) dX0_stopAtTightest_76 (by decide) (fun d1 => ?_) (fun d1 => ?_)
              · refine g_inc (v := nI (i + 1)) (lv2 := [(4, .int (nI (i + 1))), (3, .int (jI (eaN N S z1))), (2, .int (nI z1)), (0, .ref e), (1, .ref b)]) 0 dX0_stopAtTightest_114 rfl (nI_add _ 1) (by decide) rfl ?_
                refine g_goto (tgt := 57) dX0_stopAtTightest_117 (by decide) ?_
                have ns : ¬ stB N S z1 i = true := by unfold stB; rw [d1, Bool.false_and]; decide
                exact zG.sub [0, 1, 2, 3, 4] rfl (ih (i + 1) (by omega) y ⟨fun f hf => by rw [(bup_no ns f).1]; exact Vy.1 f hf, fun f hf => by rw [(bup_no ns f).2]; exact Vy.2.1 f hf, fun f hf => by rw [grB_cg (bup_no ns f).2]; exact Vy.2.2 f hf⟩ fy)
              · refine g_aload_n 3 dX0_stopAtTightest_79 rfl rfl ?_
                refine g_aload_n 4 dX0_stopAtTightest_80 rfl rfl ?_
                refine g_iload 0 dX0_stopAtTightest_81 rfl ?_
                refine g_iload_n 2 dX0_stopAtTightest_83 rfl rfl ?_
                refine g_invv (M' := mX0_crosses) (As := [.ref b, .int (nI i), .int (nI z1)]) (rest := []) dX0_stopAtTightest_84 ml_X0_46 okX0_crosses imX0_crosses seX0_crosses ⟨(Nat.le_of_ble_eq_true rfl), (Nat.le_of_ble_eq_true rfl)⟩ (ci := 0) rfl rfl Oy.1 rfl rfl (Nat.le_of_ble_eq_true rfl) (c_crosses cy hI Oy (by omega) z16) ?_
                rintro _ q1 ⟨rfl, eq1⟩
                subst q1
                show zG l w mX0_stopAtTightest 87 [(4, .int (nI i)), (3, .int (jI (eaN N S z1))), (2, .int (nI z1)), (0, .ref e), (1, .ref b)] [.int (bI (crN N i z1))] y _
                refine g_bif_eq (tgt := 114) dX0_stopAtTightest_87 (by decide) (fun d2 => ?_) (fun d2 => ?_)
                · refine g_inc (v := nI (i + 1)) (lv2 := [(4, .int (nI (i + 1))), (3, .int (jI (eaN N S z1))), (2, .int (nI z1)), (0, .ref e), (1, .ref b)]) 0 dX0_stopAtTightest_114 rfl (nI_add _ 1) (by decide) rfl ?_
                  refine g_goto (tgt := 57) dX0_stopAtTightest_117 (by decide) ?_
                  have ns : ¬ stB N S z1 i = true := by unfold stB; rw [d1, d2]; decide
                  exact zG.sub [0, 1, 2, 3, 4] rfl (ih (i + 1) (by omega) y ⟨fun f hf => by rw [(bup_no ns f).1]; exact Vy.1 f hf, fun f hf => by rw [(bup_no ns f).2]; exact Vy.2.1 f hf, fun f hf => by rw [grB_cg (bup_no ns f).2]; exact Vy.2.2 f hf⟩ fy)
                · have ns : stB N S z1 i = true := by unfold stB; rw [d1, d2]; rfl
                  refine g_aload_n 3 dX0_stopAtTightest_90 rfl rfl ?_
                  refine g_getr (f := 0) (b := e + 1) dX0_stopAtTightest_91 fl_X0_9 Oy.1 rfl Oy.2.1.1 ?_
                  refine g_iload 0 dX0_stopAtTightest_94 rfl ?_
                  refine g_iload_n 1 dX0_stopAtTightest_96 rfl rfl ?_
                  refine g_iast (n := i) dX0_stopAtTightest_97 Oy.2.1.2.1 (by rw [show zn y (e + 1) = 6 from Oy.2.1.2.2]; exact vp_in_nI (by omega) (by omega)) (nI_clamp (by omega)) ?_
                  refine g_aload_n 3 dX0_stopAtTightest_98 rfl rfl ?_
                  refine g_getr (f := 1) (b := e + 2) dX0_stopAtTightest_99 fl_X0_15 Oy.1 rfl Oy.2.2.1.1 ?_
                  refine g_iload 0 dX0_stopAtTightest_102 rfl ?_
                  refine g_iload_n 2 dX0_stopAtTightest_104 rfl rfl ?_
                  refine g_iast (n := i) dX0_stopAtTightest_105 Oy.2.2.1.2.1 (by rw [show zn (zSI y (e + 1) i (jI (eaN N S z1))) (e + 2) = 6 from Oy.2.2.1.2.2]; exact vp_in_nI (by omega) (by omega)) (nI_clamp (by omega)) ?_
                  refine g_aload_n 3 dX0_stopAtTightest_106 rfl rfl ?_
                  refine g_getr (f := 2) (b := e + 3) dX0_stopAtTightest_107 fl_X0_18 Oy.1 rfl Oy.2.2.2.1 ?_
                  refine g_iload 0 dX0_stopAtTightest_110 rfl ?_
                  refine g_iconst (v := nI 0) dX0_stopAtTightest_112 (by decide) ?_
                  refine g_zast (n := i) (v := nI 0) dX0_stopAtTightest_113 Oy.2.2.2.2.1 (by rw [show zn (zSI (zSI y (e + 1) i (jI (eaN N S z1))) (e + 2) i (nI z1)) (e + 3) = 6 from Oy.2.2.2.2.2]; exact vp_in_nI (by omega) (by omega)) (nI_clamp (by omega)) rfl ?_
                  have f3 : FrR e h (zSI (zSI (zSI y (e + 1) i (jI (eaN N S z1))) (e + 2) i (nI z1)) (e + 3) i (nI 0)) := ((fy.sI (k := 1) (by omega)).sI (k := 2) (by omega)).sI (k := 3) (by omega)
                  have V3 : BsV (zSI (zSI (zSI y (e + 1) i (jI (eaN N S z1))) (e + 2) i (nI z1)) (e + 3) i (nI 0)) e N (bup N S z1 (eaN N S z1) (i + 1)) := by
                    refine ⟨fun f hf => ?_, fun f hf => ?_, fun f hf => ?_⟩
                    · rw [zI_SI, if_neg (by omega), zI_SI, if_neg (by omega), zI_SI]
                      by_cases q : f = i
                      · subst q; rw [if_pos ⟨rfl, rfl⟩, (bup_1 ns (by omega)).1]
                      · rw [if_neg (fun z => q z.2), (bup_ne q).1]; exact Vy.1 f hf
                    · rw [zI_SI, if_neg (by omega), zI_SI]
                      by_cases q : f = i
                      · subst q; rw [if_pos ⟨rfl, rfl⟩, (bup_1 ns (by omega)).2, jI_nat]
                      · rw [if_neg (fun z => q z.2), zI_SI, if_neg (by omega), (bup_ne q).2]; exact Vy.2.1 f hf
                    · rw [grB_up ns, zI_SI]
                      by_cases q : f = i
                      · subst q; rw [if_pos ⟨rfl, rfl⟩, if_pos rfl]; rfl
                      · rw [if_neg (fun z => q z.2), if_neg q, zI_SI, if_neg (by omega), zI_SI, if_neg (by omega)]; exact Vy.2.2 f hf
                  generalize zSI (zSI (zSI y (e + 1) i (jI (eaN N S z1))) (e + 2) i (nI z1)) (e + 3) i (nI 0) = y3 at f3 V3 ⊢
                  refine g_inc (v := nI (i + 1)) (lv2 := [(4, .int (nI (i + 1))), (3, .int (jI (eaN N S z1))), (2, .int (nI z1)), (0, .ref e), (1, .ref b)]) 0 dX0_stopAtTightest_114 rfl (nI_add _ 1) (by decide) rfl ?_
                  refine g_goto (tgt := 57) dX0_stopAtTightest_117 (by decide) ?_
                  exact zG.sub [0, 1, 2, 3, 4] rfl (ih (i + 1) (by omega) y3 V3 f3)
      refine g_iconst (v := nI 0) dX0_stopAtTightest_54 (by decide) ?_
      refine g_istore (lv2 := [(4, .int (nI 0)), (3, .int (jI (eaN N S z1))), (2, .int (nI z1)), (0, .ref e), (1, .ref b)]) dX0_stopAtTightest_55 (by decide) rfl ?_
      exact zG.sub [0, 1, 2, 3, 4] rfl (put 6 0 rfl h ⟨fun f hf => by rw [(bup_zero f).1]; exact V.1 f hf, fun f hf => by rw [(bup_zero f).2]; exact V.2.1 f hf, fun f hf => by rw [grB_cg (bup_zero f).2]; exact V.2.2 f hf⟩ FrR.rf)
  have pick1 : ∀ k i : Nat, ((i + k : Nat) : Int) = nA N 0 → zG l w mX0_stopAtTightest 7 [(4, .int (nI i)), (3, .int (jI (lsT N S i))), (2, .int (jI (btN N S i))), (0, .ref e), (1, .ref b)] [] h (fun u h1 => u = none ∧ BsV h1 e N (bst N S) ∧ FrR e h h1) := by
    intro k
    induction k with
    | zero =>
      intro i hi
      refine g_iload 0 dX0_stopAtTightest_7 rfl ?_
      refine g_aload_n 4 dX0_stopAtTightest_9 rfl rfl ?_
      refine g_geti (f := 161) dX0_stopAtTightest_10 fl_X0_38 c.1.1.2 (by decide) rfl ?_
      rw [show zi h 161 b = jI (nA N 0) from c.2.2.1.1]
      refine g_zcmp_ge (a := ((i : Nat) : Int)) (b := (nA N 0)) (tgt := 54) (jI_nat i).symm rfl dX0_stopAtTightest_13 (by decide) (by omega) (by omega) (fun g => ?_) (fun g => ?_)
      · have af := after i
        unfold bzN at af
        rw [show (nA N 0).toNat = i by omega] at af
        exact zG.sub [0, 1, 2, 3, 4] rfl af
      · exact absurd g (by omega)
    | succ k ih =>
      intro i hi
      refine g_iload 0 dX0_stopAtTightest_7 rfl ?_
      refine g_aload_n 4 dX0_stopAtTightest_9 rfl rfl ?_
      refine g_geti (f := 161) dX0_stopAtTightest_10 fl_X0_38 c.1.1.2 (by decide) rfl ?_
      rw [show zi h 161 b = jI (nA N 0) from c.2.2.1.1]
      refine g_zcmp_ge (a := ((i : Nat) : Int)) (b := (nA N 0)) (tgt := 54) (jI_nat i).symm rfl dX0_stopAtTightest_13 (by decide) (by omega) (by omega) (fun g => ?_) (fun g => ?_)
      · exact absurd g (by omega)
      · have ha : (i : Int) < nA N 0 := by omega
        have bi := btN_bd (N := N) (S := S) i
        refine g_aload_n 3 dX0_stopAtTightest_16 rfl rfl ?_
        refine g_aload_n 4 dX0_stopAtTightest_17 rfl rfl ?_
        refine g_iload 0 dX0_stopAtTightest_18 rfl ?_
        refine g_invv (M' := mX0_roomForEach) (As := [.ref b, .int (nI i)]) (rest := []) dX0_stopAtTightest_20 ml_X0_42 okX0_roomForEach imX0_roomForEach seX0_roomForEach ⟨(Nat.le_of_ble_eq_true rfl), (Nat.le_of_ble_eq_true rfl)⟩ (ci := 0) rfl rfl O.1 rfl rfl (Nat.le_of_ble_eq_true rfl) (c_roomFor c hI O V hS ha) ?_
        rintro _ q9 ⟨rfl, eq9⟩
        subst q9
        show zG l w mX0_stopAtTightest 23 [(4, .int (nI i)), (3, .int (jI (lsT N S i))), (2, .int (jI (btN N S i))), (0, .ref e), (1, .ref b)] [.int (if 0 < gwN N S i 6 then jI (eaN N S i) else -1)] h _
        by_cases hg : 0 < gwN N S i 6
        · rw [if_pos hg]
          have eb := ea_bd hS ha hg
          refine g_istore (lv2 := [(5, .int (jI (eaN N S i))), (4, .int (nI i)), (3, .int (jI (lsT N S i))), (2, .int (jI (btN N S i))), (0, .ref e), (1, .ref b)]) dX0_stopAtTightest_23 (by decide) rfl ?_
          refine g_iload 0 dX0_stopAtTightest_25 rfl ?_
          refine g_iconst (v := (-1)) dX0_stopAtTightest_27 (by decide) ?_
          refine g_zcmp_eq (a := (eaN N S i)) (b := (-1)) (tgt := 48) rfl (by decide) dX0_stopAtTightest_28 (by decide) (by omega) (by omega) (fun g2 => ?_) (fun g2 => ?_)
          · exact absurd g2 (by omega)
          · refine g_iload_n 3 dX0_stopAtTightest_31 rfl rfl ?_
            refine g_iconst (v := (-1)) dX0_stopAtTightest_32 (by decide) ?_
            refine g_zcmp_eq (a := (btN N S i)) (b := (-1)) (tgt := 42) rfl (by decide) dX0_stopAtTightest_33 (by decide) (by omega) (by omega) (fun g3 => ?_) (fun g3 => ?_)
            · refine g_iload 1 dX0_stopAtTightest_42 rfl ?_
              refine g_istore_n (lv2 := [(2, .int (nI i)), (5, .int (jI (eaN N S i))), (4, .int (nI i)), (3, .int (jI (lsT N S i))), (0, .ref e), (1, .ref b)]) dX0_stopAtTightest_44 rfl (by decide) rfl ?_
              refine g_iload 1 dX0_stopAtTightest_45 rfl ?_
              refine g_istore_n (lv2 := [(3, .int (jI (eaN N S i))), (2, .int (nI i)), (5, .int (jI (eaN N S i))), (4, .int (nI i)), (0, .ref e), (1, .ref b)]) dX0_stopAtTightest_47 rfl (by decide) rfl ?_
              refine g_inc (v := nI (i + 1)) (lv2 := [(4, .int (nI (i + 1))), (3, .int (jI (eaN N S i))), (2, .int (nI i)), (5, .int (jI (eaN N S i))), (0, .ref e), (1, .ref b)]) 3 dX0_stopAtTightest_48 rfl (nI_add _ 1) (by decide) rfl ?_
              refine g_goto (tgt := 7) dX0_stopAtTightest_51 (by decide) ?_
              have e1 : btN N S (i + 1) = (i : Int) := by rw [btN]; exact if_pos ⟨hg, Or.inl g3⟩
              have e2 : lsT N S (i + 1) = eaN N S i := by unfold lsT; rw [e1]; rw [if_neg (by omega), Int.toNat_natCast]
              refine zG.sub [0, 1, 2, 4, 5] ?_ (ih (i + 1) (by omega))
              rw [e1, e2, jI_nat]; rfl
            · have le : lsT N S i = eaN N S (btN N S i).toNat := by unfold lsT; rw [if_neg g3]
              have bin := (bs_in (N := N) (S := S) i).resolve_left g3
              have eb2 := ea_bd hS (a := (btN N S i).toNat) (by omega) bin.2.2
              have lb : 0 ≤ lsT N S i ∧ lsT N S i ≤ 9000 := by rw [le]; exact ⟨eb2.1, eb2.2.1⟩
              refine g_iload 0 dX0_stopAtTightest_36 rfl ?_
              refine g_iload_n 2 dX0_stopAtTightest_38 rfl rfl ?_
              refine g_zcmp_ge (a := (eaN N S i)) (b := (lsT N S i)) (tgt := 48) rfl rfl dX0_stopAtTightest_39 (by decide) (by omega) (by omega) (fun g4 => ?_) (fun g4 => ?_)
              · refine g_inc (v := nI (i + 1)) (lv2 := [(4, .int (nI (i + 1))), (5, .int (jI (eaN N S i))), (3, .int (jI (lsT N S i))), (2, .int (jI (btN N S i))), (0, .ref e), (1, .ref b)]) 1 dX0_stopAtTightest_48 rfl (nI_add _ 1) (by decide) rfl ?_
                refine g_goto (tgt := 7) dX0_stopAtTightest_51 (by decide) ?_
                have e1 : btN N S (i + 1) = btN N S i := by rw [btN]; exact if_neg (fun q => by rcases q.2 with q | q; exact g3 q; rw [← le] at q; omega)
                have e2 : lsT N S (i + 1) = lsT N S i := by unfold lsT; rw [e1]; try rfl
                refine zG.sub [0, 2, 3, 4, 5] ?_ (ih (i + 1) (by omega))
                rw [e1, e2]; rfl
              · refine g_iload 1 dX0_stopAtTightest_42 rfl ?_
                refine g_istore_n (lv2 := [(2, .int (nI i)), (5, .int (jI (eaN N S i))), (4, .int (nI i)), (3, .int (jI (lsT N S i))), (0, .ref e), (1, .ref b)]) dX0_stopAtTightest_44 rfl (by decide) rfl ?_
                refine g_iload 1 dX0_stopAtTightest_45 rfl ?_
                refine g_istore_n (lv2 := [(3, .int (jI (eaN N S i))), (2, .int (nI i)), (5, .int (jI (eaN N S i))), (4, .int (nI i)), (0, .ref e), (1, .ref b)]) dX0_stopAtTightest_47 rfl (by decide) rfl ?_
                refine g_inc (v := nI (i + 1)) (lv2 := [(4, .int (nI (i + 1))), (3, .int (jI (eaN N S i))), (2, .int (nI i)), (5, .int (jI (eaN N S i))), (0, .ref e), (1, .ref b)]) 3 dX0_stopAtTightest_48 rfl (nI_add _ 1) (by decide) rfl ?_
                refine g_goto (tgt := 7) dX0_stopAtTightest_51 (by decide) ?_
                have e1 : btN N S (i + 1) = (i : Int) := by rw [btN]; exact if_pos ⟨hg, Or.inr (by rw [← le]; omega)⟩
                have e2 : lsT N S (i + 1) = eaN N S i := by unfold lsT; rw [e1]; rw [if_neg (by omega), Int.toNat_natCast]
                refine zG.sub [0, 1, 2, 4, 5] ?_ (ih (i + 1) (by omega))
                rw [e1, e2, jI_nat]; rfl
        · rw [if_neg hg]
          refine g_istore (lv2 := [(5, .int (-1)), (4, .int (nI i)), (3, .int (jI (lsT N S i))), (2, .int (jI (btN N S i))), (0, .ref e), (1, .ref b)]) dX0_stopAtTightest_23 (by decide) rfl ?_
          refine g_iload 0 dX0_stopAtTightest_25 rfl ?_
          refine g_iconst (v := (-1)) dX0_stopAtTightest_27 (by decide) ?_
          refine g_zcmp_eq (a := (-1)) (b := (-1)) (tgt := 48) (by decide) (by decide) dX0_stopAtTightest_28 (by decide) (by omega) (by omega) (fun g2 => ?_) (fun g2 => ?_)
          · refine g_inc (v := nI (i + 1)) (lv2 := [(4, .int (nI (i + 1))), (5, .int (-1)), (3, .int (jI (lsT N S i))), (2, .int (jI (btN N S i))), (0, .ref e), (1, .ref b)]) 1 dX0_stopAtTightest_48 rfl (nI_add _ 1) (by decide) rfl ?_
            refine g_goto (tgt := 7) dX0_stopAtTightest_51 (by decide) ?_
            have e1 : btN N S (i + 1) = btN N S i := by rw [btN]; exact if_neg (fun q => hg q.1)
            have e2 : lsT N S (i + 1) = lsT N S i := by unfold lsT; rw [e1]; try rfl
            refine zG.sub [0, 2, 3, 4, 5] ?_ (ih (i + 1) (by omega))
            rw [e1, e2]; rfl
          · exact absurd rfl g2
  refine g_iconst (v := (-1)) dX0_stopAtTightest_0 (by decide) ?_
  refine g_istore_n (lv2 := [(2, .int (-1)), (0, .ref e), (1, .ref b)]) dX0_stopAtTightest_1 rfl (by decide) rfl ?_
  refine g_iconst (v := nI 0) dX0_stopAtTightest_2 (by decide) ?_
  refine g_istore_n (lv2 := [(3, .int (nI 0)), (2, .int (-1)), (0, .ref e), (1, .ref b)]) dX0_stopAtTightest_3 rfl (by decide) rfl ?_
  refine g_iconst (v := nI 0) dX0_stopAtTightest_4 (by decide) ?_
  refine g_istore (lv2 := [(4, .int (nI 0)), (3, .int (nI 0)), (2, .int (-1)), (0, .ref e), (1, .ref b)]) dX0_stopAtTightest_5 (by decide) rfl ?_
  exact zG.sub [0, 1, 2, 3, 4] rfl (pick1 (nA N 0).toNat 0 (by omega))
theorem FrR.tr {z : zH} (F : FrR e h y) (G : FrR e y z) : FrR e h z := ⟨⟨G.1.1.trans F.1.1, G.1.2.trans F.1.2⟩, fun a => ⟨(G.2.1 a).1.trans (F.2.1 a).1, (G.2.1 a).2.trans (F.2.1 a).2⟩, fun f a => ⟨(G.2.2.1 f a).1.trans (F.2.2.1 f a).1, (G.2.2.1 f a).2.1.trans (F.2.2.1 f a).2.1, (G.2.2.1 f a).2.2.trans (F.2.2.1 f a).2.2⟩, fun a i => ⟨(G.2.2.2.1 a i).1.trans (F.2.2.2.1 a i).1, (G.2.2.2.1 a i).2.trans (F.2.2.2.1 a i).2⟩, fun a i q => (G.2.2.2.2 a i q).trans (F.2.2.2.2 a i q)⟩
theorem c_workOut (c : CX h b π ls N [] t) (hI : iN [] N) (O : BsO h e) (dj : b + 65 ≤ e ∨ e + 4 ≤ b) : zM l w mX0_workOut [.ref e, .ref b] h (fun u h1 => u = none ∧ BsV h1 e N (bstN N) ∧ FrR e h h1) := by
  refine zM.of (by decide) (Nat.le_of_ble_eq_true rfl) ?_
  have H1 := hI.H.2.1
  have rounds : ∀ k i : Nat, i + k = 6 → ∀ (y : zH) (S : (Nat → Int) × (Nat → Int)), BsV y e N S → bsI N S → bstK N S k = bstN N → FrR e h y → zG l w mX0_workOut 58 [(2, .int (nI i)), (0, .ref e), (1, .ref b)] [] y (fun u h1 => u = none ∧ BsV h1 e N (bstN N) ∧ FrR e h h1) := by
    intro k
    induction k with
    | zero =>
      intro i hi y S Vy hS hk fy
      have Oy := O.fr fy
      have cy := c.frR hI.2.2.1 fy O dj
      refine g_iload_n 0 dX0_workOut_58 rfl rfl ?_
      refine g_bipush (v := nI 6) dX0_workOut_59 (by decide) ?_
      refine g_ncmp_ge (tgt := 75) dX0_workOut_61 (by decide) (by omega) (by omega) (fun g => ?_) (fun g => ?_)
      · refine g_return dX0_workOut_75 rfl ?_
        exact ⟨rfl, by rw [← hk]; exact Vy, fy⟩
      · exact absurd g (by omega)
    | succ k ih =>
      intro i hi y S Vy hS hk fy
      have Oy := O.fr fy
      have cy := c.frR hI.2.2.1 fy O dj
      refine g_iload_n 0 dX0_workOut_58 rfl rfl ?_
      refine g_bipush (v := nI 6) dX0_workOut_59 (by decide) ?_
      refine g_ncmp_ge (tgt := 75) dX0_workOut_61 (by decide) (by omega) (by omega) (fun g => ?_) (fun g => ?_)
      · exact absurd g (by omega)
      · refine g_aload_n 1 dX0_workOut_64 rfl rfl ?_
        refine g_aload_n 2 dX0_workOut_65 rfl rfl ?_
        refine g_invv (M' := mX0_stopAtTightest) (As := [.ref b]) (rest := []) dX0_workOut_66 ml_X0_34 okX0_stopAtTightest imX0_stopAtTightest seX0_stopAtTightest ⟨(Nat.le_of_ble_eq_true rfl), (Nat.le_of_ble_eq_true rfl)⟩ (ci := 0) rfl rfl Oy.1 rfl rfl (Nat.le_of_ble_eq_true rfl) (c_stopAt cy hI Oy Vy hS dj) ?_
        rintro _ y3 ⟨rfl, V3, f3⟩
        show zG l w mX0_workOut 69 [(2, .int (nI i)), (0, .ref e), (1, .ref b)] [] y3 _
        refine g_inc (v := nI (i + 1)) (lv2 := [(2, .int (nI (i + 1))), (0, .ref e), (1, .ref b)]) 0 dX0_workOut_69 rfl (nI_add _ 1) (by decide) rfl ?_
        refine g_goto (tgt := 58) dX0_workOut_72 (by decide) ?_
        exact zG.sub [0, 1, 2] rfl (ih (i + 1) (by omega) y3 (bst N S) V3 (hS.step hI) hk (fy.tr f3))
  have first : ∀ k i : Nat, i + k = 6 → ∀ (y : zH), (∀ f, f < i → zI y (e + 1) f = jI 0 ∧ zI y (e + 2) f = jI (-1) ∧ zI y (e + 3) f = bI (grB N bS0 f)) → FrR e h y → zG l w mX0_workOut 2 [(2, .int (nI i)), (0, .ref e), (1, .ref b)] [] y (fun u h1 => u = none ∧ BsV h1 e N (bstN N) ∧ FrR e h h1) := by
    intro k
    induction k with
    | zero =>
      intro i hi y hA fy
      have Oy := O.fr fy
      have cy := c.frR hI.2.2.1 fy O dj
      refine g_iload_n 0 dX0_workOut_2 rfl rfl ?_
      refine g_bipush (v := nI 6) dX0_workOut_3 (by decide) ?_
      refine g_ncmp_ge (tgt := 56) dX0_workOut_5 (by decide) (by omega) (by omega) (fun g => ?_) (fun g => ?_)
      · refine g_iconst (v := nI 0) dX0_workOut_56 (by decide) ?_
        refine g_istore_n (lv2 := [(2, .int (nI 0)), (0, .ref e), (1, .ref b)]) dX0_workOut_57 rfl (by decide) rfl ?_
        exact zG.sub [0, 1, 2] rfl (rounds 6 0 rfl y bS0 ⟨fun f hf => (hA f (by omega)).1, fun f hf => (hA f (by omega)).2.1, fun f hf => (hA f (by omega)).2.2⟩ (bsI.zero hI) rfl fy)
      · exact absurd g (by omega)
    | succ k ih =>
      intro i hi y hA fy
      have Oy := O.fr fy
      have cy := c.frR hI.2.2.1 fy O dj
      have i6 : i < 6 := by omega
      refine g_iload_n 0 dX0_workOut_2 rfl rfl ?_
      refine g_bipush (v := nI 6) dX0_workOut_3 (by decide) ?_
      refine g_ncmp_ge (tgt := 56) dX0_workOut_5 (by decide) (by omega) (by omega) (fun g => ?_) (fun g => ?_)
      · exact absurd g (by omega)
      · by_cases hf : (i : Int) < nA N 1
        · refine g_aload_n 2 dX0_workOut_8 rfl rfl ?_
          refine g_iload_n 0 dX0_workOut_9 rfl rfl ?_
          refine g_invv (M' := mX5_flowAt) (As := [.int (nI i)]) (rest := []) dX0_workOut_10 ml_X0_22 okX5_flowAt imX5_flowAt seX5_flowAt ⟨(Nat.le_of_ble_eq_true rfl), (Nat.le_of_ble_eq_true rfl)⟩ (ci := 5) rfl rfl cy.1.1.2 rfl rfl (Nat.le_of_ble_eq_true rfl) (c_flowIn cy H1 hf) ?_
          rintro _ q9 ⟨rfl, eq9⟩
          subst q9
          show zG l w mX0_workOut 13 [(2, .int (nI i)), (0, .ref e), (1, .ref b)] [.ref (b + 53 + 2 * i)] y _
          have on := (hI.F i hf).2.2.2.2.1
          refine g_astore_n (lv2 := [(3, .ref (b + 53 + 2 * i)), (2, .int (nI i)), (0, .ref e), (1, .ref b)]) dX0_workOut_13 rfl (by decide) rfl ?_
          refine g_aload_n 2 dX0_workOut_14 rfl rfl ?_
          refine g_getr (f := 0) (b := e + 1) dX0_workOut_15 fl_X0_9 Oy.1 rfl Oy.2.1.1 ?_
          refine g_iload_n 1 dX0_workOut_18 rfl rfl ?_
          refine g_iconst (v := nI 0) dX0_workOut_19 (by decide) ?_
          refine g_iast (n := i) dX0_workOut_20 Oy.2.1.2.1 (by rw [show zn y (e + 1) = 6 from Oy.2.1.2.2]; exact vp_in_nI (by omega) (by omega)) (nI_clamp (by omega)) ?_
          refine g_aload_n 2 dX0_workOut_21 rfl rfl ?_
          refine g_getr (f := 1) (b := e + 2) dX0_workOut_22 fl_X0_15 Oy.1 rfl Oy.2.2.1.1 ?_
          refine g_iload_n 1 dX0_workOut_25 rfl rfl ?_
          refine g_iconst (v := (-1)) dX0_workOut_26 (by decide) ?_
          refine g_iast (n := i) dX0_workOut_27 Oy.2.2.1.2.1 (by rw [show zn (zSI y (e + 1) i (nI 0)) (e + 2) = 6 from Oy.2.2.1.2.2]; exact vp_in_nI (by omega) (by omega)) (nI_clamp (by omega)) ?_
          refine g_aload_n 2 dX0_workOut_28 rfl rfl ?_
          refine g_getr (f := 2) (b := e + 3) dX0_workOut_29 fl_X0_18 Oy.1 rfl Oy.2.2.2.1 ?_
          refine g_iload_n 1 dX0_workOut_32 rfl rfl ?_
          refine g_aload_n 0 dX0_workOut_33 rfl rfl ?_
          refine g_ifnull dX0_workOut_34 ?_
          refine g_aload_n 0 dX0_workOut_37 rfl rfl ?_
          refine g_geti (f := 68) dX0_workOut_38 fl_X0_28 (cy.1.2.2.2.2.2.2.2.2.2 i i6).2.1 (by decide) rfl ?_
          rw [show zi (zSI (zSI y (e + 1) i (nI 0)) (e + 2) i (-1)) 68 (b + 53 + 2 * i) = jI (nA N (248 + 20 * i + 3)) from (c.frR hI.2.2.1 ((fy.sI (k := 1) (by omega)).sI (k := 2) (by omega)) O dj).2.2.2.2.1 i hf i6 |>.1 3 (by omega) (by omega)]
          refine g_zif_eq (a := (nA N (248 + 20 * i + 3))) (tgt := 48) rfl dX0_workOut_41 (by decide) (by omega) (fun g2 => ?_) (fun g2 => ?_)
          · refine g_iconst (v := nI 0) dX0_workOut_48 (by decide) ?_
            refine g_zast (n := i) (v := nI 0) dX0_workOut_49 Oy.2.2.2.2.1 (by rw [show zn (zSI (zSI y (e + 1) i (nI 0)) (e + 2) i (-1)) (e + 3) = 6 from Oy.2.2.2.2.2]; exact vp_in_nI (by omega) (by omega)) (nI_clamp (by omega)) rfl ?_
            have f3 : FrR e h (zSI (zSI (zSI y (e + 1) i (nI 0)) (e + 2) i (-1)) (e + 3) i (nI 0)) := ((fy.sI (k := 1) (by omega)).sI (k := 2) (by omega)).sI (k := 3) (by omega)
            have gv : grB N bS0 i = false := by rw [grB_in hf, decide_eq_false (by omega), Bool.false_and]
            have A3 : ∀ f, f < i + 1 → zI (zSI (zSI (zSI y (e + 1) i (nI 0)) (e + 2) i (-1)) (e + 3) i (nI 0)) (e + 1) f = jI 0 ∧ zI (zSI (zSI (zSI y (e + 1) i (nI 0)) (e + 2) i (-1)) (e + 3) i (nI 0)) (e + 2) f = jI (-1) ∧ zI (zSI (zSI (zSI y (e + 1) i (nI 0)) (e + 2) i (-1)) (e + 3) i (nI 0)) (e + 3) f = bI (grB N bS0 f) := by
              intro f hf
              by_cases q : f = i
              · subst q
                refine ⟨?_, ?_, ?_⟩
                · rw [zI_SI, if_neg (by omega), zI_SI, if_neg (by omega), zI_SI, if_pos ⟨rfl, rfl⟩]; rfl
                · rw [zI_SI, if_neg (by omega), zI_SI, if_pos ⟨rfl, rfl⟩]; rfl
                · rw [zI_SI, if_pos ⟨rfl, rfl⟩, gv]; rfl
              · have o := hA f (by omega)
                refine ⟨?_, ?_, ?_⟩
                · rw [zI_SI, if_neg (by omega), zI_SI, if_neg (by omega), zI_SI, if_neg (by omega)]; exact o.1
                · rw [zI_SI, if_neg (by omega), zI_SI, if_neg (by omega), zI_SI, if_neg (by omega)]; exact o.2.1
                · rw [zI_SI, if_neg (by omega), zI_SI, if_neg (by omega), zI_SI, if_neg (by omega)]; exact o.2.2
            generalize zSI (zSI (zSI y (e + 1) i (nI 0)) (e + 2) i (-1)) (e + 3) i (nI 0) = y3 at f3 A3 ⊢
            refine g_inc (v := nI (i + 1)) (lv2 := [(2, .int (nI (i + 1))), (3, .ref (b + 53 + 2 * i)), (0, .ref e), (1, .ref b)]) 1 dX0_workOut_50 rfl (nI_add _ 1) (by decide) rfl ?_
            refine g_goto (tgt := 2) dX0_workOut_53 (by decide) ?_
            exact zG.sub [0, 2, 3] rfl (ih (i + 1) (by omega) y3 A3 f3)
          · refine g_iconst (v := nI 1) dX0_workOut_44 (by decide) ?_
            refine g_goto (tgt := 49) dX0_workOut_45 (by decide) ?_
            refine g_zast (n := i) (v := nI 1) dX0_workOut_49 Oy.2.2.2.2.1 (by rw [show zn (zSI (zSI y (e + 1) i (nI 0)) (e + 2) i (-1)) (e + 3) = 6 from Oy.2.2.2.2.2]; exact vp_in_nI (by omega) (by omega)) (nI_clamp (by omega)) rfl ?_
            have f3 : FrR e h (zSI (zSI (zSI y (e + 1) i (nI 0)) (e + 2) i (-1)) (e + 3) i (nI 1)) := ((fy.sI (k := 1) (by omega)).sI (k := 2) (by omega)).sI (k := 3) (by omega)
            have gv : grB N bS0 i = true := by rw [grB_in hf, decide_eq_true (by omega)]; rfl
            have A3 : ∀ f, f < i + 1 → zI (zSI (zSI (zSI y (e + 1) i (nI 0)) (e + 2) i (-1)) (e + 3) i (nI 1)) (e + 1) f = jI 0 ∧ zI (zSI (zSI (zSI y (e + 1) i (nI 0)) (e + 2) i (-1)) (e + 3) i (nI 1)) (e + 2) f = jI (-1) ∧ zI (zSI (zSI (zSI y (e + 1) i (nI 0)) (e + 2) i (-1)) (e + 3) i (nI 1)) (e + 3) f = bI (grB N bS0 f) := by
              intro f hf
              by_cases q : f = i
              · subst q
                refine ⟨?_, ?_, ?_⟩
                · rw [zI_SI, if_neg (by omega), zI_SI, if_neg (by omega), zI_SI, if_pos ⟨rfl, rfl⟩]; rfl
                · rw [zI_SI, if_neg (by omega), zI_SI, if_pos ⟨rfl, rfl⟩]; rfl
                · rw [zI_SI, if_pos ⟨rfl, rfl⟩, gv]; rfl
              · have o := hA f (by omega)
                refine ⟨?_, ?_, ?_⟩
                · rw [zI_SI, if_neg (by omega), zI_SI, if_neg (by omega), zI_SI, if_neg (by omega)]; exact o.1
                · rw [zI_SI, if_neg (by omega), zI_SI, if_neg (by omega), zI_SI, if_neg (by omega)]; exact o.2.1
                · rw [zI_SI, if_neg (by omega), zI_SI, if_neg (by omega), zI_SI, if_neg (by omega)]; exact o.2.2
            generalize zSI (zSI (zSI y (e + 1) i (nI 0)) (e + 2) i (-1)) (e + 3) i (nI 1) = y3 at f3 A3 ⊢
            refine g_inc (v := nI (i + 1)) (lv2 := [(2, .int (nI (i + 1))), (3, .ref (b + 53 + 2 * i)), (0, .ref e), (1, .ref b)]) 1 dX0_workOut_50 rfl (nI_add _ 1) (by decide) rfl ?_
            refine g_goto (tgt := 2) dX0_workOut_53 (by decide) ?_
            exact zG.sub [0, 2, 3] rfl (ih (i + 1) (by omega) y3 A3 f3)
        · refine g_aload_n 2 dX0_workOut_8 rfl rfl ?_
          refine g_iload_n 0 dX0_workOut_9 rfl rfl ?_
          refine g_invv (M' := mX5_flowAt) (As := [.int (nI i)]) (rest := []) dX0_workOut_10 ml_X0_22 okX5_flowAt imX5_flowAt seX5_flowAt ⟨(Nat.le_of_ble_eq_true rfl), (Nat.le_of_ble_eq_true rfl)⟩ (ci := 5) rfl rfl cy.1.1.2 rfl rfl (Nat.le_of_ble_eq_true rfl) (by have z := c_flowOut (l := l) (w := w) cy H1 (z := (i : Int)) (by omega) (by omega); rw [jI_nat] at z; exact z) ?_
          rintro _ q9 ⟨rfl, eq9⟩
          subst q9
          show zG l w mX0_workOut 13 [(2, .int (nI i)), (0, .ref e), (1, .ref b)] [.null] y _
          refine g_astore_nN (lv2 := [(3, .null), (2, .int (nI i)), (0, .ref e), (1, .ref b)]) dX0_workOut_13 rfl (by decide) rfl ?_
          refine g_aload_n 2 dX0_workOut_14 rfl rfl ?_
          refine g_getr (f := 0) (b := e + 1) dX0_workOut_15 fl_X0_9 Oy.1 rfl Oy.2.1.1 ?_
          refine g_iload_n 1 dX0_workOut_18 rfl rfl ?_
          refine g_iconst (v := nI 0) dX0_workOut_19 (by decide) ?_
          refine g_iast (n := i) dX0_workOut_20 Oy.2.1.2.1 (by rw [show zn y (e + 1) = 6 from Oy.2.1.2.2]; exact vp_in_nI (by omega) (by omega)) (nI_clamp (by omega)) ?_
          refine g_aload_n 2 dX0_workOut_21 rfl rfl ?_
          refine g_getr (f := 1) (b := e + 2) dX0_workOut_22 fl_X0_15 Oy.1 rfl Oy.2.2.1.1 ?_
          refine g_iload_n 1 dX0_workOut_25 rfl rfl ?_
          refine g_iconst (v := (-1)) dX0_workOut_26 (by decide) ?_
          refine g_iast (n := i) dX0_workOut_27 Oy.2.2.1.2.1 (by rw [show zn (zSI y (e + 1) i (nI 0)) (e + 2) = 6 from Oy.2.2.1.2.2]; exact vp_in_nI (by omega) (by omega)) (nI_clamp (by omega)) ?_
          refine g_aload_n 2 dX0_workOut_28 rfl rfl ?_
          refine g_getr (f := 2) (b := e + 3) dX0_workOut_29 fl_X0_18 Oy.1 rfl Oy.2.2.2.1 ?_
          refine g_iload_n 1 dX0_workOut_32 rfl rfl ?_
          refine g_aload_nN 0 dX0_workOut_33 rfl rfl ?_
          refine g_ifnullN (tgt := 48) dX0_workOut_34 (by decide) ?_
          refine g_iconst (v := nI 0) dX0_workOut_48 (by decide) ?_
          refine g_zast (n := i) (v := nI 0) dX0_workOut_49 Oy.2.2.2.2.1 (by rw [show zn (zSI (zSI y (e + 1) i (nI 0)) (e + 2) i (-1)) (e + 3) = 6 from Oy.2.2.2.2.2]; exact vp_in_nI (by omega) (by omega)) (nI_clamp (by omega)) rfl ?_
          have f3 : FrR e h (zSI (zSI (zSI y (e + 1) i (nI 0)) (e + 2) i (-1)) (e + 3) i (nI 0)) := ((fy.sI (k := 1) (by omega)).sI (k := 2) (by omega)).sI (k := 3) (by omega)
          have gv : grB N bS0 i = false := by rw [grB_out (by omega)]
          have A3 : ∀ f, f < i + 1 → zI (zSI (zSI (zSI y (e + 1) i (nI 0)) (e + 2) i (-1)) (e + 3) i (nI 0)) (e + 1) f = jI 0 ∧ zI (zSI (zSI (zSI y (e + 1) i (nI 0)) (e + 2) i (-1)) (e + 3) i (nI 0)) (e + 2) f = jI (-1) ∧ zI (zSI (zSI (zSI y (e + 1) i (nI 0)) (e + 2) i (-1)) (e + 3) i (nI 0)) (e + 3) f = bI (grB N bS0 f) := by
            intro f hf
            by_cases q : f = i
            · subst q
              refine ⟨?_, ?_, ?_⟩
              · rw [zI_SI, if_neg (by omega), zI_SI, if_neg (by omega), zI_SI, if_pos ⟨rfl, rfl⟩]; rfl
              · rw [zI_SI, if_neg (by omega), zI_SI, if_pos ⟨rfl, rfl⟩]; rfl
              · rw [zI_SI, if_pos ⟨rfl, rfl⟩, gv]; rfl
            · have o := hA f (by omega)
              refine ⟨?_, ?_, ?_⟩
              · rw [zI_SI, if_neg (by omega), zI_SI, if_neg (by omega), zI_SI, if_neg (by omega)]; exact o.1
              · rw [zI_SI, if_neg (by omega), zI_SI, if_neg (by omega), zI_SI, if_neg (by omega)]; exact o.2.1
              · rw [zI_SI, if_neg (by omega), zI_SI, if_neg (by omega), zI_SI, if_neg (by omega)]; exact o.2.2
          generalize zSI (zSI (zSI y (e + 1) i (nI 0)) (e + 2) i (-1)) (e + 3) i (nI 0) = y3 at f3 A3 ⊢
          refine g_inc (v := nI (i + 1)) (lv2 := [(2, .int (nI (i + 1))), (3, .null), (0, .ref e), (1, .ref b)]) 1 dX0_workOut_50 rfl (nI_add _ 1) (by decide) rfl ?_
          refine g_goto (tgt := 2) dX0_workOut_53 (by decide) ?_
          exact zG.sub [0, 2, 3] rfl (ih (i + 1) (by omega) y3 A3 f3)
  refine g_iconst (v := nI 0) dX0_workOut_0 (by decide) ?_
  refine g_istore_n (lv2 := [(2, .int (nI 0)), (0, .ref e), (1, .ref b)]) dX0_workOut_1 rfl (by decide) rfl ?_
  exact zG.sub [0, 1, 2] rfl (first 6 0 rfl h (fun f hf => absurd hf (by omega)) FrR.rf)
theorem c_rateOf (O : BsO h e) (V : BsV h e N S) (i6 : i < 6) : zM l w mX0_rateOf [.ref e, .int (nI i)] h (fun u h1 => u = some (.int (jI (S.1 i))) ∧ h1 = h) := by
  refine zM.of (by decide) (Nat.le_of_ble_eq_true rfl) ?_
  refine g_iload_n 1 dX0_rateOf_0 rfl rfl ?_
  refine g_zif_lt (a := ((i : Nat) : Int)) (tgt := 22) (jI_nat i).symm dX0_rateOf_1 (by decide) (by omega) (fun g => ?_) (fun g => ?_)
  · exact absurd g (by omega)
  · refine g_iload_n 1 dX0_rateOf_4 rfl rfl ?_
    refine g_aload_n 0 dX0_rateOf_5 rfl rfl ?_
    refine g_getr (f := 0) (b := e + 1) dX0_rateOf_6 fl_X0_9 O.1 rfl O.2.1.1 ?_
    refine g_alen (t := 1) (v := nI 6) dX0_rateOf_9 O.2.1.2.1 rfl (fun _ => rfl) (congrArg Int32.ofNat (show zn h (e + 1) = 6 from O.2.1.2.2)) ?_
    refine g_ncmp_ge (tgt := 22) dX0_rateOf_10 (by decide) (by omega) (by omega) (fun g2 => ?_) (fun g2 => ?_)
    · exact absurd g2 (by omega)
    · refine g_aload_n 0 dX0_rateOf_13 rfl rfl ?_
      refine g_getr (f := 0) (b := e + 1) dX0_rateOf_14 fl_X0_9 O.1 rfl O.2.1.1 ?_
      refine g_iload_n 1 dX0_rateOf_17 rfl rfl ?_
      refine g_iald dX0_rateOf_18 O.2.1.2.1 (by rw [show zn h (e + 1) = 6 from O.2.1.2.2]; exact vp_in_nI (by omega) (by omega)) ?_
      rw [nI_clamp (by omega)]
      rw [show zI h (e + 1) i = jI (S.1 i) from V.1 i (by omega)]
      refine g_goto (tgt := 23) dX0_rateOf_19 (by decide) ?_
      refine g_ireturn dX0_rateOf_23 rfl ?_
      exact ⟨rfl, rfl⟩
theorem c_neckOf (O : BsO h e) (V : BsV h e N S) (i6 : i < 6) : zM l w mX0_neckOf [.ref e, .int (nI i)] h (fun u h1 => u = some (.int (jI (S.2 i))) ∧ h1 = h) := by
  refine zM.of (by decide) (Nat.le_of_ble_eq_true rfl) ?_
  refine g_iload_n 1 dX0_neckOf_0 rfl rfl ?_
  refine g_zif_lt (a := ((i : Nat) : Int)) (tgt := 22) (jI_nat i).symm dX0_neckOf_1 (by decide) (by omega) (fun g => ?_) (fun g => ?_)
  · exact absurd g (by omega)
  · refine g_iload_n 1 dX0_neckOf_4 rfl rfl ?_
    refine g_aload_n 0 dX0_neckOf_5 rfl rfl ?_
    refine g_getr (f := 1) (b := e + 2) dX0_neckOf_6 fl_X0_15 O.1 rfl O.2.2.1.1 ?_
    refine g_alen (t := 1) (v := nI 6) dX0_neckOf_9 O.2.2.1.2.1 rfl (fun _ => rfl) (congrArg Int32.ofNat (show zn h (e + 2) = 6 from O.2.2.1.2.2)) ?_
    refine g_ncmp_ge (tgt := 22) dX0_neckOf_10 (by decide) (by omega) (by omega) (fun g2 => ?_) (fun g2 => ?_)
    · exact absurd g2 (by omega)
    · refine g_aload_n 0 dX0_neckOf_13 rfl rfl ?_
      refine g_getr (f := 1) (b := e + 2) dX0_neckOf_14 fl_X0_15 O.1 rfl O.2.2.1.1 ?_
      refine g_iload_n 1 dX0_neckOf_17 rfl rfl ?_
      refine g_iald dX0_neckOf_18 O.2.2.1.2.1 (by rw [show zn h (e + 2) = 6 from O.2.2.1.2.2]; exact vp_in_nI (by omega) (by omega)) ?_
      rw [nI_clamp (by omega)]
      rw [show zI h (e + 2) i = jI (S.2 i) from V.2.1 i (by omega)]
      refine g_goto (tgt := 23) dX0_neckOf_19 (by decide) ?_
      refine g_ireturn dX0_neckOf_23 rfl ?_
      exact ⟨rfl, rfl⟩
theorem GC.frR (g : GC h x B ls N Ms n) (F : FrR (x + 329) h y) (O : BsO h (x + 329)) : GC y x B ls N Ms n := by
  obtain ⟨⟨g1, g2, g3, g4, g5, g6, g7⟩, ⟨g8, g9, g10⟩, gB, gD, gl, gw, gn, gm⟩ := g
  have sl := gl.frR F O
  have hx : zx h ≤ zx y := by rw [F.1.1]; exact Nat.le_refl _
  have e1 : ∀ i, i < 5 → ∀ a, B i ≤ a → a < B i + 65 → SmA h y a := fun i hi a h1 h2 => F.sm (by have q := gB i hi; unfold isBk at q; omega)
  have e2 : ∀ i, i < 5 → ∀ k, k < 14 → ∀ q, q ∈ ls (lin (B i) k) → SmA h y q := fun i hi k hk p hp => by
    obtain ⟨j, hj⟩ := List.getElem?_of_mem hp
    have k6 := ((gl.1 _ (lin_isL (gw i hi).1 hk)).2.2.2 j p hj).1.2
    have k1 := O.2.1.2.1
    have k2 := O.2.2.1.2.1
    have k3 := O.2.2.2.2.1
    refine F.sm ?_
    by_cases q1 : p = x + 329 + 1
    · rw [q1, k1] at k6; omega
    · by_cases q2 : p = x + 329 + 2
      · rw [q2, k2] at k6; omega
      · by_cases q3 : p = x + 329 + 3
        · rw [q3, k3] at k6; omega
        · omega
  exact ⟨⟨by omega, (F.2.1 x).1.trans g2, (F.2.2.1 293 x).2.2.trans g3, (F.2.2.1 294 x).2.2.trans g4, (F.2.2.1 295 x).2.2.trans g5, (F.2.2.1 296 x).1.trans g6, g7⟩, ⟨(F.2.1 _).1.trans g8, (F.2.1 _).2.trans g9, fun k hk => (F.2.2.2.1 _ k).2.trans (g10 k hk)⟩, gB, gD, sl, fun i hi => (gw i hi).tf hx (e1 i hi) (fun _ _ => rfl), gn.tf hx (e1 0 (by omega)) (e2 0 (by omega)) sl (fun _ _ => rfl), fun k hk => (gm k hk).tf hx (e1 _ (by omega)) (e2 _ (by omega)) sl (fun _ _ => rfl)⟩
theorem OtX.frR (F : FrR (x + 329) h y) : OtX x (fun a => x + 330 ≤ a ∧ a ≤ x + 332) h y := ⟨⟨by rw [F.1.1]; exact Nat.le_refl _, by rw [F.1.1, F.1.2], by unfold mdS; rw [F.1.1, (F.2.2.1 _ _).1, (F.2.2.1 _ _).1, (F.2.2.1 _ _).1, (F.2.2.1 _ _).1, (F.2.2.1 _ _).1]; exact Int.le_refl _⟩, fun a _ => F.2.1 a, ⟨fun f _ _ => (F.2.2.1 f x).1, fun f _ => (F.2.2.1 f x).2.2⟩, fun a _ _ he _ => F.sm (by omega)⟩
/-- how best and neck of the class end -/
def PPb (h : zH) (x : Nat) (B : Nat → Nat) (ls : Nat → List Nat) (N : nT) (Ms : Nat → nT) (n : Nat) (r : Int × Int) : Option Value → zH → Prop := fun u h1 => u = some (.int (jI r.2)) ∧ zi h1 290 x = jI r.1 ∧ GC h1 x B ls N Ms n ∧ OtX x (fun a => x + 330 ≤ a ∧ a ≤ x + 332) h h1
theorem c_bestC (g : GC h x B ls N Ms n) (O : BsO h (x + 329)) (he : zr h 298 x = some (x + 329)) {z : Int} (zb : -2147483648 ≤ z ∧ z < 2147483648) : zM l w mX9_best [.ref x, .int (jI z)] h (PPb h x B ls N Ms n (qBest N z)) := by
  refine zM.of (by decide) (Nat.le_of_ble_eq_true rfl) ?_
  obtain ⟨π0, t0, c1, c2, c3⟩ := g.2.2.2.2.2.2.1
  have hI := c2.1
  have H1 := hI.H.2.1
  by_cases d : 0 ≤ z ∧ z < nA N 1
  · obtain ⟨f, ef⟩ : ∃ f : Nat, z = (f : Int) := ⟨_, (Int.toNat_of_nonneg d.1).symm⟩
    subst ef
    rw [jI_nat]
    have f6 : f < 6 := by omega
    have dj : B 0 + 65 ≤ x + 329 ∨ x + 329 + 4 ≤ B 0 := by have q := g.2.2.1 0 (by omega); unfold isBk at q; omega
    refine g_aload_n 0 dX9_best_0 rfl rfl ?_
    refine g_getr (f := 293) (b := B 0) dX9_best_1 fl_X9_23 g.1.2.1 rfl g.1.2.2.1 ?_
    refine g_iload_n 1 dX9_best_4 rfl rfl ?_
    refine g_invv (M' := mX5_flowAt) (As := [.int (nI f)]) (rest := []) dX9_best_5 ml_X9_127 okX5_flowAt imX5_flowAt seX5_flowAt ⟨(Nat.le_of_ble_eq_true rfl), (Nat.le_of_ble_eq_true rfl)⟩ (ci := 5) rfl rfl c1.1.1.2 rfl rfl (Nat.le_of_ble_eq_true rfl) (c_flowIn c1 H1 d.2) ?_
    rintro _ q9 ⟨rfl, eq9⟩
    subst q9
    show zG l w mX9_best 8 [(0, .ref x), (1, .int (nI f))] [.ref (B 0 + 53 + 2 * f)] h _
    refine g_ifnonnull (tgt := 17) dX9_best_8 (by decide) ?_
    refine g_aload_n 0 dX9_best_17 rfl rfl ?_
    refine g_getr (f := 298) (b := x + 329) dX9_best_18 fl_X9_44 g.1.2.1 rfl he ?_
    refine g_aload_n 0 dX9_best_21 rfl rfl ?_
    refine g_getr (f := 293) (b := B 0) dX9_best_22 fl_X9_23 g.1.2.1 rfl g.1.2.2.1 ?_
    refine g_invv (M' := mX0_workOut) (As := [.ref (B 0)]) (rest := []) dX9_best_25 ml_X9_250 okX0_workOut imX0_workOut seX0_workOut ⟨(Nat.le_of_ble_eq_true rfl), (Nat.le_of_ble_eq_true rfl)⟩ (ci := 0) rfl rfl O.1 rfl rfl (Nat.le_of_ble_eq_true rfl) (c_workOut c1 hI O dj) ?_
    rintro _ y1 ⟨rfl, V1, F1⟩
    show zG l w mX9_best 28 [(0, .ref x), (1, .int (nI f))] [] y1 _
    have G1 := g.frR F1 O
    have O1 := O.fr F1
    refine g_aload_n 0 dX9_best_28 rfl rfl ?_
    refine g_aload_n 0 dX9_best_29 rfl rfl ?_
    refine g_getr (f := 298) (b := x + 329) dX9_best_30 fl_X9_44 G1.1.2.1 rfl ((F1.2.2.1 298 x).2.2.trans he) ?_
    refine g_iload_n 1 dX9_best_33 rfl rfl ?_
    refine g_invv (M' := mX0_rateOf) (As := [.int (nI f)]) (rest := [.ref x]) dX9_best_34 ml_X9_253 okX0_rateOf imX0_rateOf seX0_rateOf ⟨(Nat.le_of_ble_eq_true rfl), (Nat.le_of_ble_eq_true rfl)⟩ (ci := 0) rfl rfl O1.1 rfl rfl (Nat.le_of_ble_eq_true rfl) (c_rateOf O1 V1 f6) ?_
    rintro _ q3 ⟨rfl, eq3⟩
    subst q3
    show zG l w mX9_best 37 [(0, .ref x), (1, .int (nI f))] [.int (jI ((bstN N).1 f)), .ref x] y1 _
    refine g_invv (M' := mX9_answer) (As := [.int (jI ((bstN N).1 f))]) (rest := []) dX9_best_37 ml_X9_75 okX9_answer imX9_answer seX9_answer ⟨(Nat.le_of_ble_eq_true rfl), (Nat.le_of_ble_eq_true rfl)⟩ (ci := 9) rfl rfl G1.1.2.1 rfl rfl (Nat.le_of_ble_eq_true rfl) (c_ans G1.1.2.1) ?_
    rintro _ q4 ⟨rfl, eq4⟩
    subst q4
    show zG l w mX9_best 40 [(0, .ref x), (1, .int (nI f))] [.int (jI ((bstN N).1 f))] (zSi y1 290 x (nI 0)) _
    refine g_ireturn dX9_best_40 rfl ?_
    have e : qBest N (f : Int) = (0, (bstN N).1 f) := by unfold qBest; rw [if_pos d, Int.toNat_natCast]
    exact ⟨by rw [e], by rw [zi_same, e]; rfl, G1.stat, (OtX.frR F1).tr (OtX.si (by omega))⟩
  · refine g_aload_n 0 dX9_best_0 rfl rfl ?_
    refine g_getr (f := 293) (b := B 0) dX9_best_1 fl_X9_23 g.1.2.1 rfl g.1.2.2.1 ?_
    refine g_iload_n 1 dX9_best_4 rfl rfl ?_
    refine g_invv (M' := mX5_flowAt) (As := [.int (jI z)]) (rest := []) dX9_best_5 ml_X9_127 okX5_flowAt imX5_flowAt seX5_flowAt ⟨(Nat.le_of_ble_eq_true rfl), (Nat.le_of_ble_eq_true rfl)⟩ (ci := 5) rfl rfl c1.1.1.2 rfl rfl (Nat.le_of_ble_eq_true rfl) (c_flowOut c1 H1 zb d) ?_
    rintro _ q1 ⟨rfl, eq1⟩
    subst q1
    show zG l w mX9_best 8 [(0, .ref x), (1, .int (jI z))] [.null] h _
    refine g_ifnonnullN dX9_best_8 ?_
    refine g_aload_n 0 dX9_best_11 rfl rfl ?_
    refine g_iconst (v := nI 2) dX9_best_12 (by decide) ?_
    refine g_invv (M' := mX9_refuse) (As := [.int (nI 2)]) (rest := []) dX9_best_13 ml_X9_58 okX9_refuse imX9_refuse seX9_refuse ⟨(Nat.le_of_ble_eq_true rfl), (Nat.le_of_ble_eq_true rfl)⟩ (ci := 9) rfl rfl g.1.2.1 rfl rfl (Nat.le_of_ble_eq_true rfl) (c_refC g.1.2.1) ?_
    rintro _ q2 ⟨rfl, eq2⟩
    subst q2
    show zG l w mX9_best 16 [(0, .ref x), (1, .int (jI z))] [.int (-1)] (zSi h 290 x (nI 2)) _
    refine g_ireturn dX9_best_16 rfl ?_
    have e : qBest N z = (2, -1) := by unfold qBest; rw [if_neg d]
    exact ⟨by rw [e]; rfl, by rw [zi_same, e]; rfl, g.stat, OtX.si (by omega)⟩
theorem c_neckC (g : GC h x B ls N Ms n) (O : BsO h (x + 329)) (he : zr h 298 x = some (x + 329)) {z : Int} (zb : -2147483648 ≤ z ∧ z < 2147483648) : zM l w mX9_neck [.ref x, .int (jI z)] h (PPb h x B ls N Ms n (qNeck N z)) := by
  refine zM.of (by decide) (Nat.le_of_ble_eq_true rfl) ?_
  obtain ⟨π0, t0, c1, c2, c3⟩ := g.2.2.2.2.2.2.1
  have hI := c2.1
  have H1 := hI.H.2.1
  by_cases d : 0 ≤ z ∧ z < nA N 1
  · obtain ⟨f, ef⟩ : ∃ f : Nat, z = (f : Int) := ⟨_, (Int.toNat_of_nonneg d.1).symm⟩
    subst ef
    rw [jI_nat]
    have f6 : f < 6 := by omega
    have dj : B 0 + 65 ≤ x + 329 ∨ x + 329 + 4 ≤ B 0 := by have q := g.2.2.1 0 (by omega); unfold isBk at q; omega
    refine g_aload_n 0 dX9_neck_0 rfl rfl ?_
    refine g_getr (f := 293) (b := B 0) dX9_neck_1 fl_X9_23 g.1.2.1 rfl g.1.2.2.1 ?_
    refine g_iload_n 1 dX9_neck_4 rfl rfl ?_
    refine g_invv (M' := mX5_flowAt) (As := [.int (nI f)]) (rest := []) dX9_neck_5 ml_X9_127 okX5_flowAt imX5_flowAt seX5_flowAt ⟨(Nat.le_of_ble_eq_true rfl), (Nat.le_of_ble_eq_true rfl)⟩ (ci := 5) rfl rfl c1.1.1.2 rfl rfl (Nat.le_of_ble_eq_true rfl) (c_flowIn c1 H1 d.2) ?_
    rintro _ q9 ⟨rfl, eq9⟩
    subst q9
    show zG l w mX9_neck 8 [(0, .ref x), (1, .int (nI f))] [.ref (B 0 + 53 + 2 * f)] h _
    have on := (hI.F f d.2).2.2.2.2.1
    refine g_astore_n (lv2 := [(2, .ref (B 0 + 53 + 2 * f)), (0, .ref x), (1, .int (nI f))]) dX9_neck_8 rfl (by decide) rfl ?_
    refine g_aload_n 0 dX9_neck_9 rfl rfl ?_
    refine g_ifnonnull (tgt := 19) dX9_neck_10 (by decide) ?_
    refine g_aload_n 0 dX9_neck_19 rfl rfl ?_
    refine g_geti (f := 68) dX9_neck_20 fl_X9_222 (c1.1.2.2.2.2.2.2.2.2.2 f f6).2.1 (by decide) rfl ?_
    rw [show zi h 68 (B 0 + 53 + 2 * f) = jI (nA N (248 + 20 * f + 3)) from (c1.2.2.2.2.1 f d.2 f6).1 3 (by omega) (by omega)]
    refine g_zif_ne (a := (nA N (248 + 20 * f + 3))) (tgt := 32) rfl dX9_neck_23 (by decide) (by omega) (fun g2 => ?_) (fun g2 => ?_)
    · refine g_aload_n 1 dX9_neck_32 rfl rfl ?_
      refine g_getr (f := 298) (b := x + 329) dX9_neck_33 fl_X9_44 g.1.2.1 rfl he ?_
      refine g_aload_n 1 dX9_neck_36 rfl rfl ?_
      refine g_getr (f := 293) (b := B 0) dX9_neck_37 fl_X9_23 g.1.2.1 rfl g.1.2.2.1 ?_
      refine g_invv (M' := mX0_workOut) (As := [.ref (B 0)]) (rest := []) dX9_neck_40 ml_X9_250 okX0_workOut imX0_workOut seX0_workOut ⟨(Nat.le_of_ble_eq_true rfl), (Nat.le_of_ble_eq_true rfl)⟩ (ci := 0) rfl rfl O.1 rfl rfl (Nat.le_of_ble_eq_true rfl) (c_workOut c1 hI O dj) ?_
      rintro _ y1 ⟨rfl, V1, F1⟩
      show zG l w mX9_neck 43 [(2, .ref (B 0 + 53 + 2 * f)), (0, .ref x), (1, .int (nI f))] [] y1 _
      have G1 := g.frR F1 O
      have O1 := O.fr F1
      refine g_aload_n 1 dX9_neck_43 rfl rfl ?_
      refine g_aload_n 1 dX9_neck_44 rfl rfl ?_
      refine g_getr (f := 298) (b := x + 329) dX9_neck_45 fl_X9_44 G1.1.2.1 rfl ((F1.2.2.1 298 x).2.2.trans he) ?_
      refine g_iload_n 2 dX9_neck_48 rfl rfl ?_
      refine g_invv (M' := mX0_neckOf) (As := [.int (nI f)]) (rest := [.ref x]) dX9_neck_49 ml_X9_256 okX0_neckOf imX0_neckOf seX0_neckOf ⟨(Nat.le_of_ble_eq_true rfl), (Nat.le_of_ble_eq_true rfl)⟩ (ci := 0) rfl rfl O1.1 rfl rfl (Nat.le_of_ble_eq_true rfl) (c_neckOf O1 V1 f6) ?_
      rintro _ q3 ⟨rfl, eq3⟩
      subst q3
      show zG l w mX9_neck 52 [(2, .ref (B 0 + 53 + 2 * f)), (0, .ref x), (1, .int (nI f))] [.int (jI ((bstN N).2 f)), .ref x] y1 _
      refine g_invv (M' := mX9_answer) (As := [.int (jI ((bstN N).2 f))]) (rest := []) dX9_neck_52 ml_X9_75 okX9_answer imX9_answer seX9_answer ⟨(Nat.le_of_ble_eq_true rfl), (Nat.le_of_ble_eq_true rfl)⟩ (ci := 9) rfl rfl G1.1.2.1 rfl rfl (Nat.le_of_ble_eq_true rfl) (c_ans G1.1.2.1) ?_
      rintro _ q4 ⟨rfl, eq4⟩
      subst q4
      show zG l w mX9_neck 55 [(2, .ref (B 0 + 53 + 2 * f)), (0, .ref x), (1, .int (nI f))] [.int (jI ((bstN N).2 f))] (zSi y1 290 x (nI 0)) _
      refine g_ireturn dX9_neck_55 rfl ?_
      have e : qNeck N (f : Int) = (0, (bstN N).2 f) := by unfold qNeck; rw [if_pos d, Int.toNat_natCast, if_pos (by omega)]
      exact ⟨by rw [e], by rw [zi_same, e]; rfl, G1.stat, (OtX.frR F1).tr (OtX.si (by omega))⟩
    · refine g_aload_n 1 dX9_neck_26 rfl rfl ?_
      refine g_iconst (v := nI 5) dX9_neck_27 (by decide) ?_
      refine g_invv (M' := mX9_refuse) (As := [.int (nI 5)]) (rest := []) dX9_neck_28 ml_X9_58 okX9_refuse imX9_refuse seX9_refuse ⟨(Nat.le_of_ble_eq_true rfl), (Nat.le_of_ble_eq_true rfl)⟩ (ci := 9) rfl rfl g.1.2.1 rfl rfl (Nat.le_of_ble_eq_true rfl) (c_refC g.1.2.1) ?_
      rintro _ q5 ⟨rfl, eq5⟩
      subst q5
      show zG l w mX9_neck 31 [(2, .ref (B 0 + 53 + 2 * f)), (0, .ref x), (1, .int (nI f))] [.int (-1)] (zSi h 290 x (nI 5)) _
      refine g_ireturn dX9_neck_31 rfl ?_
      have e : qNeck N (f : Int) = (5, -1) := by unfold qNeck; rw [if_pos d, Int.toNat_natCast, if_neg (by omega)]
      exact ⟨by rw [e]; rfl, by rw [zi_same, e]; rfl, g.stat, OtX.si (by omega)⟩
  · refine g_aload_n 0 dX9_neck_0 rfl rfl ?_
    refine g_getr (f := 293) (b := B 0) dX9_neck_1 fl_X9_23 g.1.2.1 rfl g.1.2.2.1 ?_
    refine g_iload_n 1 dX9_neck_4 rfl rfl ?_
    refine g_invv (M' := mX5_flowAt) (As := [.int (jI z)]) (rest := []) dX9_neck_5 ml_X9_127 okX5_flowAt imX5_flowAt seX5_flowAt ⟨(Nat.le_of_ble_eq_true rfl), (Nat.le_of_ble_eq_true rfl)⟩ (ci := 5) rfl rfl c1.1.1.2 rfl rfl (Nat.le_of_ble_eq_true rfl) (c_flowOut c1 H1 zb d) ?_
    rintro _ q1 ⟨rfl, eq1⟩
    subst q1
    show zG l w mX9_neck 8 [(0, .ref x), (1, .int (jI z))] [.null] h _
    refine g_astore_nN (lv2 := [(2, .null), (0, .ref x), (1, .int (jI z))]) dX9_neck_8 rfl (by decide) rfl ?_
    refine g_aload_nN 0 dX9_neck_9 rfl rfl ?_
    refine g_ifnonnullN dX9_neck_10 ?_
    refine g_aload_n 1 dX9_neck_13 rfl rfl ?_
    refine g_iconst (v := nI 2) dX9_neck_14 (by decide) ?_
    refine g_invv (M' := mX9_refuse) (As := [.int (nI 2)]) (rest := []) dX9_neck_15 ml_X9_58 okX9_refuse imX9_refuse seX9_refuse ⟨(Nat.le_of_ble_eq_true rfl), (Nat.le_of_ble_eq_true rfl)⟩ (ci := 9) rfl rfl g.1.2.1 rfl rfl (Nat.le_of_ble_eq_true rfl) (c_refC g.1.2.1) ?_
    rintro _ q2 ⟨rfl, eq2⟩
    subst q2
    show zG l w mX9_neck 18 [(2, .null), (0, .ref x), (1, .int (jI z))] [.int (-1)] (zSi h 290 x (nI 2)) _
    refine g_ireturn dX9_neck_18 rfl ?_
    have e : qNeck N z = (2, -1) := by unfold qNeck; rw [if_neg d]
    exact ⟨by rw [e]; rfl, by rw [zi_same, e]; rfl, g.stat, OtX.si (by omega)⟩
end BSC
