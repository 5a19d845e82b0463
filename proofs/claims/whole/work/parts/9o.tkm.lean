section TKM
variable {l : Launch} {w : zW} {h y z : zH} {m o lo hi : Nat} {t : Nat → Nat} {n : Nat} {T : tkT} {N : nT}
theorem zSi_ss {f a : Nat} {v u : Int32} : zSi (zSi h f a v) f a u = zSi h f a u := by
  have e : zu (zu h.1 f a v) f a u = zu h.1 f a u := by
    funext g b
    unfold zu
    by_cases c : g = f ∧ b = a
    · rw [if_pos c, if_pos c]
    · rw [if_neg c, if_neg c, if_neg c]
  exact congrArg (fun z => ((z, h.2) : zH)) e
theorem zSi_id {f a : Nat} {v : Int32} (e : zi h f a = v) : zSi h f a v = h := by
  have e : zu h.1 f a v = h.1 := by
    funext g b
    unfold zu
    by_cases c : g = f ∧ b = a
    · rw [if_pos c, c.1, c.2]; exact e.symm
    · rw [if_neg c]
  exact congrArg (fun z => ((z, h.2) : zH)) e
theorem zSi_cm {f a g b : Nat} {v u : Int32} (n : f ≠ g ∨ a ≠ b) : zSi (zSi h f a v) g b u = zSi (zSi h g b u) f a v := by
  have e : zu (zu h.1 f a v) g b u = zu (zu h.1 g b u) f a v := by
    funext p q
    unfold zu
    by_cases c : p = g ∧ q = b
    · rw [if_pos c, if_neg (by omega), if_pos c]
    · rw [if_neg c, if_neg c]
  exact congrArg (fun z => ((z, h.2) : zH)) e
theorem zSi_fg {f a g : Nat} {v u v' u' : Int32} (n : f ≠ g) : zSi (zSi (zSi (zSi h f a v) g a u) f a v') g a u' = zSi (zSi h f a v') g a u' := by
  rw [zSi_cm (h := zSi h f a v) (f := g) (g := f) (Or.inl (fun q => n q.symm)), zSi_ss, zSi_ss]
/-- only some int fields of o change -/
def FrF (o lo hi : Nat) (h y : zH) : Prop := (zx y = zx h ∧ zt y = zt h) ∧ (∀ a, zk y a = zk h a ∧ zn y a = zn h a) ∧ (∀ f a, zr y f a = zr h f a ∧ zl y f a = zl h f a) ∧ (∀ a i, zI y a i = zI h a i ∧ zL y a i = zL h a i ∧ zR y a i = zR h a i) ∧ ∀ f a, (a ≠ o ∨ f < lo ∨ hi < f) → zi y f a = zi h f a
theorem FrF.rf : FrF o lo hi h h := ⟨⟨rfl, rfl⟩, fun _ => ⟨rfl, rfl⟩, fun _ _ => ⟨rfl, rfl⟩, fun _ _ => ⟨rfl, rfl, rfl⟩, fun _ _ _ => rfl⟩
theorem FrF.tr (p : FrF o lo hi h y) (q : FrF o lo hi y z) : FrF o lo hi h z := ⟨⟨q.1.1.trans p.1.1, q.1.2.trans p.1.2⟩, fun a => ⟨(q.2.1 a).1.trans (p.2.1 a).1, (q.2.1 a).2.trans (p.2.1 a).2⟩, fun f a => ⟨(q.2.2.1 f a).1.trans (p.2.2.1 f a).1, (q.2.2.1 f a).2.trans (p.2.2.1 f a).2⟩, fun a i => ⟨(q.2.2.2.1 a i).1.trans (p.2.2.2.1 a i).1, (q.2.2.2.1 a i).2.1.trans (p.2.2.2.1 a i).2.1, (q.2.2.2.1 a i).2.2.trans (p.2.2.2.1 a i).2.2⟩, fun f a e => (q.2.2.2.2 f a e).trans (p.2.2.2.2 f a e)⟩
theorem FrF.si {f : Nat} {v : Int32} (p : FrF o lo hi h y) (hf : lo ≤ f ∧ f ≤ hi) : FrF o lo hi h (zSi y f o v) := p.tr ⟨⟨rfl, rfl⟩, fun _ => ⟨rfl, rfl⟩, fun _ _ => ⟨rfl, rfl⟩, fun _ _ => ⟨rfl, rfl, rfl⟩, fun g a e => by rw [zi_Si, if_neg (by omega)]⟩
theorem FrF.mono {lo' hi' : Nat} (p : FrF o lo hi h y) (h1 : lo' ≤ lo) (h2 : hi ≤ hi') : FrF o lo' hi' h y := ⟨p.1, p.2.1, p.2.2.1, p.2.2.2.1, fun f a e => p.2.2.2.2 f a (by omega)⟩
theorem Mo.frF (r : Mo h m) (F : FrF o lo hi h y) : Mo y m := by
  unfold Mo
  simp only [(F.2.1 _).1, (F.2.1 _).2, (F.2.2.1 _ _).1]
  exact r
theorem MoN.frF (r : MoN h m N) (F : FrF m lo hi h y) (h3 : 325 ≤ lo) : MoN y m N := by
  refine ⟨r.1.frF F, ?_, by rw [F.2.2.2.2 _ _ (by omega)]; exact r.2.2.1, by rw [F.2.2.2.2 _ _ (by omega)]; exact r.2.2.2⟩
  have e : zL y (m + 1) = zL h (m + 1) := by funext i; exact (F.2.2.2.1 _ i).2.1
  rw [e]
  exact r.2.1
def mdK (k : Nat) : Nat := if k = 0 then 0 else if k = 1 then 2 else if k = 2 then 3 else if k = 3 then 4 else 1
theorem mdK_bd (k : Nat) : mdK k ≤ 4 := by unfold mdK; (repeat' split) <;> omega
/-- the model's text -/
def TxM (h : zH) (m n : Nat) (t : Nat → Nat) : Prop := Mo h m ∧ zi h 328 m = nI n ∧ n ≤ 600 ∧ ∀ i, i < n → bY (zI h (m + 3) i) = t i
/-- the model's token -/
def TkM (h : zH) (m : Nat) (T : tkT) : Prop := zi h 329 m = nI (mdK T.1) ∧ zi h 330 m = nI T.2.1 ∧ zi h 331 m = nI T.2.2.1 ∧ (T.1 = 2 → zi h 332 m = jI T.2.2.2)
theorem TxM.frF (r : TxM h m n t) (F : FrF m lo hi h y) (h3 : 329 ≤ lo) : TxM y m n t := ⟨r.1.frF F, by rw [F.2.2.2.2 _ _ (by omega)]; exact r.2.1, r.2.2.1, fun i hi => by rw [(F.2.2.2.1 _ _).1]; exact r.2.2.2 i hi⟩
def btZ (t : Nat → Nat) (n k : Nat) : Int := if k < n then (t k : Int) else -1
theorem btZ_bd {k : Nat} (r : TxM h m n t) : -1 ≤ btZ t n k ∧ btZ t n k < 256 := by
  unfold btZ
  split
  · rename_i c
    have := bY_lt (zI h (m + 3) k)
    rw [r.2.2.2 k c] at this
    omega
  · omega
theorem c_byteM {k : Nat} (x : TxM h m n t) (k6 : k ≤ 600) : zM l w mX10_byteAt [.ref m, .int (nI k)] h (fun u h1 => u = some (.int (jI (btZ t n k))) ∧ h1 = h) := by
  refine zM.of (by decide) (Nat.le_of_ble_eq_true rfl) ?_
  have n6 := x.2.2.1
  refine g_iload_n 1 dX10_byteAt_0 rfl rfl ?_
  refine g_aload_n 0 dX10_byteAt_1 rfl rfl ?_
  refine g_geti (f := 328) dX10_byteAt_2 fl_X10_205 x.1.1 (by decide) rfl ?_
  rw [show zi h 328 m = nI n from x.2.1]
  refine g_ncmp_ge (tgt := 21) dX10_byteAt_5 (by decide) (by omega) (by omega) (fun c => ?_) (fun c => ?_)
  · refine g_iconst (v := (-1)) dX10_byteAt_21 (by decide) ?_
    refine g_ireturn dX10_byteAt_22 rfl ?_
    exact ⟨by unfold btZ; rw [if_neg (by omega)]; rfl, rfl⟩
  · refine g_aload_n 0 dX10_byteAt_8 rfl rfl ?_
    refine g_getr (f := 326) (b := m + 3) dX10_byteAt_9 fl_X10_17 x.1.1 rfl x.1.2.2.2.1.1 ?_
    refine g_iload_n 1 dX10_byteAt_12 rfl rfl ?_
    refine g_bald dX10_byteAt_13 x.1.2.2.2.1.2.1 (by rw [show zn h (m + 3) = 600 from x.1.2.2.2.1.2.2]; exact vp_in_nI (by omega) (by omega)) ?_
    rw [nI_clamp (by omega)]
    refine g_sipush (v := nI 255) dX10_byteAt_14 (by decide) ?_
    refine g_iand dX10_byteAt_17 ?_
    rw [bY_eq, x.2.2.2 k (by omega), ← jI_nat]
    refine g_goto (tgt := 22) dX10_byteAt_18 (by decide) ?_
    refine g_ireturn dX10_byteAt_22 rfl ?_
    exact ⟨by unfold btZ; rw [if_pos (by omega), jI_nat], rfl⟩
theorem c_isSmall {c : Int} (cb : -1 ≤ c ∧ c < 256) : zM l w mX10_isSmall [.int (jI c)] h (fun u h1 => u = some (.int (bI (decide (97 ≤ c ∧ c ≤ 122)))) ∧ h1 = h) := by
  refine zM.of (by decide) (Nat.le_of_ble_eq_true rfl) ?_
  refine g_iload_n 0 dX10_isSmall_0 rfl rfl ?_
  refine g_bipush (v := nI 97) dX10_isSmall_1 (by decide) ?_
  refine g_zcmp_lt (a := c) (b := 97) (tgt := 16) rfl (by decide) dX10_isSmall_3 (by decide) (by omega) (by omega) (fun g1 => ?_) (fun g1 => ?_)
  · refine g_iconst (v := nI 0) dX10_isSmall_16 (by decide) ?_
    exact g_zreturn dX10_isSmall_17 rfl (bI_nar false) ⟨by rw [decide_eq_false (by omega)]; rfl, rfl⟩
  · refine g_iload_n 0 dX10_isSmall_6 rfl rfl ?_
    refine g_bipush (v := nI 122) dX10_isSmall_7 (by decide) ?_
    refine g_zcmp_gt (a := c) (b := 122) (tgt := 16) rfl (by decide) dX10_isSmall_9 (by decide) (by omega) (by omega) (fun g2 => ?_) (fun g2 => ?_)
    · refine g_iconst (v := nI 0) dX10_isSmall_16 (by decide) ?_
      exact g_zreturn dX10_isSmall_17 rfl (bI_nar false) ⟨by rw [decide_eq_false (by omega)]; rfl, rfl⟩
    · refine g_iconst (v := nI 1) dX10_isSmall_12 (by decide) ?_
      refine g_goto (tgt := 17) dX10_isSmall_13 (by decide) ?_
      exact g_zreturn dX10_isSmall_17 rfl (bI_nar true) ⟨by rw [decide_eq_true (by omega)]; rfl, rfl⟩
theorem c_isDigit {c : Int} (cb : -1 ≤ c ∧ c < 256) : zM l w mX10_isDigit [.int (jI c)] h (fun u h1 => u = some (.int (bI (decide (48 ≤ c ∧ c ≤ 57)))) ∧ h1 = h) := by
  refine zM.of (by decide) (Nat.le_of_ble_eq_true rfl) ?_
  refine g_iload_n 0 dX10_isDigit_0 rfl rfl ?_
  refine g_bipush (v := nI 48) dX10_isDigit_1 (by decide) ?_
  refine g_zcmp_lt (a := c) (b := 48) (tgt := 16) rfl (by decide) dX10_isDigit_3 (by decide) (by omega) (by omega) (fun g1 => ?_) (fun g1 => ?_)
  · refine g_iconst (v := nI 0) dX10_isDigit_16 (by decide) ?_
    exact g_zreturn dX10_isDigit_17 rfl (bI_nar false) ⟨by rw [decide_eq_false (by omega)]; rfl, rfl⟩
  · refine g_iload_n 0 dX10_isDigit_6 rfl rfl ?_
    refine g_bipush (v := nI 57) dX10_isDigit_7 (by decide) ?_
    refine g_zcmp_gt (a := c) (b := 57) (tgt := 16) rfl (by decide) dX10_isDigit_9 (by decide) (by omega) (by omega) (fun g2 => ?_) (fun g2 => ?_)
    · refine g_iconst (v := nI 0) dX10_isDigit_16 (by decide) ?_
      exact g_zreturn dX10_isDigit_17 rfl (bI_nar false) ⟨by rw [decide_eq_false (by omega)]; rfl, rfl⟩
    · refine g_iconst (v := nI 1) dX10_isDigit_12 (by decide) ?_
      refine g_goto (tgt := 17) dX10_isDigit_13 (by decide) ?_
      exact g_zreturn dX10_isDigit_17 rfl (bI_nar true) ⟨by rw [decide_eq_true (by omega)]; rfl, rfl⟩
theorem sp_btZ {e : Nat} : spB t n e = decide (btZ t n e = 32 ∨ btZ t n e = 10) := by
  unfold spB btZ
  by_cases c : e < n
  · rw [if_pos c, decide_eq_true c, Bool.true_and]
    by_cases a : t e = 10
    · rw [decide_eq_true a, Bool.true_or, decide_eq_true (by omega)]
    · by_cases b : t e = 32
      · rw [decide_eq_true b, Bool.or_true, decide_eq_true (by omega)]
      · rw [decide_eq_false a, decide_eq_false b, decide_eq_false (by omega)]; rfl
  · rw [if_neg c, decide_eq_false c, Bool.false_and, decide_eq_false (by omega)]
theorem in_btZ {e lo hi : Nat} : inR t n lo hi e = decide ((lo : Int) ≤ btZ t n e ∧ btZ t n e ≤ hi) := by
  unfold inR btZ
  by_cases c : e < n
  · rw [if_pos c, decide_eq_true c, Bool.true_and]
    by_cases a : lo ≤ t e
    · by_cases b : t e ≤ hi
      · rw [decide_eq_true a, decide_eq_true b, decide_eq_true (by omega)]; rfl
      · rw [decide_eq_false b, Bool.and_false, decide_eq_false (by omega)]
    · rw [decide_eq_false a, Bool.false_and, decide_eq_false (by omega)]
  · rw [if_neg c, decide_eq_false c, Bool.false_and, decide_eq_false (by omega)]
theorem c_ahead {e0 : Nat} (x : TxM h m n t) (he : zi h 331 m = nI e0) (e6 : e0 ≤ n) : zM l w mX10_ahead [.ref m] h (fun u h1 => u = none ∧ TkM h1 m (tokN t n e0) ∧ FrF m 329 332 h h1) := by
  refine zM.of (by decide) (Nat.le_of_ble_eq_true rfl) ?_
  have n6 := x.2.2.1
  have sb := skN_bd (t := t) (n := n) e6
  have after : ∀ y : zH, FrF m 329 332 h y → TxM y m n t → zi y 331 m = nI (skN t n e0) → zG l w mX10_ahead 39 [(0, .ref m)] [] y (fun u h1 => u = none ∧ TkM h1 m (tokN t n e0) ∧ FrF m 329 332 h h1) := by
    intro y F X E
    generalize eb : skN t n e0 = b at E sb
    have tb := btZ_bd (k := b) X
    have et : tokN t n e0 = toB t n b := by unfold tokN; rw [eb]
    rw [et]
    refine g_aload_n 0 dX10_ahead_39 rfl rfl ?_
    refine g_aload_n 0 dX10_ahead_40 rfl rfl ?_
    refine g_geti (f := 331) dX10_ahead_41 fl_X10_208 X.1.1 (by decide) rfl ?_
    rw [show zi y 331 m = nI b from E]
    refine g_puti (f := 330) dX10_ahead_44 fl_X10_214 (Or.inl rfl) X.1.1 rfl ?_
    refine g_aload_n 0 dX10_ahead_47 rfl rfl ?_
    refine g_aload_n 0 dX10_ahead_48 rfl rfl ?_
    refine g_geti (f := 331) dX10_ahead_49 fl_X10_208 X.1.1 (by decide) rfl ?_
    rw [show zi (zSi y 330 m (nI b)) 331 m = nI b from (by rw [zi_Si, if_neg (by omega)]; exact E)]
    have X1 := X.frF ((FrF.rf (o := m) (lo := 329) (hi := 332)).si (f := 330) (v := nI b) (by omega)) (by omega)
    refine g_invv (M' := mX10_byteAt) (As := [.int (nI b)]) (rest := []) dX10_ahead_52 ml_X10_211 okX10_byteAt imX10_byteAt seX10_byteAt ⟨(Nat.le_of_ble_eq_true rfl), (Nat.le_of_ble_eq_true rfl)⟩ (ci := 10) rfl rfl X.1.1 rfl rfl (Nat.le_of_ble_eq_true rfl) (c_byteM X1 (by omega)) ?_
    rintro _ q1 ⟨rfl, eq1⟩
    subst q1
    show zG l w mX10_ahead 55 [(0, .ref m)] [.int (jI (btZ t n b))] (zSi y 330 m (nI b)) _
    refine g_istore_n (lv2 := [(1, .int (jI (btZ t n b))), (0, .ref m)]) dX10_ahead_55 rfl (by decide) rfl ?_
    refine g_iload_n 0 dX10_ahead_56 rfl rfl ?_
    refine g_iconst (v := (-1)) dX10_ahead_57 (by decide) ?_
    refine g_zcmp_ne (a := (btZ t n b)) (b := (-1)) (tgt := 69) rfl (by decide) dX10_ahead_58 (by decide) (by omega) (by omega) (fun c0 => ?_) (fun c0 => ?_)
    · have hb : b < n := by
        by_cases c : b < n
        · exact c
        · unfold btZ at c0; rw [if_neg c] at c0; exact absurd rfl c0
      have ec : btZ t n b = (t b : Int) := by unfold btZ; rw [if_pos hb]
      rw [ec] at tb
      rw [ec]
      refine g_iload_n 0 dX10_ahead_69 rfl rfl ?_
      refine g_invs (M' := mX10_isSmall) (As := [.int (jI (t b : Int))]) (rest := []) dX10_ahead_70 ml_X10_220 okX10_isSmall stX10_isSmall ⟨(Nat.le_of_ble_eq_true rfl), (Nat.le_of_ble_eq_true rfl)⟩ rfl rfl (Nat.le_of_ble_eq_true rfl) (c_isSmall (by omega)) ?_
      rintro _ q2 ⟨rfl, eq2⟩
      subst q2
      show zG l w mX10_ahead 73 [(1, .int (jI (t b : Int))), (0, .ref m)] [.int (bI (decide (97 ≤ (t b : Int) ∧ (t b : Int) ≤ 122)))] (zSi y 330 m (nI b)) _
      refine g_bif_eq (tgt := 111) dX10_ahead_73 (by decide) (fun c1 => ?_) (fun c1 => ?_)
      · have c1 := of_decide_eq_false c1
        refine g_iload_n 0 dX10_ahead_111 rfl rfl ?_
        refine g_invs (M' := mX10_isDigit) (As := [.int (jI (t b : Int))]) (rest := []) dX10_ahead_112 ml_X10_223 okX10_isDigit stX10_isDigit ⟨(Nat.le_of_ble_eq_true rfl), (Nat.le_of_ble_eq_true rfl)⟩ rfl rfl (Nat.le_of_ble_eq_true rfl) (c_isDigit (by omega)) ?_
        rintro _ q7 ⟨rfl, eq7⟩
        subst q7
        show zG l w mX10_ahead 115 [(1, .int (jI (t b : Int))), (0, .ref m)] [.int (bI (decide (48 ≤ (t b : Int) ∧ (t b : Int) ≤ 57)))] (zSi y 330 m (nI b)) _
        refine g_bif_eq (tgt := 203) dX10_ahead_115 (by decide) (fun c2 => ?_) (fun c2 => ?_)
        · have c2 := of_decide_eq_false c2
          have ew : toB t n b = (if t b = 59 then (3, b, b + 1, 0) else (4, b, b + 1, 0)) := by unfold toB; rw [if_neg (by omega), if_neg (by omega), if_neg (by omega)]
          rw [ew]
          refine g_aload_n 1 dX10_ahead_203 rfl rfl ?_
          refine g_dup dX10_ahead_204 rfl ?_
          refine g_geti (f := 331) dX10_ahead_205 fl_X10_208 X.1.1 (by decide) rfl ?_
          rw [show zi (zSi y 330 m (nI b)) 331 m = nI b from (by rw [zi_Si, if_neg (by omega)]; exact E)]
          refine g_iconst (v := nI 1) dX10_ahead_208 (by decide) ?_
          refine g_iadd dX10_ahead_209 ?_
          rw [nI_add b 1]
          refine g_puti (f := 331) dX10_ahead_210 fl_X10_208 (Or.inl rfl) X.1.1 rfl ?_
          refine g_aload_n 1 dX10_ahead_213 rfl rfl ?_
          refine g_iload_n 0 dX10_ahead_214 rfl rfl ?_
          refine g_bipush (v := nI 59) dX10_ahead_215 (by decide) ?_
          refine g_zcmp_ne (a := (t b : Int)) (b := 59) (tgt := 224) rfl (by decide) dX10_ahead_217 (by decide) (by omega) (by omega) (fun g => ?_) (fun g => ?_)
          · refine g_iconst (v := nI 1) dX10_ahead_224 (by decide) ?_
            refine g_puti (f := 329) dX10_ahead_225 fl_X10_217 (Or.inl rfl) X.1.1 rfl ?_
            refine g_return dX10_ahead_228 rfl ?_
            rw [if_neg (by omega)]
            refine ⟨rfl, ⟨zi_same, by rw [zi_Si, if_neg (by omega), zi_Si, if_neg (by omega), zi_same], by rw [zi_Si, if_neg (by omega), zi_same], fun q => absurd (show (4 : Nat) = 2 from q) (by omega)⟩, (((F.si (by omega)).si (by omega)).si (by omega))⟩
          · refine g_iconst (v := nI 4) dX10_ahead_220 (by decide) ?_
            refine g_goto (tgt := 225) dX10_ahead_221 (by decide) ?_
            refine g_puti (f := 329) dX10_ahead_225 fl_X10_217 (Or.inl rfl) X.1.1 rfl ?_
            refine g_return dX10_ahead_228 rfl ?_
            rw [if_pos (by omega)]
            refine ⟨rfl, ⟨zi_same, by rw [zi_Si, if_neg (by omega), zi_Si, if_neg (by omega), zi_same], by rw [zi_Si, if_neg (by omega), zi_same], fun q => absurd (show (3 : Nat) = 2 from q) (by omega)⟩, (((F.si (by omega)).si (by omega)).si (by omega))⟩
        · have c2 := of_decide_eq_true c2
          have ew : toB t n b = (if rnN t n 48 57 b - b ≤ 4 then (2, b, rnN t n 48 57 b, vaN t b (rnN t n 48 57 b - b)) else (4, b, rnN t n 48 57 b, 0)) := by unfold toB; rw [if_neg (by omega), if_neg (by omega), if_pos (by omega)]
          rw [ew]
          have dig : ∀ e, b ≤ e → e ≤ rnN t n 48 57 b → ∀ i, i < e - b → 48 ≤ t (b + i) ∧ t (b + i) ≤ 57 := fun e h1 h2 i hi => by
            have q := rnN_in (t := t) (n := n) (lo := 48) (hi := 57) (b := b) (i := b + i) (by omega) (by omega)
            unfold inR at q
            simp only [Bool.and_eq_true, decide_eq_true_eq] at q
            exact q.2
          have loop : ∀ k e : Nat, n - e ≤ k → b ≤ e → e ≤ n → rnN t n 48 57 e = rnN t n 48 57 b → zG l w mX10_ahead 123 [(1, .int (jI (t b : Int))), (0, .ref m)] [] (zSi (zSi (zSi y 330 m (nI b)) 332 m (jI (vmN t b (e - b)))) 331 m (nI e)) (fun u h1 => u = none ∧ TkM h1 m (if rnN t n 48 57 b - b ≤ 4 then (2, b, rnN t n 48 57 b, vaN t b (rnN t n 48 57 b - b)) else (4, b, rnN t n 48 57 b, 0)) ∧ FrF m 329 332 h h1) := by
            intro k
            induction k with
            | zero =>
              intro e hk be en er
              have ge := rnN_bd (t := t) (n := n) (lo := 48) (hi := 57) (e := e) en
              have vb := vmN_bd (t := t) (b := b) (e - b) (dig e be (by omega))
              have X2 := X.frF ((((FrF.rf (o := m) (lo := 329) (hi := 332)).si (f := 330) (v := nI b) (by omega)).si (f := 332) (v := jI (vmN t b (e - b))) (by omega)).si (f := 331) (v := nI e) (by omega)) (by omega)
              have tb2 := btZ_bd (k := e) X
              refine g_aload_n 1 dX10_ahead_123 rfl rfl ?_
              refine g_aload_n 1 dX10_ahead_124 rfl rfl ?_
              refine g_geti (f := 331) dX10_ahead_125 fl_X10_208 X.1.1 (by decide) rfl ?_
              rw [show zi (zSi (zSi (zSi y 330 m (nI b)) 332 m (jI (vmN t b (e - b)))) 331 m (nI e)) 331 m = nI e from (by rw [zi_Si, if_pos ⟨rfl, rfl⟩])]
              refine g_invv (M' := mX10_byteAt) (As := [.int (nI e)]) (rest := []) dX10_ahead_128 ml_X10_211 okX10_byteAt imX10_byteAt seX10_byteAt ⟨(Nat.le_of_ble_eq_true rfl), (Nat.le_of_ble_eq_true rfl)⟩ (ci := 10) rfl rfl X.1.1 rfl rfl (Nat.le_of_ble_eq_true rfl) (c_byteM X2 (by omega)) ?_
              rintro _ q8 ⟨rfl, eq8⟩
              subst q8
              show zG l w mX10_ahead 131 [(1, .int (jI (t b : Int))), (0, .ref m)] [.int (jI (btZ t n e))] (zSi (zSi (zSi y 330 m (nI b)) 332 m (jI (vmN t b (e - b)))) 331 m (nI e)) _
              refine g_invs (M' := mX10_isDigit) (As := [.int (jI (btZ t n e))]) (rest := []) dX10_ahead_131 ml_X10_223 okX10_isDigit stX10_isDigit ⟨(Nat.le_of_ble_eq_true rfl), (Nat.le_of_ble_eq_true rfl)⟩ rfl rfl (Nat.le_of_ble_eq_true rfl) (c_isDigit (by omega)) ?_
              rintro _ q9 ⟨rfl, eq9⟩
              subst q9
              show zG l w mX10_ahead 134 [(1, .int (jI (t b : Int))), (0, .ref m)] [.int (bI (decide (48 ≤ btZ t n e ∧ btZ t n e ≤ 57)))] (zSi (zSi (zSi y 330 m (nI b)) 332 m (jI (vmN t b (e - b)))) 331 m (nI e)) _
              refine g_bif_eq (tgt := 178) dX10_ahead_134 (by decide) (fun d => ?_) (fun d => ?_)
              · have dd : inR t n 48 57 e = false := by rw [in_btZ]; exact d
                rw [rnN_f dd] at er
                rw [← er]
                refine g_aload_n 1 dX10_ahead_178 rfl rfl ?_
                refine g_aload_n 1 dX10_ahead_179 rfl rfl ?_
                refine g_geti (f := 331) dX10_ahead_180 fl_X10_208 X.1.1 (by decide) rfl ?_
                rw [show zi (zSi (zSi (zSi y 330 m (nI b)) 332 m (jI (vmN t b (e - b)))) 331 m (nI e)) 331 m = nI e from (by rw [zi_Si, if_pos ⟨rfl, rfl⟩])]
                refine g_aload_n 1 dX10_ahead_183 rfl rfl ?_
                refine g_geti (f := 330) dX10_ahead_184 fl_X10_214 X.1.1 (by decide) rfl ?_
                rw [show zi (zSi (zSi (zSi y 330 m (nI b)) 332 m (jI (vmN t b (e - b)))) 331 m (nI e)) 330 m = nI b from (by rw [zi_Si, if_neg (by omega), zi_Si, if_neg (by omega), zi_Si, if_pos ⟨rfl, rfl⟩])]
                refine g_isub dX10_ahead_187 ?_
                rw [nI_sub be]
                refine g_iconst (v := nI 4) dX10_ahead_188 (by decide) ?_
                refine g_ncmp_le (tgt := 196) dX10_ahead_189 (by decide) (by omega) (by omega) (fun g => ?_) (fun g => ?_)
                · refine g_iconst (v := nI 3) dX10_ahead_196 (by decide) ?_
                  refine g_puti (f := 329) dX10_ahead_197 fl_X10_217 (Or.inl rfl) X.1.1 rfl ?_
                  refine g_goto (tgt := 228) dX10_ahead_200 (by decide) ?_
                  refine g_return dX10_ahead_228 rfl ?_
                  rw [if_pos g]
                  refine ⟨rfl, ⟨zi_same, by rw [zi_Si, if_neg (by omega), zi_Si, if_neg (by omega), zi_Si, if_neg (by omega), zi_same], by rw [zi_Si, if_neg (by omega), zi_same], fun _ => by rw [zi_Si, if_neg (by omega), zi_Si, if_neg (by omega), zi_same, vm_va _ g (dig e be (by omega))]⟩, ((((F.si (by omega)).si (by omega)).si (by omega)).si (by omega))⟩
                · refine g_iconst (v := nI 1) dX10_ahead_192 (by decide) ?_
                  refine g_goto (tgt := 197) dX10_ahead_193 (by decide) ?_
                  refine g_puti (f := 329) dX10_ahead_197 fl_X10_217 (Or.inl rfl) X.1.1 rfl ?_
                  refine g_goto (tgt := 228) dX10_ahead_200 (by decide) ?_
                  refine g_return dX10_ahead_228 rfl ?_
                  rw [if_neg (by omega)]
                  refine ⟨rfl, ⟨zi_same, by rw [zi_Si, if_neg (by omega), zi_Si, if_neg (by omega), zi_Si, if_neg (by omega), zi_same], by rw [zi_Si, if_neg (by omega), zi_same], fun q => absurd (show (4 : Nat) = 2 from q) (by omega)⟩, ((((F.si (by omega)).si (by omega)).si (by omega)).si (by omega))⟩
              · have dd : inR t n 48 57 e = true := by rw [in_btZ]; exact d
                have eL : e < n := by
                  by_cases c : e < n
                  · exact c
                  · rw [inR_out (by omega)] at dd; cases dd
                omega
            | succ k ih =>
              intro e hk be en er
              have ge := rnN_bd (t := t) (n := n) (lo := 48) (hi := 57) (e := e) en
              have vb := vmN_bd (t := t) (b := b) (e - b) (dig e be (by omega))
              have X2 := X.frF ((((FrF.rf (o := m) (lo := 329) (hi := 332)).si (f := 330) (v := nI b) (by omega)).si (f := 332) (v := jI (vmN t b (e - b))) (by omega)).si (f := 331) (v := nI e) (by omega)) (by omega)
              have tb2 := btZ_bd (k := e) X
              refine g_aload_n 1 dX10_ahead_123 rfl rfl ?_
              refine g_aload_n 1 dX10_ahead_124 rfl rfl ?_
              refine g_geti (f := 331) dX10_ahead_125 fl_X10_208 X.1.1 (by decide) rfl ?_
              rw [show zi (zSi (zSi (zSi y 330 m (nI b)) 332 m (jI (vmN t b (e - b)))) 331 m (nI e)) 331 m = nI e from (by rw [zi_Si, if_pos ⟨rfl, rfl⟩])]
              refine g_invv (M' := mX10_byteAt) (As := [.int (nI e)]) (rest := []) dX10_ahead_128 ml_X10_211 okX10_byteAt imX10_byteAt seX10_byteAt ⟨(Nat.le_of_ble_eq_true rfl), (Nat.le_of_ble_eq_true rfl)⟩ (ci := 10) rfl rfl X.1.1 rfl rfl (Nat.le_of_ble_eq_true rfl) (c_byteM X2 (by omega)) ?_
              rintro _ q10 ⟨rfl, eq10⟩
              subst q10
              show zG l w mX10_ahead 131 [(1, .int (jI (t b : Int))), (0, .ref m)] [.int (jI (btZ t n e))] (zSi (zSi (zSi y 330 m (nI b)) 332 m (jI (vmN t b (e - b)))) 331 m (nI e)) _
              refine g_invs (M' := mX10_isDigit) (As := [.int (jI (btZ t n e))]) (rest := []) dX10_ahead_131 ml_X10_223 okX10_isDigit stX10_isDigit ⟨(Nat.le_of_ble_eq_true rfl), (Nat.le_of_ble_eq_true rfl)⟩ rfl rfl (Nat.le_of_ble_eq_true rfl) (c_isDigit (by omega)) ?_
              rintro _ q11 ⟨rfl, eq11⟩
              subst q11
              show zG l w mX10_ahead 134 [(1, .int (jI (t b : Int))), (0, .ref m)] [.int (bI (decide (48 ≤ btZ t n e ∧ btZ t n e ≤ 57)))] (zSi (zSi (zSi y 330 m (nI b)) 332 m (jI (vmN t b (e - b)))) 331 m (nI e)) _
              refine g_bif_eq (tgt := 178) dX10_ahead_134 (by decide) (fun d => ?_) (fun d => ?_)
              · have dd : inR t n 48 57 e = false := by rw [in_btZ]; exact d
                rw [rnN_f dd] at er
                rw [← er]
                refine g_aload_n 1 dX10_ahead_178 rfl rfl ?_
                refine g_aload_n 1 dX10_ahead_179 rfl rfl ?_
                refine g_geti (f := 331) dX10_ahead_180 fl_X10_208 X.1.1 (by decide) rfl ?_
                rw [show zi (zSi (zSi (zSi y 330 m (nI b)) 332 m (jI (vmN t b (e - b)))) 331 m (nI e)) 331 m = nI e from (by rw [zi_Si, if_pos ⟨rfl, rfl⟩])]
                refine g_aload_n 1 dX10_ahead_183 rfl rfl ?_
                refine g_geti (f := 330) dX10_ahead_184 fl_X10_214 X.1.1 (by decide) rfl ?_
                rw [show zi (zSi (zSi (zSi y 330 m (nI b)) 332 m (jI (vmN t b (e - b)))) 331 m (nI e)) 330 m = nI b from (by rw [zi_Si, if_neg (by omega), zi_Si, if_neg (by omega), zi_Si, if_pos ⟨rfl, rfl⟩])]
                refine g_isub dX10_ahead_187 ?_
                rw [nI_sub be]
                refine g_iconst (v := nI 4) dX10_ahead_188 (by decide) ?_
                refine g_ncmp_le (tgt := 196) dX10_ahead_189 (by decide) (by omega) (by omega) (fun g => ?_) (fun g => ?_)
                · refine g_iconst (v := nI 3) dX10_ahead_196 (by decide) ?_
                  refine g_puti (f := 329) dX10_ahead_197 fl_X10_217 (Or.inl rfl) X.1.1 rfl ?_
                  refine g_goto (tgt := 228) dX10_ahead_200 (by decide) ?_
                  refine g_return dX10_ahead_228 rfl ?_
                  rw [if_pos g]
                  refine ⟨rfl, ⟨zi_same, by rw [zi_Si, if_neg (by omega), zi_Si, if_neg (by omega), zi_Si, if_neg (by omega), zi_same], by rw [zi_Si, if_neg (by omega), zi_same], fun _ => by rw [zi_Si, if_neg (by omega), zi_Si, if_neg (by omega), zi_same, vm_va _ g (dig e be (by omega))]⟩, ((((F.si (by omega)).si (by omega)).si (by omega)).si (by omega))⟩
                · refine g_iconst (v := nI 1) dX10_ahead_192 (by decide) ?_
                  refine g_goto (tgt := 197) dX10_ahead_193 (by decide) ?_
                  refine g_puti (f := 329) dX10_ahead_197 fl_X10_217 (Or.inl rfl) X.1.1 rfl ?_
                  refine g_goto (tgt := 228) dX10_ahead_200 (by decide) ?_
                  refine g_return dX10_ahead_228 rfl ?_
                  rw [if_neg (by omega)]
                  refine ⟨rfl, ⟨zi_same, by rw [zi_Si, if_neg (by omega), zi_Si, if_neg (by omega), zi_Si, if_neg (by omega), zi_same], by rw [zi_Si, if_neg (by omega), zi_same], fun q => absurd (show (4 : Nat) = 2 from q) (by omega)⟩, ((((F.si (by omega)).si (by omega)).si (by omega)).si (by omega))⟩
              · have dd : inR t n 48 57 e = true := by rw [in_btZ]; exact d
                have eL : e < n := by
                  by_cases c : e < n
                  · exact c
                  · rw [inR_out (by omega)] at dd; cases dd
                have eb2 : btZ t n e = (t e : Int) := by unfold btZ; rw [if_pos eL]
                have d := of_decide_eq_true d
                refine g_aload_n 1 dX10_ahead_137 rfl rfl ?_
                refine g_ldc (v := 99999) dX10_ahead_138 ki_X10_229 ?_
                refine zG.top (show (99999 : Int32) = jI 99999 by decide) ?_
                refine g_bipush (v := nI 10) dX10_ahead_140 (by decide) ?_
                refine g_aload_n 1 dX10_ahead_142 rfl rfl ?_
                refine g_geti (f := 332) dX10_ahead_143 fl_X10_226 X.1.1 (by decide) rfl ?_
                rw [show zi (zSi (zSi (zSi y 330 m (nI b)) 332 m (jI (vmN t b (e - b)))) 331 m (nI e)) 332 m = jI (vmN t b (e - b)) from (by rw [zi_Si, if_neg (by omega), zi_Si, if_pos ⟨rfl, rfl⟩])]
                refine g_imul dX10_ahead_146 ?_
                refine zG.top (show (nI 10) * (jI (vmN t b (e - b))) = jI (10 * (vmN t b (e - b))) by rw [show nI 10 = jI 10 from (by decide), jI_mul]) ?_
                refine g_aload_n 1 dX10_ahead_147 rfl rfl ?_
                refine g_aload_n 1 dX10_ahead_148 rfl rfl ?_
                refine g_geti (f := 331) dX10_ahead_149 fl_X10_208 X.1.1 (by decide) rfl ?_
                rw [show zi (zSi (zSi (zSi y 330 m (nI b)) 332 m (jI (vmN t b (e - b)))) 331 m (nI e)) 331 m = nI e from (by rw [zi_Si, if_pos ⟨rfl, rfl⟩])]
                refine g_invv (M' := mX10_byteAt) (As := [.int (nI e)]) (rest := [.int (jI (10 * (vmN t b (e - b)))), .int (jI 99999), .ref m]) dX10_ahead_152 ml_X10_211 okX10_byteAt imX10_byteAt seX10_byteAt ⟨(Nat.le_of_ble_eq_true rfl), (Nat.le_of_ble_eq_true rfl)⟩ (ci := 10) rfl rfl X.1.1 rfl rfl (Nat.le_of_ble_eq_true rfl) (c_byteM X2 (by omega)) ?_
                rintro _ q12 ⟨rfl, eq12⟩
                subst q12
                show zG l w mX10_ahead 155 [(1, .int (jI (t b : Int))), (0, .ref m)] [.int (jI (btZ t n e)), .int (jI (10 * (vmN t b (e - b)))), .int (jI 99999), .ref m] (zSi (zSi (zSi y 330 m (nI b)) 332 m (jI (vmN t b (e - b)))) 331 m (nI e)) _
                refine g_iadd dX10_ahead_155 ?_
                refine zG.top (show (jI (10 * (vmN t b (e - b)))) + (jI (btZ t n e)) = jI ((10 * (vmN t b (e - b))) + (btZ t n e)) by rw [jI_add]) ?_
                refine g_bipush (v := nI 48) dX10_ahead_156 (by decide) ?_
                refine g_isub dX10_ahead_158 ?_
                refine zG.top (show (jI ((10 * (vmN t b (e - b))) + (btZ t n e))) - (nI 48) = jI (((10 * (vmN t b (e - b))) + (btZ t n e)) - 48) by rw [show nI 48 = jI 48 from (by decide), jI_sub]) ?_
                have vv : (((10 * (vmN t b (e - b))) + (btZ t n e)) - 48) = 10 * vmN t b (e - b) + (t (b + (e - b)) : Int) - 48 := by rw [eb2, show b + (e - b) = e by omega]
                refine g_invs (M' := mJ9_min_7cf53) (As := [.int (jI 99999), .int (jI (((10 * (vmN t b (e - b))) + (btZ t n e)) - 48))]) (rest := [.ref m]) dX10_ahead_159 ml_X10_230 okJ9_min_7cf53 stJ9_min_7cf53 ⟨(Nat.le_of_ble_eq_true rfl), (Nat.le_of_ble_eq_true rfl)⟩ rfl rfl (Nat.le_of_ble_eq_true rfl) (c_minI (by omega) (by omega)) ?_
                rintro _ q13 ⟨rfl, eq13⟩
                subst q13
                show zG l w mX10_ahead 162 [(1, .int (jI (t b : Int))), (0, .ref m)] [.int (jI (min 99999 ((((10 * (vmN t b (e - b))) + (btZ t n e)) - 48)))), .ref m] (zSi (zSi (zSi y 330 m (nI b)) 332 m (jI (vmN t b (e - b)))) 331 m (nI e)) _
                refine g_puti (f := 332) dX10_ahead_162 fl_X10_226 (Or.inl rfl) X.1.1 rfl ?_
                refine g_aload_n 1 dX10_ahead_165 rfl rfl ?_
                refine g_dup dX10_ahead_166 rfl ?_
                refine g_geti (f := 331) dX10_ahead_167 fl_X10_208 X.1.1 (by decide) rfl ?_
                rw [show zi (zSi (zSi (zSi (zSi y 330 m (nI b)) 332 m (jI (vmN t b (e - b)))) 331 m (nI e)) 332 m (jI (min 99999 ((((10 * (vmN t b (e - b))) + (btZ t n e)) - 48))))) 331 m = nI e from (by rw [zi_Si, if_neg (by omega), zi_Si, if_pos ⟨rfl, rfl⟩])]
                refine g_iconst (v := nI 1) dX10_ahead_170 (by decide) ?_
                refine g_iadd dX10_ahead_171 ?_
                rw [nI_add e 1]
                refine g_puti (f := 331) dX10_ahead_172 fl_X10_208 (Or.inl rfl) X.1.1 rfl ?_
                refine g_goto (tgt := 123) dX10_ahead_175 (by decide) ?_
                rw [zSi_fg (by omega)]
                rw [show min 99999 ((((10 * (vmN t b (e - b))) + (btZ t n e)) - 48)) = vmN t b (e + 1 - b) by rw [vv, show e + 1 - b = (e - b) + 1 by omega, vmN]]
                exact zG.sub [0, 1] rfl (ih (e + 1) (by omega) (by omega) (by omega) (by rw [← rnN_t dd]; exact er))
          refine g_aload_n 1 dX10_ahead_118 rfl rfl ?_
          refine g_iconst (v := nI 0) dX10_ahead_119 (by decide) ?_
          refine g_puti (f := 332) dX10_ahead_120 fl_X10_226 (Or.inl rfl) X.1.1 rfl ?_
          have e0 := loop (n - b) b (Nat.le_refl _) (Nat.le_refl _) (by omega) rfl
          rw [Nat.sub_self, show vmN t b 0 = 0 from rfl, zSi_id (v := nI b) (by rw [zi_Si, if_neg (by omega), zi_Si, if_neg (by omega)]; exact E)] at e0
          exact e0
      · have c1 := of_decide_eq_true c1
        have ew : toB t n b = (1, b, rnN t n 97 122 b, 0) := by unfold toB; rw [if_neg (by omega), if_pos (by omega)]
        rw [ew]
        have loop : ∀ k e : Nat, n - e ≤ k → b ≤ e → e ≤ n → rnN t n 97 122 e = rnN t n 97 122 b → zG l w mX10_ahead 76 [(1, .int (jI (t b : Int))), (0, .ref m)] [] (zSi (zSi y 330 m (nI b)) 331 m (nI e)) (fun u h1 => u = none ∧ TkM h1 m (1, b, rnN t n 97 122 b, 0) ∧ FrF m 329 332 h h1) := by
          intro k
          induction k with
          | zero =>
            intro e hk be en er
            have X2 := X.frF (((FrF.rf (o := m) (lo := 329) (hi := 332)).si (f := 330) (v := nI b) (by omega)).si (f := 331) (v := nI e) (by omega)) (by omega)
            have tb2 := btZ_bd (k := e) X
            refine g_aload_n 1 dX10_ahead_76 rfl rfl ?_
            refine g_aload_n 1 dX10_ahead_77 rfl rfl ?_
            refine g_geti (f := 331) dX10_ahead_78 fl_X10_208 X.1.1 (by decide) rfl ?_
            rw [show zi (zSi (zSi y 330 m (nI b)) 331 m (nI e)) 331 m = nI e from (by rw [zi_Si, if_pos ⟨rfl, rfl⟩])]
            refine g_invv (M' := mX10_byteAt) (As := [.int (nI e)]) (rest := []) dX10_ahead_81 ml_X10_211 okX10_byteAt imX10_byteAt seX10_byteAt ⟨(Nat.le_of_ble_eq_true rfl), (Nat.le_of_ble_eq_true rfl)⟩ (ci := 10) rfl rfl X.1.1 rfl rfl (Nat.le_of_ble_eq_true rfl) (c_byteM X2 (by omega)) ?_
            rintro _ q3 ⟨rfl, eq3⟩
            subst q3
            show zG l w mX10_ahead 84 [(1, .int (jI (t b : Int))), (0, .ref m)] [.int (jI (btZ t n e))] (zSi (zSi y 330 m (nI b)) 331 m (nI e)) _
            refine g_invs (M' := mX10_isSmall) (As := [.int (jI (btZ t n e))]) (rest := []) dX10_ahead_84 ml_X10_220 okX10_isSmall stX10_isSmall ⟨(Nat.le_of_ble_eq_true rfl), (Nat.le_of_ble_eq_true rfl)⟩ rfl rfl (Nat.le_of_ble_eq_true rfl) (c_isSmall (by omega)) ?_
            rintro _ q4 ⟨rfl, eq4⟩
            subst q4
            show zG l w mX10_ahead 87 [(1, .int (jI (t b : Int))), (0, .ref m)] [.int (bI (decide (97 ≤ btZ t n e ∧ btZ t n e ≤ 122)))] (zSi (zSi y 330 m (nI b)) 331 m (nI e)) _
            refine g_bif_eq (tgt := 103) dX10_ahead_87 (by decide) (fun d => ?_) (fun d => ?_)
            · refine g_aload_n 1 dX10_ahead_103 rfl rfl ?_
              refine g_iconst (v := nI 2) dX10_ahead_104 (by decide) ?_
              refine g_puti (f := 329) dX10_ahead_105 fl_X10_217 (Or.inl rfl) X.1.1 rfl ?_
              refine g_goto (tgt := 228) dX10_ahead_108 (by decide) ?_
              refine g_return dX10_ahead_228 rfl ?_
              have dd : inR t n 97 122 e = false := by rw [in_btZ]; exact d
              rw [rnN_f dd] at er
              refine ⟨rfl, ⟨zi_same, by rw [zi_Si, if_neg (by omega), zi_Si, if_neg (by omega), zi_same], by rw [zi_Si, if_neg (by omega), zi_same, er], fun q => absurd (show (1 : Nat) = 2 from q) (by omega)⟩, (((F.si (by omega)).si (by omega)).si (by omega))⟩
            · have dd : inR t n 97 122 e = true := by rw [in_btZ]; exact d
              have eL : e < n := by
                by_cases c : e < n
                · exact c
                · rw [inR_out (by omega)] at dd; cases dd
              omega
          | succ k ih =>
            intro e hk be en er
            have X2 := X.frF (((FrF.rf (o := m) (lo := 329) (hi := 332)).si (f := 330) (v := nI b) (by omega)).si (f := 331) (v := nI e) (by omega)) (by omega)
            have tb2 := btZ_bd (k := e) X
            refine g_aload_n 1 dX10_ahead_76 rfl rfl ?_
            refine g_aload_n 1 dX10_ahead_77 rfl rfl ?_
            refine g_geti (f := 331) dX10_ahead_78 fl_X10_208 X.1.1 (by decide) rfl ?_
            rw [show zi (zSi (zSi y 330 m (nI b)) 331 m (nI e)) 331 m = nI e from (by rw [zi_Si, if_pos ⟨rfl, rfl⟩])]
            refine g_invv (M' := mX10_byteAt) (As := [.int (nI e)]) (rest := []) dX10_ahead_81 ml_X10_211 okX10_byteAt imX10_byteAt seX10_byteAt ⟨(Nat.le_of_ble_eq_true rfl), (Nat.le_of_ble_eq_true rfl)⟩ (ci := 10) rfl rfl X.1.1 rfl rfl (Nat.le_of_ble_eq_true rfl) (c_byteM X2 (by omega)) ?_
            rintro _ q5 ⟨rfl, eq5⟩
            subst q5
            show zG l w mX10_ahead 84 [(1, .int (jI (t b : Int))), (0, .ref m)] [.int (jI (btZ t n e))] (zSi (zSi y 330 m (nI b)) 331 m (nI e)) _
            refine g_invs (M' := mX10_isSmall) (As := [.int (jI (btZ t n e))]) (rest := []) dX10_ahead_84 ml_X10_220 okX10_isSmall stX10_isSmall ⟨(Nat.le_of_ble_eq_true rfl), (Nat.le_of_ble_eq_true rfl)⟩ rfl rfl (Nat.le_of_ble_eq_true rfl) (c_isSmall (by omega)) ?_
            rintro _ q6 ⟨rfl, eq6⟩
            subst q6
            show zG l w mX10_ahead 87 [(1, .int (jI (t b : Int))), (0, .ref m)] [.int (bI (decide (97 ≤ btZ t n e ∧ btZ t n e ≤ 122)))] (zSi (zSi y 330 m (nI b)) 331 m (nI e)) _
            refine g_bif_eq (tgt := 103) dX10_ahead_87 (by decide) (fun d => ?_) (fun d => ?_)
            · refine g_aload_n 1 dX10_ahead_103 rfl rfl ?_
              refine g_iconst (v := nI 2) dX10_ahead_104 (by decide) ?_
              refine g_puti (f := 329) dX10_ahead_105 fl_X10_217 (Or.inl rfl) X.1.1 rfl ?_
              refine g_goto (tgt := 228) dX10_ahead_108 (by decide) ?_
              refine g_return dX10_ahead_228 rfl ?_
              have dd : inR t n 97 122 e = false := by rw [in_btZ]; exact d
              rw [rnN_f dd] at er
              refine ⟨rfl, ⟨zi_same, by rw [zi_Si, if_neg (by omega), zi_Si, if_neg (by omega), zi_same], by rw [zi_Si, if_neg (by omega), zi_same, er], fun q => absurd (show (1 : Nat) = 2 from q) (by omega)⟩, (((F.si (by omega)).si (by omega)).si (by omega))⟩
            · have dd : inR t n 97 122 e = true := by rw [in_btZ]; exact d
              have eL : e < n := by
                by_cases c : e < n
                · exact c
                · rw [inR_out (by omega)] at dd; cases dd
              refine g_aload_n 1 dX10_ahead_90 rfl rfl ?_
              refine g_dup dX10_ahead_91 rfl ?_
              refine g_geti (f := 331) dX10_ahead_92 fl_X10_208 X.1.1 (by decide) rfl ?_
              rw [show zi (zSi (zSi y 330 m (nI b)) 331 m (nI e)) 331 m = nI e from (by rw [zi_Si, if_pos ⟨rfl, rfl⟩])]
              refine g_iconst (v := nI 1) dX10_ahead_95 (by decide) ?_
              refine g_iadd dX10_ahead_96 ?_
              rw [nI_add e 1]
              refine g_puti (f := 331) dX10_ahead_97 fl_X10_208 (Or.inl rfl) X.1.1 rfl ?_
              refine g_goto (tgt := 76) dX10_ahead_100 (by decide) ?_
              rw [zSi_ss]
              exact zG.sub [0, 1] rfl (ih (e + 1) (by omega) (by omega) (by omega) (by rw [← rnN_t dd]; exact er))
        have e0 := loop (n - b) b (Nat.le_refl _) (Nat.le_refl _) (by omega) rfl
        rw [zSi_id (by rw [zi_Si, if_neg (by omega)]; exact E)] at e0
        exact e0
    · refine g_aload_n 1 dX10_ahead_61 rfl rfl ?_
      refine g_iconst (v := nI 0) dX10_ahead_62 (by decide) ?_
      refine g_puti (f := 329) dX10_ahead_63 fl_X10_217 (Or.inl rfl) X.1.1 rfl ?_
      refine g_goto (tgt := 228) dX10_ahead_66 (by decide) ?_
      refine g_return dX10_ahead_228 rfl ?_
      have hb : n ≤ b := by
        by_cases c : b < n
        · unfold btZ at c0; rw [if_pos c] at c0; omega
        · omega
      refine ⟨rfl, ?_, ((F.si (by omega)).si (by omega))⟩
      unfold toB
      rw [if_pos hb]
      exact ⟨zi_same, by rw [zi_Si, if_neg (by omega), zi_same], by rw [zi_Si, if_neg (by omega), zi_Si, if_neg (by omega)]; exact E, fun q => absurd (show (0 : Nat) = 2 from q) (by omega)⟩
  have loop : ∀ k e : Nat, n - e ≤ k → e ≤ n → skN t n e = skN t n e0 → zG l w mX10_ahead 0 [(0, .ref m)] [] (zSi h 331 m (nI e)) (fun u h1 => u = none ∧ TkM h1 m (tokN t n e0) ∧ FrF m 329 332 h h1) := by
    intro k
    induction k with
    | zero =>
      intro e hk en er
      have X2 := x.frF ((FrF.rf (o := m) (lo := 329) (hi := 332)).si (f := 331) (v := nI e) (by omega)) (by omega)
      have tb2 := btZ_bd (k := e) x
      refine g_aload_n 0 dX10_ahead_0 rfl rfl ?_
      refine g_aload_n 0 dX10_ahead_1 rfl rfl ?_
      refine g_geti (f := 331) dX10_ahead_2 fl_X10_208 x.1.1 (by decide) rfl ?_
      rw [show zi (zSi h 331 m (nI e)) 331 m = nI e from (by rw [zi_Si, if_pos ⟨rfl, rfl⟩])]
      refine g_invv (M' := mX10_byteAt) (As := [.int (nI e)]) (rest := []) dX10_ahead_5 ml_X10_211 okX10_byteAt imX10_byteAt seX10_byteAt ⟨(Nat.le_of_ble_eq_true rfl), (Nat.le_of_ble_eq_true rfl)⟩ (ci := 10) rfl rfl x.1.1 rfl rfl (Nat.le_of_ble_eq_true rfl) (c_byteM X2 (by omega)) ?_
      rintro _ q1 ⟨rfl, eq1⟩
      subst q1
      show zG l w mX10_ahead 8 [(0, .ref m)] [.int (jI (btZ t n e))] (zSi h 331 m (nI e)) _
      refine g_bipush (v := nI 32) dX10_ahead_8 (by decide) ?_
      refine g_zcmp_eq (a := (btZ t n e)) (b := 32) (tgt := 26) rfl (by decide) dX10_ahead_10 (by decide) (by omega) (by omega) (fun d1 => ?_) (fun d1 => ?_)
      · have dd : spB t n e = true := by rw [sp_btZ]; exact decide_eq_true (by omega)
        have eL : e < n := by
          by_cases c : e < n
          · exact c
          · rw [spB_out (by omega)] at dd; cases dd
        omega
      · refine g_aload_n 0 dX10_ahead_13 rfl rfl ?_
        refine g_aload_n 0 dX10_ahead_14 rfl rfl ?_
        refine g_geti (f := 331) dX10_ahead_15 fl_X10_208 x.1.1 (by decide) rfl ?_
        rw [show zi (zSi h 331 m (nI e)) 331 m = nI e from (by rw [zi_Si, if_pos ⟨rfl, rfl⟩])]
        refine g_invv (M' := mX10_byteAt) (As := [.int (nI e)]) (rest := []) dX10_ahead_18 ml_X10_211 okX10_byteAt imX10_byteAt seX10_byteAt ⟨(Nat.le_of_ble_eq_true rfl), (Nat.le_of_ble_eq_true rfl)⟩ (ci := 10) rfl rfl x.1.1 rfl rfl (Nat.le_of_ble_eq_true rfl) (c_byteM X2 (by omega)) ?_
        rintro _ q2 ⟨rfl, eq2⟩
        subst q2
        show zG l w mX10_ahead 21 [(0, .ref m)] [.int (jI (btZ t n e))] (zSi h 331 m (nI e)) _
        refine g_bipush (v := nI 10) dX10_ahead_21 (by decide) ?_
        refine g_zcmp_ne (a := (btZ t n e)) (b := 10) (tgt := 39) rfl (by decide) dX10_ahead_23 (by decide) (by omega) (by omega) (fun d2 => ?_) (fun d2 => ?_)
        · have dd : spB t n e = false := by rw [sp_btZ]; exact decide_eq_false (by omega)
          rw [skN_f dd] at er
          exact after _ (FrF.rf.si (by omega)) X2 (by rw [zi_same, er])
        · have dd : spB t n e = true := by rw [sp_btZ]; exact decide_eq_true (by omega)
          have eL : e < n := by
            by_cases c : e < n
            · exact c
            · rw [spB_out (by omega)] at dd; cases dd
          omega
    | succ k ih =>
      intro e hk en er
      have X2 := x.frF ((FrF.rf (o := m) (lo := 329) (hi := 332)).si (f := 331) (v := nI e) (by omega)) (by omega)
      have tb2 := btZ_bd (k := e) x
      refine g_aload_n 0 dX10_ahead_0 rfl rfl ?_
      refine g_aload_n 0 dX10_ahead_1 rfl rfl ?_
      refine g_geti (f := 331) dX10_ahead_2 fl_X10_208 x.1.1 (by decide) rfl ?_
      rw [show zi (zSi h 331 m (nI e)) 331 m = nI e from (by rw [zi_Si, if_pos ⟨rfl, rfl⟩])]
      refine g_invv (M' := mX10_byteAt) (As := [.int (nI e)]) (rest := []) dX10_ahead_5 ml_X10_211 okX10_byteAt imX10_byteAt seX10_byteAt ⟨(Nat.le_of_ble_eq_true rfl), (Nat.le_of_ble_eq_true rfl)⟩ (ci := 10) rfl rfl x.1.1 rfl rfl (Nat.le_of_ble_eq_true rfl) (c_byteM X2 (by omega)) ?_
      rintro _ q3 ⟨rfl, eq3⟩
      subst q3
      show zG l w mX10_ahead 8 [(0, .ref m)] [.int (jI (btZ t n e))] (zSi h 331 m (nI e)) _
      refine g_bipush (v := nI 32) dX10_ahead_8 (by decide) ?_
      refine g_zcmp_eq (a := (btZ t n e)) (b := 32) (tgt := 26) rfl (by decide) dX10_ahead_10 (by decide) (by omega) (by omega) (fun d1 => ?_) (fun d1 => ?_)
      · have dd : spB t n e = true := by rw [sp_btZ]; exact decide_eq_true (by omega)
        have eL : e < n := by
          by_cases c : e < n
          · exact c
          · rw [spB_out (by omega)] at dd; cases dd
        refine g_aload_n 0 dX10_ahead_26 rfl rfl ?_
        refine g_dup dX10_ahead_27 rfl ?_
        refine g_geti (f := 331) dX10_ahead_28 fl_X10_208 x.1.1 (by decide) rfl ?_
        rw [show zi (zSi h 331 m (nI e)) 331 m = nI e from (by rw [zi_Si, if_pos ⟨rfl, rfl⟩])]
        refine g_iconst (v := nI 1) dX10_ahead_31 (by decide) ?_
        refine g_iadd dX10_ahead_32 ?_
        rw [nI_add e 1]
        refine g_puti (f := 331) dX10_ahead_33 fl_X10_208 (Or.inl rfl) x.1.1 rfl ?_
        refine g_goto (tgt := 0) dX10_ahead_36 (by decide) ?_
        rw [zSi_ss]
        exact ih (e + 1) (by omega) (by omega) (by rw [← skN_t dd]; exact er)
      · refine g_aload_n 0 dX10_ahead_13 rfl rfl ?_
        refine g_aload_n 0 dX10_ahead_14 rfl rfl ?_
        refine g_geti (f := 331) dX10_ahead_15 fl_X10_208 x.1.1 (by decide) rfl ?_
        rw [show zi (zSi h 331 m (nI e)) 331 m = nI e from (by rw [zi_Si, if_pos ⟨rfl, rfl⟩])]
        refine g_invv (M' := mX10_byteAt) (As := [.int (nI e)]) (rest := []) dX10_ahead_18 ml_X10_211 okX10_byteAt imX10_byteAt seX10_byteAt ⟨(Nat.le_of_ble_eq_true rfl), (Nat.le_of_ble_eq_true rfl)⟩ (ci := 10) rfl rfl x.1.1 rfl rfl (Nat.le_of_ble_eq_true rfl) (c_byteM X2 (by omega)) ?_
        rintro _ q4 ⟨rfl, eq4⟩
        subst q4
        show zG l w mX10_ahead 21 [(0, .ref m)] [.int (jI (btZ t n e))] (zSi h 331 m (nI e)) _
        refine g_bipush (v := nI 10) dX10_ahead_21 (by decide) ?_
        refine g_zcmp_ne (a := (btZ t n e)) (b := 10) (tgt := 39) rfl (by decide) dX10_ahead_23 (by decide) (by omega) (by omega) (fun d2 => ?_) (fun d2 => ?_)
        · have dd : spB t n e = false := by rw [sp_btZ]; exact decide_eq_false (by omega)
          rw [skN_f dd] at er
          exact after _ (FrF.rf.si (by omega)) X2 (by rw [zi_same, er])
        · have dd : spB t n e = true := by rw [sp_btZ]; exact decide_eq_true (by omega)
          have eL : e < n := by
            by_cases c : e < n
            · exact c
            · rw [spB_out (by omega)] at dd; cases dd
          refine g_aload_n 0 dX10_ahead_26 rfl rfl ?_
          refine g_dup dX10_ahead_27 rfl ?_
          refine g_geti (f := 331) dX10_ahead_28 fl_X10_208 x.1.1 (by decide) rfl ?_
          rw [show zi (zSi h 331 m (nI e)) 331 m = nI e from (by rw [zi_Si, if_pos ⟨rfl, rfl⟩])]
          refine g_iconst (v := nI 1) dX10_ahead_31 (by decide) ?_
          refine g_iadd dX10_ahead_32 ?_
          rw [nI_add e 1]
          refine g_puti (f := 331) dX10_ahead_33 fl_X10_208 (Or.inl rfl) x.1.1 rfl ?_
          refine g_goto (tgt := 0) dX10_ahead_36 (by decide) ?_
          rw [zSi_ss]
          exact ih (e + 1) (by omega) (by omega) (by rw [← skN_t dd]; exact er)
  have e1 := loop (n - e0) e0 (Nat.le_refl _) e6 rfl
  rw [zSi_id he] at e1
  exact e1
end TKM
