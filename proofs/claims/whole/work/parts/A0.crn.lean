section CRN
variable {l : Launch} {w : zW} {h y z : zH} {b r p n : Nat} {t : Nat → Nat} {T T' : tkT} {lt ls : Nat → List Nat} {N N' M : nT} {S : Nat → Prop} {q : Int}
theorem CSt.fa (F : FrA S h y) (hS : ∀ a, S a → b ≤ a ∧ a < b + 65) (e7 : zi y 167 b = zi h 167 b) : CSt b ls h ls y := by
  refine ⟨⟨⟨by rw [F.1.1]; exact Nat.le_refl _, by rw [F.1.1, F.1.2], mdB.eq F.1.1 e7⟩, fun a _ => F.2.1 a, fun a _ ho _ => ?_⟩, fun _ _ => rfl⟩
  have n : ¬ S a := fun q => by have := hS a q; omega
  exact ⟨fun f => ⟨((F.2.2.2.2 a n).1 f).1, ((F.2.2.2.2 a n).1 f).2, F.2.2.1 f a⟩, fun i => ⟨((F.2.2.2.2 a n).2 i).1, ((F.2.2.2.2 a n).2 i).2, F.2.2.2.1 a i⟩⟩
theorem c_evClear {o : Nat} (hk : zk h o = 1) : zM l w mX1_clear [.ref o] h (fun u h1 => u = none ∧ h1 = zSi (zSi h 36 o (nI 0)) 37 o (nI 0)) := by
  refine zM.of (by decide) (Nat.le_of_ble_eq_true rfl) ?_
  refine g_aload_n 0 dX1_clear_0 rfl rfl ?_
  refine g_iconst (v := nI 0) dX1_clear_1 (by decide) ?_
  refine g_puti (f := 36) dX1_clear_2 fl_X1_24 (Or.inl rfl) hk rfl ?_
  refine g_aload_n 0 dX1_clear_5 rfl rfl ?_
  refine g_iconst (v := nI 0) dX1_clear_6 (by decide) ?_
  refine g_puti (f := 37) dX1_clear_7 fl_X1_28 (Or.inl rfl) hk rfl ?_
  refine g_return dX1_clear_10 rfl ?_
  exact ⟨rfl, rfl⟩
theorem c_clear (c : CW h b ls) (s : lnS h ls) : zM l w mX5_clear [.ref b] h (fun u h1 => u = none ∧ ∃ lt, TX h1 b lt (zeN q) 0 0 ∧ CSt b ls h lt h1) := by
  refine zM.of (by decide) (Nat.le_of_ble_eq_true rfl) ?_
  refine g_aload_n 0 dX5_clear_0 rfl rfl ?_
  refine g_invv (M' := mX5_spareAllPackets) (As := []) (rest := []) dX5_clear_1 ml_X5_46 okX5_spareAllPackets imX5_spareAllPackets seX5_spareAllPackets ⟨(Nat.le_of_ble_eq_true rfl), (Nat.le_of_ble_eq_true rfl)⟩ (ci := 5) rfl rfl c.1.1.2 rfl rfl (Nat.le_of_ble_eq_true rfl) (c_spareAll s c.1 c.2.1 c.2.2.2) ?_
  rintro _ y ⟨rfl, lt, Y, em⟩
  show zG l w mX5_clear 4 [(0, .ref b)] [] y _
  obtain ⟨s1, s2, s3, s4, s5, s6⟩ := Y
  have C := c.1.ln s2
  refine g_aload_n 0 dX5_clear_4 rfl rfl ?_
  refine g_iconst (v := nI 0) dX5_clear_5 (by decide) ?_
  refine g_puti (f := 161) dX5_clear_6 fl_X5_49 (Or.inl rfl) C.1.2 rfl ?_
  refine g_aload_n 0 dX5_clear_9 rfl rfl ?_
  refine g_iconst (v := nI 0) dX5_clear_10 (by decide) ?_
  refine g_puti (f := 163) dX5_clear_11 fl_X5_53 (Or.inl rfl) C.1.2 rfl ?_
  refine g_aload_n 0 dX5_clear_14 rfl rfl ?_
  refine g_iconst (v := nI 0) dX5_clear_15 (by decide) ?_
  refine g_puti (f := 164) dX5_clear_16 fl_X5_56 (Or.inl rfl) C.1.2 rfl ?_
  refine g_aload_n 0 dX5_clear_19 rfl rfl ?_
  refine g_getr (f := 168) (b := b + 5) dX5_clear_20 fl_X5_36 C.1.2 rfl C.2.2.2.2.2.1.1 ?_
  refine g_invv (M' := mX1_clear) (As := []) (rest := []) dX5_clear_23 ml_X5_59 okX1_clear imX1_clear seX1_clear ⟨(Nat.le_of_ble_eq_true rfl), (Nat.le_of_ble_eq_true rfl)⟩ (ci := 1) rfl rfl C.2.2.2.2.2.1.2 rfl rfl (Nat.le_of_ble_eq_true rfl) (c_evClear C.2.2.2.2.2.1.2) ?_
  rintro _ q2 ⟨rfl, eq2⟩
  subst q2
  show zG l w mX5_clear 26 [(0, .ref b)] [] (zSi (zSi (zSi (zSi (zSi y 161 b (nI 0)) 163 b (nI 0)) 164 b (nI 0)) 36 (b + 5) (nI 0)) 37 (b + 5) (nI 0)) _
  refine g_aload_n 0 dX5_clear_26 rfl rfl ?_
  refine g_iconst (v := nI 0) dX5_clear_27 (by decide) ?_
  refine g_puti (f := 170) dX5_clear_28 fl_X5_62 (Or.inl rfl) C.1.2 rfl ?_
  refine g_aload_n 0 dX5_clear_31 rfl rfl ?_
  refine g_iconst (v := nI 0) dX5_clear_32 (by decide) ?_
  refine g_putz (f := 171) dX5_clear_33 fl_X5_65 (Or.inl rfl) C.1.2 rfl (by decide) ?_
  refine g_return dX5_clear_36 rfl ?_
  have F : FrA (fun a => a = b ∨ a = b + 5) y (zSi (zSi (zSi (zSi (zSi (zSi (zSi y 161 b (nI 0)) 163 b (nI 0)) 164 b (nI 0)) 36 (b + 5) (nI 0)) 37 (b + 5) (nI 0)) 170 b (nI 0)) 171 b (nI 0)) := (((((((FrA.rf.si (Or.inl rfl)).si (Or.inl rfl)).si (Or.inl rfl)).si (Or.inr rfl)).si (Or.inr rfl)).si (Or.inl rfl)).si (Or.inl rfl))
  have z0 : ∀ k, k ≠ 3 → nA (zeN q) k = 0 := fun k hk => zeN_0 hk
  have e7 : zi (zSi (zSi (zSi (zSi (zSi (zSi (zSi y 161 b (nI 0)) 163 b (nI 0)) 164 b (nI 0)) 36 (b + 5) (nI 0)) 37 (b + 5) (nI 0)) 170 b (nI 0)) 171 b (nI 0)) 167 b = zi y 167 b := by rw [zi_Si, if_neg (by omega), zi_Si, if_neg (by omega), zi_Si, if_neg (by omega), zi_Si, if_neg (by omega), zi_Si, if_neg (by omega), zi_Si, if_neg (by omega), zi_Si, if_neg (by omega)]
  have y7 : zi y 167 b = nI (totL lt b) := by rw [s2.2.2.2.2.1 167 b (by omega), s5]; exact c.2.2.1
  have l0 : nLk (zeN q) = 0 := by unfold nLk; rw [z0 0 (by omega)]; rfl
  have f0 : nFw (zeN q) = 0 := by unfold nFw; rw [z0 1 (by omega)]; rfl
  have ky : ∀ a, a = b ∨ a = b + 5 → zk y a ≠ 3 ∧ zk y a ≠ 6 := fun a ha => by
    rcases ha with e | e
    · rw [e, C.1.2]; omega
    · rw [e, C.2.2.2.2.2.1.2]; omega
  refine ⟨rfl, lt, ⟨C.fa F, s1.fa F (fun a ka d => by have := ky a d; omega), ⟨by rw [l0]; exact (by rw [zi_Si, if_neg (by omega), zi_Si, if_neg (by omega), zi_Si, if_neg (by omega), zi_Si, if_neg (by omega), zi_Si, if_neg (by omega), zi_Si, if_neg (by omega), zi_Si, if_pos ⟨rfl, rfl⟩]), by rw [f0]; exact (by rw [zi_Si, if_neg (by omega), zi_Si, if_neg (by omega), zi_Si, if_neg (by omega), zi_Si, if_neg (by omega), zi_Si, if_neg (by omega), zi_Si, if_pos ⟨rfl, rfl⟩]), by rw [zi_Si, if_neg (by omega), zi_Si, if_neg (by omega), zi_Si, if_neg (by omega), zi_Si, if_neg (by omega), zi_Si, if_pos ⟨rfl, rfl⟩], by rw [zi_Si, if_neg (by omega), zi_Si, if_pos ⟨rfl, rfl⟩], by rw [zi_Si, if_pos ⟨rfl, rfl⟩]⟩, fun a ha => by rw [z0 0 (by omega)] at ha; omega, fun f hf => by rw [z0 1 (by omega)] at hf; omega, em, ⟨e7.trans y7, by rw [s5]; exact c.2.2.2⟩, by rw [zi_Si, if_neg (by omega), zi_Si, if_neg (by omega), zi_Si, if_neg (by omega), zi_Si, if_pos ⟨rfl, rfl⟩], by rw [zi_Si, if_neg (by omega), zi_Si, if_neg (by omega), zi_Si, if_pos ⟨rfl, rfl⟩]⟩, ?_⟩
  exact (((FrK.ln (b := b) s2 s3).o.st s c.1 (FrK.ln (b := b) s2 s3).1.2.2 s4)).tr (CSt.fa F (fun a d => by omega) e7)
/-- what a text has made of the net -/
def RnR (b r : Nat) (lt : Nat → List Nat) (q : (Int × Int) ⊕ nT) (u : Option Value) (h1 : zH) : Prop := match q with
  | .inl e => u = some (.int (bI false)) ∧ PeC h1 r e ∧ TWt h1 b lt
  | .inr N => u = some (.int (bI true)) ∧ TX h1 b lt N 0 0 ∧ pz N ∧ zi h1 264 r = nI 0 ∧ zi h1 265 r = -1
/-- only o changes -/
def OnO (o : Nat) (h y : zH) : Prop := (zx y = zx h ∧ zt y = zt h) ∧ (∀ a, zk y a = zk h a ∧ zn y a = zn h a) ∧ ∀ a, a ≠ o → SmA h y a
theorem OnO.rf {o : Nat} : OnO o h h := ⟨⟨rfl, rfl⟩, fun _ => ⟨rfl, rfl⟩, fun _ _ => SmA.rf⟩
theorem OnO.si {o f : Nat} {v : Int32} (p : OnO o h y) : OnO o h (zSi y f o v) := ⟨p.1, p.2.1, fun a na => (p.2.2 a na).tr (SmA.si na)⟩
theorem OnO.sr {o f : Nat} {v : Option Nat} (p : OnO o h y) : OnO o h (zSr y f o v) := ⟨p.1, p.2.1, fun a na => (p.2.2 a na).tr ⟨⟨rfl, rfl⟩, fun g => ⟨rfl, rfl, by rw [zr_Sr, if_neg (fun q => na q.2)]⟩, fun _ => ⟨rfl, rfl, rfl⟩⟩⟩
theorem c_readNet (kr : zk h r = 8) (kp : zk h p = 20) (np : zn h p = 600) (n6 : n ≤ 600) (bt : ∀ i, i < n → bY (zI h p i) = t i) (c : CW h b ls) (s : lnS h ls) (rr : r < b ∨ b + 65 ≤ r) (pp : p < b ∨ b + 65 ≤ p) (rx : r < zx h) (px : p < zx h) : zM l w mX8_readNet [.ref r, .ref p, .int (nI n), .ref b] h (fun u h1 => ∃ y1 y2 lt, OnO r h y1 ∧ CSt b ls y1 lt y2 ∧ TX y2 b lt (zeN q) 0 0 ∧ FrA (SB b r) y2 h1 ∧ RnR b r lt (loadR t n q) u h1) := by
  refine zM.of (by decide) (Nat.le_of_ble_eq_true rfl) ?_
  refine g_aload_n 0 dX8_readNet_0 rfl rfl ?_
  refine g_aload_n 1 dX8_readNet_1 rfl rfl ?_
  refine g_putr (f := 256) dX8_readNet_2 fl_X8_9 (Or.inl rfl) kr rfl ?_
  refine g_aload_n 0 dX8_readNet_5 rfl rfl ?_
  refine g_iload_n 2 dX8_readNet_6 rfl rfl ?_
  refine g_aload_n 1 dX8_readNet_7 rfl rfl ?_
  refine g_alen (t := 0) (v := nI 600) dX8_readNet_8 kp rfl (fun _ => rfl) (congrArg Int32.ofNat (show zn (zSr h 256 r (some p)) p = 600 from np)) ?_
  rw [← jI_nat n, ← jI_nat 600]
  refine g_invs (M' := mJ9_min_7cf53) (As := [.int (jI ((n : Nat) : Int)), .int (jI ((600 : Nat) : Int))]) (rest := [.ref r]) dX8_readNet_9 ml_X8_15 okJ9_min_7cf53 stJ9_min_7cf53 ⟨(Nat.le_of_ble_eq_true rfl), (Nat.le_of_ble_eq_true rfl)⟩ rfl rfl (Nat.le_of_ble_eq_true rfl) (c_minI (by omega) (by omega)) ?_
  rintro _ q1 ⟨rfl, eq1⟩
  subst q1
  rw [show min ((n : Nat) : Int) ((600 : Nat) : Int) = ((n : Nat) : Int) by omega, jI_nat]
  show zG l w mX8_readNet 12 [(0, .ref r), (1, .ref p), (2, .int (nI n)), (3, .ref b)] [.int (nI n), .ref r] (zSr h 256 r (some p)) _
  refine g_puti (f := 257) dX8_readNet_12 fl_X8_21 (Or.inl rfl) kr rfl ?_
  refine g_aload_n 0 dX8_readNet_15 rfl rfl ?_
  refine g_aload_n 3 dX8_readNet_16 rfl rfl ?_
  refine g_putr (f := 262) dX8_readNet_17 fl_X8_25 (Or.inl rfl) kr rfl ?_
  refine g_aload_n 0 dX8_readNet_20 rfl rfl ?_
  refine g_iconst (v := nI 0) dX8_readNet_21 (by decide) ?_
  refine g_puti (f := 264) dX8_readNet_22 fl_X8_29 (Or.inl rfl) kr rfl ?_
  refine g_aload_n 0 dX8_readNet_25 rfl rfl ?_
  refine g_iconst (v := (-1)) dX8_readNet_26 (by decide) ?_
  refine g_puti (f := 265) dX8_readNet_27 fl_X8_32 (Or.inl rfl) kr rfl ?_
  refine g_aload_n 0 dX8_readNet_30 rfl rfl ?_
  refine g_iconst (v := nI 0) dX8_readNet_31 (by decide) ?_
  refine g_puti (f := 259) dX8_readNet_32 fl_X8_35 (Or.inl rfl) kr rfl ?_
  have O1 : OnO r h (zSi (zSi (zSi (zSr (zSi (zSr h 256 r (some p)) 257 r (nI n)) 262 r (some b)) 264 r (nI 0)) 265 r (-1)) 259 r (nI 0)) := (((((OnO.rf.sr).si).sr).si).si).si
  have w1 : zr (zSi (zSi (zSi (zSr (zSi (zSr h 256 r (some p)) 257 r (nI n)) 262 r (some b)) 264 r (nI 0)) 265 r (-1)) 259 r (nI 0)) 256 r = some p ∧ zr (zSi (zSi (zSi (zSr (zSi (zSr h 256 r (some p)) 257 r (nI n)) 262 r (some b)) 264 r (nI 0)) 265 r (-1)) 259 r (nI 0)) 262 r = some b ∧ zi (zSi (zSi (zSi (zSr (zSi (zSr h 256 r (some p)) 257 r (nI n)) 262 r (some b)) 264 r (nI 0)) 265 r (-1)) 259 r (nI 0)) 257 r = nI n ∧ zi (zSi (zSi (zSi (zSr (zSi (zSr h 256 r (some p)) 257 r (nI n)) 262 r (some b)) 264 r (nI 0)) 265 r (-1)) 259 r (nI 0)) 264 r = nI 0 ∧ zi (zSi (zSi (zSi (zSr (zSi (zSr h 256 r (some p)) 257 r (nI n)) 262 r (some b)) 264 r (nI 0)) 265 r (-1)) 259 r (nI 0)) 265 r = -1 ∧ zi (zSi (zSi (zSi (zSr (zSi (zSr h 256 r (some p)) 257 r (nI n)) 262 r (some b)) 264 r (nI 0)) 265 r (-1)) 259 r (nI 0)) 259 r = nI 0 := ⟨by rw [zr_Si, zr_Si, zr_Si, zr_Sr, if_neg (by omega), zr_Si, zr_Sr, if_pos ⟨rfl, rfl⟩], by rw [zr_Si, zr_Si, zr_Si, zr_Sr, if_pos ⟨rfl, rfl⟩], by rw [zi_Si, if_neg (by omega), zi_Si, if_neg (by omega), zi_Si, if_neg (by omega), zi_Sr, zi_same], by rw [zi_Si, if_neg (by omega), zi_Si, if_neg (by omega), zi_same], by rw [zi_Si, if_neg (by omega), zi_same], zi_same⟩
  generalize zSi (zSi (zSi (zSr (zSi (zSr h 256 r (some p)) 257 r (nI n)) 262 r (some b)) 264 r (nI 0)) 265 r (-1)) 259 r (nI 0) = y1 at O1 w1 ⊢
  have kr1 : zk y1 r = 8 := by rw [(O1.2.1 r).1]; exact kr
  have s1 : lnS y1 ls := s.tf (by rw [O1.1.1]; exact Nat.le_refl _) (fun L hL => ⟨by rw [← O1.1.1]; exact hL.1, (O1.2.1 L).1.symm.trans hL.2⟩) (fun a _ ka => O1.2.2 a (fun e => by rw [e, kr] at ka; omega))
  have c1 : CW y1 b ls := c.tf (by rw [O1.1.1]; exact Nat.le_refl _) (fun a h1 h2 => O1.2.2 a (by omega)) (fun _ _ => rfl)
  have bt1 : ∀ i, i < n → bY (zI y1 p i) = t i := fun i hi => by rw [((O1.2.2 p (fun e => by rw [e, kr] at kp; omega)).2.2 i).1]; exact bt i hi
  refine g_aload_n 0 dX8_readNet_35 rfl rfl ?_
  refine g_getr (f := 262) (b := b) dX8_readNet_36 fl_X8_25 kr1 rfl w1.2.1 ?_
  refine g_invv (M' := mX5_clear) (As := []) (rest := []) dX8_readNet_39 ml_X8_38 okX5_clear imX5_clear seX5_clear ⟨(Nat.le_of_ble_eq_true rfl), (Nat.le_of_ble_eq_true rfl)⟩ (ci := 5) rfl rfl c1.1.1.2 rfl rfl (Nat.le_of_ble_eq_true rfl) (c_clear (q := q) c1 s1) ?_
  rintro _ y2 ⟨rfl, lt, X2, C2⟩
  show zG l w mX8_readNet 42 [(0, .ref r), (1, .ref p), (2, .int (nI n)), (3, .ref b)] [] y2 _
  have sr : ∀ a, (a < b ∨ b + 65 ≤ a) → a < zx y1 → zk y1 a ≠ 6 → SmA y1 y2 a := fun a ho ha hk => ⟨C2.1.2.1 a ha, C2.1.2.2 a ha ho (Or.inl hk)⟩
  have m2 := sr r rr (by rw [O1.1.1]; exact rx) (by rw [kr1]; omega)
  have kp1 : zk y1 p = 20 := by rw [(O1.2.1 p).1]; exact kp
  have mp := sr p pp (by rw [O1.1.1]; exact px) (by rw [kp1]; omega)
  have x2 : TxC y2 r p n t := ⟨⟨m2.1.1.trans kr1, (m2.2.1 256).2.2.trans w1.1, mp.1.1.trans kp1, by rw [mp.1.2, (O1.2.1 p).2]; exact np⟩, (m2.2.1 257).1.trans w1.2.2.1, n6, fun i hi => by rw [(mp.2.2 i).1]; exact bt1 i hi⟩
  refine g_aload_n 0 dX8_readNet_42 rfl rfl ?_
  refine g_invv (M' := mX8_advance) (As := []) (rest := []) dX8_readNet_43 ml_X8_43 okX8_advance imX8_advance seX8_advance ⟨(Nat.le_of_ble_eq_true rfl), (Nat.le_of_ble_eq_true rfl)⟩ (ci := 8) rfl rfl x2.1.1 rfl rfl (Nat.le_of_ble_eq_true rfl) (c_advance x2 ((m2.2.1 259).1.trans w1.2.2.2.2.2) (Nat.zero_le n)) ?_
  rintro _ y3 ⟨rfl, k3, f3⟩
  show zG l w mX8_readNet 46 [(0, .ref r), (1, .ref p), (2, .int (nI n)), (3, .ref b)] [] y3 _
  have ok0 := tokN_ok (t := t) (n := n) (e := 0) (Nat.zero_le n)
  have R3 : RdC y3 b r p n t lt (zeN q) (tokN t n 0) 0 0 := ⟨X2.fa (FrA.ff f3) (fun a e => by rw [e]; exact Or.inl ⟨rr, by rw [x2.1.1]; omega, by rw [x2.1.1]; omega⟩), x2.frF f3 (by omega), k3, ok0.1, by rw [(f3.2.2.1 _ _).1]; exact (m2.2.1 262).2.2.trans w1.2.1, ⟨by rw [f3.2.2.2.2 _ _ (by omega)]; exact (m2.2.1 264).1.trans w1.2.2.2.1, by rw [f3.2.2.2.2 _ _ (by omega)]; exact (m2.2.1 265).1.trans w1.2.2.2.2.1⟩, rr, pp⟩
  refine zG.mono (Q := fun u h1 => FrA (SB b r) y2 h1 ∧ RnR b r lt (loadR t n q) u h1) ?_ (fun u h1 z => ⟨y1, y2, lt, O1, C2, X2, z.1, z.2⟩)
  have bad : ∀ (e : Int × Int) (s : Nat) (y : zH), s < 100000 → loadR t n q = .inl e → PeC y r e → TWt y b lt → FrA (SB b r) y2 y → zG l w mX8_readNet 52 [(5, .int (nI s)), (4, .int (bI false)), (0, .ref r), (1, .ref p), (2, .int (nI n)), (3, .ref b)] [] y (fun u h1 => FrA (SB b r) y2 h1 ∧ RnR b r lt (loadR t n q) u h1) := by
    intro e s y hs er Ey W Fy
    refine g_iload 0 dX8_readNet_52 rfl ?_
    refine g_sipush (v := nI 600) dX8_readNet_54 (by decide) ?_
    refine g_ncmp_gt (tgt := 121) dX8_readNet_57 (by decide) (by omega) (by omega) (fun d0 => ?_) (fun d0 => ?_)
    · refine g_iload 1 dX8_readNet_121 rfl ?_
      refine g_zreturn dX8_readNet_123 rfl (bI_nar _) ?_
      exact ⟨Fy, by rw [er]; exact ⟨rfl, Ey, W⟩⟩
    · refine g_iload 1 dX8_readNet_60 rfl ?_
      refine g_bif_eq (tgt := 121) dX8_readNet_62 (by decide) (fun dx => ?_) (fun dx => ?_)
      · refine g_iload 1 dX8_readNet_121 rfl ?_
        refine g_zreturn dX8_readNet_123 rfl (bI_nar _) ?_
        exact ⟨Fy, by rw [er]; exact ⟨rfl, Ey, W⟩⟩
      · cases dx
  have lines : ∀ (k s : Nat) (T : tkT) (N : nT) (y : zH), s + k = 601 → readR t n k T N = loadR t n q → RdC y b r p n t lt N T 0 0 → pz N → FrA (SB b r) y2 y → zG l w mX8_readNet 52 [(5, .int (nI s)), (4, .int (bI true)), (0, .ref r), (1, .ref p), (2, .int (nI n)), (3, .ref b)] [] y (fun u h1 => FrA (SB b r) y2 h1 ∧ RnR b r lt (loadR t n q) u h1) := by
    intro k
    induction k with
    | zero =>
      intro s T N y hs er Ry hz Fy
      have kb := key_bd (t := t) (T := T)
      have o1 := Ry.2.2.2.1.1
      have fz := Ry.2.2.2.2.2.1
      refine g_iload 0 dX8_readNet_52 rfl ?_
      refine g_sipush (v := nI 600) dX8_readNet_54 (by decide) ?_
      refine g_ncmp_gt (tgt := 121) dX8_readNet_57 (by decide) (by omega) (by omega) (fun d0 => ?_) (fun d0 => ?_)
      · refine g_iload 1 dX8_readNet_121 rfl ?_
        refine g_zreturn dX8_readNet_123 rfl (bI_nar _) ?_
        exact ⟨Fy, by rw [← er, show readR t n 0 T N = .inr N from rfl]; exact ⟨rfl, Ry.1, hz, fz.1, fz.2⟩⟩
      · exact absurd d0 (by omega)
    | succ k ih =>
      intro s T N y hs er Ry hz Fy
      have kb := key_bd (t := t) (T := T)
      have o1 := Ry.2.2.2.1.1
      have fz := Ry.2.2.2.2.2.1
      refine g_iload 0 dX8_readNet_52 rfl ?_
      refine g_sipush (v := nI 600) dX8_readNet_54 (by decide) ?_
      refine g_ncmp_gt (tgt := 121) dX8_readNet_57 (by decide) (by omega) (by omega) (fun d0 => ?_) (fun d0 => ?_)
      · exact absurd d0 (by omega)
      · refine g_iload 1 dX8_readNet_60 rfl ?_
        refine g_bif_eq (tgt := 121) dX8_readNet_62 (by decide) (fun dx => ?_) (fun dx => ?_)
        · cases dx
        · refine g_aload_n 2 dX8_readNet_65 rfl rfl ?_
          refine g_geti (f := 260) dX8_readNet_66 fl_X8_46 Ry.2.1.1.1 (by decide) rfl ?_
          rw [show zi y 260 r = nI T.1 from Ry.2.2.1.1]
          refine g_zif_eq (a := ((T.1 : Nat) : Int)) (tgt := 121) (jI_nat T.1).symm dX8_readNet_69 (by decide) (by omega) (fun d1 => ?_) (fun d1 => ?_)
          · refine g_iload 1 dX8_readNet_121 rfl ?_
            refine g_zreturn dX8_readNet_123 rfl (bI_nar _) ?_
            exact ⟨Fy, by rw [← er, readR_0 (show T.1 = 0 by omega)]; exact ⟨rfl, Ry.1, hz, fz.1, fz.2⟩⟩
          · have t0 : ¬ T.1 = 0 := by omega
            refine g_aload_n 2 dX8_readNet_72 rfl rfl ?_
            refine g_ldcS (i := 0) dX8_readNet_73 rfl ?_
            refine g_invv (M' := mX8_isWord) (As := [.ref (w.2.2.2.1 0)]) (rest := []) dX8_readNet_75 ml_X8_51 okX8_isWord imX8_isWord seX8_isWord ⟨(Nat.le_of_ble_eq_true rfl), (Nat.le_of_ble_eq_true rfl)⟩ (ci := 8) rfl rfl Ry.2.1.1.1 rfl rfl (Nat.le_of_ble_eq_true rfl) (c_isWord Ry.2.1 Ry.2.2.1 Ry.2.2.2.1 (by omega)) ?_
            rintro _ q1 ⟨rfl, eq1⟩
            subst q1
            rw [key_wd (by omega)]
            show zG l w mX8_readNet 78 [(5, .int (nI s)), (4, .int (bI true)), (0, .ref r), (1, .ref p), (2, .int (nI n)), (3, .ref b)] [.int (bI (decide (keyN t T = ((0 : Nat) : Int))))] y _
            refine g_bif_eq (tgt := 90) dX8_readNet_78 (by decide) (fun c0 => ?_) (fun c0 => ?_)
            · have c0 : ¬ keyN t T = 0 := of_decide_eq_false c0
              refine g_aload_n 2 dX8_readNet_90 rfl rfl ?_
              refine g_ldcS (i := 1) dX8_readNet_91 rfl ?_
              refine g_invv (M' := mX8_isWord) (As := [.ref (w.2.2.2.1 1)]) (rest := []) dX8_readNet_93 ml_X8_51 okX8_isWord imX8_isWord seX8_isWord ⟨(Nat.le_of_ble_eq_true rfl), (Nat.le_of_ble_eq_true rfl)⟩ (ci := 8) rfl rfl Ry.2.1.1.1 rfl rfl (Nat.le_of_ble_eq_true rfl) (c_isWord Ry.2.1 Ry.2.2.1 Ry.2.2.2.1 (by omega)) ?_
              rintro _ q2 ⟨rfl, eq2⟩
              subst q2
              rw [key_wd (by omega)]
              show zG l w mX8_readNet 96 [(5, .int (nI s)), (4, .int (bI true)), (0, .ref r), (1, .ref p), (2, .int (nI n)), (3, .ref b)] [.int (bI (decide (keyN t T = ((1 : Nat) : Int))))] y _
              refine g_bif_eq (tgt := 108) dX8_readNet_96 (by decide) (fun c1 => ?_) (fun c1 => ?_)
              · have c1 : ¬ keyN t T = 1 := of_decide_eq_false c1
                refine g_aload_n 2 dX8_readNet_108 rfl rfl ?_
                refine g_iconst (v := nI 2) dX8_readNet_109 (by decide) ?_
                refine g_invv (M' := mX8_stopWith) (As := [.int (nI 2)]) (rest := []) dX8_readNet_110 ml_X8_64 okX8_stopWith imX8_stopWith seX8_stopWith ⟨(Nat.le_of_ble_eq_true rfl), (Nat.le_of_ble_eq_true rfl)⟩ (ci := 8) rfl rfl Ry.2.1.1.1 rfl rfl (Nat.le_of_ble_eq_true rfl) (c_stopW Ry.2.1.1.1 Ry.2.2.1 Ry.2.2.2.1) ?_
                rintro _ y3 ⟨rfl, fa3, fb3, f3⟩
                show zG l w mX8_readNet 113 [(5, .int (nI s)), (4, .int (bI true)), (0, .ref r), (1, .ref p), (2, .int (nI n)), (3, .ref b)] [.int (bI false)] y3 _
                refine g_istore (lv2 := [(4, .int (bI false)), (5, .int (nI s)), (0, .ref r), (1, .ref p), (2, .int (nI n)), (3, .ref b)]) dX8_readNet_113 (by decide) rfl ?_
                refine g_inc (v := nI (s + 1)) (lv2 := [(5, .int (nI (s + 1))), (4, .int (bI false)), (0, .ref r), (1, .ref p), (2, .int (nI n)), (3, .ref b)]) 1 dX8_readNet_115 rfl (nI_add _ 1) (by decide) rfl ?_
                refine g_goto (tgt := 52) dX8_readNet_118 (by decide) ?_
                have eR : lineR t n T N = .inl (flt T 2) := by unfold lineR; rw [if_neg c0, if_neg c1]; rfl
                exact zG.sub [0, 1, 2, 3, 4, 5] rfl (bad (flt T 2) (s + 1) y3 (by omega) (by rw [← er, readR_l t0 eR]) ⟨fa3, fb3⟩ (Ry.tw (nLk_le hz) (f3.mono (by omega) (by omega))) (Fy.tr (SB.ff f3) (fun _ q => q)))
              · have c1 : keyN t T = 1 := of_decide_eq_true c1
                have LR : lineR t n T N = bnd (flowR t n T N) (signR t n) := by unfold lineR; rw [if_neg c0, if_pos c1]
                refine g_aload_n 2 dX8_readNet_99 rfl rfl ?_
                have OO := c_readFlow (l := l) (w := w) Ry hz
                rw [← LR] at OO
                cases eR : lineR t n T N with
                | inl e =>
                  rw [eR] at OO
                  refine g_invv (M' := mX8_readFlow) (As := []) (rest := []) dX8_readNet_100 ml_X8_61 okX8_readFlow imX8_readFlow seX8_readFlow ⟨(Nat.le_of_ble_eq_true rfl), (Nat.le_of_ble_eq_true rfl)⟩ (ci := 8) rfl rfl Ry.2.1.1.1 rfl rfl (Nat.le_of_ble_eq_true rfl) OO ?_
                  rintro _ y9 ⟨rfl, E9, W9, A9⟩
                  show zG l w mX8_readNet 103 [(5, .int (nI s)), (4, .int (bI true)), (0, .ref r), (1, .ref p), (2, .int (nI n)), (3, .ref b)] [.int (bI false)] y9 _
                  refine g_istore (lv2 := [(4, .int (bI false)), (5, .int (nI s)), (0, .ref r), (1, .ref p), (2, .int (nI n)), (3, .ref b)]) dX8_readNet_103 (by decide) rfl ?_
                  refine g_goto (tgt := 115) dX8_readNet_105 (by decide) ?_
                  refine g_inc (v := nI (s + 1)) (lv2 := [(5, .int (nI (s + 1))), (4, .int (bI false)), (0, .ref r), (1, .ref p), (2, .int (nI n)), (3, .ref b)]) 1 dX8_readNet_115 rfl (nI_add _ 1) (by decide) rfl ?_
                  refine g_goto (tgt := 52) dX8_readNet_118 (by decide) ?_
                  exact zG.sub [0, 1, 2, 3, 4, 5] rfl (bad e (s + 1) y9 (by omega) (by rw [← er, readR_l t0 eR]) E9 W9 (Fy.tr A9 (fun _ q => q)))
                | inr s1 =>
                  rw [eR] at OO
                  refine g_invv (M' := mX8_readFlow) (As := []) (rest := []) dX8_readNet_100 ml_X8_61 okX8_readFlow imX8_readFlow seX8_readFlow ⟨(Nat.le_of_ble_eq_true rfl), (Nat.le_of_ble_eq_true rfl)⟩ (ci := 8) rfl rfl Ry.2.1.1.1 rfl rfl (Nat.le_of_ble_eq_true rfl) OO ?_
                  rintro _ y9 ⟨rfl, R9, A9⟩
                  show zG l w mX8_readNet 103 [(5, .int (nI s)), (4, .int (bI true)), (0, .ref r), (1, .ref p), (2, .int (nI n)), (3, .ref b)] [.int (bI true)] y9 _
                  refine g_istore (lv2 := [(4, .int (bI true)), (5, .int (nI s)), (0, .ref r), (1, .ref p), (2, .int (nI n)), (3, .ref b)]) dX8_readNet_103 (by decide) rfl ?_
                  refine g_goto (tgt := 115) dX8_readNet_105 (by decide) ?_
                  refine g_inc (v := nI (s + 1)) (lv2 := [(5, .int (nI (s + 1))), (4, .int (bI true)), (0, .ref r), (1, .ref p), (2, .int (nI n)), (3, .ref b)]) 1 dX8_readNet_115 rfl (nI_add _ 1) (by decide) rfl ?_
                  refine g_goto (tgt := 52) dX8_readNet_118 (by decide) ?_
                  have zp := hz.line (T' := s1.1) (N' := s1.2) Ry.2.2.2.1 eR
                  exact zG.sub [0, 1, 2, 3, 4, 5] rfl (ih (s + 1) s1.1 s1.2 y9 (by omega) (by rw [← er, readR_i (T' := s1.1) (N' := s1.2) t0 eR]) R9 zp (Fy.tr A9 (fun _ q => q)))
            · have c0 : keyN t T = 0 := of_decide_eq_true c0
              have LR : lineR t n T N = bnd (linkR t n T N) (signR t n) := by unfold lineR; rw [if_pos c0]
              refine g_aload_n 2 dX8_readNet_81 rfl rfl ?_
              have OO := c_readLink (l := l) (w := w) Ry hz
              rw [← LR] at OO
              cases eR : lineR t n T N with
              | inl e =>
                rw [eR] at OO
                refine g_invv (M' := mX8_readLink) (As := []) (rest := []) dX8_readNet_82 ml_X8_55 okX8_readLink imX8_readLink seX8_readLink ⟨(Nat.le_of_ble_eq_true rfl), (Nat.le_of_ble_eq_true rfl)⟩ (ci := 8) rfl rfl Ry.2.1.1.1 rfl rfl (Nat.le_of_ble_eq_true rfl) OO ?_
                rintro _ y9 ⟨rfl, E9, W9, A9⟩
                show zG l w mX8_readNet 85 [(5, .int (nI s)), (4, .int (bI true)), (0, .ref r), (1, .ref p), (2, .int (nI n)), (3, .ref b)] [.int (bI false)] y9 _
                refine g_istore (lv2 := [(4, .int (bI false)), (5, .int (nI s)), (0, .ref r), (1, .ref p), (2, .int (nI n)), (3, .ref b)]) dX8_readNet_85 (by decide) rfl ?_
                refine g_goto (tgt := 115) dX8_readNet_87 (by decide) ?_
                refine g_inc (v := nI (s + 1)) (lv2 := [(5, .int (nI (s + 1))), (4, .int (bI false)), (0, .ref r), (1, .ref p), (2, .int (nI n)), (3, .ref b)]) 1 dX8_readNet_115 rfl (nI_add _ 1) (by decide) rfl ?_
                refine g_goto (tgt := 52) dX8_readNet_118 (by decide) ?_
                exact zG.sub [0, 1, 2, 3, 4, 5] rfl (bad e (s + 1) y9 (by omega) (by rw [← er, readR_l t0 eR]) E9 W9 (Fy.tr A9 (fun _ q => q)))
              | inr s1 =>
                rw [eR] at OO
                refine g_invv (M' := mX8_readLink) (As := []) (rest := []) dX8_readNet_82 ml_X8_55 okX8_readLink imX8_readLink seX8_readLink ⟨(Nat.le_of_ble_eq_true rfl), (Nat.le_of_ble_eq_true rfl)⟩ (ci := 8) rfl rfl Ry.2.1.1.1 rfl rfl (Nat.le_of_ble_eq_true rfl) OO ?_
                rintro _ y9 ⟨rfl, R9, A9⟩
                show zG l w mX8_readNet 85 [(5, .int (nI s)), (4, .int (bI true)), (0, .ref r), (1, .ref p), (2, .int (nI n)), (3, .ref b)] [.int (bI true)] y9 _
                refine g_istore (lv2 := [(4, .int (bI true)), (5, .int (nI s)), (0, .ref r), (1, .ref p), (2, .int (nI n)), (3, .ref b)]) dX8_readNet_85 (by decide) rfl ?_
                refine g_goto (tgt := 115) dX8_readNet_87 (by decide) ?_
                refine g_inc (v := nI (s + 1)) (lv2 := [(5, .int (nI (s + 1))), (4, .int (bI true)), (0, .ref r), (1, .ref p), (2, .int (nI n)), (3, .ref b)]) 1 dX8_readNet_115 rfl (nI_add _ 1) (by decide) rfl ?_
                refine g_goto (tgt := 52) dX8_readNet_118 (by decide) ?_
                have zp := hz.line (T' := s1.1) (N' := s1.2) Ry.2.2.2.1 eR
                exact zG.sub [0, 1, 2, 3, 4, 5] rfl (ih (s + 1) s1.1 s1.2 y9 (by omega) (by rw [← er, readR_i (T' := s1.1) (N' := s1.2) t0 eR]) R9 zp (Fy.tr A9 (fun _ q => q)))
  refine g_iconst (v := bI true) dX8_readNet_46 (by decide) ?_
  refine g_istore (lv2 := [(4, .int (bI true)), (0, .ref r), (1, .ref p), (2, .int (nI n)), (3, .ref b)]) dX8_readNet_47 (by decide) rfl ?_
  refine g_iconst (v := nI 0) dX8_readNet_49 (by decide) ?_
  refine g_istore (lv2 := [(5, .int (nI 0)), (4, .int (bI true)), (0, .ref r), (1, .ref p), (2, .int (nI n)), (3, .ref b)]) dX8_readNet_50 (by decide) rfl ?_
  exact zG.sub [0, 1, 2, 3, 4, 5] rfl (lines 601 0 _ _ y3 rfl rfl R3 pz.zero (SB.ff f3))
end CRN
