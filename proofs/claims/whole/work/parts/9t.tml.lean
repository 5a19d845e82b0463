section TML
variable {l : Launch} {w : zW} {h y z : zH} {m : Nat} {t : Nat → Nat} {n : Nat} {T T' : tkT} {N M N' : nT} {f : Nat} {g : Nat → Int64} {e : Int × Int}
theorem bY_nar (x : Int32) : bY x.toInt8.toInt32 = bY x := by
  unfold bY
  congr 1
  apply BitVec.eq_of_getLsbD_eq
  intro i hi
  rw [BitVec.getLsbD_and, BitVec.getLsbD_and]
  by_cases c : i < 8
  · congr 1
    rw [Int8.toBitVec_toInt32, Int32.toBitVec_toInt8, BitVec.getLsbD_signExtend, decide_eq_true hi, if_pos c, BitVec.getLsbD_signExtend, decide_eq_true c, if_pos hi]
    simp
  · have q : (255#32).getLsbD i = false := (show ∀ i, i < 32 → ¬ i < 8 → (255#32).getLsbD i = false by decide) i hi c
    rw [q, Bool.and_false, Bool.and_false]
/-- faults have a kind -/
def fe (e : Int × Int) : Prop := 1 ≤ e.1 ∧ e.1 ≤ 6
theorem flt_fe {k : Int} (h : 1 ≤ k ∧ k ≤ 6) : fe (flt T k) := by
  unfold fe flt
  by_cases c : T.1 = 4
  · rw [if_pos c]; exact ⟨by show (1 : Int) ≤ 1; decide, by show (1 : Int) ≤ 6; decide⟩
  · rw [if_neg c]; exact h
theorem nuF_fe : fe (nuF T) := by
  unfold nuF
  exact flt_fe (by split <;> decide)
theorem linkR_fe (q : linkR t n T N = .inl e) : fe e := by
  unfold linkR at q
  split at q
  · cases q; exact flt_fe (by decide)
  · split at q
    · split at q
      · split at q
        · split at q
          · split at q
            · cases q
            · cases q; exact nuF_fe
          · cases q
        · cases q; exact nuF_fe
      · cases q; exact nuF_fe
    · cases q; exact nuF_fe
theorem hopsR_fe : ∀ (k : Nat) (T : tkT) (N : nT), hopsR t n f k T N = .inl e → fe e := by
  intro k
  induction k with
  | zero => intro T N q; rw [hopsR] at q; cases q
  | succ k ih =>
    intro T N q
    rw [hopsR] at q
    split at q
    · split at q
      · cases q; exact flt_fe (by decide)
      · split at q
        · cases q; exact flt_fe (by decide)
        · split at q
          · cases q; exact flt_fe (by decide)
          · exact ih _ _ q
    · cases q
theorem marksR_fe : ∀ (k : Nat) (T : tkT) (N : nT) (a b c : Bool), marksR t n f k T N a b c = .inl e → fe e := by
  intro k
  induction k with
  | zero => intro T N a b c q; rw [marksR] at q; cases q
  | succ k ih =>
    intro T N a b c q
    rw [marksR] at q
    split at q
    · cases q
    · split at q
      · split at q
        · cases q; exact flt_fe (by decide)
        · split at q
          · exact ih _ _ _ _ _ q
          · cases q; exact nuF_fe
      · split at q
        · split at q
          · cases q; exact flt_fe (by decide)
          · exact ih _ _ _ _ _ q
        · split at q
          · cases q; exact flt_fe (by decide)
          · exact ih _ _ _ _ _ q
theorem bnd_e {r : rR} {k : tkT → nT → rR} (q : bnd r k = .inl e) : r = .inl e ∨ ∃ T1 N1, r = .inr (T1, N1) ∧ k T1 N1 = .inl e := by
  cases r with
  | inl a => cases q; exact Or.inl rfl
  | inr p => exact Or.inr ⟨p.1, p.2, rfl, q⟩
theorem flowR_fe (q : flowR t n T N = .inl e) : fe e := by
  unfold flowR at q
  split at q
  · cases q; exact flt_fe (by decide)
  · split at q
    · rcases bnd_e q with q | ⟨T1, N1, -, q⟩
      · exact hopsR_fe _ _ _ q
      · rcases bnd_e q with q | ⟨T2, N2, -, q⟩
        · exact marksR_fe _ _ _ _ _ _ q
        · cases q
    · cases q; exact flt_fe (by decide)
theorem lineR_fe (q : lineR t n T N = .inl e) : fe e := by
  unfold lineR at q
  rcases bnd_e q with q | ⟨T1, N1, -, q⟩
  · split at q
    · exact linkR_fe q
    · split at q
      · exact flowR_fe q
      · cases q; exact flt_fe (by decide)
  · unfold signR at q
    split at q
    · cases q
    · cases q; exact flt_fe (by decide)
theorem readR_l {k : Nat} (h0 : ¬ T.1 = 0) (q : lineR t n T N = .inl e) : readR t n (k + 1) T N = .inl e := by rw [readR, if_neg h0, q]
theorem readR_i {k : Nat} (h0 : ¬ T.1 = 0) (q : lineR t n T N = .inr (T', N')) : readR t n (k + 1) T N = readR t n k T' N' := by rw [readR, if_neg h0, q]
theorem readR_0 {k : Nat} (h0 : T.1 = 0) : readR t n k T N = .inr N := by
  cases k with
  | zero => rfl
  | succ k => rw [readR, if_pos h0]
/-- what load leaves as it is -/
def FrL (m : Nat) (h y : zH) : Prop := (zx y = zx h ∧ zt y = zt h) ∧ (∀ a, zk y a = zk h a ∧ zn y a = zn h a) ∧ (∀ f a, zr y f a = zr h f a ∧ zl y f a = zl h f a) ∧ (∀ a i, zR y a i = zR h a i) ∧ (∀ f a, (a ≠ m ∨ f = 322 ∨ f = 323) → zi y f a = zi h f a) ∧ (∀ a i, a ≠ m + 3 → zI y a i = zI h a i) ∧ (∀ a i, a ≠ m + 1 → zL y a i = zL h a i) ∧ ∀ i, 11608 ≤ i → zL y (m + 1) i = zL h (m + 1) i
theorem FrL.rf : FrL m h h := ⟨⟨rfl, rfl⟩, fun _ => ⟨rfl, rfl⟩, fun _ _ => ⟨rfl, rfl⟩, fun _ _ => rfl, fun _ _ _ => rfl, fun _ _ _ => rfl, fun _ _ _ => rfl, fun _ _ => rfl⟩
theorem FrL.tr (p : FrL m h y) (q : FrL m y z) : FrL m h z := ⟨⟨q.1.1.trans p.1.1, q.1.2.trans p.1.2⟩, fun a => ⟨(q.2.1 a).1.trans (p.2.1 a).1, (q.2.1 a).2.trans (p.2.1 a).2⟩, fun f a => ⟨(q.2.2.1 f a).1.trans (p.2.2.1 f a).1, (q.2.2.1 f a).2.trans (p.2.2.1 f a).2⟩, fun a i => (q.2.2.2.1 a i).trans (p.2.2.2.1 a i), fun f a e => (q.2.2.2.2.1 f a e).trans (p.2.2.2.2.1 f a e), fun a i e => (q.2.2.2.2.2.1 a i e).trans (p.2.2.2.2.2.1 a i e), fun a i e => (q.2.2.2.2.2.2.1 a i e).trans (p.2.2.2.2.2.2.1 a i e), fun i e => (q.2.2.2.2.2.2.2 i e).trans (p.2.2.2.2.2.2.2 i e)⟩
theorem FrL.si {f : Nat} {v : Int32} (p : FrL m h y) (hf : f ≠ 322 ∧ f ≠ 323) : FrL m h (zSi y f m v) := p.tr ⟨⟨rfl, rfl⟩, fun _ => ⟨rfl, rfl⟩, fun _ _ => ⟨rfl, rfl⟩, fun _ _ => rfl, fun g a e => by rw [zi_Si, if_neg (by omega)], fun _ _ _ => rfl, fun _ _ _ => rfl, fun _ _ => rfl⟩
theorem FrL.sI {i : Nat} {v : Int32} (p : FrL m h y) : FrL m h (zSI y (m + 3) i v) := p.tr ⟨⟨rfl, rfl⟩, fun _ => ⟨rfl, rfl⟩, fun _ _ => ⟨rfl, rfl⟩, fun _ _ => rfl, fun _ _ _ => rfl, fun a j e => by rw [zI_SI, if_neg (fun q => e q.1)], fun _ _ _ => rfl, fun _ _ => rfl⟩
theorem FrL.sg (p : FrL m h y) (hg : ∀ i, 11608 ≤ i → g i = zL y (m + 1) i) : FrL m h (zSG y (m + 1) g) := p.tr ⟨⟨rfl, rfl⟩, fun _ => ⟨rfl, rfl⟩, fun _ _ => ⟨rfl, rfl⟩, fun _ _ => rfl, fun _ _ _ => rfl, fun _ _ _ => rfl, fun a i e => if_neg e, fun i e => by rw [zL_SG]; exact hg i e⟩
theorem FrL.x (p : FrX m h y) : FrL m h y := ⟨p.1, p.2.1, p.2.2.1, fun a i => (p.2.2.2.1 a i).1, fun f a e => p.2.2.2.2.1 f a (by omega), fun a i _ => (p.2.2.2.1 a i).2, p.2.2.2.2.2.1, fun i e => p.2.2.2.2.2.2 i (by omega)⟩
theorem Mo.frL (r : Mo h m) (F : FrL m h y) : Mo y m := by
  unfold Mo
  simp only [(F.2.1 _).1, (F.2.1 _).2, (F.2.2.1 _ _).1]
  exact r
def z0G (g : Nat → Int64) (k : Nat) : Nat → Int64 := fun j => if j < k then lN 0 else g j
theorem z0G_0 : z0G g 0 = g := by funext k; unfold z0G; rw [if_neg (by omega)]
theorem z0G_s {k : Nat} : updL (z0G g k) k (lN 0) = z0G g (k + 1) := by
  funext j
  unfold updL z0G
  by_cases e : j = k
  · subst e; rw [if_pos rfl, if_pos (by omega)]
  · rw [if_neg e]
    by_cases e2 : j < k
    · rw [if_pos e2, if_pos (by omega)]
    · rw [if_neg e2, if_neg (by omega)]
theorem zeN_0 {q : Int} {k : Nat} (hk : k ≠ 3) : nA (zeN q) k = 0 := by unfold zeN nA; exact if_neg hk
theorem z0G_R {q : Int} : MoR (z0G g 5804) (zeN q) := by
  have z : ∀ k, k < 5804 → z0G g 5804 k = lN 0 := fun k hk => by unfold z0G; rw [if_pos hk]
  refine ⟨fun k hk hs => ?_, ⟨z 3 (by omega), z 4 (by omega), z 5 (by omega)⟩, fun l hl => ⟨z _ (by omega), z _ (by omega)⟩, fun l _ i p hp => (by cases hp), fun l _ i p hp => (by cases hp), fun i p hp => (by cases hp), fun i p hp => (by cases hp), fun i p hp => (by cases hp)⟩
  rw [z k (by omega), zeN_0 (fun c => hs (by unfold nSp; omega))]
  rfl
theorem c_beginsG (hM : Mo h m) : zM l w mX10_begins [.ref m] (zSG h (m + 1) g) (fun u h1 => u = none ∧ h1 = zSG h (m + 1) (z0G g 5804)) := by
  refine zM.of (by decide) (Nat.le_of_ble_eq_true rfl) ?_
  have loop : ∀ k i : Nat, i + k = 5804 → zG l w mX10_begins 2 [(1, .int (nI i)), (0, .ref m)] [] (zSG h (m + 1) (z0G g i)) (fun u h1 => u = none ∧ h1 = zSG h (m + 1) (z0G g 5804)) := by
    intro k
    induction k with
    | zero =>
      intro i hi
      refine g_iload_n 0 dX10_begins_2 rfl rfl ?_
      refine g_sipush (v := nI 5804) dX10_begins_3 (by decide) ?_
      refine g_ncmp_ge (tgt := 21) dX10_begins_6 (by decide) (by omega) (by omega) (fun k0 => ?_) (fun k0 => ?_)
      · obtain rfl : i = 5804 := by omega
        refine g_return dX10_begins_21 rfl ?_
        exact ⟨rfl, rfl⟩
      · exact absurd k0 (by omega)
    | succ k ih =>
      intro i hi
      refine g_iload_n 0 dX10_begins_2 rfl rfl ?_
      refine g_sipush (v := nI 5804) dX10_begins_3 (by decide) ?_
      refine g_ncmp_ge (tgt := 21) dX10_begins_6 (by decide) (by omega) (by omega) (fun k0 => ?_) (fun k0 => ?_)
      · exact absurd k0 (by omega)
      · refine g_aload_n 1 dX10_begins_9 rfl rfl ?_
        refine g_iload_n 0 dX10_begins_10 rfl rfl ?_
        refine g_lconst (v := lN 0) dX10_begins_11 (by decide) ?_
        refine g_invv (M' := mX10_puts) (As := [.int (nI i), .long (lN 0)]) (rest := []) dX10_begins_12 ml_X10_40 okX10_puts imX10_puts seX10_puts ⟨(Nat.le_of_ble_eq_true rfl), (Nat.le_of_ble_eq_true rfl)⟩ (ci := 10) rfl rfl hM.1 rfl rfl (Nat.le_of_ble_eq_true rfl) (c_putsG hM (by omega)) ?_
        rintro _ q1 ⟨rfl, eq1⟩
        subst q1
        show zG l w mX10_begins 15 [(1, .int (nI i)), (0, .ref m)] [] (zSG h (m + 1) (updL (z0G g i) i (lN 0))) _
        rw [z0G_s]
        refine g_inc (v := nI (i + 1)) (lv2 := [(1, .int (nI (i + 1))), (0, .ref m)]) 0 dX10_begins_15 rfl (nI_add _ 1) (by decide) rfl ?_
        refine g_goto (tgt := 2) dX10_begins_18 (by decide) ?_
        exact zG.sub [0, 1] rfl (ih (i + 1) (by omega))
  refine g_iconst (v := nI 0) dX10_begins_0 (by decide) ?_
  refine g_istore_n (lv2 := [(1, .int (nI 0)), (0, .ref m)]) dX10_begins_1 rfl (by decide) rfl ?_
  have L := loop 5804 0 (Nat.zero_add _)
  rw [z0G_0] at L
  exact zG.sub [0, 1] rfl L
theorem c_begins (hM : Mo h m) : zM l w mX10_begins [.ref m] h (fun u h1 => u = none ∧ h1 = zSG h (m + 1) (z0G (zL h (m + 1)) 5804)) := by
  have q := c_beginsG (l := l) (w := w) (g := zL h (m + 1)) hM
  rw [zSG_id] at q
  exact q
/-- what load answers -/
def LdR (m : Nat) (N : nT) (r : (Int × Int) ⊕ nT) (u : Option Value) (h1 : zH) : Prop := match r with
  | .inl e => u = some (.int (-1)) ∧ zi h1 321 m = nI 9 ∧ zi h1 335 m = jI e.1 ∧ zi h1 334 m = jI e.2 ∧ ∃ v, MoN h1 m (uA N 3 v)
  | .inr N' => u = some (.int (jI (nA N' 1))) ∧ zi h1 321 m = nI 0 ∧ zi h1 335 m = nI 0 ∧ zi h1 334 m = -1 ∧ MoN h1 m N' ∧ pz N'
def LdM (h : zH) (m : Nat) (N : nT) (tp : Nat) (z : Int) (u : Option Value) (h1 : zH) : Prop := FrL m h h1 ∧ if 0 ≤ z ∧ z ≤ (tp : Int) then zi h1 327 m = nI 0 ∧ LdR m N (loadR (fun i => bY (zI h (m + 2) i)) z.toNat (nA N 6 + nA N 3)) u h1 else u = some (.int (-1)) ∧ h1 = zSi h 321 m (nI 1)
theorem c_loadM {tp : Nat} {z : Int} (r : MoN h m N) (h0 : iT N) (n7 : nA N 7 = 0) (ht : zi h 327 m = nI tp) (t6 : tp ≤ 600) (zb : -2147483648 ≤ z ∧ z < 2147483648) : zM l w mX10_load [.ref m, .int (jI z)] h (LdM h m N tp z) := by
  refine zM.of (by decide) (Nat.le_of_ble_eq_true rfl) ?_
  have fit := h0.fit
  refine g_iload_n 1 dX10_load_0 rfl rfl ?_
  refine g_i2l dX10_load_1 ?_
  rw [jI_l (by omega) (by omega)]
  refine g_lconst (v := jL 0) dX10_load_2 (by decide) ?_
  refine g_aload_n 0 dX10_load_3 rfl rfl ?_
  refine g_geti (f := 327) dX10_load_4 fl_X10_199 r.1.1 (by decide) rfl ?_
  rw [show zi h 327 m = nI tp from ht]
  refine g_i2l dX10_load_7 ?_
  rw [nI_l (by omega), ← jL_nat]
  refine g_invs (M' := mX10_isFrom) (As := [.long (jL z), .long (jL 0), .long (jL ((tp : Nat) : Int))]) (rest := []) dX10_load_8 ml_X10_252 okX10_isFrom stX10_isFrom ⟨(Nat.le_of_ble_eq_true rfl), (Nat.le_of_ble_eq_true rfl)⟩ rfl rfl (Nat.le_of_ble_eq_true rfl) (c_isFrom (by omega) (by omega) (by omega)) ?_
  rintro _ q1 ⟨rfl, eq1⟩
  subst q1
  show zG l w mX10_load 11 [(0, .ref m), (1, .int (jI z))] [.int (bI (decide (0 ≤ z ∧ z ≤ ((tp : Nat) : Int))))] h _
  refine g_bif_ne (tgt := 20) dX10_load_11 (by decide) (fun c => ?_) (fun c => ?_)
  · have c := of_decide_eq_true c
    obtain ⟨n, en⟩ : ∃ n : Nat, z = (n : Int) := ⟨_, (Int.toNat_of_nonneg c.1).symm⟩
    subst en
    rw [jI_nat]
    have n6 : n ≤ 600 := by omega
    obtain ⟨t, et⟩ : ∃ t : Nat → Nat, t = fun i => bY (zI h (m + 2) i) := ⟨_, rfl⟩
    obtain ⟨q, eq⟩ : ∃ q : Int, q = nA N 6 + nA N 3 := ⟨_, rfl⟩
    have tb : ∀ i, bY (zI h (m + 2) i) = t i := fun i => by rw [et]
    refine zG.mono (Q := fun u h1 => FrL m h h1 ∧ zi h1 327 m = nI 0 ∧ LdR m N (loadR t n q) u h1) ?_ (fun u h1 a => ⟨a.1, by rw [if_pos c, Int.toNat_natCast, ← et, ← eq]; exact a.2⟩)
    have fin : ∀ (N' : nT) (T : tkT) (y : zH), loadR t n q = .inr N' → PmT y m n t N' T → pz N' → FrL m h y → zi y 327 m = nI 0 → zG l w mX10_load 107 [(0, .ref m)] [] y (fun u h1 => FrL m h h1 ∧ zi h1 327 m = nI 0 ∧ LdR m N (loadR t n q) u h1) := by
      intro N' T y er Py hz Fy e7
      have H1 := hz.2.1
      refine g_aload_n 0 dX10_load_107 rfl rfl ?_
      refine g_aload_n 0 dX10_load_108 rfl rfl ?_
      refine g_geti (f := 333) dX10_load_109 fl_X10_243 Py.1.1.1 (by decide) rfl ?_
      rw [show zi y 333 m = nI 0 from Py.2.2.2.2.1]
      refine g_puti (f := 335) dX10_load_112 fl_X10_24 (Or.inl rfl) Py.1.1.1 rfl ?_
      refine g_aload_n 0 dX10_load_115 rfl rfl ?_
      refine g_geti (f := 333) dX10_load_116 fl_X10_243 Py.1.1.1 (by decide) rfl ?_
      rw [show zi (zSi y 335 m (nI 0)) 333 m = nI 0 from (by rw [zi_Si, if_neg (by omega)]; exact Py.2.2.2.2.1)]
      refine g_zif_le (a := 0) (tgt := 137) (by decide) dX10_load_119 (by decide) (by omega) (fun d => ?_) (fun d => ?_)
      · refine g_aload_n 0 dX10_load_137 rfl rfl ?_
        refine g_aload_n 0 dX10_load_138 rfl rfl ?_
        refine g_iconst (v := nI 1) dX10_load_139 (by decide) ?_
        have M1 : MoN (zSi y 335 m (nI 0)) m N' := ⟨Py.1.1, Py.1.2.1, by rw [zi_Si, if_neg (by omega)]; exact Py.1.2.2.1, by rw [zi_Si, if_neg (by omega)]; exact Py.1.2.2.2⟩
        refine g_invv (M' := mX10_of) (As := [.int (nI 1)]) (rest := [.ref m]) dX10_load_140 ml_X10_48 okX10_of imX10_of seX10_of ⟨(Nat.le_of_ble_eq_true rfl), (Nat.le_of_ble_eq_true rfl)⟩ (ci := 10) rfl rfl M1.1.1 rfl rfl (Nat.le_of_ble_eq_true rfl) (c_ofN M1 (by omega) (by unfold nSp; omega)) ?_
        rintro _ q2 ⟨rfl, e2⟩
        subst q2
        show zG l w mX10_load 143 [(0, .ref m)] [.long (jL (nA N' 1)), .ref m] (zSi y 335 m (nI 0)) _
        refine g_invv (M' := mX10_gives) (As := [.long (jL (nA N' 1))]) (rest := []) dX10_load_143 ml_X10_298 okX10_gives imX10_gives seX10_gives ⟨(Nat.le_of_ble_eq_true rfl), (Nat.le_of_ble_eq_true rfl)⟩ (ci := 10) rfl rfl M1.1.1 rfl rfl (Nat.le_of_ble_eq_true rfl) (c_gives M1.1.1) ?_
        rintro _ q3 ⟨rfl, e3⟩
        subst q3
        show zG l w mX10_load 146 [(0, .ref m)] [.int (jI (nA N' 1))] (zSi (zSi y 335 m (nI 0)) 321 m (nI 0)) _
        refine g_ireturn dX10_load_146 rfl ?_
        exact ⟨(Fy.si (by omega)).si (by omega), by rw [zi_Si, if_neg (by omega), zi_Si, if_neg (by omega)]; exact e7, by rw [er]; exact ⟨rfl, zi_same, by rw [zi_Si, if_neg (by omega), zi_same], by rw [zi_Si, if_neg (by omega), zi_Si, if_neg (by omega)]; exact Py.2.2.2.2.2, M1.s321, hz⟩⟩
      · exact absurd (Int.le_refl 0) d
    have bad : ∀ (e : Int × Int) (y : zH), loadR t n q = .inl e → PeT y m e → fe e → FrL m h y → zi y 327 m = nI 0 → (∀ k, k < 5804 → zL y (m + 1) (5804 + k) = zL h (m + 1) k) → zG l w mX10_load 107 [(0, .ref m)] [] y (fun u h1 => FrL m h h1 ∧ zi h1 327 m = nI 0 ∧ LdR m N (loadR t n q) u h1) := by
      intro e y er Ey he Fy e7 as
      unfold fe at he
      have My := r.1.frL Fy
      refine g_aload_n 0 dX10_load_107 rfl rfl ?_
      refine g_aload_n 0 dX10_load_108 rfl rfl ?_
      refine g_geti (f := 333) dX10_load_109 fl_X10_243 My.1 (by decide) rfl ?_
      rw [show zi y 333 m = jI e.1 from Ey.1]
      refine g_puti (f := 335) dX10_load_112 fl_X10_24 (Or.inl rfl) My.1 rfl ?_
      refine g_aload_n 0 dX10_load_115 rfl rfl ?_
      refine g_geti (f := 333) dX10_load_116 fl_X10_243 My.1 (by decide) rfl ?_
      rw [show zi (zSi y 335 m (jI e.1)) 333 m = jI e.1 from (by rw [zi_Si, if_neg (by omega)]; exact Ey.1)]
      refine g_zif_le (a := e.1) (tgt := 137) rfl dX10_load_119 (by decide) (by omega) (fun d => ?_) (fun d => ?_)
      · exact absurd d (by omega)
      · refine g_aload_n 0 dX10_load_122 rfl rfl ?_
        refine g_sipush (v := nI 5804) dX10_load_123 (by decide) ?_
        refine g_iconst (v := nI 0) dX10_load_126 (by decide) ?_
        generalize ez : (zi y 324 m).toInt = v4
        have e4 : zi y 324 m = jI v4 := by rw [← ez]; exact (Int32.ofInt_toInt _).symm
        refine g_invv (M' := mX10_copies) (As := [.int (nI 5804), .int (nI 0)]) (rest := []) dX10_load_127 ml_X10_292 okX10_copies imX10_copies seX10_copies ⟨(Nat.le_of_ble_eq_true rfl), (Nat.le_of_ble_eq_true rfl)⟩ (ci := 10) rfl rfl My.1 rfl rfl (Nat.le_of_ble_eq_true rfl) (c_copies (h := zSi y 335 m (jI e.1)) (a := 5804) (c := 0) My (by omega) (by omega) (by omega)) ?_
        rintro _ y2 ⟨rfl, e2⟩
        show zG l w mX10_load 130 [(0, .ref m)] [] y2 _
        have M2 : MoN y2 m (uA N 3 (v4 - nA N 6)) := by
          rw [e2]
          exact asd1 (y := zSi y 335 m (jI e.1)) as r fit My (by rw [zi_Si, if_neg (by omega), Fy.2.2.2.2.1 323 m (by omega)]; exact r.2.2.1) (by rw [zi_Si, if_neg (by omega)]; exact e4)
        have F2 : FrL m h y2 := by rw [e2]; exact (Fy.si (by omega)).sg (fun i hi => by unfold cpG; rw [if_neg (by omega)])
        have g5 : zi y2 335 m = jI e.1 := by rw [e2]; exact zi_same
        have g4 : zi y2 334 m = jI e.2 := by rw [e2]; exact (show zi (zSi y 335 m (jI e.1)) 334 m = jI e.2 by rw [zi_Si, if_neg (by omega)]; exact Ey.2)
        have g7 : zi y2 327 m = nI 0 := by rw [e2]; exact (show zi (zSi y 335 m (jI e.1)) 327 m = nI 0 by rw [zi_Si, if_neg (by omega)]; exact e7)
        clear e2
        refine g_aload_n 0 dX10_load_130 rfl rfl ?_
        refine g_bipush (v := nI 9) dX10_load_131 (by decide) ?_
        refine g_invv (M' := mX10_refuse) (As := [.int (nI 9)]) (rest := []) dX10_load_133 ml_X10_289 okX10_refuse imX10_refuse seX10_refuse ⟨(Nat.le_of_ble_eq_true rfl), (Nat.le_of_ble_eq_true rfl)⟩ (ci := 10) rfl rfl M2.1.1 rfl rfl (Nat.le_of_ble_eq_true rfl) (c_refuse M2.1.1) ?_
        rintro _ q3 ⟨rfl, e3⟩
        subst q3
        show zG l w mX10_load 136 [(0, .ref m)] [.int (-1)] (zSi y2 321 m (nI 9)) _
        refine g_ireturn dX10_load_136 rfl ?_
        exact ⟨F2.si (by omega), by rw [zi_Si, if_neg (by omega)]; exact g7, by rw [er]; exact ⟨rfl, zi_same, by rw [zi_Si, if_neg (by omega)]; exact g5, by rw [zi_Si, if_neg (by omega)]; exact g4, _, M2.s321⟩⟩
    have lines : ∀ (k : Nat) (T : tkT) (M : nT) (y : zH), n ≤ T.2.1 + k → readR t n k T M = loadR t n q → PmT y m n t M T → pz M → FrL m h y → zi y 327 m = nI 0 → (∀ k, k < 5804 → zL y (m + 1) (5804 + k) = zL h (m + 1) k) → zG l w mX10_load 88 [(2, .int (bI true)), (0, .ref m), (1, .int (nI n))] [] y (fun u h1 => FrL m h h1 ∧ zi h1 327 m = nI 0 ∧ LdR m N (loadR t n q) u h1) := by
      intro k
      induction k with
      | zero =>
        intro T M y hk er Py hz Fy e7 as
        have mb := mdK_bd T.1
        have ok := Py.2.2.2.1
        refine g_iload_n 0 dX10_load_88 rfl rfl ?_
        refine g_bif_eq (tgt := 107) dX10_load_89 (by decide) (fun dx => ?_) (fun dx => ?_)
        · cases dx
        · refine g_aload_n 1 dX10_load_92 rfl rfl ?_
          refine g_geti (f := 329) dX10_load_93 fl_X10_217 Py.1.1.1 (by decide) rfl ?_
          rw [show zi y 329 m = nI (mdK T.1) from Py.2.2.1.1]
          refine g_zif_eq (a := ((mdK T.1 : Nat) : Int)) (tgt := 107) (jI_nat (mdK T.1)).symm dX10_load_96 (by decide) (by omega) (fun c0 => ?_) (fun c0 => ?_)
          · have t0 := mdK_0.mp (by omega : mdK T.1 = 0)
            exact zG.sub [1] rfl (fin M T y (by rw [← er, readR_0 t0]) Py hz Fy e7)
          · have t0 : ¬ T.1 = 0 := fun z => c0 (by rw [mdK_0.mpr z]; rfl)
            have := ok.2.2.2.1
            have := ok.2.1
            have := ok.2.2.1
            exact absurd (this) (by have z1 := fun q => t0 (ok.2.2.2.1.mpr q); omega)
      | succ k ih =>
        intro T M y hk er Py hz Fy e7 as
        have mb := mdK_bd T.1
        have ok := Py.2.2.2.1
        refine g_iload_n 0 dX10_load_88 rfl rfl ?_
        refine g_bif_eq (tgt := 107) dX10_load_89 (by decide) (fun dx => ?_) (fun dx => ?_)
        · cases dx
        · refine g_aload_n 1 dX10_load_92 rfl rfl ?_
          refine g_geti (f := 329) dX10_load_93 fl_X10_217 Py.1.1.1 (by decide) rfl ?_
          rw [show zi y 329 m = nI (mdK T.1) from Py.2.2.1.1]
          refine g_zif_eq (a := ((mdK T.1 : Nat) : Int)) (tgt := 107) (jI_nat (mdK T.1)).symm dX10_load_96 (by decide) (by omega) (fun c0 => ?_) (fun c0 => ?_)
          · have t0 := mdK_0.mp (by omega : mdK T.1 = 0)
            exact zG.sub [1] rfl (fin M T y (by rw [← er, readR_0 t0]) Py hz Fy e7)
          · have t0 : ¬ T.1 = 0 := fun z => c0 (by rw [mdK_0.mpr z]; rfl)
            refine g_aload_n 1 dX10_load_99 rfl rfl ?_
            have HR := c_aLine (l := l) (w := w) Py hz
            cases eR : lineR t n T M with
            | inl e =>
              rw [eR] at HR
              refine g_invv (M' := mX10_aLine) (As := []) (rest := []) dX10_load_100 ml_X10_295 okX10_aLine imX10_aLine seX10_aLine ⟨(Nat.le_of_ble_eq_true rfl), (Nat.le_of_ble_eq_true rfl)⟩ (ci := 10) rfl rfl Py.1.1.1 rfl rfl (Nat.le_of_ble_eq_true rfl) HR ?_
              rintro _ y9 ⟨rfl, Ez, Fz⟩
              show zG l w mX10_load 103 [(2, .int (bI true)), (0, .ref m), (1, .int (nI n))] [.int (bI false)] y9 _
              refine g_istore_n (lv2 := [(2, .int (bI false)), (0, .ref m), (1, .int (nI n))]) dX10_load_103 rfl (by decide) rfl ?_
              refine g_goto (tgt := 88) dX10_load_104 (by decide) ?_
              refine g_iload_n 0 dX10_load_88 rfl rfl ?_
              refine g_bif_eq (tgt := 107) dX10_load_89 (by decide) (fun dx => ?_) (fun dx => ?_)
              · exact zG.sub [1] rfl (bad e y9 (by rw [← er, readR_l t0 eR]) Ez (lineR_fe eR) (Fy.tr (FrL.x Fz)) (by rw [Fz.2.2.2.2.1 327 m (by omega)]; exact e7) (fun k hk => by rw [Fz.2.2.2.2.2.2 _ (by omega)]; exact as k hk))
              · cases dx
            | inr p =>
              rw [eR] at HR
              refine g_invv (M' := mX10_aLine) (As := []) (rest := []) dX10_load_100 ml_X10_295 okX10_aLine imX10_aLine seX10_aLine ⟨(Nat.le_of_ble_eq_true rfl), (Nat.le_of_ble_eq_true rfl)⟩ (ci := 10) rfl rfl Py.1.1.1 rfl rfl (Nat.le_of_ble_eq_true rfl) HR ?_
              rintro _ y9 ⟨rfl, Pz, Fz⟩
              show zG l w mX10_load 103 [(2, .int (bI true)), (0, .ref m), (1, .int (nI n))] [.int (bI true)] y9 _
              refine g_istore_n (lv2 := [(2, .int (bI true)), (0, .ref m), (1, .int (nI n))]) dX10_load_103 rfl (by decide) rfl ?_
              refine g_goto (tgt := 88) dX10_load_104 (by decide) ?_
              have zo := lineR_ok (T' := p.1) (N' := p.2) ok eR
              have zp := hz.line (T' := p.1) (N' := p.2) ok eR
              have z1 := ok.2.2.2.2.1 t0
              exact zG.sub [0, 1, 2] rfl (ih p.1 p.2 y9 (by omega) (by rw [← er, readR_i (T' := p.1) (N' := p.2) t0 eR]) Pz zp (Fy.tr (FrL.x Fz)) (by rw [Fz.2.2.2.2.1 327 m (by omega)]; exact e7) (fun k hk => by rw [Fz.2.2.2.2.2.2 _ (by omega)]; exact as k hk))
    have go : ∀ y : zH, FrL m h y → MoN y m N → zi y 328 m = nI n → (∀ j, zL y (m + 1) j = zL h (m + 1) j) → (∀ i, i < n → bY (zI y (m + 3) i) = t i) → zG l w mX10_load 50 [(0, .ref m), (1, .int (nI n))] [] y (fun u h1 => FrL m h h1 ∧ zi h1 327 m = nI 0 ∧ LdR m N (loadR t n q) u h1) := by
      intro y Fy ry e8 eL bt
      have My := ry.1
      refine g_aload_n 0 dX10_load_50 rfl rfl ?_
      refine g_iconst (v := nI 0) dX10_load_51 (by decide) ?_
      refine g_puti (f := 327) dX10_load_52 fl_X10_199 (Or.inl rfl) My.1 rfl ?_
      refine g_aload_n 0 dX10_load_55 rfl rfl ?_
      refine g_iconst (v := nI 0) dX10_load_56 (by decide) ?_
      refine g_puti (f := 333) dX10_load_57 fl_X10_243 (Or.inl rfl) My.1 rfl ?_
      refine g_aload_n 0 dX10_load_60 rfl rfl ?_
      refine g_iconst (v := (-1)) dX10_load_61 (by decide) ?_
      refine g_puti (f := 334) dX10_load_62 fl_X10_20 (Or.inl rfl) My.1 rfl ?_
      refine g_aload_n 0 dX10_load_65 rfl rfl ?_
      refine g_iconst (v := nI 0) dX10_load_66 (by decide) ?_
      refine g_puti (f := 331) dX10_load_67 fl_X10_208 (Or.inl rfl) My.1 rfl ?_
      refine g_aload_n 0 dX10_load_70 rfl rfl ?_
      refine g_iconst (v := nI 0) dX10_load_71 (by decide) ?_
      refine g_sipush (v := nI 5804) dX10_load_72 (by decide) ?_
      have r1 : MoN (zSi (zSi (zSi (zSi y 327 m (nI 0)) 333 m (nI 0)) 334 m (-1)) 331 m (nI 0)) m N := ⟨My, ry.2.1, by rw [zi_Si, if_neg (by omega), zi_Si, if_neg (by omega), zi_Si, if_neg (by omega), zi_Si, if_neg (by omega)]; exact ry.2.2.1, by rw [zi_Si, if_neg (by omega), zi_Si, if_neg (by omega), zi_Si, if_neg (by omega), zi_Si, if_neg (by omega)]; exact ry.2.2.2⟩
      have F1 : FrL m h (zSi (zSi (zSi (zSi y 327 m (nI 0)) 333 m (nI 0)) 334 m (-1)) 331 m (nI 0)) := (((Fy.si (by omega)).si (by omega)).si (by omega)).si (by omega)
      have w1 : zi (zSi (zSi (zSi (zSi y 327 m (nI 0)) 333 m (nI 0)) 334 m (-1)) 331 m (nI 0)) 331 m = nI 0 ∧ zi (zSi (zSi (zSi (zSi y 327 m (nI 0)) 333 m (nI 0)) 334 m (-1)) 331 m (nI 0)) 334 m = -1 ∧ zi (zSi (zSi (zSi (zSi y 327 m (nI 0)) 333 m (nI 0)) 334 m (-1)) 331 m (nI 0)) 333 m = nI 0 ∧ zi (zSi (zSi (zSi (zSi y 327 m (nI 0)) 333 m (nI 0)) 334 m (-1)) 331 m (nI 0)) 327 m = nI 0 ∧ zi (zSi (zSi (zSi (zSi y 327 m (nI 0)) 333 m (nI 0)) 334 m (-1)) 331 m (nI 0)) 328 m = nI n := ⟨zi_same, by rw [zi_Si, if_neg (by omega), zi_same], by rw [zi_Si, if_neg (by omega), zi_Si, if_neg (by omega), zi_same], by rw [zi_Si, if_neg (by omega), zi_Si, if_neg (by omega), zi_Si, if_neg (by omega), zi_same], by rw [zi_Si, if_neg (by omega), zi_Si, if_neg (by omega), zi_Si, if_neg (by omega), zi_Si, if_neg (by omega)]; exact e8⟩
      have bt1 : ∀ i, i < n → bY (zI (zSi (zSi (zSi (zSi y 327 m (nI 0)) 333 m (nI 0)) 334 m (-1)) 331 m (nI 0)) (m + 3) i) = t i := bt
      have zz1 : ∀ k, zL (zSi (zSi (zSi (zSi y 327 m (nI 0)) 333 m (nI 0)) 334 m (-1)) 331 m (nI 0)) (m + 1) k = zL y (m + 1) k := fun _ => rfl
      generalize zSi (zSi (zSi (zSi y 327 m (nI 0)) 333 m (nI 0)) 334 m (-1)) 331 m (nI 0) = y1 at r1 F1 w1 bt1 zz1 ⊢
      refine g_invv (M' := mX10_copies) (As := [.int (nI 0), .int (nI 5804)]) (rest := []) dX10_load_75 ml_X10_292 okX10_copies imX10_copies seX10_copies ⟨(Nat.le_of_ble_eq_true rfl), (Nat.le_of_ble_eq_true rfl)⟩ (ci := 10) rfl rfl r1.1.1 rfl rfl (Nat.le_of_ble_eq_true rfl) (c_copies r1.1 (by omega) (by omega) (by omega)) ?_
      rintro _ y2 ⟨rfl, e2⟩
      show zG l w mX10_load 78 [(0, .ref m), (1, .int (nI n))] [] y2 _
      obtain ⟨r2, as2, -⟩ := asd0 r1 fit
      rw [← e2] at r2 as2
      have F2 : FrL m h y2 := by rw [e2]; exact F1.sg (fun i hi => by unfold cpG; rw [if_neg (by omega)])
      have w2 : zi y2 331 m = nI 0 ∧ zi y2 334 m = -1 ∧ zi y2 333 m = nI 0 ∧ zi y2 327 m = nI 0 ∧ zi y2 328 m = nI n := by rw [e2]; exact w1
      have bt2 : ∀ i, i < n → bY (zI y2 (m + 3) i) = t i := by rw [e2]; exact bt1
      clear e2
      refine g_aload_n 0 dX10_load_78 rfl rfl ?_
      refine g_invv (M' := mX10_begins) (As := []) (rest := []) dX10_load_79 ml_X10_34 okX10_begins imX10_begins seX10_begins ⟨(Nat.le_of_ble_eq_true rfl), (Nat.le_of_ble_eq_true rfl)⟩ (ci := 10) rfl rfl r2.1.1 rfl rfl (Nat.le_of_ble_eq_true rfl) (c_begins r2.1) ?_
      rintro _ y3 ⟨rfl, e3⟩
      show zG l w mX10_load 82 [(0, .ref m), (1, .int (nI n))] [] y3 _
      have r3 : MoN y3 m (zeN q) := by
        rw [e3]
        refine ⟨r2.1, ?_, ?_, ?_⟩
        · rw [zL_SG]; exact z0G_R
        · rw [zeN_0 (by omega)]; exact r2.2.2.1.trans (by rw [n7])
        · rw [zeN_0 (by omega), show nA (zeN q) 3 = q from rfl, Int.zero_add, eq]; exact r2.2.2.2
      have as3 : ∀ k, k < 5804 → zL y3 (m + 1) (5804 + k) = zL h (m + 1) k := fun k hk => by
        rw [e3, zL_SG]
        unfold z0G
        rw [if_neg (by omega), as2 k hk, zz1, eL]
      have F3 : FrL m h y3 := by rw [e3]; exact F2.sg (fun i hi => by unfold z0G; rw [if_neg (by omega)])
      have w3 : zi y3 331 m = nI 0 ∧ zi y3 334 m = -1 ∧ zi y3 333 m = nI 0 ∧ zi y3 327 m = nI 0 ∧ zi y3 328 m = nI n := by rw [e3]; exact w2
      have bt3 : ∀ i, i < n → bY (zI y3 (m + 3) i) = t i := by rw [e3]; exact bt2
      clear e3
      refine g_aload_n 0 dX10_load_82 rfl rfl ?_
      have x3 : TxM y3 m n t := ⟨r3.1, w3.2.2.2.2, n6, bt3⟩
      refine g_invv (M' := mX10_ahead) (As := []) (rest := []) dX10_load_83 ml_X10_246 okX10_ahead imX10_ahead seX10_ahead ⟨(Nat.le_of_ble_eq_true rfl), (Nat.le_of_ble_eq_true rfl)⟩ (ci := 10) rfl rfl r3.1.1 rfl rfl (Nat.le_of_ble_eq_true rfl) (c_ahead x3 w3.1 (Nat.zero_le n)) ?_
      rintro _ y4 ⟨rfl, k4, f4⟩
      show zG l w mX10_load 86 [(0, .ref m), (1, .int (nI n))] [] y4 _
      have ok0 := tokN_ok (t := t) (n := n) (e := 0) (Nat.zero_le n)
      have P4 : PmT y4 m n t (zeN q) (tokN t n 0) := ⟨r3.frF f4 (by omega), x3.frF f4 (by omega), k4, ok0.1, by rw [f4.2.2.2.2 _ _ (by omega)]; exact w3.2.2.1, by rw [f4.2.2.2.2 _ _ (by omega)]; exact w3.2.1⟩
      refine g_iconst (v := bI true) dX10_load_86 (by decide) ?_
      refine g_istore_n (lv2 := [(2, .int (bI true)), (0, .ref m), (1, .int (nI n))]) dX10_load_87 rfl (by decide) rfl ?_
      exact zG.sub [0, 1, 2] rfl (lines 601 _ _ y4 (by omega) rfl P4 pz.zero (F3.tr (FrL.x (FrX.f f4))) (by rw [f4.2.2.2.2 _ _ (by omega)]; exact w3.2.2.2.1) (fun k hk => by rw [(f4.2.2.2.1 _ _).2.1]; exact as3 k hk))
    have copy : ∀ (k i : Nat) (y : zH), i + k = n → FrL m h y → MoN y m N → zi y 328 m = nI n → (∀ j, zL y (m + 1) j = zL h (m + 1) j) → (∀ j, j < i → bY (zI y (m + 3) j) = t j) → zG l w mX10_load 27 [(2, .int (nI i)), (0, .ref m), (1, .int (nI n))] [] y (fun u h1 => FrL m h h1 ∧ zi h1 327 m = nI 0 ∧ LdR m N (loadR t n q) u h1) := by
      intro k
      induction k with
      | zero =>
        intro i y hi Fy ry e8 eL bt
        have My := ry.1
        refine g_iload_n 0 dX10_load_27 rfl rfl ?_
        refine g_iload_n 2 dX10_load_28 rfl rfl ?_
        refine g_ncmp_ge (tgt := 50) dX10_load_29 (by decide) (by omega) (by omega) (fun d => ?_) (fun d => ?_)
        · exact zG.sub [1, 2] rfl (go y Fy ry e8 eL (fun j hj => bt j (by omega)))
        · exact absurd d (by omega)
      | succ k ih =>
        intro i y hi Fy ry e8 eL bt
        have My := ry.1
        refine g_iload_n 0 dX10_load_27 rfl rfl ?_
        refine g_iload_n 2 dX10_load_28 rfl rfl ?_
        refine g_ncmp_ge (tgt := 50) dX10_load_29 (by decide) (by omega) (by omega) (fun d => ?_) (fun d => ?_)
        · exact absurd d (by omega)
        · refine g_aload_n 1 dX10_load_32 rfl rfl ?_
          refine g_getr (f := 326) (b := m + 3) dX10_load_33 fl_X10_17 My.1 rfl My.2.2.2.1.1 ?_
          refine g_iload_n 0 dX10_load_36 rfl rfl ?_
          refine g_aload_n 1 dX10_load_37 rfl rfl ?_
          refine g_getr (f := 325) (b := m + 2) dX10_load_38 fl_X10_13 My.1 rfl My.2.2.1.1 ?_
          refine g_iload_n 0 dX10_load_41 rfl rfl ?_
          refine g_bald dX10_load_42 My.2.2.1.2.1 (by rw [show zn y (m + 2) = 600 from My.2.2.1.2.2]; exact vp_in_nI (by omega) (by omega)) ?_
          rw [nI_clamp (by omega)]
          refine g_bast (n := i) (v := (zI y (m + 2) i).toInt8.toInt32) dX10_load_43 My.2.2.2.1.2.1 (by rw [show zn y (m + 3) = 600 from My.2.2.2.1.2.2]; exact vp_in_nI (by omega) (by omega)) (nI_clamp (by omega)) rfl ?_
          have r2 : MoN (zSI y (m + 3) i ((zI y (m + 2) i).toInt8.toInt32)) m N := ⟨My, ry.2.1, ry.2.2.1, ry.2.2.2⟩
          have F2 : FrL m h (zSI y (m + 3) i ((zI y (m + 2) i).toInt8.toInt32)) := Fy.sI
          have b2 : ∀ j, j < i + 1 → bY (zI (zSI y (m + 3) i ((zI y (m + 2) i).toInt8.toInt32)) (m + 3) j) = t j := fun j hj => by
            rw [zI_SI]
            by_cases e9 : j = i
            · subst e9; rw [if_pos ⟨rfl, rfl⟩, bY_nar, Fy.2.2.2.2.2.1 _ _ (by omega)]; exact tb j
            · rw [if_neg (fun q => e9 q.2)]; exact bt j (by omega)
          have e82 : zi (zSI y (m + 3) i ((zI y (m + 2) i).toInt8.toInt32)) 328 m = nI n := e8
          have eL2 : ∀ j, zL (zSI y (m + 3) i ((zI y (m + 2) i).toInt8.toInt32)) (m + 1) j = zL h (m + 1) j := eL
          generalize zSI y (m + 3) i ((zI y (m + 2) i).toInt8.toInt32) = y2 at r2 F2 b2 e82 eL2 ⊢
          refine g_inc (v := nI (i + 1)) (lv2 := [(2, .int (nI (i + 1))), (0, .ref m), (1, .int (nI n))]) 0 dX10_load_44 rfl (nI_add _ 1) (by decide) rfl ?_
          refine g_goto (tgt := 27) dX10_load_47 (by decide) ?_
          exact zG.sub [0, 1, 2] rfl (ih (i + 1) y2 (by omega) F2 r2 e82 eL2 b2)
    refine g_aload_n 0 dX10_load_20 rfl rfl ?_
    refine g_iload_n 1 dX10_load_21 rfl rfl ?_
    refine g_puti (f := 328) dX10_load_22 fl_X10_205 (Or.inl rfl) r.1.1 rfl ?_
    refine g_iconst (v := nI 0) dX10_load_25 (by decide) ?_
    refine g_istore_n (lv2 := [(2, .int (nI 0)), (0, .ref m), (1, .int (nI n))]) dX10_load_26 rfl (by decide) rfl ?_
    exact zG.sub [0, 1, 2] rfl (copy n 0 _ (Nat.zero_add _) (FrL.rf.si (by omega)) ⟨r.1, r.2.1, by rw [zi_Si, if_neg (by omega)]; exact r.2.2.1, by rw [zi_Si, if_neg (by omega)]; exact r.2.2.2⟩ zi_same (fun _ => rfl) (fun j hj => absurd hj (by omega)))
  · have c := of_decide_eq_false c
    refine g_aload_n 0 dX10_load_14 rfl rfl ?_
    refine g_iconst (v := nI 1) dX10_load_15 (by decide) ?_
    refine g_invv (M' := mX10_refuse) (As := [.int (nI 1)]) (rest := []) dX10_load_16 ml_X10_289 okX10_refuse imX10_refuse seX10_refuse ⟨(Nat.le_of_ble_eq_true rfl), (Nat.le_of_ble_eq_true rfl)⟩ (ci := 10) rfl rfl r.1.1 rfl rfl (Nat.le_of_ble_eq_true rfl) (c_refuse r.1.1) ?_
    rintro _ q1 ⟨rfl, e1⟩
    subst q1
    show zG l w mX10_load 19 [(0, .ref m), (1, .int (jI z))] [.int (-1)] (zSi h 321 m (nI 1)) _
    refine g_ireturn dX10_load_19 rfl ?_
    exact ⟨FrL.rf.si (by omega), by rw [if_neg c]; exact ⟨rfl, rfl⟩⟩
end TML
