section CP5
variable {l : Launch} {w : zW} {h y z : zH} {b : Nat} {ls : Nat → List Nat} {S T : Nat → Prop}
/-- what copying leaves as it is: S: the net's own cells and packets -/
def FrK (b : Nat) (S : Nat → Prop) (h y : zH) : Prop :=
  (zx h ≤ zx y ∧ zt y + 10 * zx h = zt h + 10 * zx y ∧ mdB b h y) ∧ (∀ a, a < zx h → zk y a = zk h a ∧ zn y a = zn h a ∧ ∀ i, zI y a i = zI h a i ∧ zL y a i = zL h a i ∧ zR y a i = zR h a i) ∧ (∀ a, a < zx h → ¬ S a → ∀ f, zi y f a = zi h f a ∧ zl y f a = zl h f a ∧ zr y f a = zr h f a) ∧
  ∀ a, b ≤ a → a < b + 65 → a < zx h → ∀ f, (f ≠ 98 → f ≠ 167 → zi y f a = zi h f a) ∧ zl y f a = zl h f a ∧ (f ≠ 96 → f ≠ 97 → f ≠ 201 → zr y f a = zr h f a)
theorem FrK.rf : FrK b S h h := ⟨⟨Nat.le_refl _, rfl, mdB.rf⟩, fun _ _ => ⟨rfl, rfl, fun _ => ⟨rfl, rfl, rfl⟩⟩, fun _ _ _ _ => ⟨rfl, rfl, rfl⟩, fun _ _ _ _ _ => ⟨fun _ _ => rfl, rfl, fun _ _ _ => rfl⟩⟩
theorem FrK.tr (x : FrK b S h y) (q : FrK b T y z) (e : ∀ a, a < zx h → T a → S a) : FrK b S h z := by
  obtain ⟨⟨x0, x1, x5⟩, x2, x3, x4⟩ := x
  obtain ⟨⟨y0, y1, y5⟩, y2, y3, y4⟩ := q
  refine ⟨⟨by omega, by omega, x5.tr y5⟩, fun a ha => ?_, fun a ha hs f => ?_, fun a h1 h2 ha f => ?_⟩
  · obtain ⟨p1, p2, p3⟩ := x2 a ha
    obtain ⟨q1, q2, q3⟩ := y2 a (by omega)
    exact ⟨q1.trans p1, q2.trans p2, fun i => ⟨(q3 i).1.trans (p3 i).1, (q3 i).2.1.trans (p3 i).2.1, (q3 i).2.2.trans (p3 i).2.2⟩⟩
  · have p := x3 a ha hs f
    have q := y3 a (by omega) (fun q => hs (e a ha q)) f
    exact ⟨q.1.trans p.1, q.2.1.trans p.2.1, q.2.2.trans p.2.2⟩
  · have p := x4 a h1 h2 ha f
    have q := y4 a h1 h2 (by omega) f
    exact ⟨fun u v => (q.1 u v).trans (p.1 u v), q.2.1.trans p.2.1, fun u v w => (q.2.2 u v w).trans (p.2.2 u v w)⟩
theorem FrK.ln (f : FrLn h y) (o : LnO S h y) : FrK b S h y := by
  obtain ⟨f1, f2, f3, f4, f5, f6, f7, f8, f9, f10⟩ := f
  refine ⟨⟨by rw [f1]; exact Nat.le_refl _, by rw [f1, f2], mdB.eq f1 (f5 167 b (by omega))⟩, fun a _ => ⟨f3 a, f4 a, fun i => ⟨f8 a i, f9 a i, f10 a i⟩⟩, fun a _ hs g => ⟨?_, f6 g a, ?_⟩, fun a _ _ _ g => ⟨fun u _ => f5 g a u, f6 g a, fun u v w => f7 g a u v w⟩⟩
  · by_cases c : g = 98
    · subst c; exact (o a hs).2.2.2
    · exact f5 g a c
  · by_cases c : g = 96
    · subst c; exact (o a hs).1
    · by_cases d : g = 97
      · subst d; exact (o a hs).2.1
      · by_cases e : g = 201
        · subst e; exact (o a hs).2.2.1
        · exact f7 g a c d e
/-- what packets tell stays -/
def PkF (h y : zH) : Prop := ∀ a, a < zx h → ∀ f, 192 ≤ f → f ≤ 200 → zi y f a = zi h f a ∧ zl y f a = zl h f a
theorem lnS.mk {v : Int32} {n : Nat} (s : lnS h ls) (hb : b < zx h) (sb : S b) (h7 : zi h 167 b = nI n) (hv : v = nI (n + 1)) (n4 : n < 480) : lnS (zNw (zSi h 167 b v) 6 10) ls ∧ outL (zNw (zSi h 167 b v) 6 10) ls (zx h) ∧ FrK b S h (zNw (zSi h 167 b v) 6 10) ∧ PkF h (zNw (zSi h 167 b v) 6 10) := by
  have il : ∀ L, isL (zNw (zSi h 167 b v) 6 10) L ↔ isL h L := by
    intro L
    unfold isL
    rw [zx_Nw, zk_Nw, zx_Si, zk_Si]
    by_cases q : L = zx h
    · rw [if_pos q]; omega
    · rw [if_neg q]; omega
  have gi : ∀ f a, a ≠ zx h → (f ≠ 167 ∨ a ≠ b) → zi (zNw (zSi h 167 b v) 6 10) f a = zi h f a := fun f a h3 h4 => by rw [zi_Nw, zx_Si, if_neg h3, zi_Si, if_neg (by omega)]
  have gl : ∀ f a, a ≠ zx h → zl (zNw (zSi h 167 b v) 6 10) f a = zl h f a := fun f a h3 => by rw [zl_Nw, zx_Si, if_neg h3]; rfl
  have gr : ∀ f a, a ≠ zx h → zr (zNw (zSi h 167 b v) 6 10) f a = zr h f a := fun f a h3 => by rw [zr_Nw, zx_Si, if_neg h3]; rfl
  have gI : ∀ a i, a ≠ zx h → zI (zNw (zSi h 167 b v) 6 10) a i = zI h a i := fun a i h3 => by rw [zI_Nw, zx_Si, if_neg h3]; rfl
  have gL : ∀ a i, a ≠ zx h → zL (zNw (zSi h 167 b v) 6 10) a i = zL h a i := fun a i h3 => by rw [zL_Nw, zx_Si, if_neg h3]; rfl
  have gR : ∀ a i, a ≠ zx h → zR (zNw (zSi h 167 b v) 6 10) a i = zR h a i := fun a i h3 => by rw [zR_Nw, zx_Si, if_neg h3]; rfl
  have gk : ∀ a, a ≠ zx h → zk (zNw (zSi h 167 b v) 6 10) a = zk h a := fun a h3 => by rw [zk_Nw, zx_Si, if_neg h3]; rfl
  have gn : ∀ a, a ≠ zx h → zn (zNw (zSi h 167 b v) 6 10) a = zn h a := fun a h3 => by rw [zn_Nw, zx_Si, if_neg h3]; rfl
  have gx : zx (zNw (zSi h 167 b v) 6 10) = zx h + 1 := rfl
  have gt : zt (zNw (zSi h 167 b v) 6 10) = zt h + 10 := rfl
  refine ⟨⟨fun L hL => ?_, fun L K i j q hL hK => s.2 L K i j q ((il L).mp hL) ((il K).mp hK)⟩, fun L hL q => ?_, ⟨⟨by rw [gx]; omega, by rw [gx, gt]; omega, mdB.up gx h7 (by rw [zi_Nw, zx_Si, if_neg (by omega), zi_Si, if_pos ⟨rfl, rfl⟩]; exact hv) n4⟩, fun a ha => ⟨gk a (by omega), gn a (by omega), fun i => ⟨gI a i (by omega), gL a i (by omega), gR a i (by omega)⟩⟩, fun a ha hs f => ⟨gi f a (by omega) (Or.inr (fun e => hs (e ▸ sb))), gl f a (by omega), gr f a (by omega)⟩, fun a h1 h2 ha f => ⟨fun u v => gi f a (by omega) (Or.inl v), gl f a (by omega), fun u v w => gr f a (by omega)⟩⟩, fun a ha f u v => ⟨gi f a (by omega) (Or.inl (by omega)), gl f a (by omega)⟩⟩
  · have hL0 := (il L).mp hL
    have hLx := hL0.1
    have hk0 := hL0.2
    obtain ⟨s1, s2, s3, s4⟩ := s.1 L hL0
    rw [gr _ _ (by omega), gr _ _ (by omega), gi _ _ (by omega) (by omega)]
    refine ⟨s1, s2, s3, fun i q hq => ?_⟩
    obtain ⟨u1, u2⟩ := s4 i q hq
    have := u1.1
    rw [gx, gk _ (by omega), gr _ _ (by omega)]
    exact ⟨⟨by omega, u1.2⟩, u2⟩
  · obtain ⟨i, hi⟩ := List.getElem?_of_mem q
    have := ((s.1 L ((il L).mp hL)).2.2.2 i _ hi).1.1
    omega
theorem c_freshW (s : lnS h ls) (c : ClS h b) (hm : zi h 167 b = nI (totL ls b)) (t4 : totL ls b ≤ 480) (room : totL ls b < 480 + (ls (b + 4)).length) : zM l w mX5_freshPacket [.ref b] h (fun u h1 => ∃ p lt, u = some (.ref p) ∧ lnS h1 lt ∧ outL h1 lt p ∧ (p < zx h1 ∧ zk h1 p = 6) ∧ zi h1 167 b = nI (totL lt b + 1) ∧ totL lt b + 1 ≤ 480 ∧ (∀ M, M ≠ b + 4 → lt M = ls M) ∧ (p ∈ ls (b + 4) ∨ p = zx h) ∧ (∀ a, a ∈ lt (b + 4) → a ∈ ls (b + 4)) ∧ FrK b (ownS b ls) h h1 ∧ PkF h h1) := by
  refine zM.of (by decide) (Nat.le_of_ble_eq_true rfl) ?_
  refine g_aload_n 0 dX5_freshPacket_0 rfl rfl ?_
  refine g_getr (f := 166) (b := b + 4) dX5_freshPacket_1 fl_X5_30 c.1.2 rfl c.2.2.2.2.1.1 ?_
  have hbx := c.1.1
  cases e : ls (b + 4) with
  | nil =>
    refine g_invv (M' := mX3_takeFirst) (As := []) (rest := []) dX5_freshPacket_4 ml_X5_118 okX3_takeFirst imX3_takeFirst seX3_takeFirst ⟨(Nat.le_of_ble_eq_true rfl), (Nat.le_of_ble_eq_true rfl)⟩ (ci := 3) rfl rfl c.2.2.2.2.1.2 rfl rfl (Nat.le_of_ble_eq_true rfl) (c_takeNone s c.iS e) ?_
    rintro _ q1 ⟨rfl, e1⟩
    subst q1
    show zG l w mX5_freshPacket 7 [(0, .ref b)] [.null] h _
    rw [e] at room
    simp only [List.length_nil] at room
    refine g_astore_nN (lv2 := [(1, .null), (0, .ref b)]) dX5_freshPacket_7 rfl (by decide) rfl ?_
    refine g_aload_nN 0 dX5_freshPacket_8 rfl rfl ?_
    refine g_ifnonnullN dX5_freshPacket_9 ?_
    refine g_aload_n 1 dX5_freshPacket_12 rfl rfl ?_
    refine g_geti (f := 167) dX5_freshPacket_13 fl_X5_121 c.1.2 (by decide) rfl ?_
    rw [show zi h 167 b = nI (totL ls b) from hm]
    refine g_sipush (v := nI 480) dX5_freshPacket_16 (by decide) ?_
    refine g_zcmp_ge (a := ((totL ls b : Nat) : Int)) (b := 480) (tgt := 40) (jI_nat (totL ls b)).symm (by decide) dX5_freshPacket_19 (by decide) (by omega) (by omega) (fun q => ?_) (fun q => ?_)
    · exact absurd q (by omega)
    · refine g_aload_n 1 dX5_freshPacket_22 rfl rfl ?_
      refine g_dup dX5_freshPacket_23 rfl ?_
      refine g_geti (f := 167) dX5_freshPacket_24 fl_X5_121 c.1.2 (by decide) rfl ?_
      rw [show zi h 167 b = nI (totL ls b) from hm]
      refine g_iconst (v := nI 1) dX5_freshPacket_27 (by decide) ?_
      refine g_iadd dX5_freshPacket_28 ?_
      rw [nI_add (totL ls b) 1]
      refine g_puti (f := 167) dX5_freshPacket_29 fl_X5_121 (Or.inl rfl) c.1.2 rfl ?_
      refine g_new dX5_freshPacket_32 mk_X5_108 rfl ?_
      refine g_dup dX5_freshPacket_35 rfl ?_
      refine g_invn (M' := mX6_init) (As := []) (rest := [.ref (zx h)]) dX5_freshPacket_36 nl_X5_124 okX6_init imX6_init rfl rfl ⟨(Nat.le_of_ble_eq_true rfl), (Nat.le_of_ble_eq_true rfl)⟩ rfl rfl (Nat.le_of_ble_eq_true rfl) c_pkInit ?_
      rintro _ q2 ⟨rfl, e2⟩
      subst q2
      show zG l w mX5_freshPacket 39 [(1, .null), (0, .ref b)] [.ref (zx h)] (zNw (zSi h 167 b (nI (totL ls b + 1))) 6 10) _
      obtain ⟨m1, m2, m3, m4⟩ := lnS.mk (b := b) (S := ownS b ls) (v := nI (totL ls b + 1)) s (by omega) (Or.inl ⟨Nat.le_refl _, by omega⟩) hm rfl (by omega)
      refine g_astore_n (lv2 := [(1, .ref (zx h)), (0, .ref b)]) dX5_freshPacket_39 rfl (by decide) rfl ?_
      refine g_aload_n 0 dX5_freshPacket_40 rfl rfl ?_
      refine g_areturn dX5_freshPacket_41 rfl (Or.inl ⟨_, rfl⟩) (Or.inr ⟨_, rfl⟩) ?_
      refine ⟨zx h, ls, rfl, m1, m2, ⟨by rw [zx_Nw, zx_Si]; exact Nat.lt_succ_self _, by rw [zk_Nw, zx_Si, if_pos rfl]⟩, ?_, by omega, fun _ _ => rfl, Or.inr rfl, fun a q => by rw [e] at q; exact q, m3, m4⟩
      rw [zi_Nw, zx_Si, if_neg (by omega), zi_same]
  | cons p r =>
    refine g_invv (M' := mX3_takeFirst) (As := []) (rest := []) dX5_freshPacket_4 ml_X5_118 okX3_takeFirst imX3_takeFirst seX3_takeFirst ⟨(Nat.le_of_ble_eq_true rfl), (Nat.le_of_ble_eq_true rfl)⟩ (ci := 3) rfl rfl c.2.2.2.2.1.2 rfl rfl (Nat.le_of_ble_eq_true rfl) (c_takeFirst s c.iS e) ?_
    rintro _ y1 ⟨rfl, t1, f1⟩
    show zG l w mX5_freshPacket 7 [(0, .ref b)] [.ref p] y1 _
    obtain ⟨s1, o1, p1⟩ := s.tak f1 c.iS e t1
    have tu := totL_upd (b := b) (ls := ls) (i := 13) (r := r) (by omega)
    rw [lin_spare, e] at tu
    simp only [List.length_cons] at tu
    refine g_astore_n (lv2 := [(1, .ref p), (0, .ref b)]) dX5_freshPacket_7 rfl (by decide) rfl ?_
    refine g_aload_n 0 dX5_freshPacket_8 rfl rfl ?_
    refine g_ifnonnull (tgt := 40) dX5_freshPacket_9 (by decide) ?_
    refine g_aload_n 0 dX5_freshPacket_40 rfl rfl ?_
    refine g_areturn dX5_freshPacket_41 rfl (Or.inl ⟨_, rfl⟩) (Or.inr ⟨_, rfl⟩) ?_
    refine ⟨p, updF ls (b + 4) r, rfl, s1, o1, p1, ?_, by omega, fun M hM => updF_ne hM, Or.inl List.mem_cons_self, fun a q => by rw [updF_eq] at q; exact List.mem_cons_of_mem _ q, FrK.ln f1 ((LnO.tak t1).mono ?_), fun a _ g u v => ⟨f1.2.2.2.2.1 g a (by omega), f1.2.2.2.2.2.1 g a⟩⟩
    · rw [f1.2.2.2.2.1 167 b (by omega), hm]; congr 1; omega
    · rintro a (q | q)
      · subst q; exact Or.inl ⟨by omega, by omega⟩
      · subst q; exact Or.inr ⟨13, by omega, by rw [lin_spare, e]; exact List.mem_cons_self⟩
end CP5
