section CP7
variable {l : Launch} {w : zW} {h y : zH} {P Q : Nat} {S : Nat → Prop} {ls : Nat → List Nat} {b : Nat}
/-- only numbers of cells in S have changed -/
def FrA (S : Nat → Prop) (h y : zH) : Prop := (zx y = zx h ∧ zt y = zt h) ∧ (∀ a, zk y a = zk h a ∧ zn y a = zn h a) ∧ (∀ f a, zr y f a = zr h f a) ∧ (∀ a i, zR y a i = zR h a i) ∧ ∀ a, ¬ S a → (∀ f, zi y f a = zi h f a ∧ zl y f a = zl h f a) ∧ ∀ i, zI y a i = zI h a i ∧ zL y a i = zL h a i
theorem FrA.rf : FrA S h h := ⟨⟨rfl, rfl⟩, fun _ => ⟨rfl, rfl⟩, fun _ _ => rfl, fun _ _ => rfl, fun _ _ => ⟨fun _ => ⟨rfl, rfl⟩, fun _ => ⟨rfl, rfl⟩⟩⟩
theorem FrA.si {f p : Nat} {v : Int32} (F : FrA S h y) (hp : S p) : FrA S h (zSi y f p v) := ⟨F.1, F.2.1, F.2.2.1, F.2.2.2.1, fun a n => ⟨fun g => ⟨by rw [zi_Si, if_neg (fun q => n (by rw [q.2]; exact hp))]; exact ((F.2.2.2.2 a n).1 g).1, ((F.2.2.2.2 a n).1 g).2⟩, (F.2.2.2.2 a n).2⟩⟩
theorem FrA.sl {f p : Nat} {v : Int64} (F : FrA S h y) (hp : S p) : FrA S h (zSl y f p v) := ⟨F.1, F.2.1, F.2.2.1, F.2.2.2.1, fun a n => ⟨fun g => ⟨((F.2.2.2.2 a n).1 g).1, by rw [zl_Sl, if_neg (fun q => n (by rw [q.2]; exact hp))]; exact ((F.2.2.2.2 a n).1 g).2⟩, (F.2.2.2.2 a n).2⟩⟩
theorem FrA.sF {p : Nat} {g : Nat → Int32} (F : FrA S h y) (hp : S p) : FrA S h (zSF y p g) := ⟨F.1, F.2.1, F.2.2.1, F.2.2.2.1, fun a n => ⟨(F.2.2.2.2 a n).1, fun i => ⟨by rw [zI_SF, if_neg (fun q => n (by rw [q]; exact hp))]; exact ((F.2.2.2.2 a n).2 i).1, ((F.2.2.2.2 a n).2 i).2⟩⟩⟩
theorem FrA.tr {T : Nat → Prop} {z : zH} (F : FrA S h y) (G : FrA T y z) (e : ∀ a, T a → S a) : FrA S h z := ⟨⟨G.1.1.trans F.1.1, G.1.2.trans F.1.2⟩, fun a => ⟨(G.2.1 a).1.trans (F.2.1 a).1, (G.2.1 a).2.trans (F.2.1 a).2⟩, fun f a => (G.2.2.1 f a).trans (F.2.2.1 f a), fun a i => (G.2.2.2.1 a i).trans (F.2.2.2.1 a i), fun a n => ⟨fun f => ⟨((G.2.2.2.2 a (fun q => n (e a q))).1 f).1.trans ((F.2.2.2.2 a n).1 f).1, ((G.2.2.2.2 a (fun q => n (e a q))).1 f).2.trans ((F.2.2.2.2 a n).1 f).2⟩, fun i => ⟨((G.2.2.2.2 a (fun q => n (e a q))).2 i).1.trans ((F.2.2.2.2 a n).2 i).1, ((G.2.2.2.2 a (fun q => n (e a q))).2 i).2.trans ((F.2.2.2.2 a n).2 i).2⟩⟩⟩
theorem FrA.of {p : Nat} (F : FrP p h y) (hp : S p) : FrA S h y := ⟨F.1, F.2.1, F.2.2.1, fun a i => (F.2.2.2.1 a i).2.2, fun a n => ⟨fun f => F.2.2.2.2 f a (fun q => n (by rw [q]; exact hp)), fun i => ⟨(F.2.2.2.1 a i).1, (F.2.2.2.1 a i).2.1⟩⟩⟩
theorem ClS.fra (c : ClS h b) (f : FrA S h y) : ClS y b := c.fr (by rw [f.1.1]; exact Nat.le_refl _) (fun a _ _ => ⟨(f.2.1 a).1, (f.2.1 a).2, fun g _ _ _ => f.2.2.1 g a, fun i => f.2.2.2.1 a i⟩)
theorem lnS.fra (s : lnS h ls) (f : FrA S h y) (hS : ∀ a, S a → zk h a ≠ 3) : lnS y ls := by
  obtain ⟨⟨f1, f2⟩, f3, f4, f5, f6⟩ := f
  have il : ∀ L, isL y L ↔ isL h L := fun L => by unfold isL; rw [f1, (f3 L).1]
  refine ⟨fun L hL => ?_, fun L K i j q hL hK => s.2 L K i j q ((il L).mp hL) ((il K).mp hK)⟩
  have hL0 := (il L).mp hL
  obtain ⟨s1, s2, s3, s4⟩ := s.1 L hL0
  refine ⟨(f4 96 L).trans s1, (f4 97 L).trans s2, ((f6 L (fun q => hS L q hL0.2)).1 98).1.trans s3, fun i q hq => ?_⟩
  obtain ⟨u1, u2⟩ := s4 i q hq
  exact ⟨⟨by rw [f1]; exact u1.1, (f3 q).1.trans u1.2⟩, (f4 201 q).trans u2⟩
theorem zI_cp {n i : Nat} (hn : n < 2147483648) (hi : i < n) : zI (zSF y P (va_cpy (zI y Q) (zI y P) (nI 0).toNatClampNeg (nI 0).toNatClampNeg (nI n).toNatClampNeg)) P i = zI y Q i := by
  rw [zI_SF, if_pos rfl]
  unfold va_cpy
  rw [nI_clamp (by omega), nI_clamp hn, if_pos (by omega), Nat.zero_add, Nat.sub_zero]
def LkO (h : zH) (P : Nat) : Prop := zk h P = 4 ∧ (zr h 137 P = some (P + 3) ∧ zk h (P + 3) = 21 ∧ zn h (P + 3) = 6) ∧ (zr h 138 P = some (P + 4) ∧ zk h (P + 4) = 21 ∧ zn h (P + 4) = 6) ∧ (zr h 139 P = some (P + 5) ∧ zk h (P + 5) = 21 ∧ zn h (P + 5) = 6) ∧ zr h 140 P = some (P + 6) ∧ zk h (P + 6) = 7
theorem LkO.fra (s : LkO h P) (f : FrA S h y) : LkO y P := by
  unfold LkO
  rw [f.2.2.1, f.2.2.1, f.2.2.1, f.2.2.1, (f.2.1 _).1, (f.2.1 _).1, (f.2.1 _).1, (f.2.1 _).1, (f.2.1 _).1, (f.2.1 _).2, (f.2.1 _).2, (f.2.1 _).2]
  exact s
def FlO (h : zH) (P : Nat) : Prop := zk h P = 2 ∧ (zr h 64 P = some (P + 1) ∧ zk h (P + 1) = 21 ∧ zn h (P + 1) = 4)
theorem FlO.fra (s : FlO h P) (f : FrA S h y) : FlO y P := by
  unfold FlO
  rw [f.2.2.1, (f.2.1 _).1, (f.2.1 _).1, (f.2.1 _).2]
  exact s
def EvO (h : zH) (P : Nat) : Prop := zk h P = 1 ∧ (zr h 32 P = some (P + 1) ∧ zk h (P + 1) = 21 ∧ zn h (P + 1) = 24) ∧ (zr h 33 P = some (P + 2) ∧ zk h (P + 2) = 21 ∧ zn h (P + 2) = 24) ∧ (zr h 34 P = some (P + 3) ∧ zk h (P + 3) = 21 ∧ zn h (P + 3) = 24) ∧ (zr h 35 P = some (P + 4) ∧ zk h (P + 4) = 21 ∧ zn h (P + 4) = 24)
theorem EvO.fra (s : EvO h P) (f : FrA S h y) : EvO y P := by
  unfold EvO
  rw [f.2.2.1, f.2.2.1, f.2.2.1, f.2.2.1, (f.2.1 _).1, (f.2.1 _).1, (f.2.1 _).1, (f.2.1 _).1, (f.2.1 _).1, (f.2.1 _).2, (f.2.1 _).2, (f.2.1 _).2, (f.2.1 _).2]
  exact s
theorem ClS.lkO (c : ClS h b) {a : Nat} (ha : a < 6) : LkO h (b + 11 + 7 * a) := by
  obtain ⟨t1, t2, t3, t4, t5, t6⟩ := c.2.2.2.2.2.2.2.2.1 a ha
  exact ⟨t2, t5 0 (by omega), t5 1 (by omega), t5 2 (by omega), t6⟩
theorem ClS.flO (c : ClS h b) {a : Nat} (ha : a < 6) : FlO h (b + 53 + 2 * a) := by
  obtain ⟨t1, t2, t3, t4, t5⟩ := c.2.2.2.2.2.2.2.2.2 a ha
  exact ⟨t2, t3, t4, t5⟩
theorem ClS.evO (c : ClS h b) : EvO h (b + 5) := ⟨c.2.2.2.2.2.1.2, c.2.2.2.2.2.2.1 0 (by omega), c.2.2.2.2.2.2.1 1 (by omega), c.2.2.2.2.2.2.1 2 (by omega), c.2.2.2.2.2.2.1 3 (by omega)⟩
theorem c_lkCopy (hP : LkO h P) (hQ : LkO h Q) (n : P + 7 ≤ Q ∨ Q + 7 ≤ P) : zM l w mX4_copyFrom [.ref P, .ref Q] h (fun u h1 => u = none ∧ (zi h1 128 P = zi h 128 Q ∧ zi h1 129 P = zi h 129 Q ∧ zi h1 130 P = zi h 130 Q ∧ zi h1 131 P = zi h 131 Q ∧ zi h1 134 P = zi h 134 Q ∧ zi h1 135 P = zi h 135 Q ∧ zi h1 141 P = zi h 141 Q ∧ zi h1 142 P = zi h 142 Q ∧ zi h1 143 P = zi h 143 Q ∧ zi h1 144 P = zi h 144 Q) ∧ zl h1 136 P = zl h 136 Q ∧ (∀ f, 224 ≤ f → f < 230 → zl h1 f (P + 6) = zl h f (Q + 6)) ∧ ((∀ i, i < 6 → zI h1 (P + 3) i = zI h (Q + 3) i) ∧ (∀ i, i < 6 → zI h1 (P + 4) i = zI h (Q + 4) i) ∧ (∀ i, i < 6 → zI h1 (P + 5) i = zI h (Q + 5) i)) ∧ FrA (fun a => a = P ∨ P + 3 ≤ a ∧ a ≤ P + 6) h h1) := by
  refine zM.of (by decide) (Nat.le_of_ble_eq_true rfl) ?_
  have F0 : FrA (fun a => a = P ∨ P + 3 ≤ a ∧ a ≤ P + 6) h h := FrA.rf
  have oP0 := hP
  have oQ0 := hQ
  refine g_aload_n 0 dX4_copyFrom_0 rfl rfl ?_
  refine g_aload_n 1 dX4_copyFrom_1 rfl rfl ?_
  refine g_geti (f := 128) dX4_copyFrom_2 fl_X4_38 oQ0.1 (by decide) rfl ?_
  rw [show zi h 128 Q = zi h 128 Q from ((F0.2.2.2.2 Q (by omega)).1 128).1]
  refine g_puti (f := 128) dX4_copyFrom_5 fl_X4_38 (Or.inl rfl) oP0.1 rfl ?_
  have F1 : FrA (fun a => a = P ∨ P + 3 ≤ a ∧ a ≤ P + 6) h (zSi h 128 P (zi h 128 Q)) := FrA.si F0 (by omega)
  have a128 : zi (zSi h 128 P (zi h 128 Q)) 128 P = zi h 128 Q := (by rw [zi_Si, if_pos ⟨rfl, rfl⟩])
  have oP1 := hP.fra F1
  have oQ1 := hQ.fra F1
  generalize zSi h 128 P (zi h 128 Q) = y1 at F1 oP1 oQ1 a128 ⊢
  refine g_aload_n 0 dX4_copyFrom_8 rfl rfl ?_
  refine g_aload_n 1 dX4_copyFrom_9 rfl rfl ?_
  refine g_geti (f := 129) dX4_copyFrom_10 fl_X4_63 oQ1.1 (by decide) rfl ?_
  rw [show zi y1 129 Q = zi h 129 Q from ((F1.2.2.2.2 Q (by omega)).1 129).1]
  refine g_puti (f := 129) dX4_copyFrom_13 fl_X4_63 (Or.inl rfl) oP1.1 rfl ?_
  have F2 : FrA (fun a => a = P ∨ P + 3 ≤ a ∧ a ≤ P + 6) h (zSi y1 129 P (zi h 129 Q)) := FrA.si F1 (by omega)
  have a128 : zi (zSi y1 129 P (zi h 129 Q)) 128 P = zi h 128 Q := (by rw [zi_Si, if_neg (by omega)]; exact a128)
  have a129 : zi (zSi y1 129 P (zi h 129 Q)) 129 P = zi h 129 Q := (by rw [zi_Si, if_pos ⟨rfl, rfl⟩])
  have oP2 := hP.fra F2
  have oQ2 := hQ.fra F2
  generalize zSi y1 129 P (zi h 129 Q) = y2 at F2 oP2 oQ2 a128 a129 ⊢
  refine g_aload_n 0 dX4_copyFrom_16 rfl rfl ?_
  refine g_aload_n 1 dX4_copyFrom_17 rfl rfl ?_
  refine g_geti (f := 130) dX4_copyFrom_18 fl_X4_42 oQ2.1 (by decide) rfl ?_
  rw [show zi y2 130 Q = zi h 130 Q from ((F2.2.2.2.2 Q (by omega)).1 130).1]
  refine g_puti (f := 130) dX4_copyFrom_21 fl_X4_42 (Or.inl rfl) oP2.1 rfl ?_
  have F3 : FrA (fun a => a = P ∨ P + 3 ≤ a ∧ a ≤ P + 6) h (zSi y2 130 P (zi h 130 Q)) := FrA.si F2 (by omega)
  have a128 : zi (zSi y2 130 P (zi h 130 Q)) 128 P = zi h 128 Q := (by rw [zi_Si, if_neg (by omega)]; exact a128)
  have a129 : zi (zSi y2 130 P (zi h 130 Q)) 129 P = zi h 129 Q := (by rw [zi_Si, if_neg (by omega)]; exact a129)
  have a130 : zi (zSi y2 130 P (zi h 130 Q)) 130 P = zi h 130 Q := (by rw [zi_Si, if_pos ⟨rfl, rfl⟩])
  have oP3 := hP.fra F3
  have oQ3 := hQ.fra F3
  generalize zSi y2 130 P (zi h 130 Q) = y3 at F3 oP3 oQ3 a128 a129 a130 ⊢
  refine g_aload_n 0 dX4_copyFrom_24 rfl rfl ?_
  refine g_aload_n 1 dX4_copyFrom_25 rfl rfl ?_
  refine g_geti (f := 131) dX4_copyFrom_26 fl_X4_45 oQ3.1 (by decide) rfl ?_
  rw [show zi y3 131 Q = zi h 131 Q from ((F3.2.2.2.2 Q (by omega)).1 131).1]
  refine g_puti (f := 131) dX4_copyFrom_29 fl_X4_45 (Or.inl rfl) oP3.1 rfl ?_
  have F4 : FrA (fun a => a = P ∨ P + 3 ≤ a ∧ a ≤ P + 6) h (zSi y3 131 P (zi h 131 Q)) := FrA.si F3 (by omega)
  have a128 : zi (zSi y3 131 P (zi h 131 Q)) 128 P = zi h 128 Q := (by rw [zi_Si, if_neg (by omega)]; exact a128)
  have a129 : zi (zSi y3 131 P (zi h 131 Q)) 129 P = zi h 129 Q := (by rw [zi_Si, if_neg (by omega)]; exact a129)
  have a130 : zi (zSi y3 131 P (zi h 131 Q)) 130 P = zi h 130 Q := (by rw [zi_Si, if_neg (by omega)]; exact a130)
  have a131 : zi (zSi y3 131 P (zi h 131 Q)) 131 P = zi h 131 Q := (by rw [zi_Si, if_pos ⟨rfl, rfl⟩])
  have oP4 := hP.fra F4
  have oQ4 := hQ.fra F4
  generalize zSi y3 131 P (zi h 131 Q) = y4 at F4 oP4 oQ4 a128 a129 a130 a131 ⊢
  refine g_aload_n 0 dX4_copyFrom_32 rfl rfl ?_
  refine g_aload_n 1 dX4_copyFrom_33 rfl rfl ?_
  refine g_geti (f := 134) dX4_copyFrom_34 fl_X4_66 oQ4.1 (by decide) rfl ?_
  rw [show zi y4 134 Q = zi h 134 Q from ((F4.2.2.2.2 Q (by omega)).1 134).1]
  refine g_puti (f := 134) dX4_copyFrom_37 fl_X4_66 (Or.inl rfl) oP4.1 rfl ?_
  have F5 : FrA (fun a => a = P ∨ P + 3 ≤ a ∧ a ≤ P + 6) h (zSi y4 134 P (zi h 134 Q)) := FrA.si F4 (by omega)
  have a128 : zi (zSi y4 134 P (zi h 134 Q)) 128 P = zi h 128 Q := (by rw [zi_Si, if_neg (by omega)]; exact a128)
  have a129 : zi (zSi y4 134 P (zi h 134 Q)) 129 P = zi h 129 Q := (by rw [zi_Si, if_neg (by omega)]; exact a129)
  have a130 : zi (zSi y4 134 P (zi h 134 Q)) 130 P = zi h 130 Q := (by rw [zi_Si, if_neg (by omega)]; exact a130)
  have a131 : zi (zSi y4 134 P (zi h 134 Q)) 131 P = zi h 131 Q := (by rw [zi_Si, if_neg (by omega)]; exact a131)
  have a134 : zi (zSi y4 134 P (zi h 134 Q)) 134 P = zi h 134 Q := (by rw [zi_Si, if_pos ⟨rfl, rfl⟩])
  have oP5 := hP.fra F5
  have oQ5 := hQ.fra F5
  generalize zSi y4 134 P (zi h 134 Q) = y5 at F5 oP5 oQ5 a128 a129 a130 a131 a134 ⊢
  refine g_aload_n 0 dX4_copyFrom_40 rfl rfl ?_
  refine g_aload_n 1 dX4_copyFrom_41 rfl rfl ?_
  refine g_geti (f := 135) dX4_copyFrom_42 fl_X4_69 oQ5.1 (by decide) rfl ?_
  rw [show zi y5 135 Q = zi h 135 Q from ((F5.2.2.2.2 Q (by omega)).1 135).1]
  refine g_puti (f := 135) dX4_copyFrom_45 fl_X4_69 (Or.inl rfl) oP5.1 rfl ?_
  have F6 : FrA (fun a => a = P ∨ P + 3 ≤ a ∧ a ≤ P + 6) h (zSi y5 135 P (zi h 135 Q)) := FrA.si F5 (by omega)
  have a128 : zi (zSi y5 135 P (zi h 135 Q)) 128 P = zi h 128 Q := (by rw [zi_Si, if_neg (by omega)]; exact a128)
  have a129 : zi (zSi y5 135 P (zi h 135 Q)) 129 P = zi h 129 Q := (by rw [zi_Si, if_neg (by omega)]; exact a129)
  have a130 : zi (zSi y5 135 P (zi h 135 Q)) 130 P = zi h 130 Q := (by rw [zi_Si, if_neg (by omega)]; exact a130)
  have a131 : zi (zSi y5 135 P (zi h 135 Q)) 131 P = zi h 131 Q := (by rw [zi_Si, if_neg (by omega)]; exact a131)
  have a134 : zi (zSi y5 135 P (zi h 135 Q)) 134 P = zi h 134 Q := (by rw [zi_Si, if_neg (by omega)]; exact a134)
  have a135 : zi (zSi y5 135 P (zi h 135 Q)) 135 P = zi h 135 Q := (by rw [zi_Si, if_pos ⟨rfl, rfl⟩])
  have oP6 := hP.fra F6
  have oQ6 := hQ.fra F6
  generalize zSi y5 135 P (zi h 135 Q) = y6 at F6 oP6 oQ6 a128 a129 a130 a131 a134 a135 ⊢
  refine g_aload_n 0 dX4_copyFrom_48 rfl rfl ?_
  refine g_aload_n 1 dX4_copyFrom_49 rfl rfl ?_
  refine g_getl (f := 136) dX4_copyFrom_50 fl_X4_72 oQ6.1 rfl ?_
  rw [show zl y6 136 Q = zl h 136 Q from ((F6.2.2.2.2 Q (by omega)).1 136).2]
  refine g_putl (f := 136) dX4_copyFrom_53 fl_X4_72 (Or.inl rfl) oP6.1 rfl ?_
  have F7 : FrA (fun a => a = P ∨ P + 3 ≤ a ∧ a ≤ P + 6) h (zSl y6 136 P (zl h 136 Q)) := FrA.sl F6 (by omega)
  have a128 : zi (zSl y6 136 P (zl h 136 Q)) 128 P = zi h 128 Q := a128
  have a129 : zi (zSl y6 136 P (zl h 136 Q)) 129 P = zi h 129 Q := a129
  have a130 : zi (zSl y6 136 P (zl h 136 Q)) 130 P = zi h 130 Q := a130
  have a131 : zi (zSl y6 136 P (zl h 136 Q)) 131 P = zi h 131 Q := a131
  have a134 : zi (zSl y6 136 P (zl h 136 Q)) 134 P = zi h 134 Q := a134
  have a135 : zi (zSl y6 136 P (zl h 136 Q)) 135 P = zi h 135 Q := a135
  have a136 : zl (zSl y6 136 P (zl h 136 Q)) 136 P = zl h 136 Q := (by rw [zl_Sl, if_pos ⟨rfl, rfl⟩])
  have oP7 := hP.fra F7
  have oQ7 := hQ.fra F7
  generalize zSl y6 136 P (zl h 136 Q) = y7 at F7 oP7 oQ7 a128 a129 a130 a131 a134 a135 a136 ⊢
  refine g_aload_n 1 dX4_copyFrom_56 rfl rfl ?_
  refine g_getr (f := 137) (b := Q + 3) dX4_copyFrom_57 fl_X4_21 oQ7.1 rfl (oQ7.2.1).1 ?_
  refine g_iconst (v := nI 0) dX4_copyFrom_60 (by decide) ?_
  refine g_aload_n 0 dX4_copyFrom_61 rfl rfl ?_
  refine g_getr (f := 137) (b := P + 3) dX4_copyFrom_62 fl_X4_21 oP7.1 rfl (oP7.2.1).1 ?_
  refine g_iconst (v := nI 0) dX4_copyFrom_65 (by decide) ?_
  refine g_bipush (v := nI 6) dX4_copyFrom_66 (by decide) ?_
  refine g_copyi (a0 := Q + 3) (a1 := P + 3) (sp := nI 0) (dp := nI 0) (n := nI 6) dX4_copyFrom_68 ml_X4_76 ac_n ac_s ac_i (oQ7.2.1).2.1 (oP7.2.1).2.1 (by decide) (by decide) (by decide) (by rw [(oQ7.2.1).2.2]; decide) (by rw [(oP7.2.1).2.2]; decide) (Nat.le_of_ble_eq_true rfl) (Nat.le_of_ble_eq_true rfl) ?_
  show zG l w mX4_copyFrom 71 [(0, .ref P), (1, .ref Q)] [] (zSF y7 (P + 3) (va_cpy (zI y7 (Q + 3)) (zI y7 (P + 3)) (nI 0).toNatClampNeg (nI 0).toNatClampNeg (nI 6).toNatClampNeg)) _
  have F8 : FrA (fun a => a = P ∨ P + 3 ≤ a ∧ a ≤ P + 6) h (zSF y7 (P + 3) (va_cpy (zI y7 (Q + 3)) (zI y7 (P + 3)) (nI 0).toNatClampNeg (nI 0).toNatClampNeg (nI 6).toNatClampNeg)) := FrA.sF F7 (by omega)
  have a128 : zi (zSF y7 (P + 3) (va_cpy (zI y7 (Q + 3)) (zI y7 (P + 3)) (nI 0).toNatClampNeg (nI 0).toNatClampNeg (nI 6).toNatClampNeg)) 128 P = zi h 128 Q := a128
  have a129 : zi (zSF y7 (P + 3) (va_cpy (zI y7 (Q + 3)) (zI y7 (P + 3)) (nI 0).toNatClampNeg (nI 0).toNatClampNeg (nI 6).toNatClampNeg)) 129 P = zi h 129 Q := a129
  have a130 : zi (zSF y7 (P + 3) (va_cpy (zI y7 (Q + 3)) (zI y7 (P + 3)) (nI 0).toNatClampNeg (nI 0).toNatClampNeg (nI 6).toNatClampNeg)) 130 P = zi h 130 Q := a130
  have a131 : zi (zSF y7 (P + 3) (va_cpy (zI y7 (Q + 3)) (zI y7 (P + 3)) (nI 0).toNatClampNeg (nI 0).toNatClampNeg (nI 6).toNatClampNeg)) 131 P = zi h 131 Q := a131
  have a134 : zi (zSF y7 (P + 3) (va_cpy (zI y7 (Q + 3)) (zI y7 (P + 3)) (nI 0).toNatClampNeg (nI 0).toNatClampNeg (nI 6).toNatClampNeg)) 134 P = zi h 134 Q := a134
  have a135 : zi (zSF y7 (P + 3) (va_cpy (zI y7 (Q + 3)) (zI y7 (P + 3)) (nI 0).toNatClampNeg (nI 0).toNatClampNeg (nI 6).toNatClampNeg)) 135 P = zi h 135 Q := a135
  have a136 : zl (zSF y7 (P + 3) (va_cpy (zI y7 (Q + 3)) (zI y7 (P + 3)) (nI 0).toNatClampNeg (nI 0).toNatClampNeg (nI 6).toNatClampNeg)) 136 P = zl h 136 Q := a136
  have r3 : ∀ i, i < 6 → zI (zSF y7 (P + 3) (va_cpy (zI y7 (Q + 3)) (zI y7 (P + 3)) (nI 0).toNatClampNeg (nI 0).toNatClampNeg (nI 6).toNatClampNeg)) (P + 3) i = zI h (Q + 3) i := (fun i hi => (zI_cp (by omega) hi).trans ((F7.2.2.2.2 (Q + 3) (by omega)).2 i).1)
  have oP8 := hP.fra F8
  have oQ8 := hQ.fra F8
  generalize zSF y7 (P + 3) (va_cpy (zI y7 (Q + 3)) (zI y7 (P + 3)) (nI 0).toNatClampNeg (nI 0).toNatClampNeg (nI 6).toNatClampNeg) = y8 at F8 oP8 oQ8 a128 a129 a130 a131 a134 a135 a136 r3 ⊢
  refine g_aload_n 1 dX4_copyFrom_71 rfl rfl ?_
  refine g_getr (f := 138) (b := Q + 4) dX4_copyFrom_72 fl_X4_25 oQ8.1 rfl (oQ8.2.2.1).1 ?_
  refine g_iconst (v := nI 0) dX4_copyFrom_75 (by decide) ?_
  refine g_aload_n 0 dX4_copyFrom_76 rfl rfl ?_
  refine g_getr (f := 138) (b := P + 4) dX4_copyFrom_77 fl_X4_25 oP8.1 rfl (oP8.2.2.1).1 ?_
  refine g_iconst (v := nI 0) dX4_copyFrom_80 (by decide) ?_
  refine g_bipush (v := nI 6) dX4_copyFrom_81 (by decide) ?_
  refine g_copyi (a0 := Q + 4) (a1 := P + 4) (sp := nI 0) (dp := nI 0) (n := nI 6) dX4_copyFrom_83 ml_X4_76 ac_n ac_s ac_i (oQ8.2.2.1).2.1 (oP8.2.2.1).2.1 (by decide) (by decide) (by decide) (by rw [(oQ8.2.2.1).2.2]; decide) (by rw [(oP8.2.2.1).2.2]; decide) (Nat.le_of_ble_eq_true rfl) (Nat.le_of_ble_eq_true rfl) ?_
  show zG l w mX4_copyFrom 86 [(0, .ref P), (1, .ref Q)] [] (zSF y8 (P + 4) (va_cpy (zI y8 (Q + 4)) (zI y8 (P + 4)) (nI 0).toNatClampNeg (nI 0).toNatClampNeg (nI 6).toNatClampNeg)) _
  have F9 : FrA (fun a => a = P ∨ P + 3 ≤ a ∧ a ≤ P + 6) h (zSF y8 (P + 4) (va_cpy (zI y8 (Q + 4)) (zI y8 (P + 4)) (nI 0).toNatClampNeg (nI 0).toNatClampNeg (nI 6).toNatClampNeg)) := FrA.sF F8 (by omega)
  have a128 : zi (zSF y8 (P + 4) (va_cpy (zI y8 (Q + 4)) (zI y8 (P + 4)) (nI 0).toNatClampNeg (nI 0).toNatClampNeg (nI 6).toNatClampNeg)) 128 P = zi h 128 Q := a128
  have a129 : zi (zSF y8 (P + 4) (va_cpy (zI y8 (Q + 4)) (zI y8 (P + 4)) (nI 0).toNatClampNeg (nI 0).toNatClampNeg (nI 6).toNatClampNeg)) 129 P = zi h 129 Q := a129
  have a130 : zi (zSF y8 (P + 4) (va_cpy (zI y8 (Q + 4)) (zI y8 (P + 4)) (nI 0).toNatClampNeg (nI 0).toNatClampNeg (nI 6).toNatClampNeg)) 130 P = zi h 130 Q := a130
  have a131 : zi (zSF y8 (P + 4) (va_cpy (zI y8 (Q + 4)) (zI y8 (P + 4)) (nI 0).toNatClampNeg (nI 0).toNatClampNeg (nI 6).toNatClampNeg)) 131 P = zi h 131 Q := a131
  have a134 : zi (zSF y8 (P + 4) (va_cpy (zI y8 (Q + 4)) (zI y8 (P + 4)) (nI 0).toNatClampNeg (nI 0).toNatClampNeg (nI 6).toNatClampNeg)) 134 P = zi h 134 Q := a134
  have a135 : zi (zSF y8 (P + 4) (va_cpy (zI y8 (Q + 4)) (zI y8 (P + 4)) (nI 0).toNatClampNeg (nI 0).toNatClampNeg (nI 6).toNatClampNeg)) 135 P = zi h 135 Q := a135
  have a136 : zl (zSF y8 (P + 4) (va_cpy (zI y8 (Q + 4)) (zI y8 (P + 4)) (nI 0).toNatClampNeg (nI 0).toNatClampNeg (nI 6).toNatClampNeg)) 136 P = zl h 136 Q := a136
  have r3 : ∀ i, i < 6 → zI (zSF y8 (P + 4) (va_cpy (zI y8 (Q + 4)) (zI y8 (P + 4)) (nI 0).toNatClampNeg (nI 0).toNatClampNeg (nI 6).toNatClampNeg)) (P + 3) i = zI h (Q + 3) i := (fun i hi => by rw [zI_SF, if_neg (by omega)]; exact r3 i hi)
  have r4 : ∀ i, i < 6 → zI (zSF y8 (P + 4) (va_cpy (zI y8 (Q + 4)) (zI y8 (P + 4)) (nI 0).toNatClampNeg (nI 0).toNatClampNeg (nI 6).toNatClampNeg)) (P + 4) i = zI h (Q + 4) i := (fun i hi => (zI_cp (by omega) hi).trans ((F8.2.2.2.2 (Q + 4) (by omega)).2 i).1)
  have oP9 := hP.fra F9
  have oQ9 := hQ.fra F9
  generalize zSF y8 (P + 4) (va_cpy (zI y8 (Q + 4)) (zI y8 (P + 4)) (nI 0).toNatClampNeg (nI 0).toNatClampNeg (nI 6).toNatClampNeg) = y9 at F9 oP9 oQ9 a128 a129 a130 a131 a134 a135 a136 r3 r4 ⊢
  refine g_aload_n 1 dX4_copyFrom_86 rfl rfl ?_
  refine g_getr (f := 139) (b := Q + 5) dX4_copyFrom_87 fl_X4_28 oQ9.1 rfl (oQ9.2.2.2.1).1 ?_
  refine g_iconst (v := nI 0) dX4_copyFrom_90 (by decide) ?_
  refine g_aload_n 0 dX4_copyFrom_91 rfl rfl ?_
  refine g_getr (f := 139) (b := P + 5) dX4_copyFrom_92 fl_X4_28 oP9.1 rfl (oP9.2.2.2.1).1 ?_
  refine g_iconst (v := nI 0) dX4_copyFrom_95 (by decide) ?_
  refine g_bipush (v := nI 6) dX4_copyFrom_96 (by decide) ?_
  refine g_copyi (a0 := Q + 5) (a1 := P + 5) (sp := nI 0) (dp := nI 0) (n := nI 6) dX4_copyFrom_98 ml_X4_76 ac_n ac_s ac_i (oQ9.2.2.2.1).2.1 (oP9.2.2.2.1).2.1 (by decide) (by decide) (by decide) (by rw [(oQ9.2.2.2.1).2.2]; decide) (by rw [(oP9.2.2.2.1).2.2]; decide) (Nat.le_of_ble_eq_true rfl) (Nat.le_of_ble_eq_true rfl) ?_
  show zG l w mX4_copyFrom 101 [(0, .ref P), (1, .ref Q)] [] (zSF y9 (P + 5) (va_cpy (zI y9 (Q + 5)) (zI y9 (P + 5)) (nI 0).toNatClampNeg (nI 0).toNatClampNeg (nI 6).toNatClampNeg)) _
  have F10 : FrA (fun a => a = P ∨ P + 3 ≤ a ∧ a ≤ P + 6) h (zSF y9 (P + 5) (va_cpy (zI y9 (Q + 5)) (zI y9 (P + 5)) (nI 0).toNatClampNeg (nI 0).toNatClampNeg (nI 6).toNatClampNeg)) := FrA.sF F9 (by omega)
  have a128 : zi (zSF y9 (P + 5) (va_cpy (zI y9 (Q + 5)) (zI y9 (P + 5)) (nI 0).toNatClampNeg (nI 0).toNatClampNeg (nI 6).toNatClampNeg)) 128 P = zi h 128 Q := a128
  have a129 : zi (zSF y9 (P + 5) (va_cpy (zI y9 (Q + 5)) (zI y9 (P + 5)) (nI 0).toNatClampNeg (nI 0).toNatClampNeg (nI 6).toNatClampNeg)) 129 P = zi h 129 Q := a129
  have a130 : zi (zSF y9 (P + 5) (va_cpy (zI y9 (Q + 5)) (zI y9 (P + 5)) (nI 0).toNatClampNeg (nI 0).toNatClampNeg (nI 6).toNatClampNeg)) 130 P = zi h 130 Q := a130
  have a131 : zi (zSF y9 (P + 5) (va_cpy (zI y9 (Q + 5)) (zI y9 (P + 5)) (nI 0).toNatClampNeg (nI 0).toNatClampNeg (nI 6).toNatClampNeg)) 131 P = zi h 131 Q := a131
  have a134 : zi (zSF y9 (P + 5) (va_cpy (zI y9 (Q + 5)) (zI y9 (P + 5)) (nI 0).toNatClampNeg (nI 0).toNatClampNeg (nI 6).toNatClampNeg)) 134 P = zi h 134 Q := a134
  have a135 : zi (zSF y9 (P + 5) (va_cpy (zI y9 (Q + 5)) (zI y9 (P + 5)) (nI 0).toNatClampNeg (nI 0).toNatClampNeg (nI 6).toNatClampNeg)) 135 P = zi h 135 Q := a135
  have a136 : zl (zSF y9 (P + 5) (va_cpy (zI y9 (Q + 5)) (zI y9 (P + 5)) (nI 0).toNatClampNeg (nI 0).toNatClampNeg (nI 6).toNatClampNeg)) 136 P = zl h 136 Q := a136
  have r3 : ∀ i, i < 6 → zI (zSF y9 (P + 5) (va_cpy (zI y9 (Q + 5)) (zI y9 (P + 5)) (nI 0).toNatClampNeg (nI 0).toNatClampNeg (nI 6).toNatClampNeg)) (P + 3) i = zI h (Q + 3) i := (fun i hi => by rw [zI_SF, if_neg (by omega)]; exact r3 i hi)
  have r4 : ∀ i, i < 6 → zI (zSF y9 (P + 5) (va_cpy (zI y9 (Q + 5)) (zI y9 (P + 5)) (nI 0).toNatClampNeg (nI 0).toNatClampNeg (nI 6).toNatClampNeg)) (P + 4) i = zI h (Q + 4) i := (fun i hi => by rw [zI_SF, if_neg (by omega)]; exact r4 i hi)
  have r5 : ∀ i, i < 6 → zI (zSF y9 (P + 5) (va_cpy (zI y9 (Q + 5)) (zI y9 (P + 5)) (nI 0).toNatClampNeg (nI 0).toNatClampNeg (nI 6).toNatClampNeg)) (P + 5) i = zI h (Q + 5) i := (fun i hi => (zI_cp (by omega) hi).trans ((F9.2.2.2.2 (Q + 5) (by omega)).2 i).1)
  have oP10 := hP.fra F10
  have oQ10 := hQ.fra F10
  generalize zSF y9 (P + 5) (va_cpy (zI y9 (Q + 5)) (zI y9 (P + 5)) (nI 0).toNatClampNeg (nI 0).toNatClampNeg (nI 6).toNatClampNeg) = y10 at F10 oP10 oQ10 a128 a129 a130 a131 a134 a135 a136 r3 r4 r5 ⊢
  refine g_aload_n 0 dX4_copyFrom_101 rfl rfl ?_
  refine g_getr (f := 140) (b := P + 6) dX4_copyFrom_102 fl_X4_34 oP10.1 rfl oP10.2.2.2.2.1 ?_
  refine g_aload_n 1 dX4_copyFrom_105 rfl rfl ?_
  refine g_getr (f := 140) (b := Q + 6) dX4_copyFrom_106 fl_X4_34 oQ10.1 rfl oQ10.2.2.2.2.1 ?_
  refine g_invv (M' := mX7_copyFrom) (As := [.ref (Q + 6)]) (rest := []) dX4_copyFrom_109 ml_X4_82 okX7_copyFrom imX7_copyFrom seX7_copyFrom ⟨(Nat.le_of_ble_eq_true rfl), (Nat.le_of_ble_eq_true rfl)⟩ (ci := 7) rfl rfl oP10.2.2.2.2.2 rfl rfl (Nat.le_of_ble_eq_true rfl) (c_suCopy oP10.2.2.2.2.2 oQ10.2.2.2.2.2 (by omega)) ?_
  rintro _ ya ⟨rfl, su, G⟩
  show zG l w mX4_copyFrom 112 [(0, .ref P), (1, .ref Q)] [] ya _
  have F11 : FrA (fun a => a = P ∨ P + 3 ≤ a ∧ a ≤ P + 6) h ya := F10.tr (FrA.of (S := (fun a => a = P ∨ P + 3 ≤ a ∧ a ≤ P + 6)) G (by omega)) (fun _ q => q)
  have a128 : zi ya 128 P = zi h 128 Q := ((G.2.2.2.2 128 P (by omega)).1.trans a128)
  have a129 : zi ya 129 P = zi h 129 Q := ((G.2.2.2.2 129 P (by omega)).1.trans a129)
  have a130 : zi ya 130 P = zi h 130 Q := ((G.2.2.2.2 130 P (by omega)).1.trans a130)
  have a131 : zi ya 131 P = zi h 131 Q := ((G.2.2.2.2 131 P (by omega)).1.trans a131)
  have a134 : zi ya 134 P = zi h 134 Q := ((G.2.2.2.2 134 P (by omega)).1.trans a134)
  have a135 : zi ya 135 P = zi h 135 Q := ((G.2.2.2.2 135 P (by omega)).1.trans a135)
  have a136 : zl ya 136 P = zl h 136 Q := ((G.2.2.2.2 136 P (by omega)).2.trans a136)
  have r3 : ∀ i, i < 6 → zI ya (P + 3) i = zI h (Q + 3) i := (fun i hi => (G.2.2.2.1 _ i).1.trans (r3 i hi))
  have r4 : ∀ i, i < 6 → zI ya (P + 4) i = zI h (Q + 4) i := (fun i hi => (G.2.2.2.1 _ i).1.trans (r4 i hi))
  have r5 : ∀ i, i < 6 → zI ya (P + 5) i = zI h (Q + 5) i := (fun i hi => (G.2.2.2.1 _ i).1.trans (r5 i hi))
  have su : ∀ f, 224 ≤ f → f < 230 → zl ya f (P + 6) = zl h f (Q + 6) := fun f f1 f2 => (su f f1 f2).trans ((F10.2.2.2.2 (Q + 6) (by omega)).1 f).2
  have oP11 := hP.fra F11
  have oQ11 := hQ.fra F11
  refine g_aload_n 0 dX4_copyFrom_112 rfl rfl ?_
  refine g_aload_n 1 dX4_copyFrom_113 rfl rfl ?_
  refine g_geti (f := 141) dX4_copyFrom_114 fl_X4_51 oQ11.1 (by decide) rfl ?_
  rw [show zi ya 141 Q = zi h 141 Q from ((F11.2.2.2.2 Q (by omega)).1 141).1]
  refine g_puti (f := 141) dX4_copyFrom_117 fl_X4_51 (Or.inl rfl) oP11.1 rfl ?_
  have F12 : FrA (fun a => a = P ∨ P + 3 ≤ a ∧ a ≤ P + 6) h (zSi ya 141 P (zi h 141 Q)) := FrA.si F11 (by omega)
  have a128 : zi (zSi ya 141 P (zi h 141 Q)) 128 P = zi h 128 Q := (by rw [zi_Si, if_neg (by omega)]; exact a128)
  have a129 : zi (zSi ya 141 P (zi h 141 Q)) 129 P = zi h 129 Q := (by rw [zi_Si, if_neg (by omega)]; exact a129)
  have a130 : zi (zSi ya 141 P (zi h 141 Q)) 130 P = zi h 130 Q := (by rw [zi_Si, if_neg (by omega)]; exact a130)
  have a131 : zi (zSi ya 141 P (zi h 141 Q)) 131 P = zi h 131 Q := (by rw [zi_Si, if_neg (by omega)]; exact a131)
  have a134 : zi (zSi ya 141 P (zi h 141 Q)) 134 P = zi h 134 Q := (by rw [zi_Si, if_neg (by omega)]; exact a134)
  have a135 : zi (zSi ya 141 P (zi h 141 Q)) 135 P = zi h 135 Q := (by rw [zi_Si, if_neg (by omega)]; exact a135)
  have a136 : zl (zSi ya 141 P (zi h 141 Q)) 136 P = zl h 136 Q := a136
  have r3 : ∀ i, i < 6 → zI (zSi ya 141 P (zi h 141 Q)) (P + 3) i = zI h (Q + 3) i := r3
  have r4 : ∀ i, i < 6 → zI (zSi ya 141 P (zi h 141 Q)) (P + 4) i = zI h (Q + 4) i := r4
  have r5 : ∀ i, i < 6 → zI (zSi ya 141 P (zi h 141 Q)) (P + 5) i = zI h (Q + 5) i := r5
  have su : ∀ f, 224 ≤ f → f < 230 → zl (zSi ya 141 P (zi h 141 Q)) f (P + 6) = zl h f (Q + 6) := su
  have a141 : zi (zSi ya 141 P (zi h 141 Q)) 141 P = zi h 141 Q := (by rw [zi_Si, if_pos ⟨rfl, rfl⟩])
  have oP12 := hP.fra F12
  have oQ12 := hQ.fra F12
  generalize zSi ya 141 P (zi h 141 Q) = y12 at F12 oP12 oQ12 a128 a129 a130 a131 a134 a135 a136 r3 r4 r5 su a141 ⊢
  refine g_aload_n 0 dX4_copyFrom_120 rfl rfl ?_
  refine g_aload_n 1 dX4_copyFrom_121 rfl rfl ?_
  refine g_geti (f := 142) dX4_copyFrom_122 fl_X4_54 oQ12.1 (by decide) rfl ?_
  rw [show zi y12 142 Q = zi h 142 Q from ((F12.2.2.2.2 Q (by omega)).1 142).1]
  refine g_puti (f := 142) dX4_copyFrom_125 fl_X4_54 (Or.inl rfl) oP12.1 rfl ?_
  have F13 : FrA (fun a => a = P ∨ P + 3 ≤ a ∧ a ≤ P + 6) h (zSi y12 142 P (zi h 142 Q)) := FrA.si F12 (by omega)
  have a128 : zi (zSi y12 142 P (zi h 142 Q)) 128 P = zi h 128 Q := (by rw [zi_Si, if_neg (by omega)]; exact a128)
  have a129 : zi (zSi y12 142 P (zi h 142 Q)) 129 P = zi h 129 Q := (by rw [zi_Si, if_neg (by omega)]; exact a129)
  have a130 : zi (zSi y12 142 P (zi h 142 Q)) 130 P = zi h 130 Q := (by rw [zi_Si, if_neg (by omega)]; exact a130)
  have a131 : zi (zSi y12 142 P (zi h 142 Q)) 131 P = zi h 131 Q := (by rw [zi_Si, if_neg (by omega)]; exact a131)
  have a134 : zi (zSi y12 142 P (zi h 142 Q)) 134 P = zi h 134 Q := (by rw [zi_Si, if_neg (by omega)]; exact a134)
  have a135 : zi (zSi y12 142 P (zi h 142 Q)) 135 P = zi h 135 Q := (by rw [zi_Si, if_neg (by omega)]; exact a135)
  have a136 : zl (zSi y12 142 P (zi h 142 Q)) 136 P = zl h 136 Q := a136
  have r3 : ∀ i, i < 6 → zI (zSi y12 142 P (zi h 142 Q)) (P + 3) i = zI h (Q + 3) i := r3
  have r4 : ∀ i, i < 6 → zI (zSi y12 142 P (zi h 142 Q)) (P + 4) i = zI h (Q + 4) i := r4
  have r5 : ∀ i, i < 6 → zI (zSi y12 142 P (zi h 142 Q)) (P + 5) i = zI h (Q + 5) i := r5
  have su : ∀ f, 224 ≤ f → f < 230 → zl (zSi y12 142 P (zi h 142 Q)) f (P + 6) = zl h f (Q + 6) := su
  have a141 : zi (zSi y12 142 P (zi h 142 Q)) 141 P = zi h 141 Q := (by rw [zi_Si, if_neg (by omega)]; exact a141)
  have a142 : zi (zSi y12 142 P (zi h 142 Q)) 142 P = zi h 142 Q := (by rw [zi_Si, if_pos ⟨rfl, rfl⟩])
  have oP13 := hP.fra F13
  have oQ13 := hQ.fra F13
  generalize zSi y12 142 P (zi h 142 Q) = y13 at F13 oP13 oQ13 a128 a129 a130 a131 a134 a135 a136 r3 r4 r5 su a141 a142 ⊢
  refine g_aload_n 0 dX4_copyFrom_128 rfl rfl ?_
  refine g_aload_n 1 dX4_copyFrom_129 rfl rfl ?_
  refine g_geti (f := 143) dX4_copyFrom_130 fl_X4_86 oQ13.1 (by decide) rfl ?_
  rw [show zi y13 143 Q = zi h 143 Q from ((F13.2.2.2.2 Q (by omega)).1 143).1]
  refine g_puti (f := 143) dX4_copyFrom_133 fl_X4_86 (Or.inl rfl) oP13.1 rfl ?_
  have F14 : FrA (fun a => a = P ∨ P + 3 ≤ a ∧ a ≤ P + 6) h (zSi y13 143 P (zi h 143 Q)) := FrA.si F13 (by omega)
  have a128 : zi (zSi y13 143 P (zi h 143 Q)) 128 P = zi h 128 Q := (by rw [zi_Si, if_neg (by omega)]; exact a128)
  have a129 : zi (zSi y13 143 P (zi h 143 Q)) 129 P = zi h 129 Q := (by rw [zi_Si, if_neg (by omega)]; exact a129)
  have a130 : zi (zSi y13 143 P (zi h 143 Q)) 130 P = zi h 130 Q := (by rw [zi_Si, if_neg (by omega)]; exact a130)
  have a131 : zi (zSi y13 143 P (zi h 143 Q)) 131 P = zi h 131 Q := (by rw [zi_Si, if_neg (by omega)]; exact a131)
  have a134 : zi (zSi y13 143 P (zi h 143 Q)) 134 P = zi h 134 Q := (by rw [zi_Si, if_neg (by omega)]; exact a134)
  have a135 : zi (zSi y13 143 P (zi h 143 Q)) 135 P = zi h 135 Q := (by rw [zi_Si, if_neg (by omega)]; exact a135)
  have a136 : zl (zSi y13 143 P (zi h 143 Q)) 136 P = zl h 136 Q := a136
  have r3 : ∀ i, i < 6 → zI (zSi y13 143 P (zi h 143 Q)) (P + 3) i = zI h (Q + 3) i := r3
  have r4 : ∀ i, i < 6 → zI (zSi y13 143 P (zi h 143 Q)) (P + 4) i = zI h (Q + 4) i := r4
  have r5 : ∀ i, i < 6 → zI (zSi y13 143 P (zi h 143 Q)) (P + 5) i = zI h (Q + 5) i := r5
  have su : ∀ f, 224 ≤ f → f < 230 → zl (zSi y13 143 P (zi h 143 Q)) f (P + 6) = zl h f (Q + 6) := su
  have a141 : zi (zSi y13 143 P (zi h 143 Q)) 141 P = zi h 141 Q := (by rw [zi_Si, if_neg (by omega)]; exact a141)
  have a142 : zi (zSi y13 143 P (zi h 143 Q)) 142 P = zi h 142 Q := (by rw [zi_Si, if_neg (by omega)]; exact a142)
  have a143 : zi (zSi y13 143 P (zi h 143 Q)) 143 P = zi h 143 Q := (by rw [zi_Si, if_pos ⟨rfl, rfl⟩])
  have oP14 := hP.fra F14
  have oQ14 := hQ.fra F14
  generalize zSi y13 143 P (zi h 143 Q) = y14 at F14 oP14 oQ14 a128 a129 a130 a131 a134 a135 a136 r3 r4 r5 su a141 a142 a143 ⊢
  refine g_aload_n 0 dX4_copyFrom_136 rfl rfl ?_
  refine g_aload_n 1 dX4_copyFrom_137 rfl rfl ?_
  refine g_geti (f := 144) dX4_copyFrom_138 fl_X4_57 oQ14.1 (by decide) rfl ?_
  rw [show zi y14 144 Q = zi h 144 Q from ((F14.2.2.2.2 Q (by omega)).1 144).1]
  refine g_puti (f := 144) dX4_copyFrom_141 fl_X4_57 (Or.inl rfl) oP14.1 rfl ?_
  have F15 : FrA (fun a => a = P ∨ P + 3 ≤ a ∧ a ≤ P + 6) h (zSi y14 144 P (zi h 144 Q)) := FrA.si F14 (by omega)
  have a128 : zi (zSi y14 144 P (zi h 144 Q)) 128 P = zi h 128 Q := (by rw [zi_Si, if_neg (by omega)]; exact a128)
  have a129 : zi (zSi y14 144 P (zi h 144 Q)) 129 P = zi h 129 Q := (by rw [zi_Si, if_neg (by omega)]; exact a129)
  have a130 : zi (zSi y14 144 P (zi h 144 Q)) 130 P = zi h 130 Q := (by rw [zi_Si, if_neg (by omega)]; exact a130)
  have a131 : zi (zSi y14 144 P (zi h 144 Q)) 131 P = zi h 131 Q := (by rw [zi_Si, if_neg (by omega)]; exact a131)
  have a134 : zi (zSi y14 144 P (zi h 144 Q)) 134 P = zi h 134 Q := (by rw [zi_Si, if_neg (by omega)]; exact a134)
  have a135 : zi (zSi y14 144 P (zi h 144 Q)) 135 P = zi h 135 Q := (by rw [zi_Si, if_neg (by omega)]; exact a135)
  have a136 : zl (zSi y14 144 P (zi h 144 Q)) 136 P = zl h 136 Q := a136
  have r3 : ∀ i, i < 6 → zI (zSi y14 144 P (zi h 144 Q)) (P + 3) i = zI h (Q + 3) i := r3
  have r4 : ∀ i, i < 6 → zI (zSi y14 144 P (zi h 144 Q)) (P + 4) i = zI h (Q + 4) i := r4
  have r5 : ∀ i, i < 6 → zI (zSi y14 144 P (zi h 144 Q)) (P + 5) i = zI h (Q + 5) i := r5
  have su : ∀ f, 224 ≤ f → f < 230 → zl (zSi y14 144 P (zi h 144 Q)) f (P + 6) = zl h f (Q + 6) := su
  have a141 : zi (zSi y14 144 P (zi h 144 Q)) 141 P = zi h 141 Q := (by rw [zi_Si, if_neg (by omega)]; exact a141)
  have a142 : zi (zSi y14 144 P (zi h 144 Q)) 142 P = zi h 142 Q := (by rw [zi_Si, if_neg (by omega)]; exact a142)
  have a143 : zi (zSi y14 144 P (zi h 144 Q)) 143 P = zi h 143 Q := (by rw [zi_Si, if_neg (by omega)]; exact a143)
  have a144 : zi (zSi y14 144 P (zi h 144 Q)) 144 P = zi h 144 Q := (by rw [zi_Si, if_pos ⟨rfl, rfl⟩])
  have oP15 := hP.fra F15
  have oQ15 := hQ.fra F15
  generalize zSi y14 144 P (zi h 144 Q) = y15 at F15 oP15 oQ15 a128 a129 a130 a131 a134 a135 a136 r3 r4 r5 su a141 a142 a143 a144 ⊢
  refine g_return dX4_copyFrom_144 rfl ?_
  refine ⟨rfl, ⟨a128, a129, a130, a131, a134, a135, a141, a142, a143, a144⟩, a136, su, ⟨r3, r4, r5⟩, F15⟩
theorem c_flCopy (hP : FlO h P) (hQ : FlO h Q) (n : P + 2 ≤ Q ∨ Q + 2 ≤ P) (h2 : zi h 68 Q = 0 ∨ zi h 68 Q = 1) : zM l w mX2_copyFrom [.ref P, .ref Q] h (fun u h1 => u = none ∧ (∀ j, j < 11 → zi h1 (65 + j) P = zi h (65 + j) Q) ∧ (∀ i, i < 4 → zI h1 (P + 1) i = zI h (Q + 1) i) ∧ FrA (fun a => a = P ∨ a = P + 1) h h1) := by
  refine zM.of (by decide) (Nat.le_of_ble_eq_true rfl) ?_
  have F0 : FrA (fun a => a = P ∨ a = P + 1) h h := FrA.rf
  have oP0 := hP
  have oQ0 := hQ
  refine g_aload_n 1 dX2_copyFrom_0 rfl rfl ?_
  refine g_getr (f := 64) (b := Q + 1) dX2_copyFrom_1 fl_X2_9 oQ0.1 rfl (oQ0.2).1 ?_
  refine g_iconst (v := nI 0) dX2_copyFrom_4 (by decide) ?_
  refine g_aload_n 0 dX2_copyFrom_5 rfl rfl ?_
  refine g_getr (f := 64) (b := P + 1) dX2_copyFrom_6 fl_X2_9 oP0.1 rfl (oP0.2).1 ?_
  refine g_iconst (v := nI 0) dX2_copyFrom_9 (by decide) ?_
  refine g_iconst (v := nI 4) dX2_copyFrom_10 (by decide) ?_
  refine g_copyi (a0 := Q + 1) (a1 := P + 1) (sp := nI 0) (dp := nI 0) (n := nI 4) dX2_copyFrom_11 ml_X2_50 ac_n ac_s ac_i (oQ0.2).2.1 (oP0.2).2.1 (by decide) (by decide) (by decide) (by rw [(oQ0.2).2.2]; decide) (by rw [(oP0.2).2.2]; decide) (Nat.le_of_ble_eq_true rfl) (Nat.le_of_ble_eq_true rfl) ?_
  show zG l w mX2_copyFrom 14 [(0, .ref P), (1, .ref Q)] [] (zSF h (P + 1) (va_cpy (zI h (Q + 1)) (zI h (P + 1)) (nI 0).toNatClampNeg (nI 0).toNatClampNeg (nI 4).toNatClampNeg)) _
  have F1 : FrA (fun a => a = P ∨ a = P + 1) h (zSF h (P + 1) (va_cpy (zI h (Q + 1)) (zI h (P + 1)) (nI 0).toNatClampNeg (nI 0).toNatClampNeg (nI 4).toNatClampNeg)) := FrA.sF F0 (by omega)
  have r1 : ∀ i, i < 4 → zI (zSF h (P + 1) (va_cpy (zI h (Q + 1)) (zI h (P + 1)) (nI 0).toNatClampNeg (nI 0).toNatClampNeg (nI 4).toNatClampNeg)) (P + 1) i = zI h (Q + 1) i := (fun i hi => (zI_cp (by omega) hi).trans ((F0.2.2.2.2 (Q + 1) (by omega)).2 i).1)
  have oP1 := hP.fra F1
  have oQ1 := hQ.fra F1
  generalize zSF h (P + 1) (va_cpy (zI h (Q + 1)) (zI h (P + 1)) (nI 0).toNatClampNeg (nI 0).toNatClampNeg (nI 4).toNatClampNeg) = y1 at F1 oP1 oQ1 r1 ⊢
  refine g_aload_n 0 dX2_copyFrom_14 rfl rfl ?_
  refine g_aload_n 1 dX2_copyFrom_15 rfl rfl ?_
  refine g_geti (f := 65) dX2_copyFrom_16 fl_X2_15 oQ1.1 (by decide) rfl ?_
  rw [show zi y1 65 Q = zi h 65 Q from ((F1.2.2.2.2 Q (by omega)).1 65).1]
  refine g_puti (f := 65) dX2_copyFrom_19 fl_X2_15 (Or.inl rfl) oP1.1 rfl ?_
  have F2 : FrA (fun a => a = P ∨ a = P + 1) h (zSi y1 65 P (zi h 65 Q)) := FrA.si F1 (by omega)
  have r1 : ∀ i, i < 4 → zI (zSi y1 65 P (zi h 65 Q)) (P + 1) i = zI h (Q + 1) i := r1
  have a65 : zi (zSi y1 65 P (zi h 65 Q)) 65 P = zi h 65 Q := (by rw [zi_Si, if_pos ⟨rfl, rfl⟩])
  have oP2 := hP.fra F2
  have oQ2 := hQ.fra F2
  generalize zSi y1 65 P (zi h 65 Q) = y2 at F2 oP2 oQ2 r1 a65 ⊢
  refine g_aload_n 0 dX2_copyFrom_22 rfl rfl ?_
  refine g_aload_n 1 dX2_copyFrom_23 rfl rfl ?_
  refine g_geti (f := 66) dX2_copyFrom_24 fl_X2_19 oQ2.1 (by decide) rfl ?_
  rw [show zi y2 66 Q = zi h 66 Q from ((F2.2.2.2.2 Q (by omega)).1 66).1]
  refine g_puti (f := 66) dX2_copyFrom_27 fl_X2_19 (Or.inl rfl) oP2.1 rfl ?_
  have F3 : FrA (fun a => a = P ∨ a = P + 1) h (zSi y2 66 P (zi h 66 Q)) := FrA.si F2 (by omega)
  have r1 : ∀ i, i < 4 → zI (zSi y2 66 P (zi h 66 Q)) (P + 1) i = zI h (Q + 1) i := r1
  have a65 : zi (zSi y2 66 P (zi h 66 Q)) 65 P = zi h 65 Q := (by rw [zi_Si, if_neg (by omega)]; exact a65)
  have a66 : zi (zSi y2 66 P (zi h 66 Q)) 66 P = zi h 66 Q := (by rw [zi_Si, if_pos ⟨rfl, rfl⟩])
  have oP3 := hP.fra F3
  have oQ3 := hQ.fra F3
  generalize zSi y2 66 P (zi h 66 Q) = y3 at F3 oP3 oQ3 r1 a65 a66 ⊢
  refine g_aload_n 0 dX2_copyFrom_30 rfl rfl ?_
  refine g_aload_n 1 dX2_copyFrom_31 rfl rfl ?_
  refine g_geti (f := 67) dX2_copyFrom_32 fl_X2_22 oQ3.1 (by decide) rfl ?_
  rw [show zi y3 67 Q = zi h 67 Q from ((F3.2.2.2.2 Q (by omega)).1 67).1]
  refine g_puti (f := 67) dX2_copyFrom_35 fl_X2_22 (Or.inl rfl) oP3.1 rfl ?_
  have F4 : FrA (fun a => a = P ∨ a = P + 1) h (zSi y3 67 P (zi h 67 Q)) := FrA.si F3 (by omega)
  have r1 : ∀ i, i < 4 → zI (zSi y3 67 P (zi h 67 Q)) (P + 1) i = zI h (Q + 1) i := r1
  have a65 : zi (zSi y3 67 P (zi h 67 Q)) 65 P = zi h 65 Q := (by rw [zi_Si, if_neg (by omega)]; exact a65)
  have a66 : zi (zSi y3 67 P (zi h 67 Q)) 66 P = zi h 66 Q := (by rw [zi_Si, if_neg (by omega)]; exact a66)
  have a67 : zi (zSi y3 67 P (zi h 67 Q)) 67 P = zi h 67 Q := (by rw [zi_Si, if_pos ⟨rfl, rfl⟩])
  have oP4 := hP.fra F4
  have oQ4 := hQ.fra F4
  generalize zSi y3 67 P (zi h 67 Q) = y4 at F4 oP4 oQ4 r1 a65 a66 a67 ⊢
  refine g_aload_n 0 dX2_copyFrom_38 rfl rfl ?_
  refine g_aload_n 1 dX2_copyFrom_39 rfl rfl ?_
  refine g_geti (f := 68) dX2_copyFrom_40 fl_X2_25 oQ4.1 (by decide) rfl ?_
  rw [show zi y4 68 Q = zi h 68 Q from ((F4.2.2.2.2 Q (by omega)).1 68).1]
  refine g_putz (f := 68) dX2_copyFrom_43 fl_X2_25 (Or.inl rfl) oP4.1 rfl h2 ?_
  have F5 : FrA (fun a => a = P ∨ a = P + 1) h (zSi y4 68 P (zi h 68 Q)) := FrA.si F4 (by omega)
  have r1 : ∀ i, i < 4 → zI (zSi y4 68 P (zi h 68 Q)) (P + 1) i = zI h (Q + 1) i := r1
  have a65 : zi (zSi y4 68 P (zi h 68 Q)) 65 P = zi h 65 Q := (by rw [zi_Si, if_neg (by omega)]; exact a65)
  have a66 : zi (zSi y4 68 P (zi h 68 Q)) 66 P = zi h 66 Q := (by rw [zi_Si, if_neg (by omega)]; exact a66)
  have a67 : zi (zSi y4 68 P (zi h 68 Q)) 67 P = zi h 67 Q := (by rw [zi_Si, if_neg (by omega)]; exact a67)
  have a68 : zi (zSi y4 68 P (zi h 68 Q)) 68 P = zi h 68 Q := (by rw [zi_Si, if_pos ⟨rfl, rfl⟩])
  have oP5 := hP.fra F5
  have oQ5 := hQ.fra F5
  generalize zSi y4 68 P (zi h 68 Q) = y5 at F5 oP5 oQ5 r1 a65 a66 a67 a68 ⊢
  refine g_aload_n 0 dX2_copyFrom_46 rfl rfl ?_
  refine g_aload_n 1 dX2_copyFrom_47 rfl rfl ?_
  refine g_geti (f := 69) dX2_copyFrom_48 fl_X2_29 oQ5.1 (by decide) rfl ?_
  rw [show zi y5 69 Q = zi h 69 Q from ((F5.2.2.2.2 Q (by omega)).1 69).1]
  refine g_puti (f := 69) dX2_copyFrom_51 fl_X2_29 (Or.inl rfl) oP5.1 rfl ?_
  have F6 : FrA (fun a => a = P ∨ a = P + 1) h (zSi y5 69 P (zi h 69 Q)) := FrA.si F5 (by omega)
  have r1 : ∀ i, i < 4 → zI (zSi y5 69 P (zi h 69 Q)) (P + 1) i = zI h (Q + 1) i := r1
  have a65 : zi (zSi y5 69 P (zi h 69 Q)) 65 P = zi h 65 Q := (by rw [zi_Si, if_neg (by omega)]; exact a65)
  have a66 : zi (zSi y5 69 P (zi h 69 Q)) 66 P = zi h 66 Q := (by rw [zi_Si, if_neg (by omega)]; exact a66)
  have a67 : zi (zSi y5 69 P (zi h 69 Q)) 67 P = zi h 67 Q := (by rw [zi_Si, if_neg (by omega)]; exact a67)
  have a68 : zi (zSi y5 69 P (zi h 69 Q)) 68 P = zi h 68 Q := (by rw [zi_Si, if_neg (by omega)]; exact a68)
  have a69 : zi (zSi y5 69 P (zi h 69 Q)) 69 P = zi h 69 Q := (by rw [zi_Si, if_pos ⟨rfl, rfl⟩])
  have oP6 := hP.fra F6
  have oQ6 := hQ.fra F6
  generalize zSi y5 69 P (zi h 69 Q) = y6 at F6 oP6 oQ6 r1 a65 a66 a67 a68 a69 ⊢
  refine g_aload_n 0 dX2_copyFrom_54 rfl rfl ?_
  refine g_aload_n 1 dX2_copyFrom_55 rfl rfl ?_
  refine g_geti (f := 70) dX2_copyFrom_56 fl_X2_32 oQ6.1 (by decide) rfl ?_
  rw [show zi y6 70 Q = zi h 70 Q from ((F6.2.2.2.2 Q (by omega)).1 70).1]
  refine g_puti (f := 70) dX2_copyFrom_59 fl_X2_32 (Or.inl rfl) oP6.1 rfl ?_
  have F7 : FrA (fun a => a = P ∨ a = P + 1) h (zSi y6 70 P (zi h 70 Q)) := FrA.si F6 (by omega)
  have r1 : ∀ i, i < 4 → zI (zSi y6 70 P (zi h 70 Q)) (P + 1) i = zI h (Q + 1) i := r1
  have a65 : zi (zSi y6 70 P (zi h 70 Q)) 65 P = zi h 65 Q := (by rw [zi_Si, if_neg (by omega)]; exact a65)
  have a66 : zi (zSi y6 70 P (zi h 70 Q)) 66 P = zi h 66 Q := (by rw [zi_Si, if_neg (by omega)]; exact a66)
  have a67 : zi (zSi y6 70 P (zi h 70 Q)) 67 P = zi h 67 Q := (by rw [zi_Si, if_neg (by omega)]; exact a67)
  have a68 : zi (zSi y6 70 P (zi h 70 Q)) 68 P = zi h 68 Q := (by rw [zi_Si, if_neg (by omega)]; exact a68)
  have a69 : zi (zSi y6 70 P (zi h 70 Q)) 69 P = zi h 69 Q := (by rw [zi_Si, if_neg (by omega)]; exact a69)
  have a70 : zi (zSi y6 70 P (zi h 70 Q)) 70 P = zi h 70 Q := (by rw [zi_Si, if_pos ⟨rfl, rfl⟩])
  have oP7 := hP.fra F7
  have oQ7 := hQ.fra F7
  generalize zSi y6 70 P (zi h 70 Q) = y7 at F7 oP7 oQ7 r1 a65 a66 a67 a68 a69 a70 ⊢
  refine g_aload_n 0 dX2_copyFrom_62 rfl rfl ?_
  refine g_aload_n 1 dX2_copyFrom_63 rfl rfl ?_
  refine g_geti (f := 71) dX2_copyFrom_64 fl_X2_35 oQ7.1 (by decide) rfl ?_
  rw [show zi y7 71 Q = zi h 71 Q from ((F7.2.2.2.2 Q (by omega)).1 71).1]
  refine g_puti (f := 71) dX2_copyFrom_67 fl_X2_35 (Or.inl rfl) oP7.1 rfl ?_
  have F8 : FrA (fun a => a = P ∨ a = P + 1) h (zSi y7 71 P (zi h 71 Q)) := FrA.si F7 (by omega)
  have r1 : ∀ i, i < 4 → zI (zSi y7 71 P (zi h 71 Q)) (P + 1) i = zI h (Q + 1) i := r1
  have a65 : zi (zSi y7 71 P (zi h 71 Q)) 65 P = zi h 65 Q := (by rw [zi_Si, if_neg (by omega)]; exact a65)
  have a66 : zi (zSi y7 71 P (zi h 71 Q)) 66 P = zi h 66 Q := (by rw [zi_Si, if_neg (by omega)]; exact a66)
  have a67 : zi (zSi y7 71 P (zi h 71 Q)) 67 P = zi h 67 Q := (by rw [zi_Si, if_neg (by omega)]; exact a67)
  have a68 : zi (zSi y7 71 P (zi h 71 Q)) 68 P = zi h 68 Q := (by rw [zi_Si, if_neg (by omega)]; exact a68)
  have a69 : zi (zSi y7 71 P (zi h 71 Q)) 69 P = zi h 69 Q := (by rw [zi_Si, if_neg (by omega)]; exact a69)
  have a70 : zi (zSi y7 71 P (zi h 71 Q)) 70 P = zi h 70 Q := (by rw [zi_Si, if_neg (by omega)]; exact a70)
  have a71 : zi (zSi y7 71 P (zi h 71 Q)) 71 P = zi h 71 Q := (by rw [zi_Si, if_pos ⟨rfl, rfl⟩])
  have oP8 := hP.fra F8
  have oQ8 := hQ.fra F8
  generalize zSi y7 71 P (zi h 71 Q) = y8 at F8 oP8 oQ8 r1 a65 a66 a67 a68 a69 a70 a71 ⊢
  refine g_aload_n 0 dX2_copyFrom_70 rfl rfl ?_
  refine g_aload_n 1 dX2_copyFrom_71 rfl rfl ?_
  refine g_geti (f := 72) dX2_copyFrom_72 fl_X2_38 oQ8.1 (by decide) rfl ?_
  rw [show zi y8 72 Q = zi h 72 Q from ((F8.2.2.2.2 Q (by omega)).1 72).1]
  refine g_puti (f := 72) dX2_copyFrom_75 fl_X2_38 (Or.inl rfl) oP8.1 rfl ?_
  have F9 : FrA (fun a => a = P ∨ a = P + 1) h (zSi y8 72 P (zi h 72 Q)) := FrA.si F8 (by omega)
  have r1 : ∀ i, i < 4 → zI (zSi y8 72 P (zi h 72 Q)) (P + 1) i = zI h (Q + 1) i := r1
  have a65 : zi (zSi y8 72 P (zi h 72 Q)) 65 P = zi h 65 Q := (by rw [zi_Si, if_neg (by omega)]; exact a65)
  have a66 : zi (zSi y8 72 P (zi h 72 Q)) 66 P = zi h 66 Q := (by rw [zi_Si, if_neg (by omega)]; exact a66)
  have a67 : zi (zSi y8 72 P (zi h 72 Q)) 67 P = zi h 67 Q := (by rw [zi_Si, if_neg (by omega)]; exact a67)
  have a68 : zi (zSi y8 72 P (zi h 72 Q)) 68 P = zi h 68 Q := (by rw [zi_Si, if_neg (by omega)]; exact a68)
  have a69 : zi (zSi y8 72 P (zi h 72 Q)) 69 P = zi h 69 Q := (by rw [zi_Si, if_neg (by omega)]; exact a69)
  have a70 : zi (zSi y8 72 P (zi h 72 Q)) 70 P = zi h 70 Q := (by rw [zi_Si, if_neg (by omega)]; exact a70)
  have a71 : zi (zSi y8 72 P (zi h 72 Q)) 71 P = zi h 71 Q := (by rw [zi_Si, if_neg (by omega)]; exact a71)
  have a72 : zi (zSi y8 72 P (zi h 72 Q)) 72 P = zi h 72 Q := (by rw [zi_Si, if_pos ⟨rfl, rfl⟩])
  have oP9 := hP.fra F9
  have oQ9 := hQ.fra F9
  generalize zSi y8 72 P (zi h 72 Q) = y9 at F9 oP9 oQ9 r1 a65 a66 a67 a68 a69 a70 a71 a72 ⊢
  refine g_aload_n 0 dX2_copyFrom_78 rfl rfl ?_
  refine g_aload_n 1 dX2_copyFrom_79 rfl rfl ?_
  refine g_geti (f := 73) dX2_copyFrom_80 fl_X2_41 oQ9.1 (by decide) rfl ?_
  rw [show zi y9 73 Q = zi h 73 Q from ((F9.2.2.2.2 Q (by omega)).1 73).1]
  refine g_puti (f := 73) dX2_copyFrom_83 fl_X2_41 (Or.inl rfl) oP9.1 rfl ?_
  have F10 : FrA (fun a => a = P ∨ a = P + 1) h (zSi y9 73 P (zi h 73 Q)) := FrA.si F9 (by omega)
  have r1 : ∀ i, i < 4 → zI (zSi y9 73 P (zi h 73 Q)) (P + 1) i = zI h (Q + 1) i := r1
  have a65 : zi (zSi y9 73 P (zi h 73 Q)) 65 P = zi h 65 Q := (by rw [zi_Si, if_neg (by omega)]; exact a65)
  have a66 : zi (zSi y9 73 P (zi h 73 Q)) 66 P = zi h 66 Q := (by rw [zi_Si, if_neg (by omega)]; exact a66)
  have a67 : zi (zSi y9 73 P (zi h 73 Q)) 67 P = zi h 67 Q := (by rw [zi_Si, if_neg (by omega)]; exact a67)
  have a68 : zi (zSi y9 73 P (zi h 73 Q)) 68 P = zi h 68 Q := (by rw [zi_Si, if_neg (by omega)]; exact a68)
  have a69 : zi (zSi y9 73 P (zi h 73 Q)) 69 P = zi h 69 Q := (by rw [zi_Si, if_neg (by omega)]; exact a69)
  have a70 : zi (zSi y9 73 P (zi h 73 Q)) 70 P = zi h 70 Q := (by rw [zi_Si, if_neg (by omega)]; exact a70)
  have a71 : zi (zSi y9 73 P (zi h 73 Q)) 71 P = zi h 71 Q := (by rw [zi_Si, if_neg (by omega)]; exact a71)
  have a72 : zi (zSi y9 73 P (zi h 73 Q)) 72 P = zi h 72 Q := (by rw [zi_Si, if_neg (by omega)]; exact a72)
  have a73 : zi (zSi y9 73 P (zi h 73 Q)) 73 P = zi h 73 Q := (by rw [zi_Si, if_pos ⟨rfl, rfl⟩])
  have oP10 := hP.fra F10
  have oQ10 := hQ.fra F10
  generalize zSi y9 73 P (zi h 73 Q) = y10 at F10 oP10 oQ10 r1 a65 a66 a67 a68 a69 a70 a71 a72 a73 ⊢
  refine g_aload_n 0 dX2_copyFrom_86 rfl rfl ?_
  refine g_aload_n 1 dX2_copyFrom_87 rfl rfl ?_
  refine g_geti (f := 74) dX2_copyFrom_88 fl_X2_44 oQ10.1 (by decide) rfl ?_
  rw [show zi y10 74 Q = zi h 74 Q from ((F10.2.2.2.2 Q (by omega)).1 74).1]
  refine g_puti (f := 74) dX2_copyFrom_91 fl_X2_44 (Or.inl rfl) oP10.1 rfl ?_
  have F11 : FrA (fun a => a = P ∨ a = P + 1) h (zSi y10 74 P (zi h 74 Q)) := FrA.si F10 (by omega)
  have r1 : ∀ i, i < 4 → zI (zSi y10 74 P (zi h 74 Q)) (P + 1) i = zI h (Q + 1) i := r1
  have a65 : zi (zSi y10 74 P (zi h 74 Q)) 65 P = zi h 65 Q := (by rw [zi_Si, if_neg (by omega)]; exact a65)
  have a66 : zi (zSi y10 74 P (zi h 74 Q)) 66 P = zi h 66 Q := (by rw [zi_Si, if_neg (by omega)]; exact a66)
  have a67 : zi (zSi y10 74 P (zi h 74 Q)) 67 P = zi h 67 Q := (by rw [zi_Si, if_neg (by omega)]; exact a67)
  have a68 : zi (zSi y10 74 P (zi h 74 Q)) 68 P = zi h 68 Q := (by rw [zi_Si, if_neg (by omega)]; exact a68)
  have a69 : zi (zSi y10 74 P (zi h 74 Q)) 69 P = zi h 69 Q := (by rw [zi_Si, if_neg (by omega)]; exact a69)
  have a70 : zi (zSi y10 74 P (zi h 74 Q)) 70 P = zi h 70 Q := (by rw [zi_Si, if_neg (by omega)]; exact a70)
  have a71 : zi (zSi y10 74 P (zi h 74 Q)) 71 P = zi h 71 Q := (by rw [zi_Si, if_neg (by omega)]; exact a71)
  have a72 : zi (zSi y10 74 P (zi h 74 Q)) 72 P = zi h 72 Q := (by rw [zi_Si, if_neg (by omega)]; exact a72)
  have a73 : zi (zSi y10 74 P (zi h 74 Q)) 73 P = zi h 73 Q := (by rw [zi_Si, if_neg (by omega)]; exact a73)
  have a74 : zi (zSi y10 74 P (zi h 74 Q)) 74 P = zi h 74 Q := (by rw [zi_Si, if_pos ⟨rfl, rfl⟩])
  have oP11 := hP.fra F11
  have oQ11 := hQ.fra F11
  generalize zSi y10 74 P (zi h 74 Q) = y11 at F11 oP11 oQ11 r1 a65 a66 a67 a68 a69 a70 a71 a72 a73 a74 ⊢
  refine g_aload_n 0 dX2_copyFrom_94 rfl rfl ?_
  refine g_aload_n 1 dX2_copyFrom_95 rfl rfl ?_
  refine g_geti (f := 75) dX2_copyFrom_96 fl_X2_47 oQ11.1 (by decide) rfl ?_
  rw [show zi y11 75 Q = zi h 75 Q from ((F11.2.2.2.2 Q (by omega)).1 75).1]
  refine g_puti (f := 75) dX2_copyFrom_99 fl_X2_47 (Or.inl rfl) oP11.1 rfl ?_
  have F12 : FrA (fun a => a = P ∨ a = P + 1) h (zSi y11 75 P (zi h 75 Q)) := FrA.si F11 (by omega)
  have r1 : ∀ i, i < 4 → zI (zSi y11 75 P (zi h 75 Q)) (P + 1) i = zI h (Q + 1) i := r1
  have a65 : zi (zSi y11 75 P (zi h 75 Q)) 65 P = zi h 65 Q := (by rw [zi_Si, if_neg (by omega)]; exact a65)
  have a66 : zi (zSi y11 75 P (zi h 75 Q)) 66 P = zi h 66 Q := (by rw [zi_Si, if_neg (by omega)]; exact a66)
  have a67 : zi (zSi y11 75 P (zi h 75 Q)) 67 P = zi h 67 Q := (by rw [zi_Si, if_neg (by omega)]; exact a67)
  have a68 : zi (zSi y11 75 P (zi h 75 Q)) 68 P = zi h 68 Q := (by rw [zi_Si, if_neg (by omega)]; exact a68)
  have a69 : zi (zSi y11 75 P (zi h 75 Q)) 69 P = zi h 69 Q := (by rw [zi_Si, if_neg (by omega)]; exact a69)
  have a70 : zi (zSi y11 75 P (zi h 75 Q)) 70 P = zi h 70 Q := (by rw [zi_Si, if_neg (by omega)]; exact a70)
  have a71 : zi (zSi y11 75 P (zi h 75 Q)) 71 P = zi h 71 Q := (by rw [zi_Si, if_neg (by omega)]; exact a71)
  have a72 : zi (zSi y11 75 P (zi h 75 Q)) 72 P = zi h 72 Q := (by rw [zi_Si, if_neg (by omega)]; exact a72)
  have a73 : zi (zSi y11 75 P (zi h 75 Q)) 73 P = zi h 73 Q := (by rw [zi_Si, if_neg (by omega)]; exact a73)
  have a74 : zi (zSi y11 75 P (zi h 75 Q)) 74 P = zi h 74 Q := (by rw [zi_Si, if_neg (by omega)]; exact a74)
  have a75 : zi (zSi y11 75 P (zi h 75 Q)) 75 P = zi h 75 Q := (by rw [zi_Si, if_pos ⟨rfl, rfl⟩])
  have oP12 := hP.fra F12
  have oQ12 := hQ.fra F12
  generalize zSi y11 75 P (zi h 75 Q) = y12 at F12 oP12 oQ12 r1 a65 a66 a67 a68 a69 a70 a71 a72 a73 a74 a75 ⊢
  refine g_return dX2_copyFrom_102 rfl ?_
  refine ⟨rfl, fun j j1 => ?_, r1, F12⟩
  obtain rfl | rfl | rfl | rfl | rfl | rfl | rfl | rfl | rfl | rfl | rfl : j = 0 ∨ j = 1 ∨ j = 2 ∨ j = 3 ∨ j = 4 ∨ j = 5 ∨ j = 6 ∨ j = 7 ∨ j = 8 ∨ j = 9 ∨ j = 10 := by omega
  · exact a65
  · exact a66
  · exact a67
  · exact a68
  · exact a69
  · exact a70
  · exact a71
  · exact a72
  · exact a73
  · exact a74
  · exact a75
theorem c_evCopy (hP : EvO h P) (hQ : EvO h Q) (n : P + 5 ≤ Q ∨ Q + 5 ≤ P) : zM l w mX1_copyFrom [.ref P, .ref Q] h (fun u h1 => u = none ∧ (zi h1 36 P = zi h 36 Q ∧ zi h1 37 P = zi h 37 Q) ∧ ((∀ i, i < 24 → zI h1 (P + 1) i = zI h (Q + 1) i) ∧ (∀ i, i < 24 → zI h1 (P + 2) i = zI h (Q + 2) i) ∧ (∀ i, i < 24 → zI h1 (P + 3) i = zI h (Q + 3) i) ∧ (∀ i, i < 24 → zI h1 (P + 4) i = zI h (Q + 4) i)) ∧ FrA (fun a => P ≤ a ∧ a ≤ P + 4) h h1) := by
  refine zM.of (by decide) (Nat.le_of_ble_eq_true rfl) ?_
  have F0 : FrA (fun a => P ≤ a ∧ a ≤ P + 4) h h := FrA.rf
  have oP0 := hP
  have oQ0 := hQ
  refine g_aload_n 1 dX1_copyFrom_0 rfl rfl ?_
  refine g_getr (f := 32) (b := Q + 1) dX1_copyFrom_1 fl_X1_9 oQ0.1 rfl (oQ0.2.1).1 ?_
  refine g_iconst (v := nI 0) dX1_copyFrom_4 (by decide) ?_
  refine g_aload_n 0 dX1_copyFrom_5 rfl rfl ?_
  refine g_getr (f := 32) (b := P + 1) dX1_copyFrom_6 fl_X1_9 oP0.1 rfl (oP0.2.1).1 ?_
  refine g_iconst (v := nI 0) dX1_copyFrom_9 (by decide) ?_
  refine g_bipush (v := nI 24) dX1_copyFrom_10 (by decide) ?_
  refine g_copyi (a0 := Q + 1) (a1 := P + 1) (sp := nI 0) (dp := nI 0) (n := nI 24) dX1_copyFrom_12 ml_X1_31 ac_n ac_s ac_i (oQ0.2.1).2.1 (oP0.2.1).2.1 (by decide) (by decide) (by decide) (by rw [(oQ0.2.1).2.2]; decide) (by rw [(oP0.2.1).2.2]; decide) (Nat.le_of_ble_eq_true rfl) (Nat.le_of_ble_eq_true rfl) ?_
  show zG l w mX1_copyFrom 15 [(0, .ref P), (1, .ref Q)] [] (zSF h (P + 1) (va_cpy (zI h (Q + 1)) (zI h (P + 1)) (nI 0).toNatClampNeg (nI 0).toNatClampNeg (nI 24).toNatClampNeg)) _
  have F1 : FrA (fun a => P ≤ a ∧ a ≤ P + 4) h (zSF h (P + 1) (va_cpy (zI h (Q + 1)) (zI h (P + 1)) (nI 0).toNatClampNeg (nI 0).toNatClampNeg (nI 24).toNatClampNeg)) := FrA.sF F0 (by omega)
  have r1 : ∀ i, i < 24 → zI (zSF h (P + 1) (va_cpy (zI h (Q + 1)) (zI h (P + 1)) (nI 0).toNatClampNeg (nI 0).toNatClampNeg (nI 24).toNatClampNeg)) (P + 1) i = zI h (Q + 1) i := (fun i hi => (zI_cp (by omega) hi).trans ((F0.2.2.2.2 (Q + 1) (by omega)).2 i).1)
  have oP1 := hP.fra F1
  have oQ1 := hQ.fra F1
  generalize zSF h (P + 1) (va_cpy (zI h (Q + 1)) (zI h (P + 1)) (nI 0).toNatClampNeg (nI 0).toNatClampNeg (nI 24).toNatClampNeg) = y1 at F1 oP1 oQ1 r1 ⊢
  refine g_aload_n 1 dX1_copyFrom_15 rfl rfl ?_
  refine g_getr (f := 33) (b := Q + 2) dX1_copyFrom_16 fl_X1_15 oQ1.1 rfl (oQ1.2.2.1).1 ?_
  refine g_iconst (v := nI 0) dX1_copyFrom_19 (by decide) ?_
  refine g_aload_n 0 dX1_copyFrom_20 rfl rfl ?_
  refine g_getr (f := 33) (b := P + 2) dX1_copyFrom_21 fl_X1_15 oP1.1 rfl (oP1.2.2.1).1 ?_
  refine g_iconst (v := nI 0) dX1_copyFrom_24 (by decide) ?_
  refine g_bipush (v := nI 24) dX1_copyFrom_25 (by decide) ?_
  refine g_copyi (a0 := Q + 2) (a1 := P + 2) (sp := nI 0) (dp := nI 0) (n := nI 24) dX1_copyFrom_27 ml_X1_31 ac_n ac_s ac_i (oQ1.2.2.1).2.1 (oP1.2.2.1).2.1 (by decide) (by decide) (by decide) (by rw [(oQ1.2.2.1).2.2]; decide) (by rw [(oP1.2.2.1).2.2]; decide) (Nat.le_of_ble_eq_true rfl) (Nat.le_of_ble_eq_true rfl) ?_
  show zG l w mX1_copyFrom 30 [(0, .ref P), (1, .ref Q)] [] (zSF y1 (P + 2) (va_cpy (zI y1 (Q + 2)) (zI y1 (P + 2)) (nI 0).toNatClampNeg (nI 0).toNatClampNeg (nI 24).toNatClampNeg)) _
  have F2 : FrA (fun a => P ≤ a ∧ a ≤ P + 4) h (zSF y1 (P + 2) (va_cpy (zI y1 (Q + 2)) (zI y1 (P + 2)) (nI 0).toNatClampNeg (nI 0).toNatClampNeg (nI 24).toNatClampNeg)) := FrA.sF F1 (by omega)
  have r1 : ∀ i, i < 24 → zI (zSF y1 (P + 2) (va_cpy (zI y1 (Q + 2)) (zI y1 (P + 2)) (nI 0).toNatClampNeg (nI 0).toNatClampNeg (nI 24).toNatClampNeg)) (P + 1) i = zI h (Q + 1) i := (fun i hi => by rw [zI_SF, if_neg (by omega)]; exact r1 i hi)
  have r2 : ∀ i, i < 24 → zI (zSF y1 (P + 2) (va_cpy (zI y1 (Q + 2)) (zI y1 (P + 2)) (nI 0).toNatClampNeg (nI 0).toNatClampNeg (nI 24).toNatClampNeg)) (P + 2) i = zI h (Q + 2) i := (fun i hi => (zI_cp (by omega) hi).trans ((F1.2.2.2.2 (Q + 2) (by omega)).2 i).1)
  have oP2 := hP.fra F2
  have oQ2 := hQ.fra F2
  generalize zSF y1 (P + 2) (va_cpy (zI y1 (Q + 2)) (zI y1 (P + 2)) (nI 0).toNatClampNeg (nI 0).toNatClampNeg (nI 24).toNatClampNeg) = y2 at F2 oP2 oQ2 r1 r2 ⊢
  refine g_aload_n 1 dX1_copyFrom_30 rfl rfl ?_
  refine g_getr (f := 34) (b := Q + 3) dX1_copyFrom_31 fl_X1_18 oQ2.1 rfl (oQ2.2.2.2.1).1 ?_
  refine g_iconst (v := nI 0) dX1_copyFrom_34 (by decide) ?_
  refine g_aload_n 0 dX1_copyFrom_35 rfl rfl ?_
  refine g_getr (f := 34) (b := P + 3) dX1_copyFrom_36 fl_X1_18 oP2.1 rfl (oP2.2.2.2.1).1 ?_
  refine g_iconst (v := nI 0) dX1_copyFrom_39 (by decide) ?_
  refine g_bipush (v := nI 24) dX1_copyFrom_40 (by decide) ?_
  refine g_copyi (a0 := Q + 3) (a1 := P + 3) (sp := nI 0) (dp := nI 0) (n := nI 24) dX1_copyFrom_42 ml_X1_31 ac_n ac_s ac_i (oQ2.2.2.2.1).2.1 (oP2.2.2.2.1).2.1 (by decide) (by decide) (by decide) (by rw [(oQ2.2.2.2.1).2.2]; decide) (by rw [(oP2.2.2.2.1).2.2]; decide) (Nat.le_of_ble_eq_true rfl) (Nat.le_of_ble_eq_true rfl) ?_
  show zG l w mX1_copyFrom 45 [(0, .ref P), (1, .ref Q)] [] (zSF y2 (P + 3) (va_cpy (zI y2 (Q + 3)) (zI y2 (P + 3)) (nI 0).toNatClampNeg (nI 0).toNatClampNeg (nI 24).toNatClampNeg)) _
  have F3 : FrA (fun a => P ≤ a ∧ a ≤ P + 4) h (zSF y2 (P + 3) (va_cpy (zI y2 (Q + 3)) (zI y2 (P + 3)) (nI 0).toNatClampNeg (nI 0).toNatClampNeg (nI 24).toNatClampNeg)) := FrA.sF F2 (by omega)
  have r1 : ∀ i, i < 24 → zI (zSF y2 (P + 3) (va_cpy (zI y2 (Q + 3)) (zI y2 (P + 3)) (nI 0).toNatClampNeg (nI 0).toNatClampNeg (nI 24).toNatClampNeg)) (P + 1) i = zI h (Q + 1) i := (fun i hi => by rw [zI_SF, if_neg (by omega)]; exact r1 i hi)
  have r2 : ∀ i, i < 24 → zI (zSF y2 (P + 3) (va_cpy (zI y2 (Q + 3)) (zI y2 (P + 3)) (nI 0).toNatClampNeg (nI 0).toNatClampNeg (nI 24).toNatClampNeg)) (P + 2) i = zI h (Q + 2) i := (fun i hi => by rw [zI_SF, if_neg (by omega)]; exact r2 i hi)
  have r3 : ∀ i, i < 24 → zI (zSF y2 (P + 3) (va_cpy (zI y2 (Q + 3)) (zI y2 (P + 3)) (nI 0).toNatClampNeg (nI 0).toNatClampNeg (nI 24).toNatClampNeg)) (P + 3) i = zI h (Q + 3) i := (fun i hi => (zI_cp (by omega) hi).trans ((F2.2.2.2.2 (Q + 3) (by omega)).2 i).1)
  have oP3 := hP.fra F3
  have oQ3 := hQ.fra F3
  generalize zSF y2 (P + 3) (va_cpy (zI y2 (Q + 3)) (zI y2 (P + 3)) (nI 0).toNatClampNeg (nI 0).toNatClampNeg (nI 24).toNatClampNeg) = y3 at F3 oP3 oQ3 r1 r2 r3 ⊢
  refine g_aload_n 1 dX1_copyFrom_45 rfl rfl ?_
  refine g_getr (f := 35) (b := Q + 4) dX1_copyFrom_46 fl_X1_21 oQ3.1 rfl (oQ3.2.2.2.2).1 ?_
  refine g_iconst (v := nI 0) dX1_copyFrom_49 (by decide) ?_
  refine g_aload_n 0 dX1_copyFrom_50 rfl rfl ?_
  refine g_getr (f := 35) (b := P + 4) dX1_copyFrom_51 fl_X1_21 oP3.1 rfl (oP3.2.2.2.2).1 ?_
  refine g_iconst (v := nI 0) dX1_copyFrom_54 (by decide) ?_
  refine g_bipush (v := nI 24) dX1_copyFrom_55 (by decide) ?_
  refine g_copyi (a0 := Q + 4) (a1 := P + 4) (sp := nI 0) (dp := nI 0) (n := nI 24) dX1_copyFrom_57 ml_X1_31 ac_n ac_s ac_i (oQ3.2.2.2.2).2.1 (oP3.2.2.2.2).2.1 (by decide) (by decide) (by decide) (by rw [(oQ3.2.2.2.2).2.2]; decide) (by rw [(oP3.2.2.2.2).2.2]; decide) (Nat.le_of_ble_eq_true rfl) (Nat.le_of_ble_eq_true rfl) ?_
  show zG l w mX1_copyFrom 60 [(0, .ref P), (1, .ref Q)] [] (zSF y3 (P + 4) (va_cpy (zI y3 (Q + 4)) (zI y3 (P + 4)) (nI 0).toNatClampNeg (nI 0).toNatClampNeg (nI 24).toNatClampNeg)) _
  have F4 : FrA (fun a => P ≤ a ∧ a ≤ P + 4) h (zSF y3 (P + 4) (va_cpy (zI y3 (Q + 4)) (zI y3 (P + 4)) (nI 0).toNatClampNeg (nI 0).toNatClampNeg (nI 24).toNatClampNeg)) := FrA.sF F3 (by omega)
  have r1 : ∀ i, i < 24 → zI (zSF y3 (P + 4) (va_cpy (zI y3 (Q + 4)) (zI y3 (P + 4)) (nI 0).toNatClampNeg (nI 0).toNatClampNeg (nI 24).toNatClampNeg)) (P + 1) i = zI h (Q + 1) i := (fun i hi => by rw [zI_SF, if_neg (by omega)]; exact r1 i hi)
  have r2 : ∀ i, i < 24 → zI (zSF y3 (P + 4) (va_cpy (zI y3 (Q + 4)) (zI y3 (P + 4)) (nI 0).toNatClampNeg (nI 0).toNatClampNeg (nI 24).toNatClampNeg)) (P + 2) i = zI h (Q + 2) i := (fun i hi => by rw [zI_SF, if_neg (by omega)]; exact r2 i hi)
  have r3 : ∀ i, i < 24 → zI (zSF y3 (P + 4) (va_cpy (zI y3 (Q + 4)) (zI y3 (P + 4)) (nI 0).toNatClampNeg (nI 0).toNatClampNeg (nI 24).toNatClampNeg)) (P + 3) i = zI h (Q + 3) i := (fun i hi => by rw [zI_SF, if_neg (by omega)]; exact r3 i hi)
  have r4 : ∀ i, i < 24 → zI (zSF y3 (P + 4) (va_cpy (zI y3 (Q + 4)) (zI y3 (P + 4)) (nI 0).toNatClampNeg (nI 0).toNatClampNeg (nI 24).toNatClampNeg)) (P + 4) i = zI h (Q + 4) i := (fun i hi => (zI_cp (by omega) hi).trans ((F3.2.2.2.2 (Q + 4) (by omega)).2 i).1)
  have oP4 := hP.fra F4
  have oQ4 := hQ.fra F4
  generalize zSF y3 (P + 4) (va_cpy (zI y3 (Q + 4)) (zI y3 (P + 4)) (nI 0).toNatClampNeg (nI 0).toNatClampNeg (nI 24).toNatClampNeg) = y4 at F4 oP4 oQ4 r1 r2 r3 r4 ⊢
  refine g_aload_n 0 dX1_copyFrom_60 rfl rfl ?_
  refine g_aload_n 1 dX1_copyFrom_61 rfl rfl ?_
  refine g_geti (f := 36) dX1_copyFrom_62 fl_X1_24 oQ4.1 (by decide) rfl ?_
  rw [show zi y4 36 Q = zi h 36 Q from ((F4.2.2.2.2 Q (by omega)).1 36).1]
  refine g_puti (f := 36) dX1_copyFrom_65 fl_X1_24 (Or.inl rfl) oP4.1 rfl ?_
  have F5 : FrA (fun a => P ≤ a ∧ a ≤ P + 4) h (zSi y4 36 P (zi h 36 Q)) := FrA.si F4 (by omega)
  have r1 : ∀ i, i < 24 → zI (zSi y4 36 P (zi h 36 Q)) (P + 1) i = zI h (Q + 1) i := r1
  have r2 : ∀ i, i < 24 → zI (zSi y4 36 P (zi h 36 Q)) (P + 2) i = zI h (Q + 2) i := r2
  have r3 : ∀ i, i < 24 → zI (zSi y4 36 P (zi h 36 Q)) (P + 3) i = zI h (Q + 3) i := r3
  have r4 : ∀ i, i < 24 → zI (zSi y4 36 P (zi h 36 Q)) (P + 4) i = zI h (Q + 4) i := r4
  have a36 : zi (zSi y4 36 P (zi h 36 Q)) 36 P = zi h 36 Q := (by rw [zi_Si, if_pos ⟨rfl, rfl⟩])
  have oP5 := hP.fra F5
  have oQ5 := hQ.fra F5
  generalize zSi y4 36 P (zi h 36 Q) = y5 at F5 oP5 oQ5 r1 r2 r3 r4 a36 ⊢
  refine g_aload_n 0 dX1_copyFrom_68 rfl rfl ?_
  refine g_aload_n 1 dX1_copyFrom_69 rfl rfl ?_
  refine g_geti (f := 37) dX1_copyFrom_70 fl_X1_28 oQ5.1 (by decide) rfl ?_
  rw [show zi y5 37 Q = zi h 37 Q from ((F5.2.2.2.2 Q (by omega)).1 37).1]
  refine g_puti (f := 37) dX1_copyFrom_73 fl_X1_28 (Or.inl rfl) oP5.1 rfl ?_
  have F6 : FrA (fun a => P ≤ a ∧ a ≤ P + 4) h (zSi y5 37 P (zi h 37 Q)) := FrA.si F5 (by omega)
  have r1 : ∀ i, i < 24 → zI (zSi y5 37 P (zi h 37 Q)) (P + 1) i = zI h (Q + 1) i := r1
  have r2 : ∀ i, i < 24 → zI (zSi y5 37 P (zi h 37 Q)) (P + 2) i = zI h (Q + 2) i := r2
  have r3 : ∀ i, i < 24 → zI (zSi y5 37 P (zi h 37 Q)) (P + 3) i = zI h (Q + 3) i := r3
  have r4 : ∀ i, i < 24 → zI (zSi y5 37 P (zi h 37 Q)) (P + 4) i = zI h (Q + 4) i := r4
  have a36 : zi (zSi y5 37 P (zi h 37 Q)) 36 P = zi h 36 Q := (by rw [zi_Si, if_neg (by omega)]; exact a36)
  have a37 : zi (zSi y5 37 P (zi h 37 Q)) 37 P = zi h 37 Q := (by rw [zi_Si, if_pos ⟨rfl, rfl⟩])
  have oP6 := hP.fra F6
  have oQ6 := hQ.fra F6
  generalize zSi y5 37 P (zi h 37 Q) = y6 at F6 oP6 oQ6 r1 r2 r3 r4 a36 a37 ⊢
  refine g_return dX1_copyFrom_76 rfl ?_
  refine ⟨rfl, ⟨a36, a37⟩, ⟨r1, r2, r3, r4⟩, F6⟩
end CP7
