section CP4
variable {l : Launch} {w : zW} {h y : zH} {p q : Nat}
/-- only the numbers of p have changed -/
def FrP (p : Nat) (h y : zH) : Prop := (zx y = zx h ∧ zt y = zt h) ∧ (∀ a, zk y a = zk h a ∧ zn y a = zn h a) ∧ (∀ f a, zr y f a = zr h f a) ∧ (∀ a i, zI y a i = zI h a i ∧ zL y a i = zL h a i ∧ zR y a i = zR h a i) ∧ (∀ f a, a ≠ p → zi y f a = zi h f a ∧ zl y f a = zl h f a)
theorem FrP.rf : FrP p h h := ⟨⟨rfl, rfl⟩, fun _ => ⟨rfl, rfl⟩, fun _ _ => rfl, fun _ _ => ⟨rfl, rfl, rfl⟩, fun _ _ _ => ⟨rfl, rfl⟩⟩
theorem FrP.si {f : Nat} {v : Int32} (F : FrP p h y) : FrP p h (zSi y f p v) := ⟨F.1, F.2.1, F.2.2.1, F.2.2.2.1, fun g a n => ⟨by rw [zi_Si, if_neg (fun q => n q.2)]; exact (F.2.2.2.2 g a n).1, (F.2.2.2.2 g a n).2⟩⟩
theorem FrP.sl {f : Nat} {v : Int64} (F : FrP p h y) : FrP p h (zSl y f p v) := ⟨F.1, F.2.1, F.2.2.1, F.2.2.2.1, fun g a n => ⟨(F.2.2.2.2 g a n).1, by rw [zl_Sl, if_neg (fun q => n q.2)]; exact (F.2.2.2.2 g a n).2⟩⟩
/-- the numbers of q stand in p -/
def PkE (h : zH) (q : Nat) (y : zH) (p : Nat) : Prop := (∀ f, 192 ≤ f → f ≤ 200 → f ≠ 197 → zi y f p = zi h f q) ∧ zl y 197 p = zl h 197 q
theorem c_pkCopy (hp0 : zk h p = 6) (hq0 : zk h q = 6) (n : p ≠ q) (h2 : zi h 200 q = 0 ∨ zi h 200 q = 1) : zM l w mX6_copyFrom [.ref p, .ref q] h (fun u h1 => u = none ∧ PkE h q h1 p ∧ FrP p h h1) := by
  refine zM.of (by decide) (Nat.le_of_ble_eq_true rfl) ?_
  have F0 : FrP p h h := FrP.rf
  refine g_aload_n 0 dX6_copyFrom_0 rfl rfl ?_
  refine g_aload_n 1 dX6_copyFrom_1 rfl rfl ?_
  refine g_geti (f := 192) dX6_copyFrom_2 fl_X6_9 hq0 (by decide) rfl ?_
  rw [show zi h 192 q = zi h 192 q from (F0.2.2.2.2 192 q (Ne.symm n)).1]
  refine g_puti (f := 192) dX6_copyFrom_5 fl_X6_9 (Or.inl rfl) hp0 rfl ?_
  have F1 : FrP p h (zSi h 192 p (zi h 192 q)) := FrP.si F0
  have a192 : zi (zSi h 192 p (zi h 192 q)) 192 p = zi h 192 q := by rw [zi_Si, if_pos ⟨rfl, rfl⟩]
  have kp : zk (zSi h 192 p (zi h 192 q)) p = 6 := (F1.2.1 p).1.trans hp0
  have kq : zk (zSi h 192 p (zi h 192 q)) q = 6 := (F1.2.1 q).1.trans hq0
  generalize zSi h 192 p (zi h 192 q) = y1 at F1 a192 kp kq ⊢
  refine g_aload_n 0 dX6_copyFrom_8 rfl rfl ?_
  refine g_aload_n 1 dX6_copyFrom_9 rfl rfl ?_
  refine g_geti (f := 193) dX6_copyFrom_10 fl_X6_15 kq (by decide) rfl ?_
  rw [show zi y1 193 q = zi h 193 q from (F1.2.2.2.2 193 q (Ne.symm n)).1]
  refine g_puti (f := 193) dX6_copyFrom_13 fl_X6_15 (Or.inl rfl) kp rfl ?_
  have F2 : FrP p h (zSi y1 193 p (zi h 193 q)) := FrP.si F1
  have a192 : zi (zSi y1 193 p (zi h 193 q)) 192 p = zi h 192 q := (by rw [zi_Si, if_neg (by omega)]; exact a192)
  have a193 : zi (zSi y1 193 p (zi h 193 q)) 193 p = zi h 193 q := by rw [zi_Si, if_pos ⟨rfl, rfl⟩]
  have kp : zk (zSi y1 193 p (zi h 193 q)) p = 6 := (F2.2.1 p).1.trans hp0
  have kq : zk (zSi y1 193 p (zi h 193 q)) q = 6 := (F2.2.1 q).1.trans hq0
  generalize zSi y1 193 p (zi h 193 q) = y2 at F2 a192 a193 kp kq ⊢
  refine g_aload_n 0 dX6_copyFrom_16 rfl rfl ?_
  refine g_aload_n 1 dX6_copyFrom_17 rfl rfl ?_
  refine g_geti (f := 194) dX6_copyFrom_18 fl_X6_18 kq (by decide) rfl ?_
  rw [show zi y2 194 q = zi h 194 q from (F2.2.2.2.2 194 q (Ne.symm n)).1]
  refine g_puti (f := 194) dX6_copyFrom_21 fl_X6_18 (Or.inl rfl) kp rfl ?_
  have F3 : FrP p h (zSi y2 194 p (zi h 194 q)) := FrP.si F2
  have a192 : zi (zSi y2 194 p (zi h 194 q)) 192 p = zi h 192 q := (by rw [zi_Si, if_neg (by omega)]; exact a192)
  have a193 : zi (zSi y2 194 p (zi h 194 q)) 193 p = zi h 193 q := (by rw [zi_Si, if_neg (by omega)]; exact a193)
  have a194 : zi (zSi y2 194 p (zi h 194 q)) 194 p = zi h 194 q := by rw [zi_Si, if_pos ⟨rfl, rfl⟩]
  have kp : zk (zSi y2 194 p (zi h 194 q)) p = 6 := (F3.2.1 p).1.trans hp0
  have kq : zk (zSi y2 194 p (zi h 194 q)) q = 6 := (F3.2.1 q).1.trans hq0
  generalize zSi y2 194 p (zi h 194 q) = y3 at F3 a192 a193 a194 kp kq ⊢
  refine g_aload_n 0 dX6_copyFrom_24 rfl rfl ?_
  refine g_aload_n 1 dX6_copyFrom_25 rfl rfl ?_
  refine g_geti (f := 195) dX6_copyFrom_26 fl_X6_26 kq (by decide) rfl ?_
  rw [show zi y3 195 q = zi h 195 q from (F3.2.2.2.2 195 q (Ne.symm n)).1]
  refine g_puti (f := 195) dX6_copyFrom_29 fl_X6_26 (Or.inl rfl) kp rfl ?_
  have F4 : FrP p h (zSi y3 195 p (zi h 195 q)) := FrP.si F3
  have a192 : zi (zSi y3 195 p (zi h 195 q)) 192 p = zi h 192 q := (by rw [zi_Si, if_neg (by omega)]; exact a192)
  have a193 : zi (zSi y3 195 p (zi h 195 q)) 193 p = zi h 193 q := (by rw [zi_Si, if_neg (by omega)]; exact a193)
  have a194 : zi (zSi y3 195 p (zi h 195 q)) 194 p = zi h 194 q := (by rw [zi_Si, if_neg (by omega)]; exact a194)
  have a195 : zi (zSi y3 195 p (zi h 195 q)) 195 p = zi h 195 q := by rw [zi_Si, if_pos ⟨rfl, rfl⟩]
  have kp : zk (zSi y3 195 p (zi h 195 q)) p = 6 := (F4.2.1 p).1.trans hp0
  have kq : zk (zSi y3 195 p (zi h 195 q)) q = 6 := (F4.2.1 q).1.trans hq0
  generalize zSi y3 195 p (zi h 195 q) = y4 at F4 a192 a193 a194 a195 kp kq ⊢
  refine g_aload_n 0 dX6_copyFrom_32 rfl rfl ?_
  refine g_aload_n 1 dX6_copyFrom_33 rfl rfl ?_
  refine g_geti (f := 196) dX6_copyFrom_34 fl_X6_33 kq (by decide) rfl ?_
  rw [show zi y4 196 q = zi h 196 q from (F4.2.2.2.2 196 q (Ne.symm n)).1]
  refine g_puti (f := 196) dX6_copyFrom_37 fl_X6_33 (Or.inl rfl) kp rfl ?_
  have F5 : FrP p h (zSi y4 196 p (zi h 196 q)) := FrP.si F4
  have a192 : zi (zSi y4 196 p (zi h 196 q)) 192 p = zi h 192 q := (by rw [zi_Si, if_neg (by omega)]; exact a192)
  have a193 : zi (zSi y4 196 p (zi h 196 q)) 193 p = zi h 193 q := (by rw [zi_Si, if_neg (by omega)]; exact a193)
  have a194 : zi (zSi y4 196 p (zi h 196 q)) 194 p = zi h 194 q := (by rw [zi_Si, if_neg (by omega)]; exact a194)
  have a195 : zi (zSi y4 196 p (zi h 196 q)) 195 p = zi h 195 q := (by rw [zi_Si, if_neg (by omega)]; exact a195)
  have a196 : zi (zSi y4 196 p (zi h 196 q)) 196 p = zi h 196 q := by rw [zi_Si, if_pos ⟨rfl, rfl⟩]
  have kp : zk (zSi y4 196 p (zi h 196 q)) p = 6 := (F5.2.1 p).1.trans hp0
  have kq : zk (zSi y4 196 p (zi h 196 q)) q = 6 := (F5.2.1 q).1.trans hq0
  generalize zSi y4 196 p (zi h 196 q) = y5 at F5 a192 a193 a194 a195 a196 kp kq ⊢
  refine g_aload_n 0 dX6_copyFrom_40 rfl rfl ?_
  refine g_aload_n 1 dX6_copyFrom_41 rfl rfl ?_
  refine g_getl (f := 197) dX6_copyFrom_42 fl_X6_42 kq rfl ?_
  rw [show zl y5 197 q = zl h 197 q from (F5.2.2.2.2 197 q (Ne.symm n)).2]
  refine g_putl (f := 197) dX6_copyFrom_45 fl_X6_42 (Or.inl rfl) kp rfl ?_
  have F6 : FrP p h (zSl y5 197 p (zl h 197 q)) := FrP.sl F5
  have a192 : zi (zSl y5 197 p (zl h 197 q)) 192 p = zi h 192 q := a192
  have a193 : zi (zSl y5 197 p (zl h 197 q)) 193 p = zi h 193 q := a193
  have a194 : zi (zSl y5 197 p (zl h 197 q)) 194 p = zi h 194 q := a194
  have a195 : zi (zSl y5 197 p (zl h 197 q)) 195 p = zi h 195 q := a195
  have a196 : zi (zSl y5 197 p (zl h 197 q)) 196 p = zi h 196 q := a196
  have a197 : zl (zSl y5 197 p (zl h 197 q)) 197 p = zl h 197 q := by rw [zl_Sl, if_pos ⟨rfl, rfl⟩]
  have kp : zk (zSl y5 197 p (zl h 197 q)) p = 6 := (F6.2.1 p).1.trans hp0
  have kq : zk (zSl y5 197 p (zl h 197 q)) q = 6 := (F6.2.1 q).1.trans hq0
  generalize zSl y5 197 p (zl h 197 q) = y6 at F6 a192 a193 a194 a195 a196 a197 kp kq ⊢
  refine g_aload_n 0 dX6_copyFrom_48 rfl rfl ?_
  refine g_aload_n 1 dX6_copyFrom_49 rfl rfl ?_
  refine g_geti (f := 198) dX6_copyFrom_50 fl_X6_46 kq (by decide) rfl ?_
  rw [show zi y6 198 q = zi h 198 q from (F6.2.2.2.2 198 q (Ne.symm n)).1]
  refine g_puti (f := 198) dX6_copyFrom_53 fl_X6_46 (Or.inl rfl) kp rfl ?_
  have F7 : FrP p h (zSi y6 198 p (zi h 198 q)) := FrP.si F6
  have a192 : zi (zSi y6 198 p (zi h 198 q)) 192 p = zi h 192 q := (by rw [zi_Si, if_neg (by omega)]; exact a192)
  have a193 : zi (zSi y6 198 p (zi h 198 q)) 193 p = zi h 193 q := (by rw [zi_Si, if_neg (by omega)]; exact a193)
  have a194 : zi (zSi y6 198 p (zi h 198 q)) 194 p = zi h 194 q := (by rw [zi_Si, if_neg (by omega)]; exact a194)
  have a195 : zi (zSi y6 198 p (zi h 198 q)) 195 p = zi h 195 q := (by rw [zi_Si, if_neg (by omega)]; exact a195)
  have a196 : zi (zSi y6 198 p (zi h 198 q)) 196 p = zi h 196 q := (by rw [zi_Si, if_neg (by omega)]; exact a196)
  have a197 : zl (zSi y6 198 p (zi h 198 q)) 197 p = zl h 197 q := a197
  have a198 : zi (zSi y6 198 p (zi h 198 q)) 198 p = zi h 198 q := by rw [zi_Si, if_pos ⟨rfl, rfl⟩]
  have kp : zk (zSi y6 198 p (zi h 198 q)) p = 6 := (F7.2.1 p).1.trans hp0
  have kq : zk (zSi y6 198 p (zi h 198 q)) q = 6 := (F7.2.1 q).1.trans hq0
  generalize zSi y6 198 p (zi h 198 q) = y7 at F7 a192 a193 a194 a195 a196 a197 a198 kp kq ⊢
  refine g_aload_n 0 dX6_copyFrom_56 rfl rfl ?_
  refine g_aload_n 1 dX6_copyFrom_57 rfl rfl ?_
  refine g_geti (f := 199) dX6_copyFrom_58 fl_X6_49 kq (by decide) rfl ?_
  rw [show zi y7 199 q = zi h 199 q from (F7.2.2.2.2 199 q (Ne.symm n)).1]
  refine g_puti (f := 199) dX6_copyFrom_61 fl_X6_49 (Or.inl rfl) kp rfl ?_
  have F8 : FrP p h (zSi y7 199 p (zi h 199 q)) := FrP.si F7
  have a192 : zi (zSi y7 199 p (zi h 199 q)) 192 p = zi h 192 q := (by rw [zi_Si, if_neg (by omega)]; exact a192)
  have a193 : zi (zSi y7 199 p (zi h 199 q)) 193 p = zi h 193 q := (by rw [zi_Si, if_neg (by omega)]; exact a193)
  have a194 : zi (zSi y7 199 p (zi h 199 q)) 194 p = zi h 194 q := (by rw [zi_Si, if_neg (by omega)]; exact a194)
  have a195 : zi (zSi y7 199 p (zi h 199 q)) 195 p = zi h 195 q := (by rw [zi_Si, if_neg (by omega)]; exact a195)
  have a196 : zi (zSi y7 199 p (zi h 199 q)) 196 p = zi h 196 q := (by rw [zi_Si, if_neg (by omega)]; exact a196)
  have a197 : zl (zSi y7 199 p (zi h 199 q)) 197 p = zl h 197 q := a197
  have a198 : zi (zSi y7 199 p (zi h 199 q)) 198 p = zi h 198 q := (by rw [zi_Si, if_neg (by omega)]; exact a198)
  have a199 : zi (zSi y7 199 p (zi h 199 q)) 199 p = zi h 199 q := by rw [zi_Si, if_pos ⟨rfl, rfl⟩]
  have kp : zk (zSi y7 199 p (zi h 199 q)) p = 6 := (F8.2.1 p).1.trans hp0
  have kq : zk (zSi y7 199 p (zi h 199 q)) q = 6 := (F8.2.1 q).1.trans hq0
  generalize zSi y7 199 p (zi h 199 q) = y8 at F8 a192 a193 a194 a195 a196 a197 a198 a199 kp kq ⊢
  refine g_aload_n 0 dX6_copyFrom_64 rfl rfl ?_
  refine g_aload_n 1 dX6_copyFrom_65 rfl rfl ?_
  refine g_geti (f := 200) dX6_copyFrom_66 fl_X6_52 kq (by decide) rfl ?_
  rw [show zi y8 200 q = zi h 200 q from (F8.2.2.2.2 200 q (Ne.symm n)).1]
  refine g_putz (f := 200) dX6_copyFrom_69 fl_X6_52 (Or.inl rfl) kp rfl h2 ?_
  have F9 : FrP p h (zSi y8 200 p (zi h 200 q)) := FrP.si F8
  have a192 : zi (zSi y8 200 p (zi h 200 q)) 192 p = zi h 192 q := (by rw [zi_Si, if_neg (by omega)]; exact a192)
  have a193 : zi (zSi y8 200 p (zi h 200 q)) 193 p = zi h 193 q := (by rw [zi_Si, if_neg (by omega)]; exact a193)
  have a194 : zi (zSi y8 200 p (zi h 200 q)) 194 p = zi h 194 q := (by rw [zi_Si, if_neg (by omega)]; exact a194)
  have a195 : zi (zSi y8 200 p (zi h 200 q)) 195 p = zi h 195 q := (by rw [zi_Si, if_neg (by omega)]; exact a195)
  have a196 : zi (zSi y8 200 p (zi h 200 q)) 196 p = zi h 196 q := (by rw [zi_Si, if_neg (by omega)]; exact a196)
  have a197 : zl (zSi y8 200 p (zi h 200 q)) 197 p = zl h 197 q := a197
  have a198 : zi (zSi y8 200 p (zi h 200 q)) 198 p = zi h 198 q := (by rw [zi_Si, if_neg (by omega)]; exact a198)
  have a199 : zi (zSi y8 200 p (zi h 200 q)) 199 p = zi h 199 q := (by rw [zi_Si, if_neg (by omega)]; exact a199)
  have a200 : zi (zSi y8 200 p (zi h 200 q)) 200 p = zi h 200 q := by rw [zi_Si, if_pos ⟨rfl, rfl⟩]
  have kp : zk (zSi y8 200 p (zi h 200 q)) p = 6 := (F9.2.1 p).1.trans hp0
  have kq : zk (zSi y8 200 p (zi h 200 q)) q = 6 := (F9.2.1 q).1.trans hq0
  generalize zSi y8 200 p (zi h 200 q) = y9 at F9 a192 a193 a194 a195 a196 a197 a198 a199 a200 kp kq ⊢
  refine g_return dX6_copyFrom_72 rfl ?_
  refine ⟨rfl, ⟨fun f h1 h2 h3 => ?_, a197⟩, F9⟩
  obtain rfl | rfl | rfl | rfl | rfl | rfl | rfl | rfl : f = 192 ∨ f = 193 ∨ f = 194 ∨ f = 195 ∨ f = 196 ∨ f = 198 ∨ f = 199 ∨ f = 200 := by omega
  · exact a192
  · exact a193
  · exact a194
  · exact a195
  · exact a196
  · exact a198
  · exact a199
  · exact a200
end CP4
