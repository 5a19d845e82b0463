section CP6
variable {l : Launch} {w : zW} {h y : zH} {p q : Nat}
theorem c_suCopy (hp0 : zk h p = 7) (hq0 : zk h q = 7) (n : p ≠ q) : zM l w mX7_copyFrom [.ref p, .ref q] h (fun u h1 => u = none ∧ (∀ f, 224 ≤ f → f < 230 → zl h1 f p = zl h f q) ∧ FrP p h h1) := by
  refine zM.of (by decide) (Nat.le_of_ble_eq_true rfl) ?_
  have F0 : FrP p h h := FrP.rf
  refine g_aload_n 0 dX7_copyFrom_0 rfl rfl ?_
  refine g_aload_n 1 dX7_copyFrom_1 rfl rfl ?_
  refine g_getl (f := 224) dX7_copyFrom_2 fl_X7_7 hq0 rfl ?_
  rw [show zl h 224 q = zl h 224 q from (F0.2.2.2.2 224 q (Ne.symm n)).2]
  refine g_putl (f := 224) dX7_copyFrom_5 fl_X7_7 (Or.inl rfl) hp0 rfl ?_
  have F1 : FrP p h (zSl h 224 p (zl h 224 q)) := FrP.sl F0
  have a224 : zl (zSl h 224 p (zl h 224 q)) 224 p = zl h 224 q := by rw [zl_Sl, if_pos ⟨rfl, rfl⟩]
  have kp : zk (zSl h 224 p (zl h 224 q)) p = 7 := (F1.2.1 p).1.trans hp0
  have kq : zk (zSl h 224 p (zl h 224 q)) q = 7 := (F1.2.1 q).1.trans hq0
  generalize zSl h 224 p (zl h 224 q) = y1 at F1 a224 kp kq ⊢
  refine g_aload_n 0 dX7_copyFrom_8 rfl rfl ?_
  refine g_aload_n 1 dX7_copyFrom_9 rfl rfl ?_
  refine g_getl (f := 225) dX7_copyFrom_10 fl_X7_13 kq rfl ?_
  rw [show zl y1 225 q = zl h 225 q from (F1.2.2.2.2 225 q (Ne.symm n)).2]
  refine g_putl (f := 225) dX7_copyFrom_13 fl_X7_13 (Or.inl rfl) kp rfl ?_
  have F2 : FrP p h (zSl y1 225 p (zl h 225 q)) := FrP.sl F1
  have a224 : zl (zSl y1 225 p (zl h 225 q)) 224 p = zl h 224 q := (by rw [zl_Sl, if_neg (by omega)]; exact a224)
  have a225 : zl (zSl y1 225 p (zl h 225 q)) 225 p = zl h 225 q := by rw [zl_Sl, if_pos ⟨rfl, rfl⟩]
  have kp : zk (zSl y1 225 p (zl h 225 q)) p = 7 := (F2.2.1 p).1.trans hp0
  have kq : zk (zSl y1 225 p (zl h 225 q)) q = 7 := (F2.2.1 q).1.trans hq0
  generalize zSl y1 225 p (zl h 225 q) = y2 at F2 a224 a225 kp kq ⊢
  refine g_aload_n 0 dX7_copyFrom_16 rfl rfl ?_
  refine g_aload_n 1 dX7_copyFrom_17 rfl rfl ?_
  refine g_getl (f := 226) dX7_copyFrom_18 fl_X7_16 kq rfl ?_
  rw [show zl y2 226 q = zl h 226 q from (F2.2.2.2.2 226 q (Ne.symm n)).2]
  refine g_putl (f := 226) dX7_copyFrom_21 fl_X7_16 (Or.inl rfl) kp rfl ?_
  have F3 : FrP p h (zSl y2 226 p (zl h 226 q)) := FrP.sl F2
  have a224 : zl (zSl y2 226 p (zl h 226 q)) 224 p = zl h 224 q := (by rw [zl_Sl, if_neg (by omega)]; exact a224)
  have a225 : zl (zSl y2 226 p (zl h 226 q)) 225 p = zl h 225 q := (by rw [zl_Sl, if_neg (by omega)]; exact a225)
  have a226 : zl (zSl y2 226 p (zl h 226 q)) 226 p = zl h 226 q := by rw [zl_Sl, if_pos ⟨rfl, rfl⟩]
  have kp : zk (zSl y2 226 p (zl h 226 q)) p = 7 := (F3.2.1 p).1.trans hp0
  have kq : zk (zSl y2 226 p (zl h 226 q)) q = 7 := (F3.2.1 q).1.trans hq0
  generalize zSl y2 226 p (zl h 226 q) = y3 at F3 a224 a225 a226 kp kq ⊢
  refine g_aload_n 0 dX7_copyFrom_24 rfl rfl ?_
  refine g_aload_n 1 dX7_copyFrom_25 rfl rfl ?_
  refine g_getl (f := 227) dX7_copyFrom_26 fl_X7_19 kq rfl ?_
  rw [show zl y3 227 q = zl h 227 q from (F3.2.2.2.2 227 q (Ne.symm n)).2]
  refine g_putl (f := 227) dX7_copyFrom_29 fl_X7_19 (Or.inl rfl) kp rfl ?_
  have F4 : FrP p h (zSl y3 227 p (zl h 227 q)) := FrP.sl F3
  have a224 : zl (zSl y3 227 p (zl h 227 q)) 224 p = zl h 224 q := (by rw [zl_Sl, if_neg (by omega)]; exact a224)
  have a225 : zl (zSl y3 227 p (zl h 227 q)) 225 p = zl h 225 q := (by rw [zl_Sl, if_neg (by omega)]; exact a225)
  have a226 : zl (zSl y3 227 p (zl h 227 q)) 226 p = zl h 226 q := (by rw [zl_Sl, if_neg (by omega)]; exact a226)
  have a227 : zl (zSl y3 227 p (zl h 227 q)) 227 p = zl h 227 q := by rw [zl_Sl, if_pos ⟨rfl, rfl⟩]
  have kp : zk (zSl y3 227 p (zl h 227 q)) p = 7 := (F4.2.1 p).1.trans hp0
  have kq : zk (zSl y3 227 p (zl h 227 q)) q = 7 := (F4.2.1 q).1.trans hq0
  generalize zSl y3 227 p (zl h 227 q) = y4 at F4 a224 a225 a226 a227 kp kq ⊢
  refine g_aload_n 0 dX7_copyFrom_32 rfl rfl ?_
  refine g_aload_n 1 dX7_copyFrom_33 rfl rfl ?_
  refine g_getl (f := 228) dX7_copyFrom_34 fl_X7_22 kq rfl ?_
  rw [show zl y4 228 q = zl h 228 q from (F4.2.2.2.2 228 q (Ne.symm n)).2]
  refine g_putl (f := 228) dX7_copyFrom_37 fl_X7_22 (Or.inl rfl) kp rfl ?_
  have F5 : FrP p h (zSl y4 228 p (zl h 228 q)) := FrP.sl F4
  have a224 : zl (zSl y4 228 p (zl h 228 q)) 224 p = zl h 224 q := (by rw [zl_Sl, if_neg (by omega)]; exact a224)
  have a225 : zl (zSl y4 228 p (zl h 228 q)) 225 p = zl h 225 q := (by rw [zl_Sl, if_neg (by omega)]; exact a225)
  have a226 : zl (zSl y4 228 p (zl h 228 q)) 226 p = zl h 226 q := (by rw [zl_Sl, if_neg (by omega)]; exact a226)
  have a227 : zl (zSl y4 228 p (zl h 228 q)) 227 p = zl h 227 q := (by rw [zl_Sl, if_neg (by omega)]; exact a227)
  have a228 : zl (zSl y4 228 p (zl h 228 q)) 228 p = zl h 228 q := by rw [zl_Sl, if_pos ⟨rfl, rfl⟩]
  have kp : zk (zSl y4 228 p (zl h 228 q)) p = 7 := (F5.2.1 p).1.trans hp0
  have kq : zk (zSl y4 228 p (zl h 228 q)) q = 7 := (F5.2.1 q).1.trans hq0
  generalize zSl y4 228 p (zl h 228 q) = y5 at F5 a224 a225 a226 a227 a228 kp kq ⊢
  refine g_aload_n 0 dX7_copyFrom_40 rfl rfl ?_
  refine g_aload_n 1 dX7_copyFrom_41 rfl rfl ?_
  refine g_getl (f := 229) dX7_copyFrom_42 fl_X7_25 kq rfl ?_
  rw [show zl y5 229 q = zl h 229 q from (F5.2.2.2.2 229 q (Ne.symm n)).2]
  refine g_putl (f := 229) dX7_copyFrom_45 fl_X7_25 (Or.inl rfl) kp rfl ?_
  have F6 : FrP p h (zSl y5 229 p (zl h 229 q)) := FrP.sl F5
  have a224 : zl (zSl y5 229 p (zl h 229 q)) 224 p = zl h 224 q := (by rw [zl_Sl, if_neg (by omega)]; exact a224)
  have a225 : zl (zSl y5 229 p (zl h 229 q)) 225 p = zl h 225 q := (by rw [zl_Sl, if_neg (by omega)]; exact a225)
  have a226 : zl (zSl y5 229 p (zl h 229 q)) 226 p = zl h 226 q := (by rw [zl_Sl, if_neg (by omega)]; exact a226)
  have a227 : zl (zSl y5 229 p (zl h 229 q)) 227 p = zl h 227 q := (by rw [zl_Sl, if_neg (by omega)]; exact a227)
  have a228 : zl (zSl y5 229 p (zl h 229 q)) 228 p = zl h 228 q := (by rw [zl_Sl, if_neg (by omega)]; exact a228)
  have a229 : zl (zSl y5 229 p (zl h 229 q)) 229 p = zl h 229 q := by rw [zl_Sl, if_pos ⟨rfl, rfl⟩]
  have kp : zk (zSl y5 229 p (zl h 229 q)) p = 7 := (F6.2.1 p).1.trans hp0
  have kq : zk (zSl y5 229 p (zl h 229 q)) q = 7 := (F6.2.1 q).1.trans hq0
  generalize zSl y5 229 p (zl h 229 q) = y6 at F6 a224 a225 a226 a227 a228 a229 kp kq ⊢
  refine g_return dX7_copyFrom_48 rfl ?_
  refine ⟨rfl, fun f h1 h2 => ?_, F6⟩
  obtain rfl | rfl | rfl | rfl | rfl | rfl : f = 224 ∨ f = 225 ∨ f = 226 ∨ f = 227 ∨ f = 228 ∨ f = 229 := by omega
  · exact a224
  · exact a225
  · exact a226
  · exact a227
  · exact a228
  · exact a229
end CP6
