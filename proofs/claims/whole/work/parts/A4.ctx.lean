section CTX
variable {l : Launch} {w : zW} {h y z : zH} {o o' b c x : Nat} {N : nT} {Ms : Nat → nT} {q : Int}
/-- as FrC; of o itself nothing is said -/
def FrD (o : Nat) (h y : zH) : Prop := zx h ≤ zx y ∧ (∀ a, a < zx h → a ≠ o → SmA h y a) ∧ ∀ a, zx h ≤ a → a < zx y → (∀ f, zi y f a = 0 ∧ zl y f a = 0) ∧ (∀ i, zI y a i = 0 ∧ zL y a i = 0) ∧ zr y 96 a = none ∧ zr y 97 a = none
theorem FrD.rf : FrD o h h := ⟨Nat.le_refl _, fun _ _ _ => SmA.rf, fun a h1 h2 => absurd h2 (by omega)⟩
theorem FrD.tr (F : FrD o h y) (G : FrC o' y z) (ho : o' = o ∨ zx h ≤ o') : FrD o h z := by
  obtain ⟨f1, f2, f3⟩ := F
  refine ⟨by have := G.1; omega, fun a ha no => (f2 a ha no).tr (G.sm (by omega) (by omega)), fun a h1 h2 => ?_⟩
  by_cases c : a < zx y
  · obtain ⟨p1, p2, p3, p4⟩ := f3 a h1 c
    obtain ⟨q1, q2, q3⟩ := G.2.1 a c
    exact ⟨fun f => ⟨(q2 f).1.trans (p1 f).1, (q2 f).2.1.trans (p1 f).2⟩, fun i => ⟨(q3 i).1.trans (p2 i).1, (q3 i).2.1.trans (p2 i).2⟩, ((q2 96).2.2 (by omega)).trans p3, ((q2 97).2.2 (by omega)).trans p4⟩
  · exact G.2.2 a (by omega) h2
theorem FrD.nw {k n : Nat} (F : FrD o h y) : FrD o h (zNw y k n) := F.tr (FrC.rf.nw (o := o)) (Or.inl rfl)
theorem FrD.sr {f : Nat} {v : Option Nat} (F : FrD o h y) (hf : f ≠ 96 ∧ f ≠ 97) (ho : c = o ∨ zx h ≤ c) : FrD o h (zSr y f c v) := F.tr (FrC.rf.sr (o := c) hf (Or.inl rfl)) ho
theorem FrD.sR {i : Nat} {v : Option Nat} (F : FrD o h y) (ho : zx h ≤ c) : FrD o h (zSR y c i v) := F.tr FrC.so (Or.inr ho)
theorem FrD.sio {f : Nat} {v : Int32} (F : FrD o h y) (ho : o < zx h) : FrD o h (zSi y f o v) := ⟨F.1, fun a ha na => (F.2.1 a ha na).tr (SmA.si na), fun a h1 h2 => by
  obtain ⟨p1, p2, p3, p4⟩ := F.2.2 a h1 h2
  exact ⟨fun g => ⟨by rw [zi_Si, if_neg (by omega)]; exact (p1 g).1, (p1 g).2⟩, p2, p3, p4⟩⟩
/-- a net as its constructor leaves it -/
def netQ (y : zH) (b : Nat) : Prop := hdC y b ∧ (∀ i, i < 6 → zR y (b + 1) i = some (b + 11 + 7 * i) ∧ lkC y (b + 11 + 7 * i)) ∧ ∀ i, i < 6 → zR y (b + 2) i = some (b + 53 + 2 * i) ∧ flC y (b + 53 + 2 * i)
theorem netQ.fc (k : netQ y b) (F : FrC o y z) (h1 : b + 65 ≤ zx y) (h2 : o < b ∨ b + 65 ≤ o) : netQ z b := by
  obtain ⟨k1, k2, k3⟩ := k
  exact ⟨k1.fc F (by omega) (by omega), fun i hi => ⟨((F.2.1 _ (by omega)).2.2 _).2.2 (by omega) |>.trans (k2 i hi).1, (k2 i hi).2.fc F (by omega) (by omega)⟩, fun i hi => ⟨((F.2.1 _ (by omega)).2.2 _).2.2 (by omega) |>.trans (k3 i hi).1, (k3 i hi).2.fc F (by omega) (by omega)⟩⟩
theorem netQ.cls (k : netQ y b) (h1 : b + 65 ≤ zx y) : ClS y b := ⟨⟨h1, k.1.1⟩, ⟨k.1.2.2.2.1, k.1.2.1, k.1.2.2.1⟩, ⟨k.1.2.2.2.2.2.2.1, k.1.2.2.2.2.1, k.1.2.2.2.2.2.1⟩, ⟨k.1.2.2.2.2.2.2.2.2.1, k.1.2.2.2.2.2.2.2.1⟩, ⟨k.1.2.2.2.2.2.2.2.2.2.2.1, k.1.2.2.2.2.2.2.2.2.2.1⟩, ⟨k.1.2.2.2.2.2.2.2.2.2.2.2.2.2.2.2.1, k.1.2.2.2.2.2.2.2.2.2.2.2.1⟩, fun j hj => ⟨k.1.2.2.2.2.2.2.2.2.2.2.2.2.1 j hj, k.1.2.2.2.2.2.2.2.2.2.2.2.2.2.1 j hj, k.1.2.2.2.2.2.2.2.2.2.2.2.2.2.2.1 j hj⟩, ⟨k.1.2.2.2.2.2.2.2.2.2.2.2.2.2.2.2.2.2.2, k.1.2.2.2.2.2.2.2.2.2.2.2.2.2.2.2.2.1, k.1.2.2.2.2.2.2.2.2.2.2.2.2.2.2.2.2.2.1⟩, fun i hi => ⟨(k.2.1 i hi).1, (k.2.1 i hi).2⟩, fun i hi => ⟨(k.2.2 i hi).1, (k.2.2 i hi).2⟩⟩
def ls0 : Nat → List Nat := fun _ => []
theorem tot0 : totL ls0 b = 0 := by
  rw [totL_all (fun _ _ => rfl)]
  rfl
theorem netQ.tx (k : netQ y b) (h1 : b + 65 ≤ zx y) (s : lnS y ls0) (z : ∀ a, b ≤ a → a < b + 65 → ∀ f, zi y f a = 0) : TX y b ls0 (zeN q) 0 0 := by
  have z0 : ∀ k, k ≠ 3 → nA (zeN q) k = 0 := fun k hk => zeN_0 hk
  have l0 : nLk (zeN q) = 0 := by unfold nLk; rw [z0 0 (by omega)]; rfl
  have f0 : nFw (zeN q) = 0 := by unfold nFw; rw [z0 1 (by omega)]; rfl
  have zb := z b (Nat.le_refl _) (by omega)
  have z5 := z (b + 5) (by omega) (by omega)
  exact ⟨k.cls h1, s, ⟨by rw [l0]; exact zb _, by rw [f0]; exact zb _, zb _, zb _, zb _⟩, fun a ha => by rw [z0 0 (by omega)] at ha; omega, fun f hf => by rw [z0 1 (by omega)] at hf; omega, fun _ _ => rfl, ⟨by rw [tot0]; exact zb _, by rw [tot0]; omega⟩, z5 _, z5 _⟩
def B0 (x i : Nat) : Nat := if i = 0 then x + 2 else if i = 1 then x + 67 else x + 133 + 65 * (i - 2)
theorem B0_bk {i : Nat} (hi : i < 5) : isBk x (B0 x i) := by
  unfold isBk B0
  rcases (show i = 0 ∨ i = 1 ∨ i = 2 ∨ i = 3 ∨ i = 4 by omega) with e | e | e | e | e <;> subst e <;> simp
theorem B0_inj {i j : Nat} (hi : i < 5) (hj : j < 5) (n : i ≠ j) : B0 x i ≠ B0 x j := by
  unfold B0
  (repeat' split) <;> omega
set_option maxHeartbeats 8000000 in
theorem c_xInit (hk : zk h x = 9) (hx : zx h = x + 1) (hz : ∀ f, zi h f x = 0) (h3 : ∀ a, zk h a ≠ 3) : zM l w mX9_init [.ref x] h (fun u y => u = none ∧ zx y = x + 333 ∧ zt y = zt h + 3784 ∧ (∀ a, a < x → SmA h y a) ∧ (∀ q Ms, GC y x (B0 x) ls0 (zeN q) Ms 0) ∧ TpF y x 9 288 (x + 1) 289 0 ∧ zi y 290 x = 0 ∧ zi y 291 x = -1 ∧ zi y 292 x = -1 ∧ (zr y 297 x = some (x + 328) ∧ zk y (x + 328) = 8) ∧ (zr y 298 x = some (x + 329) ∧ BsO y (x + 329)) ∧ (∀ i, zI y (x + 1) i = 0) ∧ mdS x y = 0) := by
  refine zM.of (by decide) (Nat.le_of_ble_eq_true rfl) ?_
  have t0 : zt h = zt h + 0 := rfl
  refine g_aload_n 0 dX9_init_0 rfl rfl ?_
  refine g_objInit dX9_init_1 ml_X9_3 oi_i oi_c (Nat.le_of_ble_eq_true rfl) (Nat.le_of_ble_eq_true rfl) ?_
  refine g_aload_n 0 dX9_init_4 rfl rfl ?_
  refine g_sipush (v := nI 600) dX9_init_5 (by decide) ?_
  refine g_newa (t := 0) (x := x + 1) (N := 600) (ty := .byte) dX9_init_8 rfl ac_0 rfl (by decide) (fun _ => rfl) (nI_pos (by omega)) (nI_clamp (by omega)) (by decide) hx ?_
  have e1_0 : zk (zNw h 20 600) x = 9 := by rw [zk_Nw, if_neg (by omega)]; exact hk
  have e1_1 : zi (zNw h 20 600) 289 x = 0 := by rw [zi_Nw, if_neg (by omega)]; exact (hz 289)
  have e1_2 : zi (zNw h 20 600) 290 x = 0 := by rw [zi_Nw, if_neg (by omega)]; exact (hz 290)
  have e1_3 : zi (zNw h 20 600) 296 x = 0 := by rw [zi_Nw, if_neg (by omega)]; exact (hz 296)
  have e1_n0 : zk (zNw h 20 600) (x + 1) = 20 := by rw [zk_Nw, if_pos hx.symm]
  have e1_n1 : zn (zNw h 20 600) (x + 1) = 600 := by rw [zn_Nw, if_pos hx.symm]
  have x1 : zx (zNw h 20 600) = x + 2 := by have q := zx_Nw h 20 600; omega
  have t1 : zt (zNw h 20 600) = zt h + 600 := by have q := zt_Nw h 20 600; omega
  have F1 : FrD x h (zNw h 20 600) := FrD.rf.nw
  generalize zNw h 20 600 = y1 at x1 t1 F1 e1_0 e1_1 e1_2 e1_3 e1_n0 e1_n1 ⊢
  clear t0
  refine g_putr (f := 288) dX9_init_10 fl_X9_9 (Or.inr ⟨rfl, fun _ _ _ q => by cases q; rfl⟩) e1_0 rfl ?_
  have e2_0 : zk (zSr y1 288 x (some (x + 1))) x = 9 := e1_0
  have e2_1 : zi (zSr y1 288 x (some (x + 1))) 289 x = 0 := e1_1
  have e2_2 : zi (zSr y1 288 x (some (x + 1))) 290 x = 0 := e1_2
  have e2_3 : zi (zSr y1 288 x (some (x + 1))) 296 x = 0 := e1_3
  have e2_4 : zk (zSr y1 288 x (some (x + 1))) (x + 1) = 20 := e1_n0
  have e2_5 : zn (zSr y1 288 x (some (x + 1))) (x + 1) = 600 := e1_n1
  have e2_n0 : zr (zSr y1 288 x (some (x + 1))) 288 x = some (x + 1) := by rw [zr_Sr, if_pos ⟨rfl, rfl⟩]
  have x2 : zx (zSr y1 288 x (some (x + 1))) = x + 2 := x1
  have t2 : zt (zSr y1 288 x (some (x + 1))) = zt h + 600 := t1
  have F2 : FrD x h (zSr y1 288 x (some (x + 1))) := F1.sr (by omega) (by omega)
  generalize zSr y1 288 x (some (x + 1)) = y2 at x2 t2 F2 e2_0 e2_1 e2_2 e2_3 e2_4 e2_5 e2_n0 ⊢
  clear x1 t1 F1 e1_0 e1_1 e1_2 e1_3 e1_n0 e1_n1
  refine g_aload_n 0 dX9_init_13 rfl rfl ?_
  refine g_iconst (v := (-1)) dX9_init_14 (by decide) ?_
  refine g_puti (f := 291) dX9_init_15 fl_X9_13 (Or.inl rfl) e2_0 rfl ?_
  have e3_0 : zk (zSi y2 291 x (-1)) x = 9 := e2_0
  have e3_1 : zi (zSi y2 291 x (-1)) 289 x = 0 := by rw [zi_Si, if_neg (by omega)]; exact e2_1
  have e3_2 : zi (zSi y2 291 x (-1)) 290 x = 0 := by rw [zi_Si, if_neg (by omega)]; exact e2_2
  have e3_3 : zi (zSi y2 291 x (-1)) 296 x = 0 := by rw [zi_Si, if_neg (by omega)]; exact e2_3
  have e3_4 : zk (zSi y2 291 x (-1)) (x + 1) = 20 := e2_4
  have e3_5 : zn (zSi y2 291 x (-1)) (x + 1) = 600 := e2_5
  have e3_6 : zr (zSi y2 291 x (-1)) 288 x = some (x + 1) := e2_n0
  have e3_n0 : zi (zSi y2 291 x (-1)) 291 x = (-1) := zi_same
  have x3 : zx (zSi y2 291 x (-1)) = x + 2 := x2
  have t3 : zt (zSi y2 291 x (-1)) = zt h + 600 := t2
  have F3 : FrD x h (zSi y2 291 x (-1)) := F2.sio (by omega)
  generalize zSi y2 291 x (-1) = y3 at x3 t3 F3 e3_0 e3_1 e3_2 e3_3 e3_4 e3_5 e3_6 e3_n0 ⊢
  clear x2 t2 F2 e2_0 e2_1 e2_2 e2_3 e2_4 e2_5 e2_n0
  refine g_aload_n 0 dX9_init_18 rfl rfl ?_
  refine g_iconst (v := (-1)) dX9_init_19 (by decide) ?_
  refine g_puti (f := 292) dX9_init_20 fl_X9_17 (Or.inl rfl) e3_0 rfl ?_
  have e4_0 : zk (zSi y3 292 x (-1)) x = 9 := e3_0
  have e4_1 : zi (zSi y3 292 x (-1)) 289 x = 0 := by rw [zi_Si, if_neg (by omega)]; exact e3_1
  have e4_2 : zi (zSi y3 292 x (-1)) 290 x = 0 := by rw [zi_Si, if_neg (by omega)]; exact e3_2
  have e4_3 : zi (zSi y3 292 x (-1)) 296 x = 0 := by rw [zi_Si, if_neg (by omega)]; exact e3_3
  have e4_4 : zk (zSi y3 292 x (-1)) (x + 1) = 20 := e3_4
  have e4_5 : zn (zSi y3 292 x (-1)) (x + 1) = 600 := e3_5
  have e4_6 : zr (zSi y3 292 x (-1)) 288 x = some (x + 1) := e3_6
  have e4_7 : zi (zSi y3 292 x (-1)) 291 x = (-1) := by rw [zi_Si, if_neg (by omega)]; exact e3_n0
  have e4_n0 : zi (zSi y3 292 x (-1)) 292 x = (-1) := zi_same
  have x4 : zx (zSi y3 292 x (-1)) = x + 2 := x3
  have t4 : zt (zSi y3 292 x (-1)) = zt h + 600 := t3
  have F4 : FrD x h (zSi y3 292 x (-1)) := F3.sio (by omega)
  generalize zSi y3 292 x (-1) = y4 at x4 t4 F4 e4_0 e4_1 e4_2 e4_3 e4_4 e4_5 e4_6 e4_7 e4_n0 ⊢
  clear x3 t3 F3 e3_0 e3_1 e3_2 e3_3 e3_4 e3_5 e3_6 e3_n0
  refine g_aload_n 0 dX9_init_23 rfl rfl ?_
  refine g_new (x := x + 2) dX9_init_24 mk_X9_20 x4 ?_
  have e5_0 : zk (zNw y4 5 12) x = 9 := by rw [zk_Nw, if_neg (by omega)]; exact e4_0
  have e5_1 : zi (zNw y4 5 12) 289 x = 0 := by rw [zi_Nw, if_neg (by omega)]; exact e4_1
  have e5_2 : zi (zNw y4 5 12) 290 x = 0 := by rw [zi_Nw, if_neg (by omega)]; exact e4_2
  have e5_3 : zi (zNw y4 5 12) 296 x = 0 := by rw [zi_Nw, if_neg (by omega)]; exact e4_3
  have e5_4 : zk (zNw y4 5 12) (x + 1) = 20 := by rw [zk_Nw, if_neg (by omega)]; exact e4_4
  have e5_5 : zn (zNw y4 5 12) (x + 1) = 600 := by rw [zn_Nw, if_neg (by omega)]; exact e4_5
  have e5_6 : zr (zNw y4 5 12) 288 x = some (x + 1) := by rw [zr_Nw, if_neg (by omega)]; exact e4_6
  have e5_7 : zi (zNw y4 5 12) 291 x = (-1) := by rw [zi_Nw, if_neg (by omega)]; exact e4_7
  have e5_8 : zi (zNw y4 5 12) 292 x = (-1) := by rw [zi_Nw, if_neg (by omega)]; exact e4_n0
  have e5_n0 : zk (zNw y4 5 12) (x + 2) = 5 := by rw [zk_Nw, if_pos x4.symm]
  have x5 : zx (zNw y4 5 12) = x + 3 := by have q := zx_Nw y4 5 12; omega
  have t5 : zt (zNw y4 5 12) = zt h + 612 := by have q := zt_Nw y4 5 12; omega
  have F5 : FrD x h (zNw y4 5 12) := F4.nw
  generalize zNw y4 5 12 = y5 at x5 t5 F5 e5_0 e5_1 e5_2 e5_3 e5_4 e5_5 e5_6 e5_7 e5_8 e5_n0 ⊢
  clear x4 t4 F4 e4_0 e4_1 e4_2 e4_3 e4_4 e4_5 e4_6 e4_7 e4_n0
  refine g_dup dX9_init_27 rfl ?_
  refine g_invi (M' := mX5_init) (As := []) (rest := [.ref (x + 2), .ref x]) dX9_init_28 ml_X9_22 okX5_init imX5_init rfl rfl ⟨(Nat.le_of_ble_eq_true rfl), (Nat.le_of_ble_eq_true rfl)⟩ rfl rfl (Nat.le_of_ble_eq_true rfl) (c_netInit e5_n0 (by omega)) ?_
  rintro _ y6 ⟨rfl, x6, t6, G6, A6, B6, C6⟩
  show zG l w mX9_init 31 [(0, .ref x)] [.ref (x + 2), .ref x] y6 _
  have e6_0 : zk y6 x = 9 := (G6.2.1 _ (by omega)).1.1.trans e5_0
  have e6_1 : zi y6 289 x = 0 := ((G6.2.1 _ (by omega)).2.1 _).1.trans e5_1
  have e6_2 : zi y6 290 x = 0 := ((G6.2.1 _ (by omega)).2.1 _).1.trans e5_2
  have e6_3 : zi y6 296 x = 0 := ((G6.2.1 _ (by omega)).2.1 _).1.trans e5_3
  have e6_4 : zk y6 (x + 1) = 20 := (G6.2.1 _ (by omega)).1.1.trans e5_4
  have e6_5 : zn y6 (x + 1) = 600 := (G6.2.1 _ (by omega)).1.2.trans e5_5
  have e6_6 : zr y6 288 x = some (x + 1) := ((G6.2.1 _ (by omega)).2.1 _).2.2 (Or.inl (by omega)) |>.trans e5_6
  have e6_7 : zi y6 291 x = (-1) := ((G6.2.1 _ (by omega)).2.1 _).1.trans e5_7
  have e6_8 : zi y6 292 x = (-1) := ((G6.2.1 _ (by omega)).2.1 _).1.trans e5_8
  have e6_9 : zk y6 (x + 2) = 5 := (G6.2.1 _ (by omega)).1.1.trans e5_n0
  have e6_n0 : netQ y6 (x + 2) := ⟨A6, B6, C6⟩
  have X6 : zx y6 = x + 67 := by omega
  have T6 : zt y6 = zt h + 1230 := by omega
  have F6 : FrD x h y6 := F5.tr G6 (by omega)
  clear x5 t5 F5 e5_0 e5_1 e5_2 e5_3 e5_4 e5_5 e5_6 e5_7 e5_8 e5_n0 x6 t6
  refine g_putr (f := 293) dX9_init_31 fl_X9_23 (Or.inl rfl) e6_0 rfl ?_
  have e7_0 : zk (zSr y6 293 x (some (x + 2))) x = 9 := e6_0
  have e7_1 : zi (zSr y6 293 x (some (x + 2))) 289 x = 0 := e6_1
  have e7_2 : zi (zSr y6 293 x (some (x + 2))) 290 x = 0 := e6_2
  have e7_3 : zi (zSr y6 293 x (some (x + 2))) 296 x = 0 := e6_3
  have e7_4 : zk (zSr y6 293 x (some (x + 2))) (x + 1) = 20 := e6_4
  have e7_5 : zn (zSr y6 293 x (some (x + 2))) (x + 1) = 600 := e6_5
  have e7_6 : zr (zSr y6 293 x (some (x + 2))) 288 x = some (x + 1) := by rw [zr_Sr, if_neg (by omega)]; exact e6_6
  have e7_7 : zi (zSr y6 293 x (some (x + 2))) 291 x = (-1) := e6_7
  have e7_8 : zi (zSr y6 293 x (some (x + 2))) 292 x = (-1) := e6_8
  have e7_9 : zk (zSr y6 293 x (some (x + 2))) (x + 2) = 5 := e6_9
  have e7_10 : netQ (zSr y6 293 x (some (x + 2))) (x + 2) := e6_n0.fc (FrC.rf.sr (o := x) (by omega) (Or.inl rfl)) (by omega) (by omega)
  have e7_n0 : zr (zSr y6 293 x (some (x + 2))) 293 x = some (x + 2) := by rw [zr_Sr, if_pos ⟨rfl, rfl⟩]
  have x7 : zx (zSr y6 293 x (some (x + 2))) = x + 67 := X6
  have t7 : zt (zSr y6 293 x (some (x + 2))) = zt h + 1230 := T6
  have F7 : FrD x h (zSr y6 293 x (some (x + 2))) := F6.sr (by omega) (by omega)
  generalize zSr y6 293 x (some (x + 2)) = y7 at x7 t7 F7 e7_0 e7_1 e7_2 e7_3 e7_4 e7_5 e7_6 e7_7 e7_8 e7_9 e7_10 e7_n0 ⊢
  clear X6 T6 F6 e6_0 e6_1 e6_2 e6_3 e6_4 e6_5 e6_6 e6_7 e6_8 e6_9 e6_n0 G6
  refine g_aload_n 0 dX9_init_34 rfl rfl ?_
  refine g_new (x := x + 67) dX9_init_35 mk_X9_20 x7 ?_
  have e8_0 : zk (zNw y7 5 12) x = 9 := by rw [zk_Nw, if_neg (by omega)]; exact e7_0
  have e8_1 : zi (zNw y7 5 12) 289 x = 0 := by rw [zi_Nw, if_neg (by omega)]; exact e7_1
  have e8_2 : zi (zNw y7 5 12) 290 x = 0 := by rw [zi_Nw, if_neg (by omega)]; exact e7_2
  have e8_3 : zi (zNw y7 5 12) 296 x = 0 := by rw [zi_Nw, if_neg (by omega)]; exact e7_3
  have e8_4 : zk (zNw y7 5 12) (x + 1) = 20 := by rw [zk_Nw, if_neg (by omega)]; exact e7_4
  have e8_5 : zn (zNw y7 5 12) (x + 1) = 600 := by rw [zn_Nw, if_neg (by omega)]; exact e7_5
  have e8_6 : zr (zNw y7 5 12) 288 x = some (x + 1) := by rw [zr_Nw, if_neg (by omega)]; exact e7_6
  have e8_7 : zi (zNw y7 5 12) 291 x = (-1) := by rw [zi_Nw, if_neg (by omega)]; exact e7_7
  have e8_8 : zi (zNw y7 5 12) 292 x = (-1) := by rw [zi_Nw, if_neg (by omega)]; exact e7_8
  have e8_9 : zk (zNw y7 5 12) (x + 2) = 5 := by rw [zk_Nw, if_neg (by omega)]; exact e7_9
  have e8_10 : netQ (zNw y7 5 12) (x + 2) := e7_10.fc (FrC.rf.nw (o := x)) (by omega) (by omega)
  have e8_11 : zr (zNw y7 5 12) 293 x = some (x + 2) := by rw [zr_Nw, if_neg (by omega)]; exact e7_n0
  have e8_n0 : zk (zNw y7 5 12) (x + 67) = 5 := by rw [zk_Nw, if_pos x7.symm]
  have x8 : zx (zNw y7 5 12) = x + 68 := by have q := zx_Nw y7 5 12; omega
  have t8 : zt (zNw y7 5 12) = zt h + 1242 := by have q := zt_Nw y7 5 12; omega
  have F8 : FrD x h (zNw y7 5 12) := F7.nw
  generalize zNw y7 5 12 = y8 at x8 t8 F8 e8_0 e8_1 e8_2 e8_3 e8_4 e8_5 e8_6 e8_7 e8_8 e8_9 e8_10 e8_11 e8_n0 ⊢
  clear x7 t7 F7 e7_0 e7_1 e7_2 e7_3 e7_4 e7_5 e7_6 e7_7 e7_8 e7_9 e7_10 e7_n0
  refine g_dup dX9_init_38 rfl ?_
  refine g_invi (M' := mX5_init) (As := []) (rest := [.ref (x + 67), .ref x]) dX9_init_39 ml_X9_22 okX5_init imX5_init rfl rfl ⟨(Nat.le_of_ble_eq_true rfl), (Nat.le_of_ble_eq_true rfl)⟩ rfl rfl (Nat.le_of_ble_eq_true rfl) (c_netInit e8_n0 (by omega)) ?_
  rintro _ y9 ⟨rfl, x9, t9, G9, A9, B9, C9⟩
  show zG l w mX9_init 42 [(0, .ref x)] [.ref (x + 67), .ref x] y9 _
  have e9_0 : zk y9 x = 9 := (G9.2.1 _ (by omega)).1.1.trans e8_0
  have e9_1 : zi y9 289 x = 0 := ((G9.2.1 _ (by omega)).2.1 _).1.trans e8_1
  have e9_2 : zi y9 290 x = 0 := ((G9.2.1 _ (by omega)).2.1 _).1.trans e8_2
  have e9_3 : zi y9 296 x = 0 := ((G9.2.1 _ (by omega)).2.1 _).1.trans e8_3
  have e9_4 : zk y9 (x + 1) = 20 := (G9.2.1 _ (by omega)).1.1.trans e8_4
  have e9_5 : zn y9 (x + 1) = 600 := (G9.2.1 _ (by omega)).1.2.trans e8_5
  have e9_6 : zr y9 288 x = some (x + 1) := ((G9.2.1 _ (by omega)).2.1 _).2.2 (Or.inl (by omega)) |>.trans e8_6
  have e9_7 : zi y9 291 x = (-1) := ((G9.2.1 _ (by omega)).2.1 _).1.trans e8_7
  have e9_8 : zi y9 292 x = (-1) := ((G9.2.1 _ (by omega)).2.1 _).1.trans e8_8
  have e9_9 : zk y9 (x + 2) = 5 := (G9.2.1 _ (by omega)).1.1.trans e8_9
  have e9_10 : netQ y9 (x + 2) := e8_10.fc G9 (by omega) (by omega)
  have e9_11 : zr y9 293 x = some (x + 2) := ((G9.2.1 _ (by omega)).2.1 _).2.2 (Or.inl (by omega)) |>.trans e8_11
  have e9_12 : zk y9 (x + 67) = 5 := (G9.2.1 _ (by omega)).1.1.trans e8_n0
  have e9_n0 : netQ y9 (x + 67) := ⟨A9, B9, C9⟩
  have X9 : zx y9 = x + 132 := by omega
  have T9 : zt y9 = zt h + 1860 := by omega
  have F9 : FrD x h y9 := F8.tr G9 (by omega)
  clear x8 t8 F8 e8_0 e8_1 e8_2 e8_3 e8_4 e8_5 e8_6 e8_7 e8_8 e8_9 e8_10 e8_11 e8_n0 x9 t9
  refine g_putr (f := 294) dX9_init_42 fl_X9_27 (Or.inl rfl) e9_0 rfl ?_
  have e10_0 : zk (zSr y9 294 x (some (x + 67))) x = 9 := e9_0
  have e10_1 : zi (zSr y9 294 x (some (x + 67))) 289 x = 0 := e9_1
  have e10_2 : zi (zSr y9 294 x (some (x + 67))) 290 x = 0 := e9_2
  have e10_3 : zi (zSr y9 294 x (some (x + 67))) 296 x = 0 := e9_3
  have e10_4 : zk (zSr y9 294 x (some (x + 67))) (x + 1) = 20 := e9_4
  have e10_5 : zn (zSr y9 294 x (some (x + 67))) (x + 1) = 600 := e9_5
  have e10_6 : zr (zSr y9 294 x (some (x + 67))) 288 x = some (x + 1) := by rw [zr_Sr, if_neg (by omega)]; exact e9_6
  have e10_7 : zi (zSr y9 294 x (some (x + 67))) 291 x = (-1) := e9_7
  have e10_8 : zi (zSr y9 294 x (some (x + 67))) 292 x = (-1) := e9_8
  have e10_9 : zk (zSr y9 294 x (some (x + 67))) (x + 2) = 5 := e9_9
  have e10_10 : netQ (zSr y9 294 x (some (x + 67))) (x + 2) := e9_10.fc (FrC.rf.sr (o := x) (by omega) (Or.inl rfl)) (by omega) (by omega)
  have e10_11 : zr (zSr y9 294 x (some (x + 67))) 293 x = some (x + 2) := by rw [zr_Sr, if_neg (by omega)]; exact e9_11
  have e10_12 : zk (zSr y9 294 x (some (x + 67))) (x + 67) = 5 := e9_12
  have e10_13 : netQ (zSr y9 294 x (some (x + 67))) (x + 67) := e9_n0.fc (FrC.rf.sr (o := x) (by omega) (Or.inl rfl)) (by omega) (by omega)
  have e10_n0 : zr (zSr y9 294 x (some (x + 67))) 294 x = some (x + 67) := by rw [zr_Sr, if_pos ⟨rfl, rfl⟩]
  have x10 : zx (zSr y9 294 x (some (x + 67))) = x + 132 := X9
  have t10 : zt (zSr y9 294 x (some (x + 67))) = zt h + 1860 := T9
  have F10 : FrD x h (zSr y9 294 x (some (x + 67))) := F9.sr (by omega) (by omega)
  generalize zSr y9 294 x (some (x + 67)) = y10 at x10 t10 F10 e10_0 e10_1 e10_2 e10_3 e10_4 e10_5 e10_6 e10_7 e10_8 e10_9 e10_10 e10_11 e10_12 e10_13 e10_n0 ⊢
  clear X9 T9 F9 e9_0 e9_1 e9_2 e9_3 e9_4 e9_5 e9_6 e9_7 e9_8 e9_9 e9_10 e9_11 e9_12 e9_n0 G9
  refine g_aload_n 0 dX9_init_45 rfl rfl ?_
  refine g_iconst (v := nI 3) dX9_init_46 (by decide) ?_
  refine g_newq (t := 6) (x := x + 132) (N := 3) dX9_init_47 cl_X9_20 (fun k => k.2.1.2.2) rfl (by decide) (fun _ => rfl) (nI_pos (by omega)) (nI_clamp (by omega)) (by decide) x10 ?_
  have e11_0 : zk (zNw y10 26 3) x = 9 := by rw [zk_Nw, if_neg (by omega)]; exact e10_0
  have e11_1 : zi (zNw y10 26 3) 289 x = 0 := by rw [zi_Nw, if_neg (by omega)]; exact e10_1
  have e11_2 : zi (zNw y10 26 3) 290 x = 0 := by rw [zi_Nw, if_neg (by omega)]; exact e10_2
  have e11_3 : zi (zNw y10 26 3) 296 x = 0 := by rw [zi_Nw, if_neg (by omega)]; exact e10_3
  have e11_4 : zk (zNw y10 26 3) (x + 1) = 20 := by rw [zk_Nw, if_neg (by omega)]; exact e10_4
  have e11_5 : zn (zNw y10 26 3) (x + 1) = 600 := by rw [zn_Nw, if_neg (by omega)]; exact e10_5
  have e11_6 : zr (zNw y10 26 3) 288 x = some (x + 1) := by rw [zr_Nw, if_neg (by omega)]; exact e10_6
  have e11_7 : zi (zNw y10 26 3) 291 x = (-1) := by rw [zi_Nw, if_neg (by omega)]; exact e10_7
  have e11_8 : zi (zNw y10 26 3) 292 x = (-1) := by rw [zi_Nw, if_neg (by omega)]; exact e10_8
  have e11_9 : zk (zNw y10 26 3) (x + 2) = 5 := by rw [zk_Nw, if_neg (by omega)]; exact e10_9
  have e11_10 : netQ (zNw y10 26 3) (x + 2) := e10_10.fc (FrC.rf.nw (o := x)) (by omega) (by omega)
  have e11_11 : zr (zNw y10 26 3) 293 x = some (x + 2) := by rw [zr_Nw, if_neg (by omega)]; exact e10_11
  have e11_12 : zk (zNw y10 26 3) (x + 67) = 5 := by rw [zk_Nw, if_neg (by omega)]; exact e10_12
  have e11_13 : netQ (zNw y10 26 3) (x + 67) := e10_13.fc (FrC.rf.nw (o := x)) (by omega) (by omega)
  have e11_14 : zr (zNw y10 26 3) 294 x = some (x + 67) := by rw [zr_Nw, if_neg (by omega)]; exact e10_n0
  have e11_n0 : zk (zNw y10 26 3) (x + 132) = 26 := by rw [zk_Nw, if_pos x10.symm]
  have e11_n1 : zn (zNw y10 26 3) (x + 132) = 3 := by rw [zn_Nw, if_pos x10.symm]
  have x11 : zx (zNw y10 26 3) = x + 133 := by have q := zx_Nw y10 26 3; omega
  have t11 : zt (zNw y10 26 3) = zt h + 1863 := by have q := zt_Nw y10 26 3; omega
  have F11 : FrD x h (zNw y10 26 3) := F10.nw
  generalize zNw y10 26 3 = y11 at x11 t11 F11 e11_0 e11_1 e11_2 e11_3 e11_4 e11_5 e11_6 e11_7 e11_8 e11_9 e11_10 e11_11 e11_12 e11_13 e11_14 e11_n0 e11_n1 ⊢
  clear x10 t10 F10 e10_0 e10_1 e10_2 e10_3 e10_4 e10_5 e10_6 e10_7 e10_8 e10_9 e10_10 e10_11 e10_12 e10_13 e10_n0
  refine g_putr (f := 295) dX9_init_50 fl_X9_30 (Or.inr ⟨rfl, fun _ _ _ q => by cases q; rfl⟩) e11_0 rfl ?_
  have e12_0 : zk (zSr y11 295 x (some (x + 132))) x = 9 := e11_0
  have e12_1 : zi (zSr y11 295 x (some (x + 132))) 289 x = 0 := e11_1
  have e12_2 : zi (zSr y11 295 x (some (x + 132))) 290 x = 0 := e11_2
  have e12_3 : zi (zSr y11 295 x (some (x + 132))) 296 x = 0 := e11_3
  have e12_4 : zk (zSr y11 295 x (some (x + 132))) (x + 1) = 20 := e11_4
  have e12_5 : zn (zSr y11 295 x (some (x + 132))) (x + 1) = 600 := e11_5
  have e12_6 : zr (zSr y11 295 x (some (x + 132))) 288 x = some (x + 1) := by rw [zr_Sr, if_neg (by omega)]; exact e11_6
  have e12_7 : zi (zSr y11 295 x (some (x + 132))) 291 x = (-1) := e11_7
  have e12_8 : zi (zSr y11 295 x (some (x + 132))) 292 x = (-1) := e11_8
  have e12_9 : zk (zSr y11 295 x (some (x + 132))) (x + 2) = 5 := e11_9
  have e12_10 : netQ (zSr y11 295 x (some (x + 132))) (x + 2) := e11_10.fc (FrC.rf.sr (o := x) (by omega) (Or.inl rfl)) (by omega) (by omega)
  have e12_11 : zr (zSr y11 295 x (some (x + 132))) 293 x = some (x + 2) := by rw [zr_Sr, if_neg (by omega)]; exact e11_11
  have e12_12 : zk (zSr y11 295 x (some (x + 132))) (x + 67) = 5 := e11_12
  have e12_13 : netQ (zSr y11 295 x (some (x + 132))) (x + 67) := e11_13.fc (FrC.rf.sr (o := x) (by omega) (Or.inl rfl)) (by omega) (by omega)
  have e12_14 : zr (zSr y11 295 x (some (x + 132))) 294 x = some (x + 67) := by rw [zr_Sr, if_neg (by omega)]; exact e11_14
  have e12_15 : zk (zSr y11 295 x (some (x + 132))) (x + 132) = 26 := e11_n0
  have e12_16 : zn (zSr y11 295 x (some (x + 132))) (x + 132) = 3 := e11_n1
  have e12_n0 : zr (zSr y11 295 x (some (x + 132))) 295 x = some (x + 132) := by rw [zr_Sr, if_pos ⟨rfl, rfl⟩]
  have x12 : zx (zSr y11 295 x (some (x + 132))) = x + 133 := x11
  have t12 : zt (zSr y11 295 x (some (x + 132))) = zt h + 1863 := t11
  have F12 : FrD x h (zSr y11 295 x (some (x + 132))) := F11.sr (by omega) (by omega)
  generalize zSr y11 295 x (some (x + 132)) = y12 at x12 t12 F12 e12_0 e12_1 e12_2 e12_3 e12_4 e12_5 e12_6 e12_7 e12_8 e12_9 e12_10 e12_11 e12_12 e12_13 e12_14 e12_15 e12_16 e12_n0 ⊢
  clear x11 t11 F11 e11_0 e11_1 e11_2 e11_3 e11_4 e11_5 e11_6 e11_7 e11_8 e11_9 e11_10 e11_11 e11_12 e11_13 e11_14 e11_n0 e11_n1
  refine g_iconst (v := nI 0) dX9_init_53 (by decide) ?_
  refine g_istore_n (lv2 := [(1, .int (nI 0)), (0, .ref x)]) dX9_init_54 rfl (by decide) rfl ?_
  refine g_iload_n 0 dX9_init_55 rfl rfl ?_
  refine g_aload_n 1 dX9_init_56 rfl rfl ?_
  refine g_getr (f := 295) (b := x + 132) dX9_init_57 fl_X9_30 e12_0 rfl e12_n0 ?_
  refine g_alen (t := 6) (v := nI 3) dX9_init_60 e12_15 rfl (fun _ => rfl) (congrArg Int32.ofNat (show zn y12 (x + 132) = 3 from e12_16)) ?_
  refine g_ncmp_ge (tgt := 83) dX9_init_61 (by decide) (by omega) (by omega) (fun d => absurd d (by omega)) (fun _ => ?_)
  refine g_aload_n 1 dX9_init_64 rfl rfl ?_
  refine g_getr (f := 295) (b := x + 132) dX9_init_65 fl_X9_30 e12_0 rfl e12_n0 ?_
  refine g_iload_n 0 dX9_init_68 rfl rfl ?_
  refine g_new (x := x + 133) dX9_init_69 mk_X9_20 x12 ?_
  have e13_0 : zk (zNw y12 5 12) x = 9 := by rw [zk_Nw, if_neg (by omega)]; exact e12_0
  have e13_1 : zi (zNw y12 5 12) 289 x = 0 := by rw [zi_Nw, if_neg (by omega)]; exact e12_1
  have e13_2 : zi (zNw y12 5 12) 290 x = 0 := by rw [zi_Nw, if_neg (by omega)]; exact e12_2
  have e13_3 : zi (zNw y12 5 12) 296 x = 0 := by rw [zi_Nw, if_neg (by omega)]; exact e12_3
  have e13_4 : zk (zNw y12 5 12) (x + 1) = 20 := by rw [zk_Nw, if_neg (by omega)]; exact e12_4
  have e13_5 : zn (zNw y12 5 12) (x + 1) = 600 := by rw [zn_Nw, if_neg (by omega)]; exact e12_5
  have e13_6 : zr (zNw y12 5 12) 288 x = some (x + 1) := by rw [zr_Nw, if_neg (by omega)]; exact e12_6
  have e13_7 : zi (zNw y12 5 12) 291 x = (-1) := by rw [zi_Nw, if_neg (by omega)]; exact e12_7
  have e13_8 : zi (zNw y12 5 12) 292 x = (-1) := by rw [zi_Nw, if_neg (by omega)]; exact e12_8
  have e13_9 : zk (zNw y12 5 12) (x + 2) = 5 := by rw [zk_Nw, if_neg (by omega)]; exact e12_9
  have e13_10 : netQ (zNw y12 5 12) (x + 2) := e12_10.fc (FrC.rf.nw (o := x)) (by omega) (by omega)
  have e13_11 : zr (zNw y12 5 12) 293 x = some (x + 2) := by rw [zr_Nw, if_neg (by omega)]; exact e12_11
  have e13_12 : zk (zNw y12 5 12) (x + 67) = 5 := by rw [zk_Nw, if_neg (by omega)]; exact e12_12
  have e13_13 : netQ (zNw y12 5 12) (x + 67) := e12_13.fc (FrC.rf.nw (o := x)) (by omega) (by omega)
  have e13_14 : zr (zNw y12 5 12) 294 x = some (x + 67) := by rw [zr_Nw, if_neg (by omega)]; exact e12_14
  have e13_15 : zk (zNw y12 5 12) (x + 132) = 26 := by rw [zk_Nw, if_neg (by omega)]; exact e12_15
  have e13_16 : zn (zNw y12 5 12) (x + 132) = 3 := by rw [zn_Nw, if_neg (by omega)]; exact e12_16
  have e13_17 : zr (zNw y12 5 12) 295 x = some (x + 132) := by rw [zr_Nw, if_neg (by omega)]; exact e12_n0
  have e13_n0 : zk (zNw y12 5 12) (x + 133) = 5 := by rw [zk_Nw, if_pos x12.symm]
  have x13 : zx (zNw y12 5 12) = x + 134 := by have q := zx_Nw y12 5 12; omega
  have t13 : zt (zNw y12 5 12) = zt h + 1875 := by have q := zt_Nw y12 5 12; omega
  have F13 : FrD x h (zNw y12 5 12) := F12.nw
  generalize zNw y12 5 12 = y13 at x13 t13 F13 e13_0 e13_1 e13_2 e13_3 e13_4 e13_5 e13_6 e13_7 e13_8 e13_9 e13_10 e13_11 e13_12 e13_13 e13_14 e13_15 e13_16 e13_17 e13_n0 ⊢
  clear x12 t12 F12 e12_0 e12_1 e12_2 e12_3 e12_4 e12_5 e12_6 e12_7 e12_8 e12_9 e12_10 e12_11 e12_12 e12_13 e12_14 e12_15 e12_16 e12_n0
  refine g_dup dX9_init_72 rfl ?_
  refine g_invi (M' := mX5_init) (As := []) (rest := [.ref (x + 133), .int (nI 0), .ref (x + 132)]) dX9_init_73 ml_X9_22 okX5_init imX5_init rfl rfl ⟨(Nat.le_of_ble_eq_true rfl), (Nat.le_of_ble_eq_true rfl)⟩ rfl rfl (Nat.le_of_ble_eq_true rfl) (c_netInit e13_n0 (by omega)) ?_
  rintro _ y14 ⟨rfl, x14, t14, G14, A14, B14, C14⟩
  show zG l w mX9_init 76 [(1, .int (nI 0)), (0, .ref x)] [.ref (x + 133), .int (nI 0), .ref (x + 132)] y14 _
  have e14_0 : zk y14 x = 9 := (G14.2.1 _ (by omega)).1.1.trans e13_0
  have e14_1 : zi y14 289 x = 0 := ((G14.2.1 _ (by omega)).2.1 _).1.trans e13_1
  have e14_2 : zi y14 290 x = 0 := ((G14.2.1 _ (by omega)).2.1 _).1.trans e13_2
  have e14_3 : zi y14 296 x = 0 := ((G14.2.1 _ (by omega)).2.1 _).1.trans e13_3
  have e14_4 : zk y14 (x + 1) = 20 := (G14.2.1 _ (by omega)).1.1.trans e13_4
  have e14_5 : zn y14 (x + 1) = 600 := (G14.2.1 _ (by omega)).1.2.trans e13_5
  have e14_6 : zr y14 288 x = some (x + 1) := ((G14.2.1 _ (by omega)).2.1 _).2.2 (Or.inl (by omega)) |>.trans e13_6
  have e14_7 : zi y14 291 x = (-1) := ((G14.2.1 _ (by omega)).2.1 _).1.trans e13_7
  have e14_8 : zi y14 292 x = (-1) := ((G14.2.1 _ (by omega)).2.1 _).1.trans e13_8
  have e14_9 : zk y14 (x + 2) = 5 := (G14.2.1 _ (by omega)).1.1.trans e13_9
  have e14_10 : netQ y14 (x + 2) := e13_10.fc G14 (by omega) (by omega)
  have e14_11 : zr y14 293 x = some (x + 2) := ((G14.2.1 _ (by omega)).2.1 _).2.2 (Or.inl (by omega)) |>.trans e13_11
  have e14_12 : zk y14 (x + 67) = 5 := (G14.2.1 _ (by omega)).1.1.trans e13_12
  have e14_13 : netQ y14 (x + 67) := e13_13.fc G14 (by omega) (by omega)
  have e14_14 : zr y14 294 x = some (x + 67) := ((G14.2.1 _ (by omega)).2.1 _).2.2 (Or.inl (by omega)) |>.trans e13_14
  have e14_15 : zk y14 (x + 132) = 26 := (G14.2.1 _ (by omega)).1.1.trans e13_15
  have e14_16 : zn y14 (x + 132) = 3 := (G14.2.1 _ (by omega)).1.2.trans e13_16
  have e14_17 : zr y14 295 x = some (x + 132) := ((G14.2.1 _ (by omega)).2.1 _).2.2 (Or.inl (by omega)) |>.trans e13_17
  have e14_18 : zk y14 (x + 133) = 5 := (G14.2.1 _ (by omega)).1.1.trans e13_n0
  have e14_n0 : netQ y14 (x + 133) := ⟨A14, B14, C14⟩
  have X14 : zx y14 = x + 198 := by omega
  have T14 : zt y14 = zt h + 2493 := by omega
  have F14 : FrD x h y14 := F13.tr G14 (by omega)
  clear x13 t13 F13 e13_0 e13_1 e13_2 e13_3 e13_4 e13_5 e13_6 e13_7 e13_8 e13_9 e13_10 e13_11 e13_12 e13_13 e13_14 e13_15 e13_16 e13_17 e13_n0 x14 t14
  have kx0 : zk y14 (x + 133) = 5 := e14_n0.1.1
  refine g_aast (t := 6) (n := 0) dX9_init_76 e14_15 rfl (fun _ => rfl) (by decide) kx0 rfl (by rw [show zn y14 (x + 132) = 3 from e14_16]; exact vp_in_nI (by omega) (by omega)) (nI_clamp (by omega)) ?_
  have e15_0 : zk (zSR y14 (x + 132) 0 (some (x + 133))) x = 9 := e14_0
  have e15_1 : zi (zSR y14 (x + 132) 0 (some (x + 133))) 289 x = 0 := e14_1
  have e15_2 : zi (zSR y14 (x + 132) 0 (some (x + 133))) 290 x = 0 := e14_2
  have e15_3 : zi (zSR y14 (x + 132) 0 (some (x + 133))) 296 x = 0 := e14_3
  have e15_4 : zk (zSR y14 (x + 132) 0 (some (x + 133))) (x + 1) = 20 := e14_4
  have e15_5 : zn (zSR y14 (x + 132) 0 (some (x + 133))) (x + 1) = 600 := e14_5
  have e15_6 : zr (zSR y14 (x + 132) 0 (some (x + 133))) 288 x = some (x + 1) := e14_6
  have e15_7 : zi (zSR y14 (x + 132) 0 (some (x + 133))) 291 x = (-1) := e14_7
  have e15_8 : zi (zSR y14 (x + 132) 0 (some (x + 133))) 292 x = (-1) := e14_8
  have e15_9 : zk (zSR y14 (x + 132) 0 (some (x + 133))) (x + 2) = 5 := e14_9
  have e15_10 : netQ (zSR y14 (x + 132) 0 (some (x + 133))) (x + 2) := e14_10.fc FrC.so (by omega) (by omega)
  have e15_11 : zr (zSR y14 (x + 132) 0 (some (x + 133))) 293 x = some (x + 2) := e14_11
  have e15_12 : zk (zSR y14 (x + 132) 0 (some (x + 133))) (x + 67) = 5 := e14_12
  have e15_13 : netQ (zSR y14 (x + 132) 0 (some (x + 133))) (x + 67) := e14_13.fc FrC.so (by omega) (by omega)
  have e15_14 : zr (zSR y14 (x + 132) 0 (some (x + 133))) 294 x = some (x + 67) := e14_14
  have e15_15 : zk (zSR y14 (x + 132) 0 (some (x + 133))) (x + 132) = 26 := e14_15
  have e15_16 : zn (zSR y14 (x + 132) 0 (some (x + 133))) (x + 132) = 3 := e14_16
  have e15_17 : zr (zSR y14 (x + 132) 0 (some (x + 133))) 295 x = some (x + 132) := e14_17
  have e15_18 : zk (zSR y14 (x + 132) 0 (some (x + 133))) (x + 133) = 5 := e14_18
  have e15_19 : netQ (zSR y14 (x + 132) 0 (some (x + 133))) (x + 133) := e14_n0.fc FrC.so (by omega) (by omega)
  have e15_n0 : zR (zSR y14 (x + 132) 0 (some (x + 133))) (x + 132) 0 = some (x + 133) := by rw [zR_SR, if_pos ⟨rfl, rfl⟩]
  have x15 : zx (zSR y14 (x + 132) 0 (some (x + 133))) = x + 198 := X14
  have t15 : zt (zSR y14 (x + 132) 0 (some (x + 133))) = zt h + 2493 := T14
  have F15 : FrD x h (zSR y14 (x + 132) 0 (some (x + 133))) := F14.sR (by omega)
  generalize zSR y14 (x + 132) 0 (some (x + 133)) = y15 at x15 t15 F15 e15_0 e15_1 e15_2 e15_3 e15_4 e15_5 e15_6 e15_7 e15_8 e15_9 e15_10 e15_11 e15_12 e15_13 e15_14 e15_15 e15_16 e15_17 e15_18 e15_19 e15_n0 ⊢
  clear X14 T14 F14 e14_0 e14_1 e14_2 e14_3 e14_4 e14_5 e14_6 e14_7 e14_8 e14_9 e14_10 e14_11 e14_12 e14_13 e14_14 e14_15 e14_16 e14_17 e14_18 e14_n0 G14
  refine g_inc (v := nI (0 + 1)) (lv2 := [(1, .int (nI (0 + 1))), (0, .ref x)]) 0 dX9_init_77 rfl (nI_add _ 1) (by decide) rfl ?_
  refine g_goto (tgt := 55) dX9_init_80 (by decide) ?_
  show zG l w mX9_init 55 [(1, .int (nI 1)), (0, .ref x)] [] y15 _
  refine g_iload_n 0 dX9_init_55 rfl rfl ?_
  refine g_aload_n 1 dX9_init_56 rfl rfl ?_
  refine g_getr (f := 295) (b := x + 132) dX9_init_57 fl_X9_30 e15_0 rfl e15_17 ?_
  refine g_alen (t := 6) (v := nI 3) dX9_init_60 e15_15 rfl (fun _ => rfl) (congrArg Int32.ofNat (show zn y15 (x + 132) = 3 from e15_16)) ?_
  refine g_ncmp_ge (tgt := 83) dX9_init_61 (by decide) (by omega) (by omega) (fun d => absurd d (by omega)) (fun _ => ?_)
  refine g_aload_n 1 dX9_init_64 rfl rfl ?_
  refine g_getr (f := 295) (b := x + 132) dX9_init_65 fl_X9_30 e15_0 rfl e15_17 ?_
  refine g_iload_n 0 dX9_init_68 rfl rfl ?_
  refine g_new (x := x + 198) dX9_init_69 mk_X9_20 x15 ?_
  have e16_0 : zk (zNw y15 5 12) x = 9 := by rw [zk_Nw, if_neg (by omega)]; exact e15_0
  have e16_1 : zi (zNw y15 5 12) 289 x = 0 := by rw [zi_Nw, if_neg (by omega)]; exact e15_1
  have e16_2 : zi (zNw y15 5 12) 290 x = 0 := by rw [zi_Nw, if_neg (by omega)]; exact e15_2
  have e16_3 : zi (zNw y15 5 12) 296 x = 0 := by rw [zi_Nw, if_neg (by omega)]; exact e15_3
  have e16_4 : zk (zNw y15 5 12) (x + 1) = 20 := by rw [zk_Nw, if_neg (by omega)]; exact e15_4
  have e16_5 : zn (zNw y15 5 12) (x + 1) = 600 := by rw [zn_Nw, if_neg (by omega)]; exact e15_5
  have e16_6 : zr (zNw y15 5 12) 288 x = some (x + 1) := by rw [zr_Nw, if_neg (by omega)]; exact e15_6
  have e16_7 : zi (zNw y15 5 12) 291 x = (-1) := by rw [zi_Nw, if_neg (by omega)]; exact e15_7
  have e16_8 : zi (zNw y15 5 12) 292 x = (-1) := by rw [zi_Nw, if_neg (by omega)]; exact e15_8
  have e16_9 : zk (zNw y15 5 12) (x + 2) = 5 := by rw [zk_Nw, if_neg (by omega)]; exact e15_9
  have e16_10 : netQ (zNw y15 5 12) (x + 2) := e15_10.fc (FrC.rf.nw (o := x)) (by omega) (by omega)
  have e16_11 : zr (zNw y15 5 12) 293 x = some (x + 2) := by rw [zr_Nw, if_neg (by omega)]; exact e15_11
  have e16_12 : zk (zNw y15 5 12) (x + 67) = 5 := by rw [zk_Nw, if_neg (by omega)]; exact e15_12
  have e16_13 : netQ (zNw y15 5 12) (x + 67) := e15_13.fc (FrC.rf.nw (o := x)) (by omega) (by omega)
  have e16_14 : zr (zNw y15 5 12) 294 x = some (x + 67) := by rw [zr_Nw, if_neg (by omega)]; exact e15_14
  have e16_15 : zk (zNw y15 5 12) (x + 132) = 26 := by rw [zk_Nw, if_neg (by omega)]; exact e15_15
  have e16_16 : zn (zNw y15 5 12) (x + 132) = 3 := by rw [zn_Nw, if_neg (by omega)]; exact e15_16
  have e16_17 : zr (zNw y15 5 12) 295 x = some (x + 132) := by rw [zr_Nw, if_neg (by omega)]; exact e15_17
  have e16_18 : zk (zNw y15 5 12) (x + 133) = 5 := by rw [zk_Nw, if_neg (by omega)]; exact e15_18
  have e16_19 : netQ (zNw y15 5 12) (x + 133) := e15_19.fc (FrC.rf.nw (o := x)) (by omega) (by omega)
  have e16_20 : zR (zNw y15 5 12) (x + 132) 0 = some (x + 133) := by rw [zR_Nw, if_neg (by omega)]; exact e15_n0
  have e16_n0 : zk (zNw y15 5 12) (x + 198) = 5 := by rw [zk_Nw, if_pos x15.symm]
  have x16 : zx (zNw y15 5 12) = x + 199 := by have q := zx_Nw y15 5 12; omega
  have t16 : zt (zNw y15 5 12) = zt h + 2505 := by have q := zt_Nw y15 5 12; omega
  have F16 : FrD x h (zNw y15 5 12) := F15.nw
  generalize zNw y15 5 12 = y16 at x16 t16 F16 e16_0 e16_1 e16_2 e16_3 e16_4 e16_5 e16_6 e16_7 e16_8 e16_9 e16_10 e16_11 e16_12 e16_13 e16_14 e16_15 e16_16 e16_17 e16_18 e16_19 e16_20 e16_n0 ⊢
  clear x15 t15 F15 e15_0 e15_1 e15_2 e15_3 e15_4 e15_5 e15_6 e15_7 e15_8 e15_9 e15_10 e15_11 e15_12 e15_13 e15_14 e15_15 e15_16 e15_17 e15_18 e15_19 e15_n0
  refine g_dup dX9_init_72 rfl ?_
  refine g_invi (M' := mX5_init) (As := []) (rest := [.ref (x + 198), .int (nI 1), .ref (x + 132)]) dX9_init_73 ml_X9_22 okX5_init imX5_init rfl rfl ⟨(Nat.le_of_ble_eq_true rfl), (Nat.le_of_ble_eq_true rfl)⟩ rfl rfl (Nat.le_of_ble_eq_true rfl) (c_netInit e16_n0 (by omega)) ?_
  rintro _ y17 ⟨rfl, x17, t17, G17, A17, B17, C17⟩
  show zG l w mX9_init 76 [(1, .int (nI 1)), (0, .ref x)] [.ref (x + 198), .int (nI 1), .ref (x + 132)] y17 _
  have e17_0 : zk y17 x = 9 := (G17.2.1 _ (by omega)).1.1.trans e16_0
  have e17_1 : zi y17 289 x = 0 := ((G17.2.1 _ (by omega)).2.1 _).1.trans e16_1
  have e17_2 : zi y17 290 x = 0 := ((G17.2.1 _ (by omega)).2.1 _).1.trans e16_2
  have e17_3 : zi y17 296 x = 0 := ((G17.2.1 _ (by omega)).2.1 _).1.trans e16_3
  have e17_4 : zk y17 (x + 1) = 20 := (G17.2.1 _ (by omega)).1.1.trans e16_4
  have e17_5 : zn y17 (x + 1) = 600 := (G17.2.1 _ (by omega)).1.2.trans e16_5
  have e17_6 : zr y17 288 x = some (x + 1) := ((G17.2.1 _ (by omega)).2.1 _).2.2 (Or.inl (by omega)) |>.trans e16_6
  have e17_7 : zi y17 291 x = (-1) := ((G17.2.1 _ (by omega)).2.1 _).1.trans e16_7
  have e17_8 : zi y17 292 x = (-1) := ((G17.2.1 _ (by omega)).2.1 _).1.trans e16_8
  have e17_9 : zk y17 (x + 2) = 5 := (G17.2.1 _ (by omega)).1.1.trans e16_9
  have e17_10 : netQ y17 (x + 2) := e16_10.fc G17 (by omega) (by omega)
  have e17_11 : zr y17 293 x = some (x + 2) := ((G17.2.1 _ (by omega)).2.1 _).2.2 (Or.inl (by omega)) |>.trans e16_11
  have e17_12 : zk y17 (x + 67) = 5 := (G17.2.1 _ (by omega)).1.1.trans e16_12
  have e17_13 : netQ y17 (x + 67) := e16_13.fc G17 (by omega) (by omega)
  have e17_14 : zr y17 294 x = some (x + 67) := ((G17.2.1 _ (by omega)).2.1 _).2.2 (Or.inl (by omega)) |>.trans e16_14
  have e17_15 : zk y17 (x + 132) = 26 := (G17.2.1 _ (by omega)).1.1.trans e16_15
  have e17_16 : zn y17 (x + 132) = 3 := (G17.2.1 _ (by omega)).1.2.trans e16_16
  have e17_17 : zr y17 295 x = some (x + 132) := ((G17.2.1 _ (by omega)).2.1 _).2.2 (Or.inl (by omega)) |>.trans e16_17
  have e17_18 : zk y17 (x + 133) = 5 := (G17.2.1 _ (by omega)).1.1.trans e16_18
  have e17_19 : netQ y17 (x + 133) := e16_19.fc G17 (by omega) (by omega)
  have e17_20 : zR y17 (x + 132) 0 = some (x + 133) := ((G17.2.1 _ (by omega)).2.2 _).2.2 (by omega) |>.trans e16_20
  have e17_21 : zk y17 (x + 198) = 5 := (G17.2.1 _ (by omega)).1.1.trans e16_n0
  have e17_n0 : netQ y17 (x + 198) := ⟨A17, B17, C17⟩
  have X17 : zx y17 = x + 263 := by omega
  have T17 : zt y17 = zt h + 3123 := by omega
  have F17 : FrD x h y17 := F16.tr G17 (by omega)
  clear x16 t16 F16 e16_0 e16_1 e16_2 e16_3 e16_4 e16_5 e16_6 e16_7 e16_8 e16_9 e16_10 e16_11 e16_12 e16_13 e16_14 e16_15 e16_16 e16_17 e16_18 e16_19 e16_20 e16_n0 x17 t17
  have kx1 : zk y17 (x + 198) = 5 := e17_n0.1.1
  refine g_aast (t := 6) (n := 1) dX9_init_76 e17_15 rfl (fun _ => rfl) (by decide) kx1 rfl (by rw [show zn y17 (x + 132) = 3 from e17_16]; exact vp_in_nI (by omega) (by omega)) (nI_clamp (by omega)) ?_
  have e18_0 : zk (zSR y17 (x + 132) 1 (some (x + 198))) x = 9 := e17_0
  have e18_1 : zi (zSR y17 (x + 132) 1 (some (x + 198))) 289 x = 0 := e17_1
  have e18_2 : zi (zSR y17 (x + 132) 1 (some (x + 198))) 290 x = 0 := e17_2
  have e18_3 : zi (zSR y17 (x + 132) 1 (some (x + 198))) 296 x = 0 := e17_3
  have e18_4 : zk (zSR y17 (x + 132) 1 (some (x + 198))) (x + 1) = 20 := e17_4
  have e18_5 : zn (zSR y17 (x + 132) 1 (some (x + 198))) (x + 1) = 600 := e17_5
  have e18_6 : zr (zSR y17 (x + 132) 1 (some (x + 198))) 288 x = some (x + 1) := e17_6
  have e18_7 : zi (zSR y17 (x + 132) 1 (some (x + 198))) 291 x = (-1) := e17_7
  have e18_8 : zi (zSR y17 (x + 132) 1 (some (x + 198))) 292 x = (-1) := e17_8
  have e18_9 : zk (zSR y17 (x + 132) 1 (some (x + 198))) (x + 2) = 5 := e17_9
  have e18_10 : netQ (zSR y17 (x + 132) 1 (some (x + 198))) (x + 2) := e17_10.fc FrC.so (by omega) (by omega)
  have e18_11 : zr (zSR y17 (x + 132) 1 (some (x + 198))) 293 x = some (x + 2) := e17_11
  have e18_12 : zk (zSR y17 (x + 132) 1 (some (x + 198))) (x + 67) = 5 := e17_12
  have e18_13 : netQ (zSR y17 (x + 132) 1 (some (x + 198))) (x + 67) := e17_13.fc FrC.so (by omega) (by omega)
  have e18_14 : zr (zSR y17 (x + 132) 1 (some (x + 198))) 294 x = some (x + 67) := e17_14
  have e18_15 : zk (zSR y17 (x + 132) 1 (some (x + 198))) (x + 132) = 26 := e17_15
  have e18_16 : zn (zSR y17 (x + 132) 1 (some (x + 198))) (x + 132) = 3 := e17_16
  have e18_17 : zr (zSR y17 (x + 132) 1 (some (x + 198))) 295 x = some (x + 132) := e17_17
  have e18_18 : zk (zSR y17 (x + 132) 1 (some (x + 198))) (x + 133) = 5 := e17_18
  have e18_19 : netQ (zSR y17 (x + 132) 1 (some (x + 198))) (x + 133) := e17_19.fc FrC.so (by omega) (by omega)
  have e18_20 : zR (zSR y17 (x + 132) 1 (some (x + 198))) (x + 132) 0 = some (x + 133) := by rw [zR_SR, if_neg (by omega)]; exact e17_20
  have e18_21 : zk (zSR y17 (x + 132) 1 (some (x + 198))) (x + 198) = 5 := e17_21
  have e18_22 : netQ (zSR y17 (x + 132) 1 (some (x + 198))) (x + 198) := e17_n0.fc FrC.so (by omega) (by omega)
  have e18_n0 : zR (zSR y17 (x + 132) 1 (some (x + 198))) (x + 132) 1 = some (x + 198) := by rw [zR_SR, if_pos ⟨rfl, rfl⟩]
  have x18 : zx (zSR y17 (x + 132) 1 (some (x + 198))) = x + 263 := X17
  have t18 : zt (zSR y17 (x + 132) 1 (some (x + 198))) = zt h + 3123 := T17
  have F18 : FrD x h (zSR y17 (x + 132) 1 (some (x + 198))) := F17.sR (by omega)
  generalize zSR y17 (x + 132) 1 (some (x + 198)) = y18 at x18 t18 F18 e18_0 e18_1 e18_2 e18_3 e18_4 e18_5 e18_6 e18_7 e18_8 e18_9 e18_10 e18_11 e18_12 e18_13 e18_14 e18_15 e18_16 e18_17 e18_18 e18_19 e18_20 e18_21 e18_22 e18_n0 ⊢
  clear X17 T17 F17 e17_0 e17_1 e17_2 e17_3 e17_4 e17_5 e17_6 e17_7 e17_8 e17_9 e17_10 e17_11 e17_12 e17_13 e17_14 e17_15 e17_16 e17_17 e17_18 e17_19 e17_20 e17_21 e17_n0 G17
  refine g_inc (v := nI (1 + 1)) (lv2 := [(1, .int (nI (1 + 1))), (0, .ref x)]) 0 dX9_init_77 rfl (nI_add _ 1) (by decide) rfl ?_
  refine g_goto (tgt := 55) dX9_init_80 (by decide) ?_
  show zG l w mX9_init 55 [(1, .int (nI 2)), (0, .ref x)] [] y18 _
  refine g_iload_n 0 dX9_init_55 rfl rfl ?_
  refine g_aload_n 1 dX9_init_56 rfl rfl ?_
  refine g_getr (f := 295) (b := x + 132) dX9_init_57 fl_X9_30 e18_0 rfl e18_17 ?_
  refine g_alen (t := 6) (v := nI 3) dX9_init_60 e18_15 rfl (fun _ => rfl) (congrArg Int32.ofNat (show zn y18 (x + 132) = 3 from e18_16)) ?_
  refine g_ncmp_ge (tgt := 83) dX9_init_61 (by decide) (by omega) (by omega) (fun d => absurd d (by omega)) (fun _ => ?_)
  refine g_aload_n 1 dX9_init_64 rfl rfl ?_
  refine g_getr (f := 295) (b := x + 132) dX9_init_65 fl_X9_30 e18_0 rfl e18_17 ?_
  refine g_iload_n 0 dX9_init_68 rfl rfl ?_
  refine g_new (x := x + 263) dX9_init_69 mk_X9_20 x18 ?_
  have e19_0 : zk (zNw y18 5 12) x = 9 := by rw [zk_Nw, if_neg (by omega)]; exact e18_0
  have e19_1 : zi (zNw y18 5 12) 289 x = 0 := by rw [zi_Nw, if_neg (by omega)]; exact e18_1
  have e19_2 : zi (zNw y18 5 12) 290 x = 0 := by rw [zi_Nw, if_neg (by omega)]; exact e18_2
  have e19_3 : zi (zNw y18 5 12) 296 x = 0 := by rw [zi_Nw, if_neg (by omega)]; exact e18_3
  have e19_4 : zk (zNw y18 5 12) (x + 1) = 20 := by rw [zk_Nw, if_neg (by omega)]; exact e18_4
  have e19_5 : zn (zNw y18 5 12) (x + 1) = 600 := by rw [zn_Nw, if_neg (by omega)]; exact e18_5
  have e19_6 : zr (zNw y18 5 12) 288 x = some (x + 1) := by rw [zr_Nw, if_neg (by omega)]; exact e18_6
  have e19_7 : zi (zNw y18 5 12) 291 x = (-1) := by rw [zi_Nw, if_neg (by omega)]; exact e18_7
  have e19_8 : zi (zNw y18 5 12) 292 x = (-1) := by rw [zi_Nw, if_neg (by omega)]; exact e18_8
  have e19_9 : zk (zNw y18 5 12) (x + 2) = 5 := by rw [zk_Nw, if_neg (by omega)]; exact e18_9
  have e19_10 : netQ (zNw y18 5 12) (x + 2) := e18_10.fc (FrC.rf.nw (o := x)) (by omega) (by omega)
  have e19_11 : zr (zNw y18 5 12) 293 x = some (x + 2) := by rw [zr_Nw, if_neg (by omega)]; exact e18_11
  have e19_12 : zk (zNw y18 5 12) (x + 67) = 5 := by rw [zk_Nw, if_neg (by omega)]; exact e18_12
  have e19_13 : netQ (zNw y18 5 12) (x + 67) := e18_13.fc (FrC.rf.nw (o := x)) (by omega) (by omega)
  have e19_14 : zr (zNw y18 5 12) 294 x = some (x + 67) := by rw [zr_Nw, if_neg (by omega)]; exact e18_14
  have e19_15 : zk (zNw y18 5 12) (x + 132) = 26 := by rw [zk_Nw, if_neg (by omega)]; exact e18_15
  have e19_16 : zn (zNw y18 5 12) (x + 132) = 3 := by rw [zn_Nw, if_neg (by omega)]; exact e18_16
  have e19_17 : zr (zNw y18 5 12) 295 x = some (x + 132) := by rw [zr_Nw, if_neg (by omega)]; exact e18_17
  have e19_18 : zk (zNw y18 5 12) (x + 133) = 5 := by rw [zk_Nw, if_neg (by omega)]; exact e18_18
  have e19_19 : netQ (zNw y18 5 12) (x + 133) := e18_19.fc (FrC.rf.nw (o := x)) (by omega) (by omega)
  have e19_20 : zR (zNw y18 5 12) (x + 132) 0 = some (x + 133) := by rw [zR_Nw, if_neg (by omega)]; exact e18_20
  have e19_21 : zk (zNw y18 5 12) (x + 198) = 5 := by rw [zk_Nw, if_neg (by omega)]; exact e18_21
  have e19_22 : netQ (zNw y18 5 12) (x + 198) := e18_22.fc (FrC.rf.nw (o := x)) (by omega) (by omega)
  have e19_23 : zR (zNw y18 5 12) (x + 132) 1 = some (x + 198) := by rw [zR_Nw, if_neg (by omega)]; exact e18_n0
  have e19_n0 : zk (zNw y18 5 12) (x + 263) = 5 := by rw [zk_Nw, if_pos x18.symm]
  have x19 : zx (zNw y18 5 12) = x + 264 := by have q := zx_Nw y18 5 12; omega
  have t19 : zt (zNw y18 5 12) = zt h + 3135 := by have q := zt_Nw y18 5 12; omega
  have F19 : FrD x h (zNw y18 5 12) := F18.nw
  generalize zNw y18 5 12 = y19 at x19 t19 F19 e19_0 e19_1 e19_2 e19_3 e19_4 e19_5 e19_6 e19_7 e19_8 e19_9 e19_10 e19_11 e19_12 e19_13 e19_14 e19_15 e19_16 e19_17 e19_18 e19_19 e19_20 e19_21 e19_22 e19_23 e19_n0 ⊢
  clear x18 t18 F18 e18_0 e18_1 e18_2 e18_3 e18_4 e18_5 e18_6 e18_7 e18_8 e18_9 e18_10 e18_11 e18_12 e18_13 e18_14 e18_15 e18_16 e18_17 e18_18 e18_19 e18_20 e18_21 e18_22 e18_n0
  refine g_dup dX9_init_72 rfl ?_
  refine g_invi (M' := mX5_init) (As := []) (rest := [.ref (x + 263), .int (nI 2), .ref (x + 132)]) dX9_init_73 ml_X9_22 okX5_init imX5_init rfl rfl ⟨(Nat.le_of_ble_eq_true rfl), (Nat.le_of_ble_eq_true rfl)⟩ rfl rfl (Nat.le_of_ble_eq_true rfl) (c_netInit e19_n0 (by omega)) ?_
  rintro _ y20 ⟨rfl, x20, t20, G20, A20, B20, C20⟩
  show zG l w mX9_init 76 [(1, .int (nI 2)), (0, .ref x)] [.ref (x + 263), .int (nI 2), .ref (x + 132)] y20 _
  have e20_0 : zk y20 x = 9 := (G20.2.1 _ (by omega)).1.1.trans e19_0
  have e20_1 : zi y20 289 x = 0 := ((G20.2.1 _ (by omega)).2.1 _).1.trans e19_1
  have e20_2 : zi y20 290 x = 0 := ((G20.2.1 _ (by omega)).2.1 _).1.trans e19_2
  have e20_3 : zi y20 296 x = 0 := ((G20.2.1 _ (by omega)).2.1 _).1.trans e19_3
  have e20_4 : zk y20 (x + 1) = 20 := (G20.2.1 _ (by omega)).1.1.trans e19_4
  have e20_5 : zn y20 (x + 1) = 600 := (G20.2.1 _ (by omega)).1.2.trans e19_5
  have e20_6 : zr y20 288 x = some (x + 1) := ((G20.2.1 _ (by omega)).2.1 _).2.2 (Or.inl (by omega)) |>.trans e19_6
  have e20_7 : zi y20 291 x = (-1) := ((G20.2.1 _ (by omega)).2.1 _).1.trans e19_7
  have e20_8 : zi y20 292 x = (-1) := ((G20.2.1 _ (by omega)).2.1 _).1.trans e19_8
  have e20_9 : zk y20 (x + 2) = 5 := (G20.2.1 _ (by omega)).1.1.trans e19_9
  have e20_10 : netQ y20 (x + 2) := e19_10.fc G20 (by omega) (by omega)
  have e20_11 : zr y20 293 x = some (x + 2) := ((G20.2.1 _ (by omega)).2.1 _).2.2 (Or.inl (by omega)) |>.trans e19_11
  have e20_12 : zk y20 (x + 67) = 5 := (G20.2.1 _ (by omega)).1.1.trans e19_12
  have e20_13 : netQ y20 (x + 67) := e19_13.fc G20 (by omega) (by omega)
  have e20_14 : zr y20 294 x = some (x + 67) := ((G20.2.1 _ (by omega)).2.1 _).2.2 (Or.inl (by omega)) |>.trans e19_14
  have e20_15 : zk y20 (x + 132) = 26 := (G20.2.1 _ (by omega)).1.1.trans e19_15
  have e20_16 : zn y20 (x + 132) = 3 := (G20.2.1 _ (by omega)).1.2.trans e19_16
  have e20_17 : zr y20 295 x = some (x + 132) := ((G20.2.1 _ (by omega)).2.1 _).2.2 (Or.inl (by omega)) |>.trans e19_17
  have e20_18 : zk y20 (x + 133) = 5 := (G20.2.1 _ (by omega)).1.1.trans e19_18
  have e20_19 : netQ y20 (x + 133) := e19_19.fc G20 (by omega) (by omega)
  have e20_20 : zR y20 (x + 132) 0 = some (x + 133) := ((G20.2.1 _ (by omega)).2.2 _).2.2 (by omega) |>.trans e19_20
  have e20_21 : zk y20 (x + 198) = 5 := (G20.2.1 _ (by omega)).1.1.trans e19_21
  have e20_22 : netQ y20 (x + 198) := e19_22.fc G20 (by omega) (by omega)
  have e20_23 : zR y20 (x + 132) 1 = some (x + 198) := ((G20.2.1 _ (by omega)).2.2 _).2.2 (by omega) |>.trans e19_23
  have e20_24 : zk y20 (x + 263) = 5 := (G20.2.1 _ (by omega)).1.1.trans e19_n0
  have e20_n0 : netQ y20 (x + 263) := ⟨A20, B20, C20⟩
  have X20 : zx y20 = x + 328 := by omega
  have T20 : zt y20 = zt h + 3753 := by omega
  have F20 : FrD x h y20 := F19.tr G20 (by omega)
  clear x19 t19 F19 e19_0 e19_1 e19_2 e19_3 e19_4 e19_5 e19_6 e19_7 e19_8 e19_9 e19_10 e19_11 e19_12 e19_13 e19_14 e19_15 e19_16 e19_17 e19_18 e19_19 e19_20 e19_21 e19_22 e19_23 e19_n0 x20 t20
  have kx2 : zk y20 (x + 263) = 5 := e20_n0.1.1
  refine g_aast (t := 6) (n := 2) dX9_init_76 e20_15 rfl (fun _ => rfl) (by decide) kx2 rfl (by rw [show zn y20 (x + 132) = 3 from e20_16]; exact vp_in_nI (by omega) (by omega)) (nI_clamp (by omega)) ?_
  have e21_0 : zk (zSR y20 (x + 132) 2 (some (x + 263))) x = 9 := e20_0
  have e21_1 : zi (zSR y20 (x + 132) 2 (some (x + 263))) 289 x = 0 := e20_1
  have e21_2 : zi (zSR y20 (x + 132) 2 (some (x + 263))) 290 x = 0 := e20_2
  have e21_3 : zi (zSR y20 (x + 132) 2 (some (x + 263))) 296 x = 0 := e20_3
  have e21_4 : zk (zSR y20 (x + 132) 2 (some (x + 263))) (x + 1) = 20 := e20_4
  have e21_5 : zn (zSR y20 (x + 132) 2 (some (x + 263))) (x + 1) = 600 := e20_5
  have e21_6 : zr (zSR y20 (x + 132) 2 (some (x + 263))) 288 x = some (x + 1) := e20_6
  have e21_7 : zi (zSR y20 (x + 132) 2 (some (x + 263))) 291 x = (-1) := e20_7
  have e21_8 : zi (zSR y20 (x + 132) 2 (some (x + 263))) 292 x = (-1) := e20_8
  have e21_9 : zk (zSR y20 (x + 132) 2 (some (x + 263))) (x + 2) = 5 := e20_9
  have e21_10 : netQ (zSR y20 (x + 132) 2 (some (x + 263))) (x + 2) := e20_10.fc FrC.so (by omega) (by omega)
  have e21_11 : zr (zSR y20 (x + 132) 2 (some (x + 263))) 293 x = some (x + 2) := e20_11
  have e21_12 : zk (zSR y20 (x + 132) 2 (some (x + 263))) (x + 67) = 5 := e20_12
  have e21_13 : netQ (zSR y20 (x + 132) 2 (some (x + 263))) (x + 67) := e20_13.fc FrC.so (by omega) (by omega)
  have e21_14 : zr (zSR y20 (x + 132) 2 (some (x + 263))) 294 x = some (x + 67) := e20_14
  have e21_15 : zk (zSR y20 (x + 132) 2 (some (x + 263))) (x + 132) = 26 := e20_15
  have e21_16 : zn (zSR y20 (x + 132) 2 (some (x + 263))) (x + 132) = 3 := e20_16
  have e21_17 : zr (zSR y20 (x + 132) 2 (some (x + 263))) 295 x = some (x + 132) := e20_17
  have e21_18 : zk (zSR y20 (x + 132) 2 (some (x + 263))) (x + 133) = 5 := e20_18
  have e21_19 : netQ (zSR y20 (x + 132) 2 (some (x + 263))) (x + 133) := e20_19.fc FrC.so (by omega) (by omega)
  have e21_20 : zR (zSR y20 (x + 132) 2 (some (x + 263))) (x + 132) 0 = some (x + 133) := by rw [zR_SR, if_neg (by omega)]; exact e20_20
  have e21_21 : zk (zSR y20 (x + 132) 2 (some (x + 263))) (x + 198) = 5 := e20_21
  have e21_22 : netQ (zSR y20 (x + 132) 2 (some (x + 263))) (x + 198) := e20_22.fc FrC.so (by omega) (by omega)
  have e21_23 : zR (zSR y20 (x + 132) 2 (some (x + 263))) (x + 132) 1 = some (x + 198) := by rw [zR_SR, if_neg (by omega)]; exact e20_23
  have e21_24 : zk (zSR y20 (x + 132) 2 (some (x + 263))) (x + 263) = 5 := e20_24
  have e21_25 : netQ (zSR y20 (x + 132) 2 (some (x + 263))) (x + 263) := e20_n0.fc FrC.so (by omega) (by omega)
  have e21_n0 : zR (zSR y20 (x + 132) 2 (some (x + 263))) (x + 132) 2 = some (x + 263) := by rw [zR_SR, if_pos ⟨rfl, rfl⟩]
  have x21 : zx (zSR y20 (x + 132) 2 (some (x + 263))) = x + 328 := X20
  have t21 : zt (zSR y20 (x + 132) 2 (some (x + 263))) = zt h + 3753 := T20
  have F21 : FrD x h (zSR y20 (x + 132) 2 (some (x + 263))) := F20.sR (by omega)
  generalize zSR y20 (x + 132) 2 (some (x + 263)) = y21 at x21 t21 F21 e21_0 e21_1 e21_2 e21_3 e21_4 e21_5 e21_6 e21_7 e21_8 e21_9 e21_10 e21_11 e21_12 e21_13 e21_14 e21_15 e21_16 e21_17 e21_18 e21_19 e21_20 e21_21 e21_22 e21_23 e21_24 e21_25 e21_n0 ⊢
  clear X20 T20 F20 e20_0 e20_1 e20_2 e20_3 e20_4 e20_5 e20_6 e20_7 e20_8 e20_9 e20_10 e20_11 e20_12 e20_13 e20_14 e20_15 e20_16 e20_17 e20_18 e20_19 e20_20 e20_21 e20_22 e20_23 e20_24 e20_n0 G20
  refine g_inc (v := nI (2 + 1)) (lv2 := [(1, .int (nI (2 + 1))), (0, .ref x)]) 0 dX9_init_77 rfl (nI_add _ 1) (by decide) rfl ?_
  refine g_goto (tgt := 55) dX9_init_80 (by decide) ?_
  show zG l w mX9_init 55 [(1, .int (nI 3)), (0, .ref x)] [] y21 _
  refine g_iload_n 0 dX9_init_55 rfl rfl ?_
  refine g_aload_n 1 dX9_init_56 rfl rfl ?_
  refine g_getr (f := 295) (b := x + 132) dX9_init_57 fl_X9_30 e21_0 rfl e21_17 ?_
  refine g_alen (t := 6) (v := nI 3) dX9_init_60 e21_15 rfl (fun _ => rfl) (congrArg Int32.ofNat (show zn y21 (x + 132) = 3 from e21_16)) ?_
  refine g_ncmp_ge (tgt := 83) dX9_init_61 (by decide) (by omega) (by omega) (fun _ => ?_) (fun d => absurd d (by omega))
  refine g_aload_n 1 dX9_init_83 rfl rfl ?_
  refine g_new (x := x + 328) dX9_init_84 mk_X9_34 x21 ?_
  have e22_0 : zk (zNw y21 8 10) x = 9 := by rw [zk_Nw, if_neg (by omega)]; exact e21_0
  have e22_1 : zi (zNw y21 8 10) 289 x = 0 := by rw [zi_Nw, if_neg (by omega)]; exact e21_1
  have e22_2 : zi (zNw y21 8 10) 290 x = 0 := by rw [zi_Nw, if_neg (by omega)]; exact e21_2
  have e22_3 : zi (zNw y21 8 10) 296 x = 0 := by rw [zi_Nw, if_neg (by omega)]; exact e21_3
  have e22_4 : zk (zNw y21 8 10) (x + 1) = 20 := by rw [zk_Nw, if_neg (by omega)]; exact e21_4
  have e22_5 : zn (zNw y21 8 10) (x + 1) = 600 := by rw [zn_Nw, if_neg (by omega)]; exact e21_5
  have e22_6 : zr (zNw y21 8 10) 288 x = some (x + 1) := by rw [zr_Nw, if_neg (by omega)]; exact e21_6
  have e22_7 : zi (zNw y21 8 10) 291 x = (-1) := by rw [zi_Nw, if_neg (by omega)]; exact e21_7
  have e22_8 : zi (zNw y21 8 10) 292 x = (-1) := by rw [zi_Nw, if_neg (by omega)]; exact e21_8
  have e22_9 : zk (zNw y21 8 10) (x + 2) = 5 := by rw [zk_Nw, if_neg (by omega)]; exact e21_9
  have e22_10 : netQ (zNw y21 8 10) (x + 2) := e21_10.fc (FrC.rf.nw (o := x)) (by omega) (by omega)
  have e22_11 : zr (zNw y21 8 10) 293 x = some (x + 2) := by rw [zr_Nw, if_neg (by omega)]; exact e21_11
  have e22_12 : zk (zNw y21 8 10) (x + 67) = 5 := by rw [zk_Nw, if_neg (by omega)]; exact e21_12
  have e22_13 : netQ (zNw y21 8 10) (x + 67) := e21_13.fc (FrC.rf.nw (o := x)) (by omega) (by omega)
  have e22_14 : zr (zNw y21 8 10) 294 x = some (x + 67) := by rw [zr_Nw, if_neg (by omega)]; exact e21_14
  have e22_15 : zk (zNw y21 8 10) (x + 132) = 26 := by rw [zk_Nw, if_neg (by omega)]; exact e21_15
  have e22_16 : zn (zNw y21 8 10) (x + 132) = 3 := by rw [zn_Nw, if_neg (by omega)]; exact e21_16
  have e22_17 : zr (zNw y21 8 10) 295 x = some (x + 132) := by rw [zr_Nw, if_neg (by omega)]; exact e21_17
  have e22_18 : zk (zNw y21 8 10) (x + 133) = 5 := by rw [zk_Nw, if_neg (by omega)]; exact e21_18
  have e22_19 : netQ (zNw y21 8 10) (x + 133) := e21_19.fc (FrC.rf.nw (o := x)) (by omega) (by omega)
  have e22_20 : zR (zNw y21 8 10) (x + 132) 0 = some (x + 133) := by rw [zR_Nw, if_neg (by omega)]; exact e21_20
  have e22_21 : zk (zNw y21 8 10) (x + 198) = 5 := by rw [zk_Nw, if_neg (by omega)]; exact e21_21
  have e22_22 : netQ (zNw y21 8 10) (x + 198) := e21_22.fc (FrC.rf.nw (o := x)) (by omega) (by omega)
  have e22_23 : zR (zNw y21 8 10) (x + 132) 1 = some (x + 198) := by rw [zR_Nw, if_neg (by omega)]; exact e21_23
  have e22_24 : zk (zNw y21 8 10) (x + 263) = 5 := by rw [zk_Nw, if_neg (by omega)]; exact e21_24
  have e22_25 : netQ (zNw y21 8 10) (x + 263) := e21_25.fc (FrC.rf.nw (o := x)) (by omega) (by omega)
  have e22_26 : zR (zNw y21 8 10) (x + 132) 2 = some (x + 263) := by rw [zR_Nw, if_neg (by omega)]; exact e21_n0
  have e22_n0 : zk (zNw y21 8 10) (x + 328) = 8 := by rw [zk_Nw, if_pos x21.symm]
  have x22 : zx (zNw y21 8 10) = x + 329 := by have q := zx_Nw y21 8 10; omega
  have t22 : zt (zNw y21 8 10) = zt h + 3763 := by have q := zt_Nw y21 8 10; omega
  have F22 : FrD x h (zNw y21 8 10) := F21.nw
  generalize zNw y21 8 10 = y22 at x22 t22 F22 e22_0 e22_1 e22_2 e22_3 e22_4 e22_5 e22_6 e22_7 e22_8 e22_9 e22_10 e22_11 e22_12 e22_13 e22_14 e22_15 e22_16 e22_17 e22_18 e22_19 e22_20 e22_21 e22_22 e22_23 e22_24 e22_25 e22_26 e22_n0 ⊢
  clear x21 t21 F21 e21_0 e21_1 e21_2 e21_3 e21_4 e21_5 e21_6 e21_7 e21_8 e21_9 e21_10 e21_11 e21_12 e21_13 e21_14 e21_15 e21_16 e21_17 e21_18 e21_19 e21_20 e21_21 e21_22 e21_23 e21_24 e21_25 e21_n0
  refine g_dup dX9_init_87 rfl ?_
  refine g_invn (M' := mX8_init) (As := []) (rest := [.ref (x + 328), .ref x]) dX9_init_88 nl_X9_36 okX8_init imX8_init rfl rfl ⟨(Nat.le_of_ble_eq_true rfl), (Nat.le_of_ble_eq_true rfl)⟩ rfl rfl (Nat.le_of_ble_eq_true rfl) c_rdInit ?_
  rintro _ q23 ⟨rfl, eq23⟩
  subst q23
  show zG l w mX9_init 91 [(1, .int (nI 3)), (0, .ref x)] [.ref (x + 328), .ref x] y22 _
  refine g_putr (f := 297) dX9_init_91 fl_X9_37 (Or.inr ⟨rfl, fun _ _ _ q => by cases q; rfl⟩) e22_0 rfl ?_
  have e24_0 : zk (zSr y22 297 x (some (x + 328))) x = 9 := e22_0
  have e24_1 : zi (zSr y22 297 x (some (x + 328))) 289 x = 0 := e22_1
  have e24_2 : zi (zSr y22 297 x (some (x + 328))) 290 x = 0 := e22_2
  have e24_3 : zi (zSr y22 297 x (some (x + 328))) 296 x = 0 := e22_3
  have e24_4 : zk (zSr y22 297 x (some (x + 328))) (x + 1) = 20 := e22_4
  have e24_5 : zn (zSr y22 297 x (some (x + 328))) (x + 1) = 600 := e22_5
  have e24_6 : zr (zSr y22 297 x (some (x + 328))) 288 x = some (x + 1) := by rw [zr_Sr, if_neg (by omega)]; exact e22_6
  have e24_7 : zi (zSr y22 297 x (some (x + 328))) 291 x = (-1) := e22_7
  have e24_8 : zi (zSr y22 297 x (some (x + 328))) 292 x = (-1) := e22_8
  have e24_9 : zk (zSr y22 297 x (some (x + 328))) (x + 2) = 5 := e22_9
  have e24_10 : netQ (zSr y22 297 x (some (x + 328))) (x + 2) := e22_10.fc (FrC.rf.sr (o := x) (by omega) (Or.inl rfl)) (by omega) (by omega)
  have e24_11 : zr (zSr y22 297 x (some (x + 328))) 293 x = some (x + 2) := by rw [zr_Sr, if_neg (by omega)]; exact e22_11
  have e24_12 : zk (zSr y22 297 x (some (x + 328))) (x + 67) = 5 := e22_12
  have e24_13 : netQ (zSr y22 297 x (some (x + 328))) (x + 67) := e22_13.fc (FrC.rf.sr (o := x) (by omega) (Or.inl rfl)) (by omega) (by omega)
  have e24_14 : zr (zSr y22 297 x (some (x + 328))) 294 x = some (x + 67) := by rw [zr_Sr, if_neg (by omega)]; exact e22_14
  have e24_15 : zk (zSr y22 297 x (some (x + 328))) (x + 132) = 26 := e22_15
  have e24_16 : zn (zSr y22 297 x (some (x + 328))) (x + 132) = 3 := e22_16
  have e24_17 : zr (zSr y22 297 x (some (x + 328))) 295 x = some (x + 132) := by rw [zr_Sr, if_neg (by omega)]; exact e22_17
  have e24_18 : zk (zSr y22 297 x (some (x + 328))) (x + 133) = 5 := e22_18
  have e24_19 : netQ (zSr y22 297 x (some (x + 328))) (x + 133) := e22_19.fc (FrC.rf.sr (o := x) (by omega) (Or.inl rfl)) (by omega) (by omega)
  have e24_20 : zR (zSr y22 297 x (some (x + 328))) (x + 132) 0 = some (x + 133) := e22_20
  have e24_21 : zk (zSr y22 297 x (some (x + 328))) (x + 198) = 5 := e22_21
  have e24_22 : netQ (zSr y22 297 x (some (x + 328))) (x + 198) := e22_22.fc (FrC.rf.sr (o := x) (by omega) (Or.inl rfl)) (by omega) (by omega)
  have e24_23 : zR (zSr y22 297 x (some (x + 328))) (x + 132) 1 = some (x + 198) := e22_23
  have e24_24 : zk (zSr y22 297 x (some (x + 328))) (x + 263) = 5 := e22_24
  have e24_25 : netQ (zSr y22 297 x (some (x + 328))) (x + 263) := e22_25.fc (FrC.rf.sr (o := x) (by omega) (Or.inl rfl)) (by omega) (by omega)
  have e24_26 : zR (zSr y22 297 x (some (x + 328))) (x + 132) 2 = some (x + 263) := e22_26
  have e24_27 : zk (zSr y22 297 x (some (x + 328))) (x + 328) = 8 := e22_n0
  have e24_n0 : zr (zSr y22 297 x (some (x + 328))) 297 x = some (x + 328) := by rw [zr_Sr, if_pos ⟨rfl, rfl⟩]
  have x24 : zx (zSr y22 297 x (some (x + 328))) = x + 329 := x22
  have t24 : zt (zSr y22 297 x (some (x + 328))) = zt h + 3763 := t22
  have F24 : FrD x h (zSr y22 297 x (some (x + 328))) := F22.sr (by omega) (by omega)
  generalize zSr y22 297 x (some (x + 328)) = y24 at x24 t24 F24 e24_0 e24_1 e24_2 e24_3 e24_4 e24_5 e24_6 e24_7 e24_8 e24_9 e24_10 e24_11 e24_12 e24_13 e24_14 e24_15 e24_16 e24_17 e24_18 e24_19 e24_20 e24_21 e24_22 e24_23 e24_24 e24_25 e24_26 e24_27 e24_n0 ⊢
  clear x22 t22 F22 e22_0 e22_1 e22_2 e22_3 e22_4 e22_5 e22_6 e22_7 e22_8 e22_9 e22_10 e22_11 e22_12 e22_13 e22_14 e22_15 e22_16 e22_17 e22_18 e22_19 e22_20 e22_21 e22_22 e22_23 e22_24 e22_25 e22_26 e22_n0
  refine g_aload_n 1 dX9_init_94 rfl rfl ?_
  refine g_new (x := x + 329) dX9_init_95 mk_X9_41 x24 ?_
  have e25_0 : zk (zNw y24 0 3) x = 9 := by rw [zk_Nw, if_neg (by omega)]; exact e24_0
  have e25_1 : zi (zNw y24 0 3) 289 x = 0 := by rw [zi_Nw, if_neg (by omega)]; exact e24_1
  have e25_2 : zi (zNw y24 0 3) 290 x = 0 := by rw [zi_Nw, if_neg (by omega)]; exact e24_2
  have e25_3 : zi (zNw y24 0 3) 296 x = 0 := by rw [zi_Nw, if_neg (by omega)]; exact e24_3
  have e25_4 : zk (zNw y24 0 3) (x + 1) = 20 := by rw [zk_Nw, if_neg (by omega)]; exact e24_4
  have e25_5 : zn (zNw y24 0 3) (x + 1) = 600 := by rw [zn_Nw, if_neg (by omega)]; exact e24_5
  have e25_6 : zr (zNw y24 0 3) 288 x = some (x + 1) := by rw [zr_Nw, if_neg (by omega)]; exact e24_6
  have e25_7 : zi (zNw y24 0 3) 291 x = (-1) := by rw [zi_Nw, if_neg (by omega)]; exact e24_7
  have e25_8 : zi (zNw y24 0 3) 292 x = (-1) := by rw [zi_Nw, if_neg (by omega)]; exact e24_8
  have e25_9 : zk (zNw y24 0 3) (x + 2) = 5 := by rw [zk_Nw, if_neg (by omega)]; exact e24_9
  have e25_10 : netQ (zNw y24 0 3) (x + 2) := e24_10.fc (FrC.rf.nw (o := x)) (by omega) (by omega)
  have e25_11 : zr (zNw y24 0 3) 293 x = some (x + 2) := by rw [zr_Nw, if_neg (by omega)]; exact e24_11
  have e25_12 : zk (zNw y24 0 3) (x + 67) = 5 := by rw [zk_Nw, if_neg (by omega)]; exact e24_12
  have e25_13 : netQ (zNw y24 0 3) (x + 67) := e24_13.fc (FrC.rf.nw (o := x)) (by omega) (by omega)
  have e25_14 : zr (zNw y24 0 3) 294 x = some (x + 67) := by rw [zr_Nw, if_neg (by omega)]; exact e24_14
  have e25_15 : zk (zNw y24 0 3) (x + 132) = 26 := by rw [zk_Nw, if_neg (by omega)]; exact e24_15
  have e25_16 : zn (zNw y24 0 3) (x + 132) = 3 := by rw [zn_Nw, if_neg (by omega)]; exact e24_16
  have e25_17 : zr (zNw y24 0 3) 295 x = some (x + 132) := by rw [zr_Nw, if_neg (by omega)]; exact e24_17
  have e25_18 : zk (zNw y24 0 3) (x + 133) = 5 := by rw [zk_Nw, if_neg (by omega)]; exact e24_18
  have e25_19 : netQ (zNw y24 0 3) (x + 133) := e24_19.fc (FrC.rf.nw (o := x)) (by omega) (by omega)
  have e25_20 : zR (zNw y24 0 3) (x + 132) 0 = some (x + 133) := by rw [zR_Nw, if_neg (by omega)]; exact e24_20
  have e25_21 : zk (zNw y24 0 3) (x + 198) = 5 := by rw [zk_Nw, if_neg (by omega)]; exact e24_21
  have e25_22 : netQ (zNw y24 0 3) (x + 198) := e24_22.fc (FrC.rf.nw (o := x)) (by omega) (by omega)
  have e25_23 : zR (zNw y24 0 3) (x + 132) 1 = some (x + 198) := by rw [zR_Nw, if_neg (by omega)]; exact e24_23
  have e25_24 : zk (zNw y24 0 3) (x + 263) = 5 := by rw [zk_Nw, if_neg (by omega)]; exact e24_24
  have e25_25 : netQ (zNw y24 0 3) (x + 263) := e24_25.fc (FrC.rf.nw (o := x)) (by omega) (by omega)
  have e25_26 : zR (zNw y24 0 3) (x + 132) 2 = some (x + 263) := by rw [zR_Nw, if_neg (by omega)]; exact e24_26
  have e25_27 : zk (zNw y24 0 3) (x + 328) = 8 := by rw [zk_Nw, if_neg (by omega)]; exact e24_27
  have e25_28 : zr (zNw y24 0 3) 297 x = some (x + 328) := by rw [zr_Nw, if_neg (by omega)]; exact e24_n0
  have e25_n0 : zk (zNw y24 0 3) (x + 329) = 0 := by rw [zk_Nw, if_pos x24.symm]
  have x25 : zx (zNw y24 0 3) = x + 330 := by have q := zx_Nw y24 0 3; omega
  have t25 : zt (zNw y24 0 3) = zt h + 3766 := by have q := zt_Nw y24 0 3; omega
  have F25 : FrD x h (zNw y24 0 3) := F24.nw
  generalize zNw y24 0 3 = y25 at x25 t25 F25 e25_0 e25_1 e25_2 e25_3 e25_4 e25_5 e25_6 e25_7 e25_8 e25_9 e25_10 e25_11 e25_12 e25_13 e25_14 e25_15 e25_16 e25_17 e25_18 e25_19 e25_20 e25_21 e25_22 e25_23 e25_24 e25_25 e25_26 e25_27 e25_28 e25_n0 ⊢
  clear x24 t24 F24 e24_0 e24_1 e24_2 e24_3 e24_4 e24_5 e24_6 e24_7 e24_8 e24_9 e24_10 e24_11 e24_12 e24_13 e24_14 e24_15 e24_16 e24_17 e24_18 e24_19 e24_20 e24_21 e24_22 e24_23 e24_24 e24_25 e24_26 e24_27 e24_n0
  refine g_dup dX9_init_98 rfl ?_
  refine g_invn (M' := mX0_init) (As := []) (rest := [.ref (x + 329), .ref x]) dX9_init_99 nl_X9_43 okX0_init imX0_init rfl rfl ⟨(Nat.le_of_ble_eq_true rfl), (Nat.le_of_ble_eq_true rfl)⟩ rfl rfl (Nat.le_of_ble_eq_true rfl) (c_bsInit e25_n0 (by omega)) ?_
  rintro _ y26 ⟨rfl, x26, t26, G26, S26⟩
  show zG l w mX9_init 102 [(1, .int (nI 3)), (0, .ref x)] [.ref (x + 329), .ref x] y26 _
  have e26_0 : zk y26 x = 9 := (G26.2.1 _ (by omega)).1.1.trans e25_0
  have e26_1 : zi y26 289 x = 0 := ((G26.2.1 _ (by omega)).2.1 _).1.trans e25_1
  have e26_2 : zi y26 290 x = 0 := ((G26.2.1 _ (by omega)).2.1 _).1.trans e25_2
  have e26_3 : zi y26 296 x = 0 := ((G26.2.1 _ (by omega)).2.1 _).1.trans e25_3
  have e26_4 : zk y26 (x + 1) = 20 := (G26.2.1 _ (by omega)).1.1.trans e25_4
  have e26_5 : zn y26 (x + 1) = 600 := (G26.2.1 _ (by omega)).1.2.trans e25_5
  have e26_6 : zr y26 288 x = some (x + 1) := ((G26.2.1 _ (by omega)).2.1 _).2.2 (Or.inl (by omega)) |>.trans e25_6
  have e26_7 : zi y26 291 x = (-1) := ((G26.2.1 _ (by omega)).2.1 _).1.trans e25_7
  have e26_8 : zi y26 292 x = (-1) := ((G26.2.1 _ (by omega)).2.1 _).1.trans e25_8
  have e26_9 : zk y26 (x + 2) = 5 := (G26.2.1 _ (by omega)).1.1.trans e25_9
  have e26_10 : netQ y26 (x + 2) := e25_10.fc G26 (by omega) (by omega)
  have e26_11 : zr y26 293 x = some (x + 2) := ((G26.2.1 _ (by omega)).2.1 _).2.2 (Or.inl (by omega)) |>.trans e25_11
  have e26_12 : zk y26 (x + 67) = 5 := (G26.2.1 _ (by omega)).1.1.trans e25_12
  have e26_13 : netQ y26 (x + 67) := e25_13.fc G26 (by omega) (by omega)
  have e26_14 : zr y26 294 x = some (x + 67) := ((G26.2.1 _ (by omega)).2.1 _).2.2 (Or.inl (by omega)) |>.trans e25_14
  have e26_15 : zk y26 (x + 132) = 26 := (G26.2.1 _ (by omega)).1.1.trans e25_15
  have e26_16 : zn y26 (x + 132) = 3 := (G26.2.1 _ (by omega)).1.2.trans e25_16
  have e26_17 : zr y26 295 x = some (x + 132) := ((G26.2.1 _ (by omega)).2.1 _).2.2 (Or.inl (by omega)) |>.trans e25_17
  have e26_18 : zk y26 (x + 133) = 5 := (G26.2.1 _ (by omega)).1.1.trans e25_18
  have e26_19 : netQ y26 (x + 133) := e25_19.fc G26 (by omega) (by omega)
  have e26_20 : zR y26 (x + 132) 0 = some (x + 133) := ((G26.2.1 _ (by omega)).2.2 _).2.2 (by omega) |>.trans e25_20
  have e26_21 : zk y26 (x + 198) = 5 := (G26.2.1 _ (by omega)).1.1.trans e25_21
  have e26_22 : netQ y26 (x + 198) := e25_22.fc G26 (by omega) (by omega)
  have e26_23 : zR y26 (x + 132) 1 = some (x + 198) := ((G26.2.1 _ (by omega)).2.2 _).2.2 (by omega) |>.trans e25_23
  have e26_24 : zk y26 (x + 263) = 5 := (G26.2.1 _ (by omega)).1.1.trans e25_24
  have e26_25 : netQ y26 (x + 263) := e25_25.fc G26 (by omega) (by omega)
  have e26_26 : zR y26 (x + 132) 2 = some (x + 263) := ((G26.2.1 _ (by omega)).2.2 _).2.2 (by omega) |>.trans e25_26
  have e26_27 : zk y26 (x + 328) = 8 := (G26.2.1 _ (by omega)).1.1.trans e25_27
  have e26_28 : zr y26 297 x = some (x + 328) := ((G26.2.1 _ (by omega)).2.1 _).2.2 (Or.inl (by omega)) |>.trans e25_28
  have e26_29 : zk y26 (x + 329) = 0 := (G26.2.1 _ (by omega)).1.1.trans e25_n0
  have X26 : zx y26 = x + 333 := by omega
  have T26 : zt y26 = zt h + 3784 := by omega
  have F26 : FrD x h y26 := F25.tr G26 (by omega)
  refine g_putr (f := 298) dX9_init_102 fl_X9_44 (Or.inr ⟨rfl, fun _ _ _ q => by cases q; rfl⟩) e26_0 rfl ?_
  have S2 : BsO (zSr y26 298 x (some (x + 329))) (x + 329) := ⟨S26.1, ⟨by rw [zr_Sr, if_neg (by omega)]; exact S26.2.1.1, S26.2.1.2⟩, ⟨by rw [zr_Sr, if_neg (by omega)]; exact S26.2.2.1.1, S26.2.2.1.2⟩, by rw [zr_Sr, if_neg (by omega)]; exact S26.2.2.2.1, S26.2.2.2.2⟩
  have e27_0 : zk (zSr y26 298 x (some (x + 329))) x = 9 := e26_0
  have e27_1 : zi (zSr y26 298 x (some (x + 329))) 289 x = 0 := e26_1
  have e27_2 : zi (zSr y26 298 x (some (x + 329))) 290 x = 0 := e26_2
  have e27_3 : zi (zSr y26 298 x (some (x + 329))) 296 x = 0 := e26_3
  have e27_4 : zk (zSr y26 298 x (some (x + 329))) (x + 1) = 20 := e26_4
  have e27_5 : zn (zSr y26 298 x (some (x + 329))) (x + 1) = 600 := e26_5
  have e27_6 : zr (zSr y26 298 x (some (x + 329))) 288 x = some (x + 1) := by rw [zr_Sr, if_neg (by omega)]; exact e26_6
  have e27_7 : zi (zSr y26 298 x (some (x + 329))) 291 x = (-1) := e26_7
  have e27_8 : zi (zSr y26 298 x (some (x + 329))) 292 x = (-1) := e26_8
  have e27_9 : zk (zSr y26 298 x (some (x + 329))) (x + 2) = 5 := e26_9
  have e27_10 : netQ (zSr y26 298 x (some (x + 329))) (x + 2) := e26_10.fc (FrC.rf.sr (o := x) (by omega) (Or.inl rfl)) (by omega) (by omega)
  have e27_11 : zr (zSr y26 298 x (some (x + 329))) 293 x = some (x + 2) := by rw [zr_Sr, if_neg (by omega)]; exact e26_11
  have e27_12 : zk (zSr y26 298 x (some (x + 329))) (x + 67) = 5 := e26_12
  have e27_13 : netQ (zSr y26 298 x (some (x + 329))) (x + 67) := e26_13.fc (FrC.rf.sr (o := x) (by omega) (Or.inl rfl)) (by omega) (by omega)
  have e27_14 : zr (zSr y26 298 x (some (x + 329))) 294 x = some (x + 67) := by rw [zr_Sr, if_neg (by omega)]; exact e26_14
  have e27_15 : zk (zSr y26 298 x (some (x + 329))) (x + 132) = 26 := e26_15
  have e27_16 : zn (zSr y26 298 x (some (x + 329))) (x + 132) = 3 := e26_16
  have e27_17 : zr (zSr y26 298 x (some (x + 329))) 295 x = some (x + 132) := by rw [zr_Sr, if_neg (by omega)]; exact e26_17
  have e27_18 : zk (zSr y26 298 x (some (x + 329))) (x + 133) = 5 := e26_18
  have e27_19 : netQ (zSr y26 298 x (some (x + 329))) (x + 133) := e26_19.fc (FrC.rf.sr (o := x) (by omega) (Or.inl rfl)) (by omega) (by omega)
  have e27_20 : zR (zSr y26 298 x (some (x + 329))) (x + 132) 0 = some (x + 133) := e26_20
  have e27_21 : zk (zSr y26 298 x (some (x + 329))) (x + 198) = 5 := e26_21
  have e27_22 : netQ (zSr y26 298 x (some (x + 329))) (x + 198) := e26_22.fc (FrC.rf.sr (o := x) (by omega) (Or.inl rfl)) (by omega) (by omega)
  have e27_23 : zR (zSr y26 298 x (some (x + 329))) (x + 132) 1 = some (x + 198) := e26_23
  have e27_24 : zk (zSr y26 298 x (some (x + 329))) (x + 263) = 5 := e26_24
  have e27_25 : netQ (zSr y26 298 x (some (x + 329))) (x + 263) := e26_25.fc (FrC.rf.sr (o := x) (by omega) (Or.inl rfl)) (by omega) (by omega)
  have e27_26 : zR (zSr y26 298 x (some (x + 329))) (x + 132) 2 = some (x + 263) := e26_26
  have e27_27 : zk (zSr y26 298 x (some (x + 329))) (x + 328) = 8 := e26_27
  have e27_28 : zr (zSr y26 298 x (some (x + 329))) 297 x = some (x + 328) := by rw [zr_Sr, if_neg (by omega)]; exact e26_28
  have e27_29 : zk (zSr y26 298 x (some (x + 329))) (x + 329) = 0 := e26_29
  have e27_n0 : zr (zSr y26 298 x (some (x + 329))) 298 x = some (x + 329) := by rw [zr_Sr, if_pos ⟨rfl, rfl⟩]
  have x27 : zx (zSr y26 298 x (some (x + 329))) = x + 333 := X26
  have t27 : zt (zSr y26 298 x (some (x + 329))) = zt h + 3784 := T26
  have F27 : FrD x h (zSr y26 298 x (some (x + 329))) := F26.sr (by omega) (by omega)
  generalize zSr y26 298 x (some (x + 329)) = y27 at S2 x27 t27 F27 e27_0 e27_1 e27_2 e27_3 e27_4 e27_5 e27_6 e27_7 e27_8 e27_9 e27_10 e27_11 e27_12 e27_13 e27_14 e27_15 e27_16 e27_17 e27_18 e27_19 e27_20 e27_21 e27_22 e27_23 e27_24 e27_25 e27_26 e27_27 e27_28 e27_29 e27_n0 ⊢
  clear X26 T26 F26 e26_0 e26_1 e26_2 e26_3 e26_4 e26_5 e26_6 e26_7 e26_8 e26_9 e26_10 e26_11 e26_12 e26_13 e26_14 e26_15 e26_16 e26_17 e26_18 e26_19 e26_20 e26_21 e26_22 e26_23 e26_24 e26_25 e26_26 e26_27 e26_28 e26_29
  refine g_return dX9_init_105 rfl ?_
  have zn0 : ∀ a, x + 1 ≤ a → a < x + 333 → (∀ f, zi y27 f a = 0) ∧ (∀ i, zI y27 a i = 0) := fun a h1 h2 => ⟨fun f => ((F27.2.2 a (by omega) (by omega)).1 f).1, fun i => ((F27.2.2 a (by omega) (by omega)).2.1 i).1⟩
  have sl : lnS y27 ls0 := by
    refine ⟨fun L hL => ?_, fun L K i j p _ _ e => by cases e⟩
    have o1 := hL.1
    have o2 := hL.2
    have n1 : x + 1 ≤ L := by
      by_cases c1 : L < x
      · exact absurd ((F27.2.1 L (by omega) (by omega)).1.1.symm.trans o2) (h3 L)
      · by_cases c2 : L = x
        · rw [c2, e27_0] at o2; omega
        · omega
    obtain ⟨p1, -, p3, p4⟩ := F27.2.2 L (by omega) o1
    exact ⟨p3, p4, (p1 98).1, fun i p e => by cases e⟩
  have nets : ∀ i, i < 5 → netQ y27 (B0 x i) := fun i hi => by
    unfold B0
    rcases (show i = 0 ∨ i = 1 ∨ i = 2 ∨ i = 3 ∨ i = 4 by omega) with e | e | e | e | e <;> subst e
    · exact e27_10
    · exact e27_13
    · exact e27_19
    · exact e27_22
    · exact e27_25
  have cl : ∀ i, i < 5 → B0 x i + 65 ≤ zx y27 ∧ x + 1 ≤ B0 x i ∧ B0 x i + 65 ≤ x + 333 := fun i hi => by have z := B0_bk (x := x) hi; unfold isBk at z; omega
  have TX0 : ∀ i q, i < 5 → TX y27 (B0 x i) ls0 (zeN q) 0 0 := fun i q hi => (nets i hi).tx (cl i hi).1 sl (fun a h1 h2 => (zn0 a (by have := cl i hi; omega) (by have := cl i hi; omega)).1)
  refine ⟨rfl, x27, t27, fun a ha => F27.2.1 a (by omega) (by omega), fun q Ms => ?_, ⟨e27_0, e27_6, e27_4, e27_5, e27_1⟩, e27_2, e27_7, e27_8, ⟨e27_28, e27_27⟩, ⟨e27_n0, S2⟩, fun i => (zn0 (x + 1) (by omega) (by omega)).2 i, ?_⟩
  · refine ⟨⟨by omega, e27_0, e27_11, e27_14, e27_17, e27_3, by omega⟩, ⟨e27_15, e27_16, fun k hk => ?_⟩, fun i hi => B0_bk hi, fun i j hi hj n => B0_inj hi hj n, sl, fun i hi => ((TX0 i q hi).tw (by rw [show nLk (zeN q) = 0 from by unfold nLk; rw [zeN_0 (by omega)]; rfl]; omega)).cw, (TX0 0 q (by omega)).net pz.zero, fun k hk => absurd hk (by omega)⟩
    unfold B0
    rcases (show k = 0 ∨ k = 1 ∨ k = 2 by omega) with e | e | e <;> subst e
    · exact e27_20
    · exact e27_23
    · exact e27_26
  · unfold mdS
    rw [(zn0 _ (by omega) (by omega)).1, (zn0 _ (by omega) (by omega)).1, (zn0 _ (by omega) (by omega)).1, (zn0 _ (by omega) (by omega)).1, (zn0 _ (by omega) (by omega)).1]
    rfl
end CTX
