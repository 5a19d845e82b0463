section CTN
variable {l : Launch} {w : zW} {h y z : zH} {o b c L : Nat}
theorem FrC.so {i : Nat} {v : Option Nat} : FrC c h (zSR h c i v) := ⟨Nat.le_refl _, fun a _ => ⟨⟨rfl, rfl⟩, fun _ => ⟨rfl, rfl, fun _ => rfl⟩, fun i => ⟨rfl, rfl, fun q => by rw [zR_SR, if_neg (fun d => q d.1)]⟩⟩, fun a h1 h2 => absurd h2 (by show ¬ a < zx h; omega)⟩
/-- a link's cells -/
def lkC (y : zH) (L : Nat) : Prop := zk y L = 4 ∧ (zr y 132 L = some (L + 1) ∧ zk y (L + 1) = 3) ∧ (zr y 133 L = some (L + 2) ∧ zk y (L + 2) = 3) ∧ (∀ j, j < 3 → zr y (137 + j) L = some (L + 3 + j) ∧ zk y (L + 3 + j) = 21 ∧ zn y (L + 3 + j) = 6) ∧ (zr y 140 L = some (L + 6) ∧ zk y (L + 6) = 7)
def flC (y : zH) (L : Nat) : Prop := zk y L = 2 ∧ zr y 64 L = some (L + 1) ∧ zk y (L + 1) = 21 ∧ zn y (L + 1) = 4
theorem lkC.fc (k : lkC y L) (F : FrC o y z) (h1 : L + 7 ≤ zx y) (h2 : o ≠ L) : lkC z L := by
  obtain ⟨a, ⟨b1, b2⟩, ⟨c1, c2⟩, d, e1, e2⟩ := k
  have r := fun f => ((F.2.1 L (by omega)).2.1 f).2.2 (Or.inl (fun q => h2 q.symm))
  exact ⟨(F.2.1 L (by omega)).1.1.trans a, ⟨(r _).trans b1, (F.2.1 _ (by omega)).1.1.trans b2⟩, ⟨(r _).trans c1, (F.2.1 _ (by omega)).1.1.trans c2⟩, fun j hj => ⟨(r _).trans (d j hj).1, (F.2.1 _ (by omega)).1.1.trans (d j hj).2.1, (F.2.1 _ (by omega)).1.2.trans (d j hj).2.2⟩, (r _).trans e1, (F.2.1 _ (by omega)).1.1.trans e2⟩
theorem flC.fc (k : flC y L) (F : FrC o y z) (h1 : L + 2 ≤ zx y) (h2 : o ≠ L) : flC z L := by
  obtain ⟨a, b1, b2, b3⟩ := k
  have r := fun f => ((F.2.1 L (by omega)).2.1 f).2.2 (Or.inl (fun q => h2 q.symm))
  exact ⟨(F.2.1 L (by omega)).1.1.trans a, (r _).trans b1, (F.2.1 _ (by omega)).1.1.trans b2, (F.2.1 _ (by omega)).1.2.trans b3⟩
def hdC (y : zH) (b : Nat) : Prop := (zk y b = 5) ∧ (zk y (b + 1) = 25) ∧ (zn y (b + 1) = 6) ∧ (zr y 160 b = some (b + 1)) ∧ (zk y (b + 2) = 24) ∧ (zn y (b + 2) = 6) ∧ (zr y 162 b = some (b + 2)) ∧ (zk y (b + 3) = 3) ∧ (zr y 165 b = some (b + 3)) ∧ (zk y (b + 4) = 3) ∧ (zr y 166 b = some (b + 4)) ∧ (zk y (b + 5) = 1) ∧ (∀ j, j < 4 → zr y (32 + j) (b + 5) = some (b + 6 + j)) ∧ (∀ j, j < 4 → zk y (b + 6 + j) = 21) ∧ (∀ j, j < 4 → zn y (b + 6 + j) = 24) ∧ (zr y 168 b = some (b + 5)) ∧ (zk y (b + 10) = 21) ∧ (zn y (b + 10) = 120) ∧ (zr y 169 b = some (b + 10))
theorem hdC.fc (k : hdC y b) (F : FrC o y z) (h1 : b + 11 ≤ zx y) (h2 : o < b ∨ b + 11 ≤ o) : hdC z b := ⟨(F.2.1 _ (by omega)).1.1.trans k.1, (F.2.1 _ (by omega)).1.1.trans k.2.1, (F.2.1 _ (by omega)).1.2.trans k.2.2.1, ((F.2.1 _ (by omega)).2.1 _).2.2 (Or.inl (by omega)) |>.trans k.2.2.2.1, (F.2.1 _ (by omega)).1.1.trans k.2.2.2.2.1, (F.2.1 _ (by omega)).1.2.trans k.2.2.2.2.2.1, ((F.2.1 _ (by omega)).2.1 _).2.2 (Or.inl (by omega)) |>.trans k.2.2.2.2.2.2.1, (F.2.1 _ (by omega)).1.1.trans k.2.2.2.2.2.2.2.1, ((F.2.1 _ (by omega)).2.1 _).2.2 (Or.inl (by omega)) |>.trans k.2.2.2.2.2.2.2.2.1, (F.2.1 _ (by omega)).1.1.trans k.2.2.2.2.2.2.2.2.2.1, ((F.2.1 _ (by omega)).2.1 _).2.2 (Or.inl (by omega)) |>.trans k.2.2.2.2.2.2.2.2.2.2.1, (F.2.1 _ (by omega)).1.1.trans k.2.2.2.2.2.2.2.2.2.2.2.1, fun j hj => ((F.2.1 _ (by omega)).2.1 _).2.2 (Or.inl (by omega)) |>.trans (k.2.2.2.2.2.2.2.2.2.2.2.2.1 j hj), fun j hj => (F.2.1 _ (by omega)).1.1.trans (k.2.2.2.2.2.2.2.2.2.2.2.2.2.1 j hj), fun j hj => (F.2.1 _ (by omega)).1.2.trans (k.2.2.2.2.2.2.2.2.2.2.2.2.2.2.1 j hj), ((F.2.1 _ (by omega)).2.1 _).2.2 (Or.inl (by omega)) |>.trans k.2.2.2.2.2.2.2.2.2.2.2.2.2.2.2.1, (F.2.1 _ (by omega)).1.1.trans k.2.2.2.2.2.2.2.2.2.2.2.2.2.2.2.2.1, (F.2.1 _ (by omega)).1.2.trans k.2.2.2.2.2.2.2.2.2.2.2.2.2.2.2.2.2.1, ((F.2.1 _ (by omega)).2.1 _).2.2 (Or.inl (by omega)) |>.trans k.2.2.2.2.2.2.2.2.2.2.2.2.2.2.2.2.2.2⟩
theorem hdC.sR {i : Nat} {v : Option Nat} (k : hdC y b) : hdC (zSR y c i v) b := k
theorem FrC.of2 {o1 : Nat} (F : FrC o1 h y) (G : FrC o y z) (ho : zx h ≤ o) (e : ∀ a, a < zx h → SmA h y a) : FrC o h z := by
  obtain ⟨f1, f2, f3⟩ := F
  obtain ⟨g1, g2, g3⟩ := G
  refine ⟨by omega, fun a ha => ?_, fun a h1 h2 => ?_⟩
  · have m := e a ha
    obtain ⟨q1, q2, q3⟩ := g2 a (by omega)
    exact ⟨⟨q1.1.trans m.1.1, q1.2.trans m.1.2⟩, fun f => ⟨(q2 f).1.trans (m.2.1 f).1, (q2 f).2.1.trans (m.2.1 f).2.1, fun d => ((q2 f).2.2 d).trans (m.2.1 f).2.2⟩, fun i => ⟨(q3 i).1.trans (m.2.2 i).1, (q3 i).2.1.trans (m.2.2 i).2.1, fun d => ((q3 i).2.2 d).trans (m.2.2 i).2.2⟩⟩
  · by_cases c : a < zx y
    · obtain ⟨p1, p2, p3, p4⟩ := f3 a h1 c
      obtain ⟨q1, q2, q3⟩ := g2 a c
      exact ⟨fun f => ⟨(q2 f).1.trans (p1 f).1, (q2 f).2.1.trans (p1 f).2⟩, fun i => ⟨(q3 i).1.trans (p2 i).1, (q3 i).2.1.trans (p2 i).2⟩, ((q2 96).2.2 (by omega)).trans p3, ((q2 97).2.2 (by omega)).trans p4⟩
    · exact g3 a (by omega) h2
theorem SmA.nw {k n a : Nat} (ha : a < zx h) : SmA h (zNw h k n) a := by
  have na : ¬ a = zx h := by omega
  refine ⟨⟨by rw [zk_Nw, if_neg na], by rw [zn_Nw, if_neg na]⟩, fun f => ⟨by rw [zi_Nw, if_neg na], by rw [zl_Nw, if_neg na], by rw [zr_Nw, if_neg na]⟩, fun i => ⟨by rw [zI_Nw, if_neg na], by rw [zL_Nw, if_neg na], by rw [zR_Nw, if_neg na]⟩⟩
theorem n_fl (hx0 : zx h = b + 1) : ∀ (k i : Nat) (y : zH), i + k = 6 → zx y = b + 53 + 2 * i → zt y = zt h + 522 + 16 * i → FrC b h y → hdC y b → (∀ j, j < 6 → zR y (b + 1) j = some (b + 11 + 7 * j) ∧ lkC y (b + 11 + 7 * j)) → (∀ j, j < i → zR y (b + 2) j = some (b + 53 + 2 * j) ∧ flC y (b + 53 + 2 * j)) → zG l w mX5_init 95 [(1, .int (nI i)), (0, .ref b)] [] y (fun u y => u = none ∧ zx y = b + 65 ∧ zt y = zt h + 618 ∧ FrC b h y ∧ hdC y b ∧ (∀ i, i < 6 → zR y (b + 1) i = some (b + 11 + 7 * i) ∧ lkC y (b + 11 + 7 * i)) ∧ ∀ i, i < 6 → zR y (b + 2) i = some (b + 53 + 2 * i) ∧ flC y (b + 53 + 2 * i)) := by
  intro k
  induction k with
  | zero =>
      intro i y hi hx ht Fy hd lk fs
      refine g_iload_n 0 dX5_init_95 rfl rfl ?_
      refine g_aload_n 1 dX5_init_96 rfl rfl ?_
      refine g_getr (f := 162) (b := b + 2) dX5_init_97 fl_X5_19 hd.1 rfl hd.2.2.2.2.2.2.1 ?_
      refine g_alen (t := 4) (v := nI 6) dX5_init_100 hd.2.2.2.2.1 rfl (fun _ => rfl) (congrArg Int32.ofNat (show zn y (b + 2) = 6 from hd.2.2.2.2.2.1)) ?_
      refine g_ncmp_ge (tgt := 123) dX5_init_101 (by decide) (by omega) (by omega) (fun d => ?_) (fun d => ?_)
      · obtain rfl : i = 6 := by omega
        refine g_return dX5_init_123 rfl ?_
        exact ⟨rfl, by omega, by omega, Fy, hd, lk, fs⟩
      · exact absurd d (by omega)
  | succ k ih =>
      intro i y hi hx ht Fy hd lk fs
      refine g_iload_n 0 dX5_init_95 rfl rfl ?_
      refine g_aload_n 1 dX5_init_96 rfl rfl ?_
      refine g_getr (f := 162) (b := b + 2) dX5_init_97 fl_X5_19 hd.1 rfl hd.2.2.2.2.2.2.1 ?_
      refine g_alen (t := 4) (v := nI 6) dX5_init_100 hd.2.2.2.2.1 rfl (fun _ => rfl) (congrArg Int32.ofNat (show zn y (b + 2) = 6 from hd.2.2.2.2.2.1)) ?_
      refine g_ncmp_ge (tgt := 123) dX5_init_101 (by decide) (by omega) (by omega) (fun d => ?_) (fun d => ?_)
      · exact absurd d (by omega)
      · refine g_aload_n 1 dX5_init_104 rfl rfl ?_
        refine g_getr (f := 162) (b := b + 2) dX5_init_105 fl_X5_19 hd.1 rfl hd.2.2.2.2.2.2.1 ?_
        refine g_iload_n 0 dX5_init_108 rfl rfl ?_
        refine g_new (x := b + 53 + 2 * i) dX5_init_109 mk_X5_17 (by omega) ?_
        have kx : zk (zNw y 2 12) (b + 53 + 2 * i) = 2 := by rw [zk_Nw, if_pos (show b + 53 + 2 * i = zx y by omega)]
        have G1 : FrC b y (zNw y 2 12) := FrC.rf.nw
        have S1 : ∀ a, a < zx y → SmA y (zNw y 2 12) a := fun _ ha => SmA.nw ha
        have x1 : zx (zNw y 2 12) = b + 53 + 2 * i + 1 := by have q := zx_Nw y 2 12; omega
        have t1 : zt (zNw y 2 12) = zt y + 12 := zt_Nw y 2 12
        generalize zNw y 2 12 = y1 at kx G1 S1 x1 t1 ⊢
        refine g_dup dX5_init_112 rfl ?_
        refine g_invn (M' := mX2_init) (As := []) (rest := [.ref (b + 53 + 2 * i), .int (nI i), .ref (b + 2)]) dX5_init_113 nl_X5_45 okX2_init imX2_init rfl rfl ⟨(Nat.le_of_ble_eq_true rfl), (Nat.le_of_ble_eq_true rfl)⟩ rfl rfl (Nat.le_of_ble_eq_true rfl) (c_flInit kx (by omega)) ?_
        rintro _ y2 ⟨rfl, x2, t2, G2, N2⟩
        show zG l w mX5_init 116 [(1, .int (nI i)), (0, .ref b)] [.ref (b + 53 + 2 * i), .int (nI i), .ref (b + 2)] y2 _
        have G3 : FrC b y y2 := G1.tr G2 (by omega)
        have G0 : FrC (b + 53 + 2 * i) y y2 := FrC.of2 G1 G2 (by omega) S1
        have hd2 : hdC y2 b := hd.fc G0 (by omega) (by omega)
        have kx2 : zk y2 (b + 53 + 2 * i) = 2 := (G2.2.1 _ (by omega)).1.1.trans kx
        have c2 : flC y2 (b + 53 + 2 * i) := ⟨kx2, N2⟩
        refine g_aast (t := 4) (n := i) dX5_init_116 hd2.2.2.2.2.1 rfl (fun _ => rfl) (by decide) kx2 rfl (by rw [show zn y2 (b + 2) = 6 from hd2.2.2.2.2.2.1]; exact vp_in_nI (by omega) (by omega)) (nI_clamp (by omega)) ?_
        have G4 : FrC (b + 2) y2 (zSR y2 (b + 2) i (some (b + 53 + 2 * i))) := FrC.so
        have F4 : FrC b h (zSR y2 (b + 2) i (some (b + 53 + 2 * i))) := (Fy.tr G3 (by omega)).sR (by omega)
        have hd4 : hdC (zSR y2 (b + 2) i (some (b + 53 + 2 * i))) b := hd2.sR
        have x4 : zx (zSR y2 (b + 2) i (some (b + 53 + 2 * i))) = b + 53 + 2 * (i + 1) := by rw [zx_SR]; omega
        have t4 : zt (zSR y2 (b + 2) i (some (b + 53 + 2 * i))) = zt y + 16 := by rw [zt_SR]; omega
        have n4 : ∀ j, j < i + 1 → zR (zSR y2 (b + 2) i (some (b + 53 + 2 * i))) (b + 2) j = some (b + 53 + 2 * j) ∧ flC (zSR y2 (b + 2) i (some (b + 53 + 2 * i))) (b + 53 + 2 * j) := fun j hj => by
          by_cases e : j = i
          · subst e; exact ⟨by rw [zR_SR, if_pos ⟨rfl, rfl⟩], c2.fc G4 (by omega) (by omega)⟩
          · have p := fs j (by omega)
            refine ⟨by rw [zR_SR, if_neg (fun q => e q.2), ((G0.2.1 (b + 2) (by omega)).2.2 j).2.2 (by omega)]; exact p.1, (p.2.fc G0 (by omega) (by omega)).fc G4 (by omega) (by omega)⟩
        have l4 : ∀ j, j < 6 → zR (zSR y2 (b + 2) i (some (b + 53 + 2 * i))) (b + 1) j = some (b + 11 + 7 * j) ∧ lkC (zSR y2 (b + 2) i (some (b + 53 + 2 * i))) (b + 11 + 7 * j) := fun j hj => ⟨by rw [zR_SR, if_neg (by omega), ((G0.2.1 (b + 1) (by omega)).2.2 j).2.2 (by omega)]; exact (lk j hj).1, ((lk j hj).2.fc G0 (by omega) (by omega)).fc G4 (by omega) (by omega)⟩
        generalize zSR y2 (b + 2) i (some (b + 53 + 2 * i)) = y4 at F4 hd4 x4 t4 n4 l4 ⊢
        clear G4
        refine g_inc (v := nI (i + 1)) (lv2 := [(1, .int (nI (i + 1))), (0, .ref b)]) 0 dX5_init_117 rfl (nI_add _ 1) (by decide) rfl ?_
        refine g_goto (tgt := 95) dX5_init_120 (by decide) ?_
        exact zG.sub [0, 1] rfl (ih (i + 1) y4 (by omega) x4 (by omega) F4 hd4 l4 n4)
theorem n_lk (hx0 : zx h = b + 1) : ∀ (k i : Nat) (y : zH), i + k = 6 → zx y = b + 11 + 7 * i → zt y = zt h + 240 + 47 * i → FrC b h y → hdC y b → (∀ j, j < i → zR y (b + 1) j = some (b + 11 + 7 * j) ∧ lkC y (b + 11 + 7 * j)) → zG l w mX5_init 65 [(1, .int (nI i)), (0, .ref b)] [] y (fun u y => u = none ∧ zx y = b + 65 ∧ zt y = zt h + 618 ∧ FrC b h y ∧ hdC y b ∧ (∀ i, i < 6 → zR y (b + 1) i = some (b + 11 + 7 * i) ∧ lkC y (b + 11 + 7 * i)) ∧ ∀ i, i < 6 → zR y (b + 2) i = some (b + 53 + 2 * i) ∧ flC y (b + 53 + 2 * i)) := by
  intro k
  induction k with
  | zero =>
      intro i y hi hx ht Fy hd lk
      refine g_iload_n 0 dX5_init_65 rfl rfl ?_
      refine g_aload_n 1 dX5_init_66 rfl rfl ?_
      refine g_getr (f := 160) (b := b + 1) dX5_init_67 fl_X5_11 hd.1 rfl hd.2.2.2.1 ?_
      refine g_alen (t := 5) (v := nI 6) dX5_init_70 hd.2.1 rfl (fun _ => rfl) (congrArg Int32.ofNat (show zn y (b + 1) = 6 from hd.2.2.1)) ?_
      refine g_ncmp_ge (tgt := 93) dX5_init_71 (by decide) (by omega) (by omega) (fun d => ?_) (fun d => ?_)
      · obtain rfl : i = 6 := by omega
        refine g_iconst (v := nI 0) dX5_init_93 (by decide) ?_
        refine g_istore_n (lv2 := [(1, .int (nI 0)), (0, .ref b)]) dX5_init_94 rfl (by decide) rfl ?_
        exact zG.sub [0, 1] rfl (n_fl hx0 6 0 y rfl (by omega) (by omega) Fy hd lk (fun j hj => absurd hj (by omega)))
      · exact absurd d (by omega)
  | succ k ih =>
      intro i y hi hx ht Fy hd lk
      refine g_iload_n 0 dX5_init_65 rfl rfl ?_
      refine g_aload_n 1 dX5_init_66 rfl rfl ?_
      refine g_getr (f := 160) (b := b + 1) dX5_init_67 fl_X5_11 hd.1 rfl hd.2.2.2.1 ?_
      refine g_alen (t := 5) (v := nI 6) dX5_init_70 hd.2.1 rfl (fun _ => rfl) (congrArg Int32.ofNat (show zn y (b + 1) = 6 from hd.2.2.1)) ?_
      refine g_ncmp_ge (tgt := 93) dX5_init_71 (by decide) (by omega) (by omega) (fun d => ?_) (fun d => ?_)
      · exact absurd d (by omega)
      · refine g_aload_n 1 dX5_init_74 rfl rfl ?_
        refine g_getr (f := 160) (b := b + 1) dX5_init_75 fl_X5_11 hd.1 rfl hd.2.2.2.1 ?_
        refine g_iload_n 0 dX5_init_78 rfl rfl ?_
        refine g_new (x := b + 11 + 7 * i) dX5_init_79 mk_X5_9 (by omega) ?_
        have kx : zk (zNw y 4 17) (b + 11 + 7 * i) = 4 := by rw [zk_Nw, if_pos (show b + 11 + 7 * i = zx y by omega)]
        have G1 : FrC b y (zNw y 4 17) := FrC.rf.nw
        have S1 : ∀ a, a < zx y → SmA y (zNw y 4 17) a := fun _ ha => SmA.nw ha
        have x1 : zx (zNw y 4 17) = b + 11 + 7 * i + 1 := by have q := zx_Nw y 4 17; omega
        have t1 : zt (zNw y 4 17) = zt y + 17 := zt_Nw y 4 17
        generalize zNw y 4 17 = y1 at kx G1 S1 x1 t1 ⊢
        refine g_dup dX5_init_82 rfl ?_
        refine g_invn (M' := mX4_init) (As := []) (rest := [.ref (b + 11 + 7 * i), .int (nI i), .ref (b + 1)]) dX5_init_83 nl_X5_44 okX4_init imX4_init rfl rfl ⟨(Nat.le_of_ble_eq_true rfl), (Nat.le_of_ble_eq_true rfl)⟩ rfl rfl (Nat.le_of_ble_eq_true rfl) (c_lkInit kx (by omega)) ?_
        rintro _ y2 ⟨rfl, x2, t2, G2, N2⟩
        show zG l w mX5_init 86 [(1, .int (nI i)), (0, .ref b)] [.ref (b + 11 + 7 * i), .int (nI i), .ref (b + 1)] y2 _
        have G3 : FrC b y y2 := G1.tr G2 (by omega)
        have G0 : FrC (b + 11 + 7 * i) y y2 := FrC.of2 G1 G2 (by omega) S1
        have hd2 : hdC y2 b := hd.fc G0 (by omega) (by omega)
        have kx2 : zk y2 (b + 11 + 7 * i) = 4 := (G2.2.1 _ (by omega)).1.1.trans kx
        have c2 : lkC y2 (b + 11 + 7 * i) := ⟨kx2, N2⟩
        refine g_aast (t := 5) (n := i) dX5_init_86 hd2.2.1 rfl (fun _ => rfl) (by decide) kx2 rfl (by rw [show zn y2 (b + 1) = 6 from hd2.2.2.1]; exact vp_in_nI (by omega) (by omega)) (nI_clamp (by omega)) ?_
        have G4 : FrC (b + 1) y2 (zSR y2 (b + 1) i (some (b + 11 + 7 * i))) := FrC.so
        have F4 : FrC b h (zSR y2 (b + 1) i (some (b + 11 + 7 * i))) := (Fy.tr G3 (by omega)).sR (by omega)
        have hd4 : hdC (zSR y2 (b + 1) i (some (b + 11 + 7 * i))) b := hd2.sR
        have x4 : zx (zSR y2 (b + 1) i (some (b + 11 + 7 * i))) = b + 11 + 7 * (i + 1) := by rw [zx_SR]; omega
        have t4 : zt (zSR y2 (b + 1) i (some (b + 11 + 7 * i))) = zt y + 47 := by rw [zt_SR]; omega
        have n4 : ∀ j, j < i + 1 → zR (zSR y2 (b + 1) i (some (b + 11 + 7 * i))) (b + 1) j = some (b + 11 + 7 * j) ∧ lkC (zSR y2 (b + 1) i (some (b + 11 + 7 * i))) (b + 11 + 7 * j) := fun j hj => by
          by_cases e : j = i
          · subst e; exact ⟨by rw [zR_SR, if_pos ⟨rfl, rfl⟩], c2.fc G4 (by omega) (by omega)⟩
          · have p := lk j (by omega)
            refine ⟨by rw [zR_SR, if_neg (fun q => e q.2), ((G0.2.1 (b + 1) (by omega)).2.2 j).2.2 (by omega)]; exact p.1, (p.2.fc G0 (by omega) (by omega)).fc G4 (by omega) (by omega)⟩
        generalize zSR y2 (b + 1) i (some (b + 11 + 7 * i)) = y4 at F4 hd4 x4 t4 n4  ⊢
        clear G4
        refine g_inc (v := nI (i + 1)) (lv2 := [(1, .int (nI (i + 1))), (0, .ref b)]) 0 dX5_init_87 rfl (nI_add _ 1) (by decide) rfl ?_
        refine g_goto (tgt := 65) dX5_init_90 (by decide) ?_
        exact zG.sub [0, 1] rfl (ih (i + 1) y4 (by omega) x4 (by omega) F4 hd4 n4)
set_option maxHeartbeats 4000000 in
theorem c_netInit (hk : zk h b = 5) (hx : zx h = b + 1) : zM l w mX5_init [.ref b] h (fun u y => u = none ∧ zx y = b + 65 ∧ zt y = zt h + 618 ∧ FrC b h y ∧ hdC y b ∧ (∀ i, i < 6 → zR y (b + 1) i = some (b + 11 + 7 * i) ∧ lkC y (b + 11 + 7 * i)) ∧ ∀ i, i < 6 → zR y (b + 2) i = some (b + 53 + 2 * i) ∧ flC y (b + 53 + 2 * i)) := by
  refine zM.of (by decide) (Nat.le_of_ble_eq_true rfl) ?_
  have t0 : zt h = zt h + 0 := rfl
  refine g_aload_n 0 dX5_init_0 rfl rfl ?_
  refine g_objInit dX5_init_1 ml_X5_3 oi_i oi_c (Nat.le_of_ble_eq_true rfl) (Nat.le_of_ble_eq_true rfl) ?_
  refine g_aload_n 0 dX5_init_4 rfl rfl ?_
  refine g_bipush (v := nI 6) dX5_init_5 (by decide) ?_
  refine g_newq (t := 5) (x := b + 1) (N := 6) dX5_init_7 cl_X5_9 (fun k => k.2.1.2.1) rfl (by decide) (fun _ => rfl) (nI_pos (by omega)) (nI_clamp (by omega)) (by decide) hx ?_
  have e1_0 : zk (zNw h 25 6) b = 5 := by rw [zk_Nw, if_neg (by omega)]; exact hk
  have e1_n0 : zk (zNw h 25 6) (b + 1) = 25 := by rw [zk_Nw, if_pos hx.symm]
  have e1_n1 : zn (zNw h 25 6) (b + 1) = 6 := by rw [zn_Nw, if_pos hx.symm]
  have x1 : zx (zNw h 25 6) = b + 2 := by have q := zx_Nw h 25 6; omega
  have t1 : zt (zNw h 25 6) = zt h + 6 := by have q := zt_Nw h 25 6; omega
  have F1 : FrC b h (zNw h 25 6) := FrC.rf.nw
  generalize zNw h 25 6 = y1 at x1 t1 F1 e1_0 e1_n0 e1_n1 ⊢
  clear t0
  refine g_putr (f := 160) dX5_init_10 fl_X5_11 (Or.inr ⟨rfl, fun _ _ _ q => by cases q; rfl⟩) e1_0 rfl ?_
  have e2_0 : zk (zSr y1 160 b (some (b + 1))) b = 5 := e1_0
  have e2_1 : zk (zSr y1 160 b (some (b + 1))) (b + 1) = 25 := e1_n0
  have e2_2 : zn (zSr y1 160 b (some (b + 1))) (b + 1) = 6 := e1_n1
  have e2_n0 : zr (zSr y1 160 b (some (b + 1))) 160 b = some (b + 1) := by rw [zr_Sr, if_pos ⟨rfl, rfl⟩]
  have x2 : zx (zSr y1 160 b (some (b + 1))) = b + 2 := x1
  have t2 : zt (zSr y1 160 b (some (b + 1))) = zt h + 6 := t1
  have F2 : FrC b h (zSr y1 160 b (some (b + 1))) := F1.sr (by omega) (by omega)
  generalize zSr y1 160 b (some (b + 1)) = y2 at x2 t2 F2 e2_0 e2_1 e2_2 e2_n0 ⊢
  clear x1 t1 F1 e1_0 e1_n0 e1_n1
  refine g_aload_n 0 dX5_init_13 rfl rfl ?_
  refine g_bipush (v := nI 6) dX5_init_14 (by decide) ?_
  refine g_newq (t := 4) (x := b + 2) (N := 6) dX5_init_16 cl_X5_17 (fun k => k.2.1.1) rfl (by decide) (fun _ => rfl) (nI_pos (by omega)) (nI_clamp (by omega)) (by decide) x2 ?_
  have e3_0 : zk (zNw y2 24 6) b = 5 := by rw [zk_Nw, if_neg (by omega)]; exact e2_0
  have e3_1 : zk (zNw y2 24 6) (b + 1) = 25 := by rw [zk_Nw, if_neg (by omega)]; exact e2_1
  have e3_2 : zn (zNw y2 24 6) (b + 1) = 6 := by rw [zn_Nw, if_neg (by omega)]; exact e2_2
  have e3_3 : zr (zNw y2 24 6) 160 b = some (b + 1) := by rw [zr_Nw, if_neg (by omega)]; exact e2_n0
  have e3_n0 : zk (zNw y2 24 6) (b + 2) = 24 := by rw [zk_Nw, if_pos x2.symm]
  have e3_n1 : zn (zNw y2 24 6) (b + 2) = 6 := by rw [zn_Nw, if_pos x2.symm]
  have x3 : zx (zNw y2 24 6) = b + 3 := by have q := zx_Nw y2 24 6; omega
  have t3 : zt (zNw y2 24 6) = zt h + 12 := by have q := zt_Nw y2 24 6; omega
  have F3 : FrC b h (zNw y2 24 6) := F2.nw
  generalize zNw y2 24 6 = y3 at x3 t3 F3 e3_0 e3_1 e3_2 e3_3 e3_n0 e3_n1 ⊢
  clear x2 t2 F2 e2_0 e2_1 e2_2 e2_n0
  refine g_putr (f := 162) dX5_init_19 fl_X5_19 (Or.inr ⟨rfl, fun _ _ _ q => by cases q; rfl⟩) e3_0 rfl ?_
  have e4_0 : zk (zSr y3 162 b (some (b + 2))) b = 5 := e3_0
  have e4_1 : zk (zSr y3 162 b (some (b + 2))) (b + 1) = 25 := e3_1
  have e4_2 : zn (zSr y3 162 b (some (b + 2))) (b + 1) = 6 := e3_2
  have e4_3 : zr (zSr y3 162 b (some (b + 2))) 160 b = some (b + 1) := by rw [zr_Sr, if_neg (by omega)]; exact e3_3
  have e4_4 : zk (zSr y3 162 b (some (b + 2))) (b + 2) = 24 := e3_n0
  have e4_5 : zn (zSr y3 162 b (some (b + 2))) (b + 2) = 6 := e3_n1
  have e4_n0 : zr (zSr y3 162 b (some (b + 2))) 162 b = some (b + 2) := by rw [zr_Sr, if_pos ⟨rfl, rfl⟩]
  have x4 : zx (zSr y3 162 b (some (b + 2))) = b + 3 := x3
  have t4 : zt (zSr y3 162 b (some (b + 2))) = zt h + 12 := t3
  have F4 : FrC b h (zSr y3 162 b (some (b + 2))) := F3.sr (by omega) (by omega)
  generalize zSr y3 162 b (some (b + 2)) = y4 at x4 t4 F4 e4_0 e4_1 e4_2 e4_3 e4_4 e4_5 e4_n0 ⊢
  clear x3 t3 F3 e3_0 e3_1 e3_2 e3_3 e3_n0 e3_n1
  refine g_aload_n 0 dX5_init_22 rfl rfl ?_
  refine g_new (x := b + 3) dX5_init_23 mk_X5_23 x4 ?_
  have e5_0 : zk (zNw y4 3 3) b = 5 := by rw [zk_Nw, if_neg (by omega)]; exact e4_0
  have e5_1 : zk (zNw y4 3 3) (b + 1) = 25 := by rw [zk_Nw, if_neg (by omega)]; exact e4_1
  have e5_2 : zn (zNw y4 3 3) (b + 1) = 6 := by rw [zn_Nw, if_neg (by omega)]; exact e4_2
  have e5_3 : zr (zNw y4 3 3) 160 b = some (b + 1) := by rw [zr_Nw, if_neg (by omega)]; exact e4_3
  have e5_4 : zk (zNw y4 3 3) (b + 2) = 24 := by rw [zk_Nw, if_neg (by omega)]; exact e4_4
  have e5_5 : zn (zNw y4 3 3) (b + 2) = 6 := by rw [zn_Nw, if_neg (by omega)]; exact e4_5
  have e5_6 : zr (zNw y4 3 3) 162 b = some (b + 2) := by rw [zr_Nw, if_neg (by omega)]; exact e4_n0
  have e5_n0 : zk (zNw y4 3 3) (b + 3) = 3 := by rw [zk_Nw, if_pos x4.symm]
  have x5 : zx (zNw y4 3 3) = b + 4 := by have q := zx_Nw y4 3 3; omega
  have t5 : zt (zNw y4 3 3) = zt h + 15 := by have q := zt_Nw y4 3 3; omega
  have F5 : FrC b h (zNw y4 3 3) := F4.nw
  generalize zNw y4 3 3 = y5 at x5 t5 F5 e5_0 e5_1 e5_2 e5_3 e5_4 e5_5 e5_6 e5_n0 ⊢
  clear x4 t4 F4 e4_0 e4_1 e4_2 e4_3 e4_4 e4_5 e4_n0
  refine g_dup dX5_init_26 rfl ?_
  refine g_invn (M' := mX3_init) (As := []) (rest := [.ref (b + 3), .ref b]) dX5_init_27 nl_X5_25 okX3_init imX3_init rfl rfl ⟨(Nat.le_of_ble_eq_true rfl), (Nat.le_of_ble_eq_true rfl)⟩ rfl rfl (Nat.le_of_ble_eq_true rfl) c_lnInit ?_
  rintro _ q6 ⟨rfl, eq6⟩
  subst q6
  show zG l w mX5_init 30 [(0, .ref b)] [.ref (b + 3), .ref b] y5 _
  refine g_putr (f := 165) dX5_init_30 fl_X5_26 (Or.inr ⟨rfl, fun _ _ _ q => by cases q; rfl⟩) e5_0 rfl ?_
  have e7_0 : zk (zSr y5 165 b (some (b + 3))) b = 5 := e5_0
  have e7_1 : zk (zSr y5 165 b (some (b + 3))) (b + 1) = 25 := e5_1
  have e7_2 : zn (zSr y5 165 b (some (b + 3))) (b + 1) = 6 := e5_2
  have e7_3 : zr (zSr y5 165 b (some (b + 3))) 160 b = some (b + 1) := by rw [zr_Sr, if_neg (by omega)]; exact e5_3
  have e7_4 : zk (zSr y5 165 b (some (b + 3))) (b + 2) = 24 := e5_4
  have e7_5 : zn (zSr y5 165 b (some (b + 3))) (b + 2) = 6 := e5_5
  have e7_6 : zr (zSr y5 165 b (some (b + 3))) 162 b = some (b + 2) := by rw [zr_Sr, if_neg (by omega)]; exact e5_6
  have e7_7 : zk (zSr y5 165 b (some (b + 3))) (b + 3) = 3 := e5_n0
  have e7_n0 : zr (zSr y5 165 b (some (b + 3))) 165 b = some (b + 3) := by rw [zr_Sr, if_pos ⟨rfl, rfl⟩]
  have x7 : zx (zSr y5 165 b (some (b + 3))) = b + 4 := x5
  have t7 : zt (zSr y5 165 b (some (b + 3))) = zt h + 15 := t5
  have F7 : FrC b h (zSr y5 165 b (some (b + 3))) := F5.sr (by omega) (by omega)
  generalize zSr y5 165 b (some (b + 3)) = y7 at x7 t7 F7 e7_0 e7_1 e7_2 e7_3 e7_4 e7_5 e7_6 e7_7 e7_n0 ⊢
  clear x5 t5 F5 e5_0 e5_1 e5_2 e5_3 e5_4 e5_5 e5_6 e5_n0
  refine g_aload_n 0 dX5_init_33 rfl rfl ?_
  refine g_new (x := b + 4) dX5_init_34 mk_X5_23 x7 ?_
  have e8_0 : zk (zNw y7 3 3) b = 5 := by rw [zk_Nw, if_neg (by omega)]; exact e7_0
  have e8_1 : zk (zNw y7 3 3) (b + 1) = 25 := by rw [zk_Nw, if_neg (by omega)]; exact e7_1
  have e8_2 : zn (zNw y7 3 3) (b + 1) = 6 := by rw [zn_Nw, if_neg (by omega)]; exact e7_2
  have e8_3 : zr (zNw y7 3 3) 160 b = some (b + 1) := by rw [zr_Nw, if_neg (by omega)]; exact e7_3
  have e8_4 : zk (zNw y7 3 3) (b + 2) = 24 := by rw [zk_Nw, if_neg (by omega)]; exact e7_4
  have e8_5 : zn (zNw y7 3 3) (b + 2) = 6 := by rw [zn_Nw, if_neg (by omega)]; exact e7_5
  have e8_6 : zr (zNw y7 3 3) 162 b = some (b + 2) := by rw [zr_Nw, if_neg (by omega)]; exact e7_6
  have e8_7 : zk (zNw y7 3 3) (b + 3) = 3 := by rw [zk_Nw, if_neg (by omega)]; exact e7_7
  have e8_8 : zr (zNw y7 3 3) 165 b = some (b + 3) := by rw [zr_Nw, if_neg (by omega)]; exact e7_n0
  have e8_n0 : zk (zNw y7 3 3) (b + 4) = 3 := by rw [zk_Nw, if_pos x7.symm]
  have x8 : zx (zNw y7 3 3) = b + 5 := by have q := zx_Nw y7 3 3; omega
  have t8 : zt (zNw y7 3 3) = zt h + 18 := by have q := zt_Nw y7 3 3; omega
  have F8 : FrC b h (zNw y7 3 3) := F7.nw
  generalize zNw y7 3 3 = y8 at x8 t8 F8 e8_0 e8_1 e8_2 e8_3 e8_4 e8_5 e8_6 e8_7 e8_8 e8_n0 ⊢
  clear x7 t7 F7 e7_0 e7_1 e7_2 e7_3 e7_4 e7_5 e7_6 e7_7 e7_n0
  refine g_dup dX5_init_37 rfl ?_
  refine g_invn (M' := mX3_init) (As := []) (rest := [.ref (b + 4), .ref b]) dX5_init_38 nl_X5_25 okX3_init imX3_init rfl rfl ⟨(Nat.le_of_ble_eq_true rfl), (Nat.le_of_ble_eq_true rfl)⟩ rfl rfl (Nat.le_of_ble_eq_true rfl) c_lnInit ?_
  rintro _ q9 ⟨rfl, eq9⟩
  subst q9
  show zG l w mX5_init 41 [(0, .ref b)] [.ref (b + 4), .ref b] y8 _
  refine g_putr (f := 166) dX5_init_41 fl_X5_30 (Or.inr ⟨rfl, fun _ _ _ q => by cases q; rfl⟩) e8_0 rfl ?_
  have e10_0 : zk (zSr y8 166 b (some (b + 4))) b = 5 := e8_0
  have e10_1 : zk (zSr y8 166 b (some (b + 4))) (b + 1) = 25 := e8_1
  have e10_2 : zn (zSr y8 166 b (some (b + 4))) (b + 1) = 6 := e8_2
  have e10_3 : zr (zSr y8 166 b (some (b + 4))) 160 b = some (b + 1) := by rw [zr_Sr, if_neg (by omega)]; exact e8_3
  have e10_4 : zk (zSr y8 166 b (some (b + 4))) (b + 2) = 24 := e8_4
  have e10_5 : zn (zSr y8 166 b (some (b + 4))) (b + 2) = 6 := e8_5
  have e10_6 : zr (zSr y8 166 b (some (b + 4))) 162 b = some (b + 2) := by rw [zr_Sr, if_neg (by omega)]; exact e8_6
  have e10_7 : zk (zSr y8 166 b (some (b + 4))) (b + 3) = 3 := e8_7
  have e10_8 : zr (zSr y8 166 b (some (b + 4))) 165 b = some (b + 3) := by rw [zr_Sr, if_neg (by omega)]; exact e8_8
  have e10_9 : zk (zSr y8 166 b (some (b + 4))) (b + 4) = 3 := e8_n0
  have e10_n0 : zr (zSr y8 166 b (some (b + 4))) 166 b = some (b + 4) := by rw [zr_Sr, if_pos ⟨rfl, rfl⟩]
  have x10 : zx (zSr y8 166 b (some (b + 4))) = b + 5 := x8
  have t10 : zt (zSr y8 166 b (some (b + 4))) = zt h + 18 := t8
  have F10 : FrC b h (zSr y8 166 b (some (b + 4))) := F8.sr (by omega) (by omega)
  generalize zSr y8 166 b (some (b + 4)) = y10 at x10 t10 F10 e10_0 e10_1 e10_2 e10_3 e10_4 e10_5 e10_6 e10_7 e10_8 e10_9 e10_n0 ⊢
  clear x8 t8 F8 e8_0 e8_1 e8_2 e8_3 e8_4 e8_5 e8_6 e8_7 e8_8 e8_n0
  refine g_aload_n 0 dX5_init_44 rfl rfl ?_
  refine g_new (x := b + 5) dX5_init_45 mk_X5_33 x10 ?_
  have e11_0 : zk (zNw y10 1 6) b = 5 := by rw [zk_Nw, if_neg (by omega)]; exact e10_0
  have e11_1 : zk (zNw y10 1 6) (b + 1) = 25 := by rw [zk_Nw, if_neg (by omega)]; exact e10_1
  have e11_2 : zn (zNw y10 1 6) (b + 1) = 6 := by rw [zn_Nw, if_neg (by omega)]; exact e10_2
  have e11_3 : zr (zNw y10 1 6) 160 b = some (b + 1) := by rw [zr_Nw, if_neg (by omega)]; exact e10_3
  have e11_4 : zk (zNw y10 1 6) (b + 2) = 24 := by rw [zk_Nw, if_neg (by omega)]; exact e10_4
  have e11_5 : zn (zNw y10 1 6) (b + 2) = 6 := by rw [zn_Nw, if_neg (by omega)]; exact e10_5
  have e11_6 : zr (zNw y10 1 6) 162 b = some (b + 2) := by rw [zr_Nw, if_neg (by omega)]; exact e10_6
  have e11_7 : zk (zNw y10 1 6) (b + 3) = 3 := by rw [zk_Nw, if_neg (by omega)]; exact e10_7
  have e11_8 : zr (zNw y10 1 6) 165 b = some (b + 3) := by rw [zr_Nw, if_neg (by omega)]; exact e10_8
  have e11_9 : zk (zNw y10 1 6) (b + 4) = 3 := by rw [zk_Nw, if_neg (by omega)]; exact e10_9
  have e11_10 : zr (zNw y10 1 6) 166 b = some (b + 4) := by rw [zr_Nw, if_neg (by omega)]; exact e10_n0
  have e11_n0 : zk (zNw y10 1 6) (b + 5) = 1 := by rw [zk_Nw, if_pos x10.symm]
  have x11 : zx (zNw y10 1 6) = b + 6 := by have q := zx_Nw y10 1 6; omega
  have t11 : zt (zNw y10 1 6) = zt h + 24 := by have q := zt_Nw y10 1 6; omega
  have F11 : FrC b h (zNw y10 1 6) := F10.nw
  generalize zNw y10 1 6 = y11 at x11 t11 F11 e11_0 e11_1 e11_2 e11_3 e11_4 e11_5 e11_6 e11_7 e11_8 e11_9 e11_10 e11_n0 ⊢
  clear x10 t10 F10 e10_0 e10_1 e10_2 e10_3 e10_4 e10_5 e10_6 e10_7 e10_8 e10_9 e10_n0
  refine g_dup dX5_init_48 rfl ?_
  refine g_invn (M' := mX1_init) (As := []) (rest := [.ref (b + 5), .ref b]) dX5_init_49 nl_X5_35 okX1_init imX1_init rfl rfl ⟨(Nat.le_of_ble_eq_true rfl), (Nat.le_of_ble_eq_true rfl)⟩ rfl rfl (Nat.le_of_ble_eq_true rfl) (c_evInit e11_n0 (by omega)) ?_
  rintro _ y12 ⟨rfl, x12, t12, G12, V12⟩
  show zG l w mX5_init 52 [(0, .ref b)] [.ref (b + 5), .ref b] y12 _
  have e12_0 : zk y12 b = 5 := (G12.2.1 _ (by omega)).1.1.trans e11_0
  have e12_1 : zk y12 (b + 1) = 25 := (G12.2.1 _ (by omega)).1.1.trans e11_1
  have e12_2 : zn y12 (b + 1) = 6 := (G12.2.1 _ (by omega)).1.2.trans e11_2
  have e12_3 : zr y12 160 b = some (b + 1) := ((G12.2.1 _ (by omega)).2.1 _).2.2 (Or.inl (by omega)) |>.trans e11_3
  have e12_4 : zk y12 (b + 2) = 24 := (G12.2.1 _ (by omega)).1.1.trans e11_4
  have e12_5 : zn y12 (b + 2) = 6 := (G12.2.1 _ (by omega)).1.2.trans e11_5
  have e12_6 : zr y12 162 b = some (b + 2) := ((G12.2.1 _ (by omega)).2.1 _).2.2 (Or.inl (by omega)) |>.trans e11_6
  have e12_7 : zk y12 (b + 3) = 3 := (G12.2.1 _ (by omega)).1.1.trans e11_7
  have e12_8 : zr y12 165 b = some (b + 3) := ((G12.2.1 _ (by omega)).2.1 _).2.2 (Or.inl (by omega)) |>.trans e11_8
  have e12_9 : zk y12 (b + 4) = 3 := (G12.2.1 _ (by omega)).1.1.trans e11_9
  have e12_10 : zr y12 166 b = some (b + 4) := ((G12.2.1 _ (by omega)).2.1 _).2.2 (Or.inl (by omega)) |>.trans e11_10
  have e12_11 : zk y12 (b + 5) = 1 := (G12.2.1 _ (by omega)).1.1.trans e11_n0
  have e12_n0 : ∀ j, j < 4 → zr y12 (32 + j) (b + 5) = some (b + 6 + j) := fun j hj => (V12 j hj).1
  have e12_n1 : ∀ j, j < 4 → zk y12 (b + 6 + j) = 21 := fun j hj => (V12 j hj).2.1
  have e12_n2 : ∀ j, j < 4 → zn y12 (b + 6 + j) = 24 := fun j hj => (V12 j hj).2.2
  have X12 : zx y12 = b + 10 := by omega
  have T12 : zt y12 = zt h + 120 := by omega
  have F12 : FrC b h y12 := F11.tr G12 (by omega)
  clear x11 t11 F11 e11_0 e11_1 e11_2 e11_3 e11_4 e11_5 e11_6 e11_7 e11_8 e11_9 e11_10 e11_n0 x12 t12
  refine g_putr (f := 168) dX5_init_52 fl_X5_36 (Or.inr ⟨rfl, fun _ _ _ q => by cases q; rfl⟩) e12_0 rfl ?_
  have e13_0 : zk (zSr y12 168 b (some (b + 5))) b = 5 := e12_0
  have e13_1 : zk (zSr y12 168 b (some (b + 5))) (b + 1) = 25 := e12_1
  have e13_2 : zn (zSr y12 168 b (some (b + 5))) (b + 1) = 6 := e12_2
  have e13_3 : zr (zSr y12 168 b (some (b + 5))) 160 b = some (b + 1) := by rw [zr_Sr, if_neg (by omega)]; exact e12_3
  have e13_4 : zk (zSr y12 168 b (some (b + 5))) (b + 2) = 24 := e12_4
  have e13_5 : zn (zSr y12 168 b (some (b + 5))) (b + 2) = 6 := e12_5
  have e13_6 : zr (zSr y12 168 b (some (b + 5))) 162 b = some (b + 2) := by rw [zr_Sr, if_neg (by omega)]; exact e12_6
  have e13_7 : zk (zSr y12 168 b (some (b + 5))) (b + 3) = 3 := e12_7
  have e13_8 : zr (zSr y12 168 b (some (b + 5))) 165 b = some (b + 3) := by rw [zr_Sr, if_neg (by omega)]; exact e12_8
  have e13_9 : zk (zSr y12 168 b (some (b + 5))) (b + 4) = 3 := e12_9
  have e13_10 : zr (zSr y12 168 b (some (b + 5))) 166 b = some (b + 4) := by rw [zr_Sr, if_neg (by omega)]; exact e12_10
  have e13_11 : zk (zSr y12 168 b (some (b + 5))) (b + 5) = 1 := e12_11
  have e13_12 : ∀ j, j < 4 → zr (zSr y12 168 b (some (b + 5))) (32 + j) (b + 5) = some (b + 6 + j) := fun j hj => (by rw [zr_Sr, if_neg (by omega)]; exact (e12_n0 j hj))
  have e13_13 : ∀ j, j < 4 → zk (zSr y12 168 b (some (b + 5))) (b + 6 + j) = 21 := fun j hj => ((e12_n1 j hj))
  have e13_14 : ∀ j, j < 4 → zn (zSr y12 168 b (some (b + 5))) (b + 6 + j) = 24 := fun j hj => ((e12_n2 j hj))
  have e13_n0 : zr (zSr y12 168 b (some (b + 5))) 168 b = some (b + 5) := by rw [zr_Sr, if_pos ⟨rfl, rfl⟩]
  have x13 : zx (zSr y12 168 b (some (b + 5))) = b + 10 := X12
  have t13 : zt (zSr y12 168 b (some (b + 5))) = zt h + 120 := T12
  have F13 : FrC b h (zSr y12 168 b (some (b + 5))) := F12.sr (by omega) (by omega)
  generalize zSr y12 168 b (some (b + 5)) = y13 at x13 t13 F13 e13_0 e13_1 e13_2 e13_3 e13_4 e13_5 e13_6 e13_7 e13_8 e13_9 e13_10 e13_11 e13_12 e13_13 e13_14 e13_n0 ⊢
  clear X12 T12 F12 e12_0 e12_1 e12_2 e12_3 e12_4 e12_5 e12_6 e12_7 e12_8 e12_9 e12_10 e12_11 e12_n0 e12_n1 e12_n2 G12
  refine g_aload_n 0 dX5_init_55 rfl rfl ?_
  refine g_bipush (v := nI 120) dX5_init_56 (by decide) ?_
  refine g_newa (t := 1) (x := b + 10) (N := 120) (ty := .int) dX5_init_58 rfl ac_1 rfl (by decide) (fun _ => rfl) (nI_pos (by omega)) (nI_clamp (by omega)) (by decide) x13 ?_
  have e14_0 : zk (zNw y13 21 120) b = 5 := by rw [zk_Nw, if_neg (by omega)]; exact e13_0
  have e14_1 : zk (zNw y13 21 120) (b + 1) = 25 := by rw [zk_Nw, if_neg (by omega)]; exact e13_1
  have e14_2 : zn (zNw y13 21 120) (b + 1) = 6 := by rw [zn_Nw, if_neg (by omega)]; exact e13_2
  have e14_3 : zr (zNw y13 21 120) 160 b = some (b + 1) := by rw [zr_Nw, if_neg (by omega)]; exact e13_3
  have e14_4 : zk (zNw y13 21 120) (b + 2) = 24 := by rw [zk_Nw, if_neg (by omega)]; exact e13_4
  have e14_5 : zn (zNw y13 21 120) (b + 2) = 6 := by rw [zn_Nw, if_neg (by omega)]; exact e13_5
  have e14_6 : zr (zNw y13 21 120) 162 b = some (b + 2) := by rw [zr_Nw, if_neg (by omega)]; exact e13_6
  have e14_7 : zk (zNw y13 21 120) (b + 3) = 3 := by rw [zk_Nw, if_neg (by omega)]; exact e13_7
  have e14_8 : zr (zNw y13 21 120) 165 b = some (b + 3) := by rw [zr_Nw, if_neg (by omega)]; exact e13_8
  have e14_9 : zk (zNw y13 21 120) (b + 4) = 3 := by rw [zk_Nw, if_neg (by omega)]; exact e13_9
  have e14_10 : zr (zNw y13 21 120) 166 b = some (b + 4) := by rw [zr_Nw, if_neg (by omega)]; exact e13_10
  have e14_11 : zk (zNw y13 21 120) (b + 5) = 1 := by rw [zk_Nw, if_neg (by omega)]; exact e13_11
  have e14_12 : ∀ j, j < 4 → zr (zNw y13 21 120) (32 + j) (b + 5) = some (b + 6 + j) := fun j hj => (by rw [zr_Nw, if_neg (by omega)]; exact (e13_12 j hj))
  have e14_13 : ∀ j, j < 4 → zk (zNw y13 21 120) (b + 6 + j) = 21 := fun j hj => (by rw [zk_Nw, if_neg (by omega)]; exact (e13_13 j hj))
  have e14_14 : ∀ j, j < 4 → zn (zNw y13 21 120) (b + 6 + j) = 24 := fun j hj => (by rw [zn_Nw, if_neg (by omega)]; exact (e13_14 j hj))
  have e14_15 : zr (zNw y13 21 120) 168 b = some (b + 5) := by rw [zr_Nw, if_neg (by omega)]; exact e13_n0
  have e14_n0 : zk (zNw y13 21 120) (b + 10) = 21 := by rw [zk_Nw, if_pos x13.symm]
  have e14_n1 : zn (zNw y13 21 120) (b + 10) = 120 := by rw [zn_Nw, if_pos x13.symm]
  have x14 : zx (zNw y13 21 120) = b + 11 := by have q := zx_Nw y13 21 120; omega
  have t14 : zt (zNw y13 21 120) = zt h + 240 := by have q := zt_Nw y13 21 120; omega
  have F14 : FrC b h (zNw y13 21 120) := F13.nw
  generalize zNw y13 21 120 = y14 at x14 t14 F14 e14_0 e14_1 e14_2 e14_3 e14_4 e14_5 e14_6 e14_7 e14_8 e14_9 e14_10 e14_11 e14_12 e14_13 e14_14 e14_15 e14_n0 e14_n1 ⊢
  clear x13 t13 F13 e13_0 e13_1 e13_2 e13_3 e13_4 e13_5 e13_6 e13_7 e13_8 e13_9 e13_10 e13_11 e13_12 e13_13 e13_14 e13_n0
  refine g_putr (f := 169) dX5_init_60 fl_X5_40 (Or.inr ⟨rfl, fun _ _ _ q => by cases q; rfl⟩) e14_0 rfl ?_
  have e15_0 : zk (zSr y14 169 b (some (b + 10))) b = 5 := e14_0
  have e15_1 : zk (zSr y14 169 b (some (b + 10))) (b + 1) = 25 := e14_1
  have e15_2 : zn (zSr y14 169 b (some (b + 10))) (b + 1) = 6 := e14_2
  have e15_3 : zr (zSr y14 169 b (some (b + 10))) 160 b = some (b + 1) := by rw [zr_Sr, if_neg (by omega)]; exact e14_3
  have e15_4 : zk (zSr y14 169 b (some (b + 10))) (b + 2) = 24 := e14_4
  have e15_5 : zn (zSr y14 169 b (some (b + 10))) (b + 2) = 6 := e14_5
  have e15_6 : zr (zSr y14 169 b (some (b + 10))) 162 b = some (b + 2) := by rw [zr_Sr, if_neg (by omega)]; exact e14_6
  have e15_7 : zk (zSr y14 169 b (some (b + 10))) (b + 3) = 3 := e14_7
  have e15_8 : zr (zSr y14 169 b (some (b + 10))) 165 b = some (b + 3) := by rw [zr_Sr, if_neg (by omega)]; exact e14_8
  have e15_9 : zk (zSr y14 169 b (some (b + 10))) (b + 4) = 3 := e14_9
  have e15_10 : zr (zSr y14 169 b (some (b + 10))) 166 b = some (b + 4) := by rw [zr_Sr, if_neg (by omega)]; exact e14_10
  have e15_11 : zk (zSr y14 169 b (some (b + 10))) (b + 5) = 1 := e14_11
  have e15_12 : ∀ j, j < 4 → zr (zSr y14 169 b (some (b + 10))) (32 + j) (b + 5) = some (b + 6 + j) := fun j hj => (by rw [zr_Sr, if_neg (by omega)]; exact (e14_12 j hj))
  have e15_13 : ∀ j, j < 4 → zk (zSr y14 169 b (some (b + 10))) (b + 6 + j) = 21 := fun j hj => ((e14_13 j hj))
  have e15_14 : ∀ j, j < 4 → zn (zSr y14 169 b (some (b + 10))) (b + 6 + j) = 24 := fun j hj => ((e14_14 j hj))
  have e15_15 : zr (zSr y14 169 b (some (b + 10))) 168 b = some (b + 5) := by rw [zr_Sr, if_neg (by omega)]; exact e14_15
  have e15_16 : zk (zSr y14 169 b (some (b + 10))) (b + 10) = 21 := e14_n0
  have e15_17 : zn (zSr y14 169 b (some (b + 10))) (b + 10) = 120 := e14_n1
  have e15_n0 : zr (zSr y14 169 b (some (b + 10))) 169 b = some (b + 10) := by rw [zr_Sr, if_pos ⟨rfl, rfl⟩]
  have x15 : zx (zSr y14 169 b (some (b + 10))) = b + 11 := x14
  have t15 : zt (zSr y14 169 b (some (b + 10))) = zt h + 240 := t14
  have F15 : FrC b h (zSr y14 169 b (some (b + 10))) := F14.sr (by omega) (by omega)
  generalize zSr y14 169 b (some (b + 10)) = y15 at x15 t15 F15 e15_0 e15_1 e15_2 e15_3 e15_4 e15_5 e15_6 e15_7 e15_8 e15_9 e15_10 e15_11 e15_12 e15_13 e15_14 e15_15 e15_16 e15_17 e15_n0 ⊢
  clear x14 t14 F14 e14_0 e14_1 e14_2 e14_3 e14_4 e14_5 e14_6 e14_7 e14_8 e14_9 e14_10 e14_11 e14_12 e14_13 e14_14 e14_15 e14_n0 e14_n1
  refine g_iconst (v := nI 0) dX5_init_63 (by decide) ?_
  refine g_istore_n (lv2 := [(1, .int (nI 0)), (0, .ref b)]) dX5_init_64 rfl (by decide) rfl ?_
  exact zG.sub [0, 1] rfl (n_lk hx 6 0 _ rfl (by omega) (by omega) F15 ⟨e15_0, e15_1, e15_2, e15_3, e15_4, e15_5, e15_6, e15_7, e15_8, e15_9, e15_10, e15_11, e15_12, e15_13, e15_14, e15_15, e15_16, e15_17, e15_n0⟩ (fun j hj => absurd hj (by omega)))
end CTN
