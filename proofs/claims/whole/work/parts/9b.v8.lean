section CP9
variable {l : Launch} {w : zW} {h y z : zH} {b b0 k K L : Nat} {ls lt lt2 : Nat → List Nat} {D D' : Nat → Prop} {N : nT} {π : Nat → Nat} {t : Nat} {S T : Nat → Prop} {lo hi lo' hi' : Nat}
/-- numbers of the cells lo to hi as they were, but for two fields -/
def SaE (lo hi : Nat) (y z : zH) : Prop := ∀ c, lo ≤ c → c ≤ hi → (∀ f, f ≠ 98 → f ≠ 167 → zi z f c = zi y f c) ∧ (∀ f, zl z f c = zl y f c) ∧ ∀ i, zI z c i = zI y c i
theorem SaE.mono (e : SaE lo hi y z) (h1 : lo ≤ lo') (h2 : hi' ≤ hi) : SaE lo' hi' y z := fun c q r => e c (by omega) (by omega)
theorem FrK.sa (f : FrK b S y z) (hx : b + 65 ≤ zx y) : SaE b (b + 64) y z := fun c h1 h2 => ⟨fun g n m => (f.2.2.2 c h1 (by omega) (by omega) g).1 n m, fun g => (f.2.2.2 c h1 (by omega) (by omega) g).2.1, fun i => ((f.2.1 c (by omega)).2.2 i).1⟩
theorem FrA.sa (f : FrA S y z) (n : ∀ c, lo ≤ c → c ≤ hi → ¬ S c) : SaE lo hi y z := fun c h1 h2 => ⟨fun g _ _ => ((f.2.2.2.2 c (n c h1 h2)).1 g).1, fun g => ((f.2.2.2.2 c (n c h1 h2)).1 g).2, fun i => ((f.2.2.2.2 c (n c h1 h2)).2 i).1⟩
theorem FrO.sa (f : FrO S y z) (n : ∀ c, lo ≤ c → c ≤ hi → ¬ S c) (hx : hi < zx y) : SaE lo hi y z := fun c h1 h2 => ⟨fun g _ _ => ((f.2.2 c (by omega) (n c h1 h2)).1 g).1, fun g => ((f.2.2 c (by omega) (n c h1 h2)).1 g).2.1, fun i => ((f.2.2 c (by omega) (n c h1 h2)).2 i).1⟩
theorem SaE.si {f p : Nat} {v : Int32} (n : p < lo ∨ hi < p) : SaE lo hi y (zSi y f p v) := fun c h1 h2 => ⟨fun g _ _ => by rw [zi_Si, if_neg (by omega)], fun _ => rfl, fun _ => rfl⟩
theorem SaE.sF {p : Nat} {v : Nat → Int32} (n : p < lo ∨ hi < p) : SaE lo hi y (zSF y p v) := fun c h1 h2 => ⟨fun _ _ _ => rfl, fun _ => rfl, fun i => by rw [zI_SF, if_neg (by omega)]⟩
theorem LkA.cg {a : Nat} (q : LkA y b N a) (e : SaE (b + 11 + 7 * a) (b + 11 + 7 * a + 6) y z) : LkA z b N a := by
  obtain ⟨q1, q2, q3, q4⟩ := q
  refine ⟨fun j hj => ?_, ?_, fun j h1 h2 => ?_, fun f hf => ?_⟩
  · have n : lkF j ≠ 98 ∧ lkF j ≠ 167 := by
      unfold lkF
      unfold lkJ at hj
      split <;> omega
    rw [(e _ (Nat.le_refl _) (by omega)).1 _ n.1 n.2]
    exact q1 j hj
  · rw [(e _ (Nat.le_refl _) (by omega)).2.1]
    exact q2
  · rw [(e (b + 11 + 7 * a + 6) (by omega) (by omega)).2.1]
    exact q3 j h1 h2
  · rw [(e (b + 11 + 7 * a + 3) (by omega) (by omega)).2.2, (e (b + 11 + 7 * a + 4) (by omega) (by omega)).2.2, (e (b + 11 + 7 * a + 5) (by omega) (by omega)).2.2]
    exact q4 f hf
theorem FlA.cg {f : Nat} (q : FlA y b N f) (e : SaE (b + 53 + 2 * f) (b + 53 + 2 * f + 1) y z) : FlA z b N f := by
  obtain ⟨q1, q2, q3, q4⟩ := q
  refine ⟨fun j h1 h2 => ?_, ?_, q3, fun i hi => ?_⟩
  · rw [(e _ (Nat.le_refl _) (by omega)).1 _ (by omega) (by omega)]
    exact q1 j h1 h2
  · rw [(e _ (Nat.le_refl _) (by omega)).1 _ (by omega) (by omega)]
    exact q2
  · rw [(e (b + 53 + 2 * f + 1) (by omega) (by omega)).2.2]
    exact q4 i hi
theorem EvC.cg {E : List (Int × Int × Int × Int)} (q : EvC y b E) (e : SaE (b + 5) (b + 9) y z) : EvC z b E := by
  obtain ⟨s, s1, s2, s3, s4⟩ := q
  refine ⟨s, s1, ?_, ?_, fun i v hv => ?_⟩
  · rw [(e _ (Nat.le_refl _) (by omega)).1 _ (by omega) (by omega)]; exact s2
  · rw [(e _ (Nat.le_refl _) (by omega)).1 _ (by omega) (by omega)]; exact s3
  · rw [(e (b + 6) (by omega) (by omega)).2.2, (e (b + 7) (by omega) (by omega)).2.2, (e (b + 8) (by omega) (by omega)).2.2, (e (b + 9) (by omega) (by omega)).2.2]
    exact s4 i v hv
theorem PaC.cg {P : List (Nat → Int)} {n : Int} (q : PaC y b P n t) (e : SaE (b + 10) (b + 10) y z) : PaC z b P n t := ⟨q.1, fun i v hv f hf => by rw [(e _ (Nat.le_refl _) (Nat.le_refl _)).2.2]; exact q.2 i v hv f hf⟩
theorem FlA.cp {f : Nat} (q : FlA y b0 N f) (r1 : ∀ j, j < 11 → zi z (65 + j) (b + 53 + 2 * f) = zi y (65 + j) (b0 + 53 + 2 * f)) (r2 : ∀ i, i < 4 → zI z (b + 53 + 2 * f + 1) i = zI y (b0 + 53 + 2 * f + 1) i) : FlA z b N f := by
  obtain ⟨q1, q2, q3, q4⟩ := q
  exact ⟨fun j h1 h2 => (r1 j h1).trans (q1 j h1 h2), (r1 4 (by omega)).trans q2, q3, fun i hi => ⟨(r2 i (by omega)).trans (q4 i hi).1, (q4 i hi).2⟩⟩
theorem LkA.cp {a : Nat} (q : LkA y b0 N a) (r1 : zi z 128 (b + 11 + 7 * a) = zi y 128 (b0 + 11 + 7 * a) ∧ zi z 129 (b + 11 + 7 * a) = zi y 129 (b0 + 11 + 7 * a) ∧ zi z 130 (b + 11 + 7 * a) = zi y 130 (b0 + 11 + 7 * a) ∧ zi z 131 (b + 11 + 7 * a) = zi y 131 (b0 + 11 + 7 * a) ∧ zi z 134 (b + 11 + 7 * a) = zi y 134 (b0 + 11 + 7 * a) ∧ zi z 135 (b + 11 + 7 * a) = zi y 135 (b0 + 11 + 7 * a) ∧ zi z 141 (b + 11 + 7 * a) = zi y 141 (b0 + 11 + 7 * a) ∧ zi z 142 (b + 11 + 7 * a) = zi y 142 (b0 + 11 + 7 * a) ∧ zi z 143 (b + 11 + 7 * a) = zi y 143 (b0 + 11 + 7 * a) ∧ zi z 144 (b + 11 + 7 * a) = zi y 144 (b0 + 11 + 7 * a))
    (r2 : zl z 136 (b + 11 + 7 * a) = zl y 136 (b0 + 11 + 7 * a)) (r3 : ∀ f, 224 ≤ f → f < 230 → zl z f (b + 11 + 7 * a + 6) = zl y f (b0 + 11 + 7 * a + 6)) (r4 : (∀ i, i < 6 → zI z (b + 11 + 7 * a + 3) i = zI y (b0 + 11 + 7 * a + 3) i) ∧ (∀ i, i < 6 → zI z (b + 11 + 7 * a + 4) i = zI y (b0 + 11 + 7 * a + 4) i) ∧ (∀ i, i < 6 → zI z (b + 11 + 7 * a + 5) i = zI y (b0 + 11 + 7 * a + 5) i)) : LkA z b N a := by
  obtain ⟨q1, q2, q3, q4⟩ := q
  obtain ⟨c0, c1, c2, c3, c4, c5, c6, c7, c8, c9⟩ := r1
  refine ⟨fun j hj => ?_, r2.trans q2, fun j h1 h2 => (r3 _ (by omega) (by omega)).trans (q3 j h1 h2), fun f hf => ?_⟩
  · have qj := q1 j hj
    have e : j = 0 ∨ j = 1 ∨ j = 2 ∨ j = 3 ∨ j = 6 ∨ j = 7 ∨ j = 14 ∨ j = 15 ∨ j = 16 ∨ j = 17 := by unfold lkJ at hj; omega
    rcases e with rfl | rfl | rfl | rfl | rfl | rfl | rfl | rfl | rfl | rfl
    · exact c0.trans qj
    · exact c1.trans qj
    · exact c2.trans qj
    · exact c3.trans qj
    · exact c4.trans qj
    · exact c5.trans qj
    · exact c6.trans qj
    · exact c7.trans qj
    · exact c8.trans qj
    · exact c9.trans qj
  · rw [r4.1 f hf, r4.2.1 f hf, r4.2.2 f hf]
    exact q4 f hf
theorem EvC.cp {E : List (Int × Int × Int × Int)} (q : EvC y b0 E) (r1 : zi z 36 (b + 5) = zi y 36 (b0 + 5) ∧ zi z 37 (b + 5) = zi y 37 (b0 + 5)) (r2 : (∀ i, i < 24 → zI z (b + 5 + 1) i = zI y (b0 + 5 + 1) i) ∧ (∀ i, i < 24 → zI z (b + 5 + 2) i = zI y (b0 + 5 + 2) i) ∧ (∀ i, i < 24 → zI z (b + 5 + 3) i = zI y (b0 + 5 + 3) i) ∧ (∀ i, i < 24 → zI z (b + 5 + 4) i = zI y (b0 + 5 + 4) i)) : EvC z b E := by
  obtain ⟨s, s1, s2, s3, s4⟩ := q
  refine ⟨s, s1, r1.1.trans s2, r1.2.trans s3, fun i v hv => ?_⟩
  have q := s4 i v hv
  have hi : (s + 23 - i) % 24 < 24 := Nat.mod_lt _ (by omega)
  exact ⟨(r2.1 _ hi).trans q.1, (r2.2.1 _ hi).trans q.2.1, (r2.2.2.1 _ hi).trans q.2.2.1, (r2.2.2.2 _ hi).trans q.2.2.2⟩
theorem PaC.cp {P : List (Nat → Int)} {n : Int} (q : PaC y b0 P n t) (hn : n ≤ 6) (r : ∀ i, i < 120 → zI z (b + 10) i = zI y (b0 + 10) i) : PaC z b P n t := ⟨q.1, fun i v hv f hf => (r _ (by have := Nat.mod_lt (t - i) (show 20 > 0 by omega); omega)).trans (q.2 i v hv f hf)⟩
theorem LkO.n3 {P a : Nat} (s : LkO h P) (q : a = P ∨ P + 3 ≤ a ∧ a ≤ P + 6) : zk h a ≠ 3 := by
  obtain ⟨s1, s2, s3, s4, s5⟩ := s
  have e : a = P ∨ a = P + 3 ∨ a = P + 4 ∨ a = P + 5 ∨ a = P + 6 := by omega
  rcases e with rfl | rfl | rfl | rfl | rfl
  · rw [s1]; omega
  · rw [s2.2.1]; omega
  · rw [s3.2.1]; omega
  · rw [s4.2.1]; omega
  · rw [s5.2]; omega
theorem FlO.n3 {P a : Nat} (s : FlO h P) (q : a = P ∨ a = P + 1) : zk h a ≠ 3 := by
  rcases q with rfl | rfl
  · rw [s.1]; omega
  · rw [s.2.2.1]; omega
theorem EvO.n3 {P a : Nat} (s : EvO h P) (q : P ≤ a ∧ a ≤ P + 4) : zk h a ≠ 3 := by
  obtain ⟨s1, s2, s3, s4, s5⟩ := s
  have e : a = P ∨ a = P + 1 ∨ a = P + 2 ∨ a = P + 3 ∨ a = P + 4 := by omega
  rcases e with rfl | rfl | rfl | rfl | rfl
  · rw [s1]; omega
  · rw [s2.2.1]; omega
  · rw [s3.2.1]; omega
  · rw [s4.2.1]; omega
  · rw [s5.2.1]; omega
theorem own_no (c0 : ClS h b0) (c : ClS h b) (s : lnS h ls) (dj : b0 + 65 ≤ b ∨ b + 65 ≤ b0) {a : Nat} (h1 : b0 ≤ a) (h2 : a < b0 + 65) : ¬ ownS b ls a := by
  rintro (q | ⟨k, hk, q⟩)
  · omega
  · obtain ⟨i, hi⟩ := List.getElem?_of_mem q
    exact c0.k6 h1 h2 ((s.1 _ (lin_isL c hk)).2.2.2 i a hi).1.2
theorem ClS.fo (c0 : ClS h b0) (f : FrO S h y) (n : ∀ a, b0 ≤ a → a < b0 + 65 → ¬ S a) : ClS y b0 := by
  have := c0.1.1
  exact c0.fr f.1.1 (fun a h1 h2 => ⟨(f.2.1 a (by omega)).1, (f.2.1 a (by omega)).2, fun g _ _ _ => ((f.2.2 a (by omega) (n a h1 h2)).1 g).2.2, fun i => ((f.2.2 a (by omega) (n a h1 h2)).2 i).2.2⟩)
theorem Cq.cg (C : Cq h ls b0 b D y lt) (e : ∀ k, k < 13 → (D' k ↔ D k)) : Cq h ls b0 b D' y lt := ⟨C.1, C.2.1, C.2.2.1, C.2.2.2.1, C.2.2.2.2.1, C.2.2.2.2.2.1, fun k hk => ⟨fun d => (C.2.2.2.2.2.2 k hk).1 ((e k hk).mp d), fun d => (C.2.2.2.2.2.2 k hk).2 (fun q => d ((e k hk).mpr q))⟩⟩
/-- the packets that are copied -/
theorem CX.src (c : CX h b0 π ls N [] t) (hI : iN [] N) (cb : ClS h b) (dj : b0 + 65 ≤ b ∨ b + 65 ≤ b0) (hk : k < 13) {q : Nat} (hq : q ∈ ls (lin b0 k)) : (q < zx h ∧ ¬ ownS b ls q) ∧ (zi h 200 q = 0 ∨ zi h 200 q = 1) := by
  obtain ⟨i, hi⟩ := List.getElem?_of_mem hq
  have g := ((c.2.1.1 _ (lin_isL c.1 (by omega))).2.2.2 i q hi).1
  refine ⟨⟨g.1, ?_⟩, ?_⟩
  · rintro (e | ⟨j, hj, e⟩)
    · exact cb.k6 e.1 e.2 g.2
    · obtain ⟨i', hi'⟩ := List.getElem?_of_mem e
      have u := (c.2.1.2 _ _ i i' q (lin_isL c.1 (by omega)) (lin_isL cb hj) hi hi').1
      have := lin_in (b := b0) (i := k) (by omega)
      have := lin_in (b := b) hj
      omega
  · rw [c.lnk hk] at hq
    obtain ⟨x, hx, e⟩ := List.mem_map.mp hq
    have lv : liv N x := by
      refine hI.2.2.1.of ?_
      have := count_pos hx
      by_cases c1 : k < 6
      · rw [plN_row c1] at this; have := @nC_R [] N x k c1; omega
      · by_cases c2 : k < 12
        · have q : plN N k = nW N (k - 6) := by unfold plN; rw [if_neg c1, if_pos c2]
          rw [q] at this; have := @nC_W [] N x (k - 6) (by omega); omega
        · have q : plN N k = nK N := by unfold plN; rw [if_neg c1, if_neg c2]
          rw [q] at this; have := @nC_K [] N x; omega
    have p := (c.2.2.2.2.2.1.1 x lv).1.2.2.2.2.2.2
    rw [e] at p
    rcases (hI.2.2.2.2.2.2.1 x lv.1 lv.2).2.2.2.2.2.2 with v | v
    · exact Or.inl (by rw [p, v]; rfl)
    · exact Or.inr (by rw [p, v]; rfl)
theorem c_copyLn (C : Cq h ls b0 b D y lt) (c : CX h b0 π ls N [] t) (hI : iN [] N) (cb : ClS h b) (dj : b0 + 65 ≤ b ∨ b + 65 ≤ b0) (hk : k < 13) (nd : ¬ D k) (hK : K = lin b0 k) (hL : L = lin b k) : zM l w mX5_copyLine [.ref b, .ref K, .ref L] y (fun u z => u = none ∧ ∃ lt2, Cq h ls b0 b (fun j => D j ∨ j = k) z lt2 ∧ SaE b (b + 64) y z) := by
  subst hK
  subst hL
  have cq : ClS y b0 := c.1.fo C.2.2.2.2.1 (fun a h1 h2 => own_no c.1 cb c.2.1 dj h1 h2)
  have ik := lin_in (b := b0) (i := k) (by omega)
  have el : lt (lin b0 k) = ls (lin b0 k) := C.2.2.2.1 _ (by omega)
  have t0 : totL ls b0 ≤ 480 := (c.cw hI).2.2.2
  refine zM.mono (c_copyLine C.1 C.2.1 C.2.2.1.1 C.2.2.1.2.1 hk (lin_isL cq (by omega)) (by omega) (by rw [el]; exact C.room hk nd t0) (fun q hq e => ?_) (fun q hq => ?_)) ?_
  · rw [el] at hq
    have s := (c.src hI cb dj hk hq).1
    rcases C.2.2.2.2.2.1 q e with e | e
    · exact s.2 e
    · omega
  · rw [el] at hq
    have s := c.src hI cb dj hk hq
    rw [((C.2.2.2.2.1.2.2 q s.1.1 s.1.2).1 200).1]
    exact s.2
  · rintro u z ⟨e, lt2, K⟩
    rw [el] at K
    exact ⟨e, lt2, C.copy hk nd (fun q hq => (c.src hI cb dj hk hq).1) K, K.2.2.2.2.2.1.sa C.2.1.1.1⟩
def dLn (i : Nat) : Nat → Prop := fun k => k < i ∨ 6 ≤ k ∧ k < 6 + i
theorem c_netCopy (c : CX h b0 π ls N [] t) (hI : iN [] N) (cw : CW h b ls) (dj : b0 + 65 ≤ b ∨ b + 65 ≤ b0) : zM l w mX5_copyFrom [.ref b, .ref b0] h (fun u h1 => u = none ∧ ∃ π' lt, CX h1 b π' lt N [] t ∧ CSt b ls h lt h1) := by
  refine zM.of (by decide) (Nat.le_of_ble_eq_true rfl) ?_
  have NO : ∀ a, b0 ≤ a → a < b0 + 65 → ¬ ownS b ls a := fun a h1 h2 => own_no c.1 cw.1 c.2.1 dj h1 h2
  have cb := cw.1
  have b065 := c.1.1.1
  obtain ⟨H0, H1, H2, H7⟩ := hI.1
  obtain ⟨n, en⟩ : ∃ n : Nat, nA N 0 = (n : Int) := ⟨_, (Int.toNat_of_nonneg H0.1).symm⟩
  obtain ⟨m, em0⟩ : ∃ m : Nat, nA N 1 = (m : Int) := ⟨_, (Int.toNat_of_nonneg H1.1).symm⟩
  have loop2 : ∀ k i : Nat, i + k = m → ∀ (y5 : zH) (lt5 : Nat → List Nat), Cq h ls b0 b (dLn n) y5 lt5 → (zi y5 161 b = jI (nA N 0) ∧ zi y5 163 b = jI (nA N 1) ∧ zi y5 164 b = jI (nA N 2)) → LkC y5 b N → (∀ a, a < i → FlA y5 b N a) → zG l w mX5_copyFrom 105 [(2, .int (nI i)), (0, .ref b), (1, .ref b0)] [] y5 (fun u h1 => u = none ∧ ∃ π' lt, CX h1 b π' lt N [] t ∧ CSt b ls h lt h1) := by
    intro k
    induction k with
    | zero =>
      intro i hi y5 lt5 C5 hN hL hA
      have cq5 : ClS y5 b0 := c.1.fo C5.2.2.2.2.1 NO
      have sv5 : SaE b0 (b0 + 64) h y5 := FrO.sa C5.2.2.2.2.1 (fun a h1 h2 => NO a h1 (by omega)) (by omega)
      refine g_iload_n 0 dX5_copyFrom_105 rfl rfl ?_
      refine g_aload_n 1 dX5_copyFrom_106 rfl rfl ?_
      refine g_geti (f := 163) dX5_copyFrom_107 fl_X5_53 C5.2.1.1.2 (by decide) rfl ?_
      rw [show zi y5 163 b = nI m from (hN.2.1).trans (by rw [em0, jI_nat])]
      refine g_ncmp_ge (tgt := 134) dX5_copyFrom_110 (by decide) (by omega) (by omega) (fun k0 => ?_) (fun k0 => ?_)
      · have hF : FlC y5 b N := fun f h1 h2 => hA f (by omega)
        refine g_aload_n 1 dX5_copyFrom_134 rfl rfl ?_
        refine g_aload_n 2 dX5_copyFrom_135 rfl rfl ?_
        refine g_getr (f := 165) (b := b0 + 3) dX5_copyFrom_136 fl_X5_26 cq5.1.2 rfl cq5.2.2.2.1.1 ?_
        refine g_aload_n 1 dX5_copyFrom_139 rfl rfl ?_
        refine g_getr (f := 165) (b := b + 3) dX5_copyFrom_140 fl_X5_26 C5.2.1.1.2 rfl C5.2.1.2.2.2.1.1 ?_
        refine g_invv (M' := mX5_copyLine) (As := [.ref (b0 + 3), .ref (b + 3)]) (rest := []) dX5_copyFrom_143 ml_X5_76 okX5_copyLine imX5_copyLine seX5_copyLine ⟨(Nat.le_of_ble_eq_true rfl), (Nat.le_of_ble_eq_true rfl)⟩ (ci := 5) rfl rfl C5.2.1.1.2 rfl rfl (Nat.le_of_ble_eq_true rfl) (c_copyLn C5 c hI cb dj (k := 12) (by omega) (by unfold dLn; omega) rfl rfl) ?_
        rintro _ y6 ⟨rfl, lt6, C6, e6⟩
        show zG l w mX5_copyFrom 146 [(2, .int (nI i)), (0, .ref b), (1, .ref b0)] [] y6 _
        have cq6 : ClS y6 b0 := c.1.fo C6.2.2.2.2.1 NO
        have sv6 : SaE b0 (b0 + 64) h y6 := FrO.sa C6.2.2.2.2.1 (fun a h1 h2 => NO a h1 (by omega)) (by omega)
        refine g_aload_n 1 dX5_copyFrom_146 rfl rfl ?_
        refine g_getr (f := 168) (b := b + 5) dX5_copyFrom_147 fl_X5_36 C6.2.1.1.2 rfl C6.2.1.2.2.2.2.2.1.1 ?_
        refine g_aload_n 2 dX5_copyFrom_150 rfl rfl ?_
        refine g_getr (f := 168) (b := b0 + 5) dX5_copyFrom_151 fl_X5_36 cq6.1.2 rfl cq6.2.2.2.2.2.1.1 ?_
        refine g_invv (M' := mX1_copyFrom) (As := [.ref (b0 + 5)]) (rest := []) dX5_copyFrom_154 ml_X5_86 okX1_copyFrom imX1_copyFrom seX1_copyFrom ⟨(Nat.le_of_ble_eq_true rfl), (Nat.le_of_ble_eq_true rfl)⟩ (ci := 1) rfl rfl C6.2.1.2.2.2.2.2.1.2 rfl rfl (Nat.le_of_ble_eq_true rfl) (c_evCopy C6.2.1.evO cq6.evO (by omega)) ?_
        rintro _ y7 ⟨rfl, v1, v2, F7⟩
        show zG l w mX5_copyFrom 157 [(2, .int (nI i)), (0, .ref b), (1, .ref b0)] [] y7 _
        have C7 := C6.fra F7 (fun a q => ⟨by omega, by omega, C6.2.1.evO.n3 q⟩)
        have cq7 : ClS y7 b0 := c.1.fo C7.2.2.2.2.1 NO
        have sv7 : SaE b0 (b0 + 64) h y7 := FrO.sa C7.2.2.2.2.1 (fun a h1 h2 => NO a h1 (by omega)) (by omega)
        have ev7 : EvC y7 b (nE N) := EvC.cp (c.2.2.2.2.2.2.1.cg (sv6.mono (by omega) (by omega))) v1 v2
        refine g_aload_n 2 dX5_copyFrom_157 rfl rfl ?_
        refine g_getr (f := 169) (b := b0 + 10) dX5_copyFrom_158 fl_X5_40 cq7.1.2 rfl cq7.2.2.2.2.2.2.2.1.1 ?_
        refine g_iconst (v := nI 0) dX5_copyFrom_161 (by decide) ?_
        refine g_aload_n 1 dX5_copyFrom_162 rfl rfl ?_
        refine g_getr (f := 169) (b := b + 10) dX5_copyFrom_163 fl_X5_40 C7.2.1.1.2 rfl C7.2.1.2.2.2.2.2.2.2.1.1 ?_
        refine g_iconst (v := nI 0) dX5_copyFrom_166 (by decide) ?_
        refine g_aload_n 1 dX5_copyFrom_167 rfl rfl ?_
        refine g_getr (f := 169) (b := b + 10) dX5_copyFrom_168 fl_X5_40 C7.2.1.1.2 rfl C7.2.1.2.2.2.2.2.2.2.1.1 ?_
        refine g_alen (t := 1) (v := nI 120) dX5_copyFrom_171 C7.2.1.2.2.2.2.2.2.2.1.2.1 rfl (fun _ => rfl) (congrArg Int32.ofNat (show zn y7 (b + 10) = 120 from C7.2.1.2.2.2.2.2.2.2.1.2.2)) ?_
        refine g_copyi (a0 := b0 + 10) (a1 := b + 10) (sp := nI 0) (dp := nI 0) (n := nI 120) dX5_copyFrom_172 ml_X5_89 ac_n ac_s ac_i cq7.2.2.2.2.2.2.2.1.2.1 C7.2.1.2.2.2.2.2.2.2.1.2.1 (by decide) (by decide) (by decide) (by rw [cq7.2.2.2.2.2.2.2.1.2.2]; decide) (by rw [C7.2.1.2.2.2.2.2.2.2.1.2.2]; decide) (Nat.le_of_ble_eq_true rfl) (Nat.le_of_ble_eq_true rfl) ?_
        show zG l w mX5_copyFrom 175 [(2, .int (nI i)), (0, .ref b), (1, .ref b0)] [] (zSF y7 (b + 10) (va_cpy (zI y7 (b0 + 10)) (zI y7 (b + 10)) (nI 0).toNatClampNeg (nI 0).toNatClampNeg (nI 120).toNatClampNeg)) _
        have F8 : FrA (fun a => a = b + 10) y7 (zSF y7 (b + 10) (va_cpy (zI y7 (b0 + 10)) (zI y7 (b + 10)) (nI 0).toNatClampNeg (nI 0).toNatClampNeg (nI 120).toNatClampNeg)) := FrA.sF FrA.rf rfl
        have p8 : PaC (zSF y7 (b + 10) (va_cpy (zI y7 (b0 + 10)) (zI y7 (b + 10)) (nI 0).toNatClampNeg (nI 0).toNatClampNeg (nI 120).toNatClampNeg)) b (nP N) (nA N 1) t := PaC.cp (c.2.2.2.2.2.2.2.cg (sv7.mono (by omega) (by omega))) H1.2 (fun i hi => zI_cp (by omega) hi)
        generalize zSF y7 (b + 10) (va_cpy (zI y7 (b0 + 10)) (zI y7 (b + 10)) (nI 0).toNatClampNeg (nI 0).toNatClampNeg (nI 120).toNatClampNeg) = y8 at F8 p8 ⊢
        have C8 := C7.fra F8 (fun a q => ⟨by omega, by omega, by rw [q, C7.2.1.2.2.2.2.2.2.2.1.2.1]; omega⟩)
        have cq8 : ClS y8 b0 := c.1.fo C8.2.2.2.2.1 NO
        have sv8 : SaE b0 (b0 + 64) h y8 := FrO.sa C8.2.2.2.2.1 (fun a h1 h2 => NO a h1 (by omega)) (by omega)
        refine g_aload_n 1 dX5_copyFrom_175 rfl rfl ?_
        refine g_aload_n 2 dX5_copyFrom_176 rfl rfl ?_
        refine g_geti (f := 170) dX5_copyFrom_177 fl_X5_62 cq8.1.2 (by decide) rfl ?_
        rw [show zi y8 170 b0 = jI (nA N 6) from ((sv8 b0 (Nat.le_refl _) (by omega)).1 170 (by omega) (by omega)).trans c.2.2.1.2.2.2.1]
        refine g_puti (f := 170) dX5_copyFrom_180 fl_X5_62 (Or.inl rfl) C8.2.1.1.2 rfl ?_
        have C9 : Cq h ls b0 b _ (zSi y8 170 b (jI (nA N 6))) _ := C8.si (v := jI (nA N 6)) (f := 170) (by omega)
        have g9 : SaE (b + 1) (b + 64) y8 (zSi y8 170 b (jI (nA N 6))) := SaE.si (by omega)
        have x9 : zi (zSi y8 170 b (jI (nA N 6))) 170 b = jI (nA N 6) := zi_same
        have o9 : ∀ f, f ≠ 170 → zi (zSi y8 170 b (jI (nA N 6))) f b = zi y8 f b := fun f q => by rw [zi_Si, if_neg (fun e => q e.1)]
        generalize zSi y8 170 b (jI (nA N 6)) = y9 at C9 g9 x9 o9 ⊢
        have cq9 : ClS y9 b0 := c.1.fo C9.2.2.2.2.1 NO
        have sv9 : SaE b0 (b0 + 64) h y9 := FrO.sa C9.2.2.2.2.1 (fun a h1 h2 => NO a h1 (by omega)) (by omega)
        refine g_aload_n 1 dX5_copyFrom_183 rfl rfl ?_
        refine g_aload_n 2 dX5_copyFrom_184 rfl rfl ?_
        refine g_geti (f := 171) dX5_copyFrom_185 fl_X5_65 cq9.1.2 (by decide) rfl ?_
        rw [show zi y9 171 b0 = jI (nA N 7) from ((sv9 b0 (Nat.le_refl _) (by omega)).1 171 (by omega) (by omega)).trans c.2.2.1.2.2.2.2]
        refine g_putz (f := 171) dX5_copyFrom_188 fl_X5_65 (Or.inl rfl) C9.2.1.1.2 rfl (by rcases H7 with e | e <;> rw [e] <;> decide) ?_
        have Ca : Cq h ls b0 b _ (zSi y9 171 b (jI (nA N 7))) _ := C9.si (v := jI (nA N 7)) (f := 171) (by omega)
        have ga : SaE (b + 1) (b + 64) y9 (zSi y9 171 b (jI (nA N 7))) := SaE.si (by omega)
        have xa : zi (zSi y9 171 b (jI (nA N 7))) 171 b = jI (nA N 7) := zi_same
        have oa : ∀ f, f ≠ 171 → zi (zSi y9 171 b (jI (nA N 7))) f b = zi y9 f b := fun f q => by rw [zi_Si, if_neg (fun e => q e.1)]
        generalize zSi y9 171 b (jI (nA N 7)) = ya at Ca ga xa oa ⊢
        refine g_return dX5_copyFrom_191 rfl ?_
        have ob : ∀ f, f ≠ 98 → f ≠ 167 → f ≠ 170 → f ≠ 171 → zi ya f b = zi y5 f b := fun f n1 n2 n3 n4 => (oa f n4).trans ((o9 f n3).trans (((F8.2.2.2.2 b (by omega)).1 f).1.trans (((F7.2.2.2.2 b (by omega)).1 f).1.trans ((e6 b (Nat.le_refl _) (by omega)).1 f n1 n2))))
        have hD : ∀ k, k < 13 → ((dLn n k ∨ k = 12) ∨ plN N k = []) := by
          intro k hk
          by_cases k12 : k = 12
          · exact Or.inl (Or.inr k12)
          · by_cases d : dLn n k
            · exact Or.inl (Or.inl d)
            · refine Or.inr ?_
              unfold dLn at d
              by_cases c1 : k < 6
              · rw [plN_row c1]; exact (hI.2.2.2.2.2.2.2.2.2 k c1 (by omega)).1
              · unfold plN
                rw [if_neg c1, if_pos (by omega)]
                exact (hI.2.2.2.2.2.2.2.2.2 (k - 6) (by omega) (by omega)).2
        obtain ⟨π', cx⟩ := Ca.done c hI hD ⟨(ob 161 (by omega) (by omega) (by omega) (by omega)).trans hN.1, (ob 163 (by omega) (by omega) (by omega) (by omega)).trans hN.2.1, (ob 164 (by omega) (by omega) (by omega) (by omega)).trans hN.2.2, (oa 170 (by omega)).trans x9, xa⟩ (fun a h1 h2 => ((((((hL a h1 h2).cg (e6.mono (by omega) (by omega))).cg (F7.sa (fun c q r s => by omega))).cg (F8.sa (fun c q r s => by omega))).cg (g9.mono (by omega) (by omega))).cg (ga.mono (by omega) (by omega)))) (fun f h1 h2 => ((((((hF f h1 h2).cg (e6.mono (by omega) (by omega))).cg (F7.sa (fun c q r s => by omega))).cg (F8.sa (fun c q r s => by omega))).cg (g9.mono (by omega) (by omega))).cg (ga.mono (by omega) (by omega)))) (((ev7.cg (F8.sa (fun c q r s => by omega))).cg (g9.mono (by omega) (by omega))).cg (ga.mono (by omega) (by omega))) ((p8.cg (g9.mono (by omega) (by omega))).cg (ga.mono (by omega) (by omega)))
        exact ⟨rfl, π', _, cx, Ca.2.2.2.2.1.st c.2.1 cb Ca.2.2.1.2.2 Ca.2.2.2.1⟩
      · exact absurd k0 (by omega)
    | succ k ih =>
      intro i hi y5 lt5 C5 hN hL hA
      have i6 : i < 6 := by omega
      have cq5 : ClS y5 b0 := c.1.fo C5.2.2.2.2.1 NO
      have sv5 : SaE b0 (b0 + 64) h y5 := FrO.sa C5.2.2.2.2.1 (fun a h1 h2 => NO a h1 (by omega)) (by omega)
      refine g_iload_n 0 dX5_copyFrom_105 rfl rfl ?_
      refine g_aload_n 1 dX5_copyFrom_106 rfl rfl ?_
      refine g_geti (f := 163) dX5_copyFrom_107 fl_X5_53 C5.2.1.1.2 (by decide) rfl ?_
      rw [show zi y5 163 b = nI m from (hN.2.1).trans (by rw [em0, jI_nat])]
      refine g_ncmp_ge (tgt := 134) dX5_copyFrom_110 (by decide) (by omega) (by omega) (fun k0 => ?_) (fun k0 => ?_)
      · exact absurd k0 (by omega)
      · refine g_aload_n 1 dX5_copyFrom_113 rfl rfl ?_
        refine g_getr (f := 162) (b := b + 2) dX5_copyFrom_114 fl_X5_19 C5.2.1.1.2 rfl C5.2.1.2.2.1.1 ?_
        refine g_iload_n 0 dX5_copyFrom_117 rfl rfl ?_
        refine g_aald (t := 4) (b := b + 53 + 2 * i) dX5_copyFrom_118 C5.2.1.2.2.1.2.1 rfl (fun _ => rfl) (by decide) (by rw [show zn y5 (b + 2) = 6 from C5.2.1.2.2.1.2.2]; exact vp_in_nI (by omega) (by omega)) (by rw [nI_clamp (by omega)]; exact (C5.2.1.2.2.2.2.2.2.2.2.2 i i6).1) ?_
        refine g_aload_n 2 dX5_copyFrom_119 rfl rfl ?_
        refine g_getr (f := 162) (b := b0 + 2) dX5_copyFrom_120 fl_X5_19 cq5.1.2 rfl cq5.2.2.1.1 ?_
        refine g_iload_n 0 dX5_copyFrom_123 rfl rfl ?_
        refine g_aald (t := 4) (b := b0 + 53 + 2 * i) dX5_copyFrom_124 cq5.2.2.1.2.1 rfl (fun _ => rfl) (by decide) (by rw [show zn y5 (b0 + 2) = 6 from cq5.2.2.1.2.2]; exact vp_in_nI (by omega) (by omega)) (by rw [nI_clamp (by omega)]; exact (cq5.2.2.2.2.2.2.2.2.2 i i6).1) ?_
        have fq : FlA y5 b0 N i := (c.2.2.2.2.1 i (by omega) i6).cg (sv5.mono (by omega) (by omega))
        refine g_invv (M' := mX2_copyFrom) (As := [.ref (b0 + 53 + 2 * i)]) (rest := []) dX5_copyFrom_125 ml_X5_83 okX2_copyFrom imX2_copyFrom seX2_copyFrom ⟨(Nat.le_of_ble_eq_true rfl), (Nat.le_of_ble_eq_true rfl)⟩ (ci := 2) rfl rfl (C5.2.1.2.2.2.2.2.2.2.2.2 i i6).2.1 rfl rfl (Nat.le_of_ble_eq_true rfl) (c_flCopy (C5.2.1.flO i6) (cq5.flO i6) (by omega) (by rw [show zi y5 68 (b0 + 53 + 2 * i) = jI (nA N (248 + 20 * i + 3)) from fq.1 3 (by omega) (by omega)]; rcases (hI.2.2.2.2.1 i (by omega)).2.2.2.2.1 with e | e <;> rw [e] <;> decide)) ?_
        rintro _ y6 ⟨rfl, v1, v2, F6⟩
        show zG l w mX5_copyFrom 128 [(2, .int (nI i)), (0, .ref b), (1, .ref b0)] [] y6 _
        have C6 := C5.fra F6 (fun a q => ⟨by omega, by omega, (C5.2.1.flO i6).n3 q⟩)
        refine g_inc (v := nI (i + 1)) (lv2 := [(2, .int (nI (i + 1))), (0, .ref b), (1, .ref b0)]) 0 dX5_copyFrom_128 rfl (nI_add _ 1) (by decide) rfl ?_
        refine g_goto (tgt := 105) dX5_copyFrom_131 (by decide) ?_
        have nb : ∀ f, zi y6 f b = zi y5 f b := fun f => ((F6.2.2.2.2 b (by omega)).1 f).1
        refine zG.sub [0, 1, 2] rfl (ih (i + 1) (by omega) y6 lt5 C6 ⟨(nb _).trans hN.1, (nb _).trans hN.2.1, (nb _).trans hN.2.2⟩ (fun a h1 h2 => (hL a h1 h2).cg (F6.sa (fun c q r s => by omega))) (fun a ha => ?_))
        by_cases ea : a = i
        · subst ea; exact fq.cp v1 v2
        · exact (hA a (by omega)).cg (F6.sa (fun c q r s => by omega))
  have loop1 : ∀ k i : Nat, i + k = n → ∀ (y5 : zH) (lt5 : Nat → List Nat), Cq h ls b0 b (dLn i) y5 lt5 → (zi y5 161 b = jI (nA N 0) ∧ zi y5 163 b = jI (nA N 1) ∧ zi y5 164 b = jI (nA N 2)) → (∀ a, a < i → LkA y5 b N a) → zG l w mX5_copyFrom 30 [(2, .int (nI i)), (0, .ref b), (1, .ref b0)] [] y5 (fun u h1 => u = none ∧ ∃ π' lt, CX h1 b π' lt N [] t ∧ CSt b ls h lt h1) := by
    intro k
    induction k with
    | zero =>
      intro i hi y5 lt5 C5 hN hA
      have cq5 : ClS y5 b0 := c.1.fo C5.2.2.2.2.1 NO
      have sv5 : SaE b0 (b0 + 64) h y5 := FrO.sa C5.2.2.2.2.1 (fun a h1 h2 => NO a h1 (by omega)) (by omega)
      refine g_iload_n 0 dX5_copyFrom_30 rfl rfl ?_
      refine g_aload_n 1 dX5_copyFrom_31 rfl rfl ?_
      refine g_geti (f := 161) dX5_copyFrom_32 fl_X5_49 C5.2.1.1.2 (by decide) rfl ?_
      rw [show zi y5 161 b = nI n from (hN.1).trans (by rw [en, jI_nat])]
      refine g_ncmp_ge (tgt := 103) dX5_copyFrom_35 (by decide) (by omega) (by omega) (fun k0 => ?_) (fun k0 => ?_)
      · refine g_iconst (v := nI 0) dX5_copyFrom_103 (by decide) ?_
        refine g_istore_n (lv2 := [(2, .int (nI 0)), (0, .ref b), (1, .ref b0)]) dX5_copyFrom_104 rfl (by decide) rfl ?_
        exact zG.sub [0, 1, 2] rfl (loop2 m 0 (Nat.zero_add _) y5 lt5 (by rw [← show i = n by omega]; exact C5) hN (fun a h1 h2 => hA a (by omega)) (fun a ha => absurd ha (by omega)))
      · exact absurd k0 (by omega)
    | succ k ih =>
      intro i hi y5 lt5 C5 hN hA
      have i6 : i < 6 := by omega
      have cq5 : ClS y5 b0 := c.1.fo C5.2.2.2.2.1 NO
      have sv5 : SaE b0 (b0 + 64) h y5 := FrO.sa C5.2.2.2.2.1 (fun a h1 h2 => NO a h1 (by omega)) (by omega)
      refine g_iload_n 0 dX5_copyFrom_30 rfl rfl ?_
      refine g_aload_n 1 dX5_copyFrom_31 rfl rfl ?_
      refine g_geti (f := 161) dX5_copyFrom_32 fl_X5_49 C5.2.1.1.2 (by decide) rfl ?_
      rw [show zi y5 161 b = nI n from (hN.1).trans (by rw [en, jI_nat])]
      refine g_ncmp_ge (tgt := 103) dX5_copyFrom_35 (by decide) (by omega) (by omega) (fun k0 => ?_) (fun k0 => ?_)
      · exact absurd k0 (by omega)
      · refine g_aload_n 1 dX5_copyFrom_38 rfl rfl ?_
        refine g_getr (f := 160) (b := b + 1) dX5_copyFrom_39 fl_X5_11 C5.2.1.1.2 rfl C5.2.1.2.1.1 ?_
        refine g_iload_n 0 dX5_copyFrom_42 rfl rfl ?_
        refine g_aald (t := 5) (b := b + 11 + 7 * i) dX5_copyFrom_43 C5.2.1.2.1.2.1 rfl (fun _ => rfl) (by decide) (by rw [show zn y5 (b + 1) = 6 from C5.2.1.2.1.2.2]; exact vp_in_nI (by omega) (by omega)) (by rw [nI_clamp (by omega)]; exact (C5.2.1.2.2.2.2.2.2.2.2.1 i i6).1) ?_
        refine g_aload_n 2 dX5_copyFrom_44 rfl rfl ?_
        refine g_getr (f := 160) (b := b0 + 1) dX5_copyFrom_45 fl_X5_11 cq5.1.2 rfl cq5.2.1.1 ?_
        refine g_iload_n 0 dX5_copyFrom_48 rfl rfl ?_
        refine g_aald (t := 5) (b := b0 + 11 + 7 * i) dX5_copyFrom_49 cq5.2.1.2.1 rfl (fun _ => rfl) (by decide) (by rw [show zn y5 (b0 + 1) = 6 from cq5.2.1.2.2]; exact vp_in_nI (by omega) (by omega)) (by rw [nI_clamp (by omega)]; exact (cq5.2.2.2.2.2.2.2.2.1 i i6).1) ?_
        have lq : LkA y5 b0 N i := (c.2.2.2.1 i (by omega) i6).cg (sv5.mono (by omega) (by omega))
        refine g_invv (M' := mX4_copyFrom) (As := [.ref (b0 + 11 + 7 * i)]) (rest := []) dX5_copyFrom_50 ml_X5_69 okX4_copyFrom imX4_copyFrom seX4_copyFrom ⟨(Nat.le_of_ble_eq_true rfl), (Nat.le_of_ble_eq_true rfl)⟩ (ci := 4) rfl rfl (C5.2.1.2.2.2.2.2.2.2.2.1 i i6).2.1 rfl rfl (Nat.le_of_ble_eq_true rfl) (c_lkCopy (C5.2.1.lkO i6) (cq5.lkO i6) (by omega)) ?_
        rintro _ y6 ⟨rfl, v1, v2, v3, v4, F6⟩
        show zG l w mX5_copyFrom 53 [(2, .int (nI i)), (0, .ref b), (1, .ref b0)] [] y6 _
        have C6 := C5.fra F6 (fun a q => ⟨by omega, by omega, (C5.2.1.lkO i6).n3 q⟩)
        have l6 : LkA y6 b N i := lq.cp v1 v2 v3 v4
        have cq6 : ClS y6 b0 := c.1.fo C6.2.2.2.2.1 NO
        have sv6 : SaE b0 (b0 + 64) h y6 := FrO.sa C6.2.2.2.2.1 (fun a h1 h2 => NO a h1 (by omega)) (by omega)
        refine g_aload_n 1 dX5_copyFrom_53 rfl rfl ?_
        refine g_aload_n 2 dX5_copyFrom_54 rfl rfl ?_
        refine g_getr (f := 160) (b := b0 + 1) dX5_copyFrom_55 fl_X5_11 cq6.1.2 rfl cq6.2.1.1 ?_
        refine g_iload_n 0 dX5_copyFrom_58 rfl rfl ?_
        refine g_aald (t := 5) (b := b0 + 11 + 7 * i) dX5_copyFrom_59 cq6.2.1.2.1 rfl (fun _ => rfl) (by decide) (by rw [show zn y6 (b0 + 1) = 6 from cq6.2.1.2.2]; exact vp_in_nI (by omega) (by omega)) (by rw [nI_clamp (by omega)]; exact (cq6.2.2.2.2.2.2.2.2.1 i i6).1) ?_
        refine g_getr (f := 132) (b := b0 + 11 + 7 * i + 1) dX5_copyFrom_60 fl_X5_73 (cq6.2.2.2.2.2.2.2.2.1 i i6).2.1 rfl (cq6.2.2.2.2.2.2.2.2.1 i i6).2.2.1.1 ?_
        refine g_aload_n 1 dX5_copyFrom_63 rfl rfl ?_
        refine g_getr (f := 160) (b := b + 1) dX5_copyFrom_64 fl_X5_11 C6.2.1.1.2 rfl C6.2.1.2.1.1 ?_
        refine g_iload_n 0 dX5_copyFrom_67 rfl rfl ?_
        refine g_aald (t := 5) (b := b + 11 + 7 * i) dX5_copyFrom_68 C6.2.1.2.1.2.1 rfl (fun _ => rfl) (by decide) (by rw [show zn y6 (b + 1) = 6 from C6.2.1.2.1.2.2]; exact vp_in_nI (by omega) (by omega)) (by rw [nI_clamp (by omega)]; exact (C6.2.1.2.2.2.2.2.2.2.2.1 i i6).1) ?_
        refine g_getr (f := 132) (b := b + 11 + 7 * i + 1) dX5_copyFrom_69 fl_X5_73 (C6.2.1.2.2.2.2.2.2.2.2.1 i i6).2.1 rfl (C6.2.1.2.2.2.2.2.2.2.2.1 i i6).2.2.1.1 ?_
        refine g_invv (M' := mX5_copyLine) (As := [.ref (b0 + 11 + 7 * i + 1), .ref (b + 11 + 7 * i + 1)]) (rest := []) dX5_copyFrom_72 ml_X5_76 okX5_copyLine imX5_copyLine seX5_copyLine ⟨(Nat.le_of_ble_eq_true rfl), (Nat.le_of_ble_eq_true rfl)⟩ (ci := 5) rfl rfl C6.2.1.1.2 rfl rfl (Nat.le_of_ble_eq_true rfl) (c_copyLn C6 c hI cb dj (k := i) (by omega) (by unfold dLn; omega) (lin_row i6).symm (lin_row i6).symm) ?_
        rintro _ y7 ⟨rfl, lt7, C7, e7⟩
        show zG l w mX5_copyFrom 75 [(2, .int (nI i)), (0, .ref b), (1, .ref b0)] [] y7 _
        have cq7 : ClS y7 b0 := c.1.fo C7.2.2.2.2.1 NO
        have sv7 : SaE b0 (b0 + 64) h y7 := FrO.sa C7.2.2.2.2.1 (fun a h1 h2 => NO a h1 (by omega)) (by omega)
        refine g_aload_n 1 dX5_copyFrom_75 rfl rfl ?_
        refine g_aload_n 2 dX5_copyFrom_76 rfl rfl ?_
        refine g_getr (f := 160) (b := b0 + 1) dX5_copyFrom_77 fl_X5_11 cq7.1.2 rfl cq7.2.1.1 ?_
        refine g_iload_n 0 dX5_copyFrom_80 rfl rfl ?_
        refine g_aald (t := 5) (b := b0 + 11 + 7 * i) dX5_copyFrom_81 cq7.2.1.2.1 rfl (fun _ => rfl) (by decide) (by rw [show zn y7 (b0 + 1) = 6 from cq7.2.1.2.2]; exact vp_in_nI (by omega) (by omega)) (by rw [nI_clamp (by omega)]; exact (cq7.2.2.2.2.2.2.2.2.1 i i6).1) ?_
        refine g_getr (f := 133) (b := b0 + 11 + 7 * i + 2) dX5_copyFrom_82 fl_X5_80 (cq7.2.2.2.2.2.2.2.2.1 i i6).2.1 rfl (cq7.2.2.2.2.2.2.2.2.1 i i6).2.2.2.1.1 ?_
        refine g_aload_n 1 dX5_copyFrom_85 rfl rfl ?_
        refine g_getr (f := 160) (b := b + 1) dX5_copyFrom_86 fl_X5_11 C7.2.1.1.2 rfl C7.2.1.2.1.1 ?_
        refine g_iload_n 0 dX5_copyFrom_89 rfl rfl ?_
        refine g_aald (t := 5) (b := b + 11 + 7 * i) dX5_copyFrom_90 C7.2.1.2.1.2.1 rfl (fun _ => rfl) (by decide) (by rw [show zn y7 (b + 1) = 6 from C7.2.1.2.1.2.2]; exact vp_in_nI (by omega) (by omega)) (by rw [nI_clamp (by omega)]; exact (C7.2.1.2.2.2.2.2.2.2.2.1 i i6).1) ?_
        refine g_getr (f := 133) (b := b + 11 + 7 * i + 2) dX5_copyFrom_91 fl_X5_80 (C7.2.1.2.2.2.2.2.2.2.2.1 i i6).2.1 rfl (C7.2.1.2.2.2.2.2.2.2.2.1 i i6).2.2.2.1.1 ?_
        refine g_invv (M' := mX5_copyLine) (As := [.ref (b0 + 11 + 7 * i + 2), .ref (b + 11 + 7 * i + 2)]) (rest := []) dX5_copyFrom_94 ml_X5_76 okX5_copyLine imX5_copyLine seX5_copyLine ⟨(Nat.le_of_ble_eq_true rfl), (Nat.le_of_ble_eq_true rfl)⟩ (ci := 5) rfl rfl C7.2.1.1.2 rfl rfl (Nat.le_of_ble_eq_true rfl) (c_copyLn C7 c hI cb dj (k := 6 + i) (by omega) (by unfold dLn; omega) (lin_wire i6).symm (lin_wire i6).symm) ?_
        rintro _ y8 ⟨rfl, lt8, C8, e8⟩
        show zG l w mX5_copyFrom 97 [(2, .int (nI i)), (0, .ref b), (1, .ref b0)] [] y8 _
        refine g_inc (v := nI (i + 1)) (lv2 := [(2, .int (nI (i + 1))), (0, .ref b), (1, .ref b0)]) 0 dX5_copyFrom_97 rfl (nI_add _ 1) (by decide) rfl ?_
        refine g_goto (tgt := 30) dX5_copyFrom_100 (by decide) ?_
        have nb : ∀ f, f ≠ 98 → f ≠ 167 → zi y8 f b = zi y5 f b := fun f n1 n2 => ((e8 b (Nat.le_refl _) (by omega)).1 f n1 n2).trans (((e7 b (Nat.le_refl _) (by omega)).1 f n1 n2).trans ((F6.2.2.2.2 b (by omega)).1 f).1)
        refine zG.sub [0, 1, 2] rfl (ih (i + 1) (by omega) y8 lt8 (C8.cg (fun k hk => by unfold dLn; omega)) ⟨(nb _ (by omega) (by omega)).trans hN.1, (nb _ (by omega) (by omega)).trans hN.2.1, (nb _ (by omega) (by omega)).trans hN.2.2⟩ (fun a ha => ?_))
        have g : LkA y6 b N a := by
          by_cases ea : a = i
          · subst ea; exact l6
          · exact (hA a (by omega)).cg (F6.sa (fun c q r s => by omega))
        exact (g.cg (e7.mono (by omega) (by omega))).cg (e8.mono (by omega) (by omega))
  refine g_aload_n 0 dX5_copyFrom_0 rfl rfl ?_
  refine g_invv (M' := mX5_spareAllPackets) (As := []) (rest := []) dX5_copyFrom_1 ml_X5_46 okX5_spareAllPackets imX5_spareAllPackets seX5_spareAllPackets ⟨(Nat.le_of_ble_eq_true rfl), (Nat.le_of_ble_eq_true rfl)⟩ (ci := 5) rfl rfl cb.1.2 rfl rfl (Nat.le_of_ble_eq_true rfl) (c_spareAll c.2.1 cb cw.2.1 cw.2.2.2) ?_
  rintro _ y1 ⟨rfl, lt1, S1, em1⟩
  show zG l w mX5_copyFrom 4 [(0, .ref b), (1, .ref b0)] [] y1 _
  have C1 : Cq h ls b0 b (fun _ => False) y1 lt1 := Cq.start S1 cb cw.2.2.1 cw.2.2.2 em1
  have cq1 : ClS y1 b0 := c.1.fo C1.2.2.2.2.1 NO
  have sv1 : SaE b0 (b0 + 64) h y1 := FrO.sa C1.2.2.2.2.1 (fun a h1 h2 => NO a h1 (by omega)) (by omega)
  refine g_aload_n 0 dX5_copyFrom_4 rfl rfl ?_
  refine g_aload_n 1 dX5_copyFrom_5 rfl rfl ?_
  refine g_geti (f := 161) dX5_copyFrom_6 fl_X5_49 cq1.1.2 (by decide) rfl ?_
  rw [show zi y1 161 b0 = jI (nA N 0) from ((sv1 b0 (Nat.le_refl _) (by omega)).1 161 (by omega) (by omega)).trans c.2.2.1.1]
  refine g_puti (f := 161) dX5_copyFrom_9 fl_X5_49 (Or.inl rfl) C1.2.1.1.2 rfl ?_
  have C2 : Cq h ls b0 b _ (zSi y1 161 b (jI (nA N 0))) _ := C1.si (v := jI (nA N 0)) (f := 161) (by omega)
  have x161 : zi (zSi y1 161 b (jI (nA N 0))) 161 b = jI (nA N 0) := zi_same
  generalize zSi y1 161 b (jI (nA N 0)) = y2 at C2 x161 ⊢
  have cq2 : ClS y2 b0 := c.1.fo C2.2.2.2.2.1 NO
  have sv2 : SaE b0 (b0 + 64) h y2 := FrO.sa C2.2.2.2.2.1 (fun a h1 h2 => NO a h1 (by omega)) (by omega)
  refine g_aload_n 0 dX5_copyFrom_12 rfl rfl ?_
  refine g_aload_n 1 dX5_copyFrom_13 rfl rfl ?_
  refine g_geti (f := 163) dX5_copyFrom_14 fl_X5_53 cq2.1.2 (by decide) rfl ?_
  rw [show zi y2 163 b0 = jI (nA N 1) from ((sv2 b0 (Nat.le_refl _) (by omega)).1 163 (by omega) (by omega)).trans c.2.2.1.2.1]
  refine g_puti (f := 163) dX5_copyFrom_17 fl_X5_53 (Or.inl rfl) C2.2.1.1.2 rfl ?_
  have C3 : Cq h ls b0 b _ (zSi y2 163 b (jI (nA N 1))) _ := C2.si (v := jI (nA N 1)) (f := 163) (by omega)
  have x161 : zi (zSi y2 163 b (jI (nA N 1))) 161 b = jI (nA N 0) := (by rw [zi_Si, if_neg (by omega)]; exact x161)
  have x163 : zi (zSi y2 163 b (jI (nA N 1))) 163 b = jI (nA N 1) := zi_same
  generalize zSi y2 163 b (jI (nA N 1)) = y3 at C3 x161 x163 ⊢
  have cq3 : ClS y3 b0 := c.1.fo C3.2.2.2.2.1 NO
  have sv3 : SaE b0 (b0 + 64) h y3 := FrO.sa C3.2.2.2.2.1 (fun a h1 h2 => NO a h1 (by omega)) (by omega)
  refine g_aload_n 0 dX5_copyFrom_20 rfl rfl ?_
  refine g_aload_n 1 dX5_copyFrom_21 rfl rfl ?_
  refine g_geti (f := 164) dX5_copyFrom_22 fl_X5_56 cq3.1.2 (by decide) rfl ?_
  rw [show zi y3 164 b0 = jI (nA N 2) from ((sv3 b0 (Nat.le_refl _) (by omega)).1 164 (by omega) (by omega)).trans c.2.2.1.2.2.1]
  refine g_puti (f := 164) dX5_copyFrom_25 fl_X5_56 (Or.inl rfl) C3.2.1.1.2 rfl ?_
  have C4 : Cq h ls b0 b _ (zSi y3 164 b (jI (nA N 2))) _ := C3.si (v := jI (nA N 2)) (f := 164) (by omega)
  have x161 : zi (zSi y3 164 b (jI (nA N 2))) 161 b = jI (nA N 0) := (by rw [zi_Si, if_neg (by omega)]; exact x161)
  have x163 : zi (zSi y3 164 b (jI (nA N 2))) 163 b = jI (nA N 1) := (by rw [zi_Si, if_neg (by omega)]; exact x163)
  have x164 : zi (zSi y3 164 b (jI (nA N 2))) 164 b = jI (nA N 2) := zi_same
  generalize zSi y3 164 b (jI (nA N 2)) = y4 at C4 x161 x163 x164 ⊢
  have cq4 : ClS y4 b0 := c.1.fo C4.2.2.2.2.1 NO
  have sv4 : SaE b0 (b0 + 64) h y4 := FrO.sa C4.2.2.2.2.1 (fun a h1 h2 => NO a h1 (by omega)) (by omega)
  refine g_iconst (v := nI 0) dX5_copyFrom_28 (by decide) ?_
  refine g_istore_n (lv2 := [(2, .int (nI 0)), (0, .ref b), (1, .ref b0)]) dX5_copyFrom_29 rfl (by decide) rfl ?_
  exact zG.sub [0, 1, 2] rfl (loop1 n 0 (Nat.zero_add _) y4 lt1 (C4.cg (fun k hk => ⟨fun q => by unfold dLn at q; omega, fun q => q.elim⟩)) ⟨x161, x163, x164⟩ (fun a ha => absurd ha (by omega)))
end CP9
