section CP8
variable {h y z : zH} {b b0 k : Nat} {ls lt lt2 : Nat → List Nat} {D : Nat → Prop} {N : nT} {π : Nat → Nat} {t : Nat} {S T : Nat → Prop}
theorem totL_ex : totL ls b = (ls (lin b 0)).length + (ls (lin b 1)).length + (ls (lin b 2)).length + (ls (lin b 3)).length + (ls (lin b 4)).length + (ls (lin b 5)).length + (ls (lin b 6)).length + (ls (lin b 7)).length + (ls (lin b 8)).length + (ls (lin b 9)).length + (ls (lin b 10)).length + (ls (lin b 11)).length + (ls (lin b 12)).length + (ls (lin b 13)).length := by
  unfold totL
  rw [show List.range 14 = [0, 1, 2, 3, 4, 5, 6, 7, 8, 9, 10, 11, 12, 13] from rfl]
  simp only [List.map_cons, List.map_nil, List.sum_cons, List.sum_nil]
  omega
theorem sum_zero : ∀ n : Nat, ((List.range n).map fun _ => (0 : Nat)).sum = 0 := by
  intro n
  induction n with
  | zero => rfl
  | succ n ih => rw [List.range_succ, List.map_append, List.sum_append, ih]; rfl
theorem sum_count (n : Nat) : ∀ L : List Nat, (∀ x, x ∈ L → x < n) → ((List.range n).map fun x => L.count x).sum = L.length := by
  intro L
  induction L with
  | nil => intro _; exact sum_zero n
  | cons a L ih =>
    intro hL
    have i1 := ih (fun x hx => hL x (List.mem_cons_of_mem _ hx))
    have q : ((List.range n).map fun x => (a :: L).count x).sum + L.count a = ((List.range n).map fun x => L.count x).sum + (a :: L).count a := sum_one (F := fun x => L.count x) (G := fun x => (a :: L).count x) (hL a List.mem_cons_self) (fun x _ hne => by simp [List.count_cons, Ne.symm hne])
    have e : (a :: L).count a = L.count a + 1 := List.count_cons_self
    rw [List.length_cons]
    omega
theorem sum_ite (g : Nat → Bool) : ∀ n, ((List.range n).map fun x => if g x then 1 else 0).sum = (List.range n).countP g := by
  intro n
  induction n with
  | zero => rfl
  | succ n ih =>
    rw [List.range_succ, List.map_append, List.sum_append, ih, List.countP_append, List.countP_singleton]
    simp only [List.map_cons, List.map_nil, List.sum_cons, List.sum_nil, Nat.add_zero]
/-- which places stand in line k -/
def plN (N : nT) (k : Nat) : List Nat := if k < 6 then nR N k else if k < 12 then nW N (k - 6) else nK N
theorem plN_row {a : Nat} (h : a < 6) : plN N a = nR N a := by unfold plN; rw [if_pos h]
theorem plN_wire {a : Nat} (h : a < 6) : plN N (6 + a) = nW N a := by unfold plN; rw [if_neg (by omega), if_pos (by omega), show 6 + a - 6 = a by omega]
theorem plN_ret : plN N 12 = nK N := rfl
theorem iC.len (hc : iC [] N) : (nR N 0).length + (nR N 1).length + (nR N 2).length + (nR N 3).length + (nR N 4).length + (nR N 5).length + (nW N 0).length + (nW N 1).length + (nW N 2).length + (nW N 3).length + (nW N 4).length + (nW N 5).length + (nK N).length = nLv N := by
  have c : ∀ x, (nR N 0 ++ (nR N 1 ++ (nR N 2 ++ (nR N 3 ++ (nR N 4 ++ (nR N 5 ++ (nW N 0 ++ (nW N 1 ++ (nW N 2 ++ (nW N 3 ++ (nW N 4 ++ (nW N 5 ++ nK N)))))))))))).count x = nC [] N x := by
    intro x
    simp only [List.count_append]
    unfold nC
    rw [List.count_nil]
    omega
  have q := sum_count 480 _ (fun x hx => (hc.of (by rw [← c x]; exact count_pos hx)).1)
  rw [List.map_congr_left (fun x hx => (c x).trans (hc x))] at q
  have q2 : ((List.range 480).map fun x => if x < 480 ∧ 0 < nA N (368 + 8 * x + 0) then 1 else 0).sum = nLv N := by
    unfold nLv
    rw [← sum_ite]
    refine congrArg List.sum (List.map_congr_left (fun x hx => ?_))
    have := List.mem_range.mp hx
    simp only [this, true_and, decide_eq_true_eq]
  rw [q2] at q
  simp only [List.length_append] at q
  omega
theorem iC.stands (hc : iC [] N) {x : Nat} (lv : liv N x) : ∃ k i : Nat, k < 13 ∧ (plN N k)[i]? = some x := by
  by_cases c : ∃ k, k < 13 ∧ x ∈ plN N k
  · obtain ⟨k, hk, hx⟩ := c
    obtain ⟨i, hi⟩ := List.getElem?_of_mem hx
    exact ⟨k, i, hk, hi⟩
  · have z : ∀ k, k < 13 → (plN N k).count x = 0 := fun k hk => List.count_eq_zero.mpr (fun q => c ⟨k, hk, q⟩)
    have e := hc x
    rw [if_pos ⟨lv.1, lv.2⟩] at e
    unfold nC at e
    rw [List.count_nil] at e
    have z0 : (nR N 0).count x = 0 := z 0 (by omega)
    have z1 : (nR N 1).count x = 0 := z 1 (by omega)
    have z2 : (nR N 2).count x = 0 := z 2 (by omega)
    have z3 : (nR N 3).count x = 0 := z 3 (by omega)
    have z4 : (nR N 4).count x = 0 := z 4 (by omega)
    have z5 : (nR N 5).count x = 0 := z 5 (by omega)
    have z6 : (nW N 0).count x = 0 := z 6 (by omega)
    have z7 : (nW N 1).count x = 0 := z 7 (by omega)
    have z8 : (nW N 2).count x = 0 := z 8 (by omega)
    have z9 : (nW N 3).count x = 0 := z 9 (by omega)
    have z10 : (nW N 4).count x = 0 := z 10 (by omega)
    have z11 : (nW N 5).count x = 0 := z 11 (by omega)
    have z12 : (nK N).count x = 0 := z 12 (by omega)
    omega
/-- lines that hold the places of N, wherever their packets are -/
theorem tot_pl (e : ∀ k, k < 13 → (ls (lin b k)).length = (plN N k).length) (hc : iC [] N) : totL ls b = nLv N + (ls (b + 4)).length := by
  rw [totL_ex, ← hc.len, lin_spare]
  have e0 : (ls (lin b 0)).length = (nR N 0).length := e 0 (by omega)
  have e1 : (ls (lin b 1)).length = (nR N 1).length := e 1 (by omega)
  have e2 : (ls (lin b 2)).length = (nR N 2).length := e 2 (by omega)
  have e3 : (ls (lin b 3)).length = (nR N 3).length := e 3 (by omega)
  have e4 : (ls (lin b 4)).length = (nR N 4).length := e 4 (by omega)
  have e5 : (ls (lin b 5)).length = (nR N 5).length := e 5 (by omega)
  have e6 : (ls (lin b 6)).length = (nW N 0).length := e 6 (by omega)
  have e7 : (ls (lin b 7)).length = (nW N 1).length := e 7 (by omega)
  have e8 : (ls (lin b 8)).length = (nW N 2).length := e 8 (by omega)
  have e9 : (ls (lin b 9)).length = (nW N 3).length := e 9 (by omega)
  have e10 : (ls (lin b 10)).length = (nW N 4).length := e 10 (by omega)
  have e11 : (ls (lin b 11)).length = (nW N 5).length := e 11 (by omega)
  have e12 : (ls (lin b 12)).length = (nK N).length := e 12 (by omega)
  omega
theorem CX.lnk {X : List Nat} (c : CX h b π ls N X t) (hk : k < 13) : ls (lin b k) = (plN N k).map π := by
  have P := c.2.2.2.2.2.1
  by_cases c1 : k < 6
  · rw [lin_row c1, plN_row c1]; exact (P.2.2.2.1 k c1).1
  · by_cases c2 : k < 12
    · have q := (P.2.2.2.1 (k - 6) (by omega)).2.1
      rw [← lin_wire (b := b) (show k - 6 < 6 by omega), show 6 + (k - 6) = k by omega] at q
      rw [q]
      unfold plN
      rw [if_neg c1, if_pos c2]
    · rw [show k = 12 by omega]; exact P.2.2.2.2.1.1
theorem CX.tot (c : CX h b π ls N [] t) (hc : iC [] N) : totL ls b = nLv N + (ls (b + 4)).length := tot_pl (fun k hk => by rw [c.lnk hk, List.length_map]) hc
/-- whatever a net holds, its packets stand in its lines -/
theorem CX.cw (c : CX h b π ls N [] t) (hI : iN [] N) : CW h b ls := by
  have h0 := hI.1.1
  have P := c.2.2.2.2.2.1
  refine ⟨c.1, ⟨(nA N 0).toNat, by omega, ?_, fun a h1 h2 => ?_⟩, ?_, ?_⟩
  · rw [c.2.2.1.1, ← jI_nat, Int.toNat_of_nonneg h0.1]
  · have q := hI.2.2.2.2.2.2.2.2.2 a h2 (by omega)
    rw [c.lnk (by omega), c.lnk (by omega), plN_row h2, plN_wire h2, q.1, q.2]
    exact ⟨rfl, rfl⟩
  · rw [c.tot hI.2.2.1]; exact P.2.2.2.2.2.2.1
  · rw [c.tot hI.2.2.1]; exact P.2.2.2.2.2.2.2.1
/-- outside S all is as it was -/
def FrO (S : Nat → Prop) (h y : zH) : Prop := (zx h ≤ zx y ∧ zt y + 10 * zx h = zt h + 10 * zx y) ∧ (∀ a, a < zx h → zk y a = zk h a ∧ zn y a = zn h a) ∧ ∀ a, a < zx h → ¬ S a → (∀ f, zi y f a = zi h f a ∧ zl y f a = zl h f a ∧ zr y f a = zr h f a) ∧ ∀ i, zI y a i = zI h a i ∧ zL y a i = zL h a i ∧ zR y a i = zR h a i
theorem FrO.tr (x : FrO S h y) (q : FrO T y z) (e : ∀ a, a < zx h → T a → S a) : FrO S h z := by
  obtain ⟨⟨x0, x1⟩, x2, x3⟩ := x
  obtain ⟨⟨y0, y1⟩, y2, y3⟩ := q
  refine ⟨⟨by omega, by omega⟩, fun a ha => ⟨(y2 a (by omega)).1.trans (x2 a ha).1, (y2 a (by omega)).2.trans (x2 a ha).2⟩, fun a ha hs => ?_⟩
  have p := x3 a ha hs
  have q := y3 a (by omega) (fun q => hs (e a ha q))
  exact ⟨fun f => ⟨(q.1 f).1.trans (p.1 f).1, (q.1 f).2.1.trans (p.1 f).2.1, (q.1 f).2.2.trans (p.1 f).2.2⟩, fun i => ⟨(q.2 i).1.trans (p.2 i).1, (q.2 i).2.1.trans (p.2 i).2.1, (q.2 i).2.2.trans (p.2 i).2.2⟩⟩
theorem FrK.o (x : FrK b S h y) : FrO S h y := ⟨⟨x.1.1, x.1.2.1⟩, fun a ha => ⟨(x.2.1 a ha).1, (x.2.1 a ha).2.1⟩, fun a ha hs => ⟨x.2.2.1 a ha hs, (x.2.1 a ha).2.2⟩⟩
theorem FrO.st (f : FrO (ownS b ls) h y) (s : lnS h ls) (c : ClS h b) (md : mdB b h y) (e : ∀ M, (M < b ∨ b + 65 ≤ M) → lt M = ls M) : CSt b ls h lt y := by
  refine ⟨⟨⟨f.1.1, f.1.2, md⟩, f.2.1, fun a ha ho hc => f.2.2 a ha ?_⟩, e⟩
  rintro (q | ⟨k, hk, q⟩)
  · omega
  · obtain ⟨i, hi⟩ := List.getElem?_of_mem q
    rcases hc with d | ⟨L, hL, hLo, d⟩
    · exact d ((s.1 _ (lin_isL c hk)).2.2.2 i a hi).1.2
    · obtain ⟨j, hj⟩ := List.getElem?_of_mem d
      have u := (s.2 L (lin b k) j i a hL (lin_isL c hk) hj hi).1
      have := lin_in (b := b) hk
      omega
/-- the net at b on its way to be a copy of that at b0: from h, ls to y, lt; D: the lines that are done -/
def Cq (h : zH) (ls : Nat → List Nat) (b0 b : Nat) (D : Nat → Prop) (y : zH) (lt : Nat → List Nat) : Prop :=
  lnS y lt ∧ ClS y b ∧ (zi y 167 b = nI (totL lt b) ∧ totL lt b ≤ 480 ∧ mdB b h y) ∧ (∀ M, (M < b ∨ b + 65 ≤ M) → lt M = ls M) ∧ FrO (ownS b ls) h y ∧ (∀ a, ownS b lt a → ownS b ls a ∨ zx h ≤ a) ∧ ∀ k, k < 13 → (D k → CpB h (ls (lin b0 k)) y (lt (lin b k))) ∧ (¬ D k → lt (lin b k) = [])
theorem Cq.start (s : Sp0 h ls b y lt) (c : ClS h b) (hm : zi h 167 b = nI (totL ls b)) (t4 : totL ls b ≤ 480) (em : ∀ k, k < 13 → lt (lin b k) = []) : Cq h ls b0 b (fun _ => False) y lt := by
  obtain ⟨s1, s2, s3, s4, s5, s6⟩ := s
  exact ⟨s1, c.ln s2, ⟨by rw [s2.2.2.2.2.1 167 b (by omega), s5]; exact hm, by omega, (FrK.ln (b := b) s2 s3).1.2.2⟩, s4, (FrK.ln (b := b) s2 s3).o, fun a q => Or.inl (s6 a q), fun k hk => ⟨fun q => q.elim, fun _ => em k hk⟩⟩
theorem Cq.scal (C : Cq h ls b0 b D y lt) (ex : zx z = zx y ∧ zt z = zt y) (ek : ∀ a, zk z a = zk y a ∧ zn z a = zn y a) (er : ∀ f a, zr z f a = zr y f a) (eR : ∀ a i, zR z a i = zR y a i) (eo : ∀ a, (a < b ∨ b + 65 ≤ a) → (∀ f, zi z f a = zi y f a ∧ zl z f a = zl y f a) ∧ ∀ i, zI z a i = zI y a i ∧ zL z a i = zL y a i) (e7 : zi z 167 b = zi y 167 b) (e8 : ∀ a, zk y a = 3 → zi z 98 a = zi y 98 a) : Cq h ls b0 b D z lt := by
  obtain ⟨C1, C2, ⟨C3, C4⟩, C5, C6, C7, C8⟩ := C
  have il : ∀ L, isL z L ↔ isL y L := fun L => by unfold isL; rw [ex.1, (ek L).1]
  refine ⟨⟨fun L hL => ?_, fun L K i j q hL hK => C1.2 L K i j q ((il L).mp hL) ((il K).mp hK)⟩, C2.fr (by rw [ex.1]; exact Nat.le_refl _) (fun a _ _ => ⟨(ek a).1, (ek a).2, fun f _ _ _ => er f a, eR a⟩), ⟨e7.trans C3, C4.1, C4.2.tr (mdB.eq ex.1 e7)⟩, C5, ?_, C7, fun k hk => ⟨fun d => ?_, (C8 k hk).2⟩⟩
  · have hL0 := (il L).mp hL
    obtain ⟨s1, s2, s3, s4⟩ := C1.1 L hL0
    refine ⟨(er 96 L).trans s1, (er 97 L).trans s2, (e8 L hL0.2).trans s3, fun i q hq => ?_⟩
    obtain ⟨u1, u2⟩ := s4 i q hq
    exact ⟨⟨by rw [ex.1]; exact u1.1, (ek q).1.trans u1.2⟩, (er 201 q).trans u2⟩
  · refine C6.tr (T := fun a => b ≤ a ∧ a < b + 65) ⟨⟨by omega, by rw [ex.1, ex.2]⟩, fun a _ => ek a, fun a _ hs => ?_⟩ (fun a _ q => Or.inl q)
    have q := eo a (by omega)
    exact ⟨fun f => ⟨(q.1 f).1, (q.1 f).2, er f a⟩, fun i => ⟨(q.2 i).1, (q.2 i).2, eR a i⟩⟩
  · obtain ⟨d1, d2⟩ := (C8 k hk).1 d
    refine ⟨d1, fun i p q hp hq => ?_⟩
    have e := d2 i p q hp hq
    have kp := ((C1.1 _ (lin_isL C2 (by omega))).2.2.2 i p hp).1.2
    have po : p < b ∨ b + 65 ≤ p := by
      by_cases c1 : b ≤ p ∧ p < b + 65
      · exact absurd kp (C2.k6 c1.1 c1.2)
      · omega
    have g := (eo p po).1
    exact ⟨fun f f1 f2 f3 => (g f).1.trans (e.1 f f1 f2 f3), (g 197).2.trans e.2⟩
theorem Cq.fra (C : Cq h ls b0 b D y lt) (f : FrA S y z) (hS : ∀ a, S a → b < a ∧ a < b + 65 ∧ zk y a ≠ 3) : Cq h ls b0 b D z lt :=
  C.scal f.1 f.2.1 f.2.2.1 f.2.2.2.1 (fun a ha => f.2.2.2.2 a (fun q => by have := hS a q; omega)) ((f.2.2.2.2 b (fun q => by have := hS b q; omega)).1 167).1 (fun a ka => ((f.2.2.2.2 a (fun q => (hS a q).2.2 ka)).1 98).1)
theorem Cq.si (C : Cq h ls b0 b D y lt) {f : Nat} {v : Int32} (n7 : f ≠ 167) : Cq h ls b0 b D (zSi y f b v) lt :=
  C.scal ⟨rfl, rfl⟩ (fun _ => ⟨rfl, rfl⟩) (fun _ _ => rfl) (fun _ _ => rfl) (fun a ha => ⟨fun g => ⟨by rw [zi_Si, if_neg (by omega)], rfl⟩, fun _ => ⟨rfl, rfl⟩⟩) (by rw [zi_Si, if_neg (by omega)]) (fun a ka => by rw [zi_Si, if_neg (fun q => absurd (ka.symm.trans (q.2 ▸ C.2.1.1.2)) (by omega))])
theorem Cq.copy (C : Cq h ls b0 b D y lt) (hk : k < 13) (nd : ¬ D k) (hO : ∀ q, q ∈ ls (lin b0 k) → q < zx h ∧ ¬ ownS b ls q) (K : CpL y lt b k (ls (lin b0 k)) z lt2) : Cq h ls b0 b (fun j => D j ∨ j = k) z lt2 := by
  obtain ⟨C1, C2, ⟨C3, C4⟩, C5, C6, C7, C8⟩ := C
  obtain ⟨K1, K2, K3, K4, ⟨P, K5, K6, K7⟩, K8, K9, K10, K11⟩ := K
  have n4 : ∀ j, j < 13 → lin b j ≠ b + 4 := fun j hj e => absurd (lin_inj (b := b) (i := j) (j := 13) (by omega) (by omega) (e.trans lin_spare.symm)) (by omega)
  refine ⟨K1, C2.frK K8, ⟨K2, K3, C4.2.tr K8.1.2.2⟩, fun M hM => ?_, C6.tr K8.o (fun a ha hs => ?_), fun a q => ?_, fun j hj => ⟨fun d => ?_, fun d => ?_⟩⟩
  · have := lin_in (b := b) (i := k) (by omega)
    rw [K4 M (by omega) (by omega)]
    exact C5 M hM
  · rcases C7 a hs with e | e
    · exact e
    · omega
  · rcases K9 a q with e | e
    · exact C7 a e
    · have := C6.1.1
      exact Or.inr (by omega)
  · by_cases e : j = k
    · subst e
      rw [(C8 j hj).2 nd, List.nil_append] at K5
      rw [K5]
      refine ⟨K6, fun i p q hp hq => ?_⟩
      have g := K7 i p q hp hq
      have qo := hO q (List.mem_of_getElem? hq)
      have g2 := (C6.2.2 q qo.1 qo.2).1
      exact ⟨fun f f1 f2 f3 => (g.1 f f1 f2 f3).trans (g2 f).1, g.2.trans (g2 197).2.1⟩
    · have dj : D j := d.resolve_right e
      rw [K4 _ (n4 j hj) (fun q => e (lin_inj (by omega) (by omega) q))]
      obtain ⟨d1, d2⟩ := (C8 j hj).1 dj
      refine ⟨d1, fun i p q hp hq => ?_⟩
      have g := d2 i p q hp hq
      have g2 := K10 p j hj (List.mem_of_getElem? hp)
      exact ⟨fun f f1 f2 f3 => (g2 f f1 f2).1.trans (g.1 f f1 f2 f3), (g2 197 (by omega) (by omega)).2.trans g.2⟩
  · rw [K4 _ (n4 j hj) (fun q => d (Or.inr (lin_inj (by omega) (by omega) q)))]
    exact (C8 j hj).2 (fun q => d (Or.inl q))
theorem Cq.room (C : Cq h ls b0 b D y lt) (hk : k < 13) (nd : ¬ D k) (t0 : totL ls b0 ≤ 480) : totL lt b + (ls (lin b0 k)).length ≤ 480 + (lt (b + 4)).length := by
  have d : ∀ j, j < 13 → (lt (lin b j)).length ≤ (ls (lin b0 j)).length := fun j hj => by
    by_cases e : D j
    · rw [((C.2.2.2.2.2.2 j hj).1 e).1]; exact Nat.le_refl _
    · rw [(C.2.2.2.2.2.2 j hj).2 e]; exact Nat.zero_le _
  have dk : (lt (lin b k)).length = 0 := by rw [(C.2.2.2.2.2.2 k hk).2 nd]; rfl
  rw [totL_ex] at t0 ⊢
  rw [lin_spare (b := b)]
  have d0 := d 0 (by omega)
  have d1 := d 1 (by omega)
  have d2 := d 2 (by omega)
  have d3 := d 3 (by omega)
  have d4 := d 4 (by omega)
  have d5 := d 5 (by omega)
  have d6 := d 6 (by omega)
  have d7 := d 7 (by omega)
  have d8 := d 8 (by omega)
  have d9 := d 9 (by omega)
  have d10 := d 10 (by omega)
  have d11 := d 11 (by omega)
  have d12 := d 12 (by omega)
  clear d
  obtain rfl | rfl | rfl | rfl | rfl | rfl | rfl | rfl | rfl | rfl | rfl | rfl | rfl : k = 0 ∨ k = 1 ∨ k = 2 ∨ k = 3 ∨ k = 4 ∨ k = 5 ∨ k = 6 ∨ k = 7 ∨ k = 8 ∨ k = 9 ∨ k = 10 ∨ k = 11 ∨ k = 12 := by omega
  all_goals omega
theorem pick (A B : Nat → List Nat) (len : ∀ k, k < 13 → (B k).length = (A k).length) (un : ∀ k k' i i' x : Nat, k < 13 → k' < 13 → (A k)[i]? = some x → (A k')[i']? = some x → k = k' ∧ i = i') : ∃ π' : Nat → Nat, ∀ k, k < 13 → B k = (A k).map π' := by
  have ex : ∀ x : Nat, ∃ v : Nat, ∀ k i : Nat, k < 13 → (A k)[i]? = some x → (B k)[i]? = some v := by
    intro x
    by_cases c : ∃ k i : Nat, k < 13 ∧ (A k)[i]? = some x
    · obtain ⟨k, i, hk, e⟩ := c
      have li : i < (A k).length := (List.getElem?_eq_some_iff.mp e).1
      refine ⟨(B k)[i]'(by rw [len k hk]; exact li), fun k' i' hk' e' => ?_⟩
      obtain ⟨rfl, rfl⟩ := un _ _ _ _ _ hk hk' e e'
      exact List.getElem?_eq_getElem _
    · exact ⟨0, fun k i hk e => absurd ⟨k, i, hk, e⟩ c⟩
  refine ⟨fun x => Classical.choose (ex x), fun k hk => ?_⟩
  apply List.ext_getElem?
  intro i
  rw [List.getElem?_map]
  cases e : (A k)[i]? with
  | none => exact List.getElem?_eq_none (by rw [len k hk]; exact List.getElem?_eq_none_iff.mp e)
  | some x => exact Classical.choose_spec (ex x) k i hk e
/-- the copy is done -/
theorem Cq.done (C : Cq h ls b0 b D y lt) (c : CX h b0 π ls N [] t) (hI : iN [] N) (hD : ∀ k, k < 13 → D k ∨ plN N k = []) (h1 : NtC y b N) (h2 : LkC y b N) (h3 : FlC y b N) (h4 : EvC y b (nE N)) (h5 : PaC y b (nP N) (nA N 1) t) : ∃ π', CX y b π' lt N [] t := by
  obtain ⟨C1, C2, ⟨C3, C4⟩, C5, C6, C7, C8⟩ := C
  have P := c.2.2.2.2.2.1
  have B : ∀ k, k < 13 → CpB h (ls (lin b0 k)) y (lt (lin b k)) := fun k hk => by
    rcases hD k hk with d | d
    · exact (C8 k hk).1 d
    · by_cases e : D k
      · exact (C8 k hk).1 e
      · rw [(C8 k hk).2 e, c.lnk hk, d]
        exact ⟨rfl, fun i p q hp _ => by cases hp⟩
  have src : ∀ {k i x : Nat}, k < 13 → (plN N k)[i]? = some x → (ls (lin b0 k))[i]? = some (π x) := fun hk e => by rw [c.lnk hk, List.getElem?_map, e]; rfl
  obtain ⟨π', hπ⟩ := pick (plN N) (fun k => lt (lin b k)) (fun k hk => by rw [(B k hk).1, c.lnk hk, List.length_map]) (fun k k' i i' x hk hk' e e' => by
    have u := c.2.1.2 _ _ i i' _ (lin_isL c.1 (by omega)) (lin_isL c.1 (by omega)) (src hk e) (src hk' e')
    exact ⟨lin_inj (by omega) (by omega) u.1, u.2⟩)
  have dst : ∀ {k i x : Nat}, k < 13 → (plN N k)[i]? = some x → (lt (lin b k))[i]? = some (π' x) := fun {k i x} hk e => by
    have q := hπ k hk
    rw [q, List.getElem?_map, e]; rfl
  have pe : ∀ {k i x : Nat}, k < 13 → (plN N k)[i]? = some x → PkE h (π x) y (π' x) := fun {k i x} hk e => (B k hk).2 i _ _ (dst hk e) (src hk e)
  have pm : ∀ {k x : Nat}, k < 13 → x ∈ plN N k → PkE h (π x) y (π' x) := fun hk e => by
    obtain ⟨i, hi⟩ := List.getElem?_of_mem e
    exact pe hk hi
  refine ⟨π', C2, C1, h1, h2, h3, ⟨fun x lv => ?_, fun x x' lv lv' e => ?_, fun x lv q => ?_, fun a ha => ?_, ⟨hπ 12 (by omega), fun x hx => ?_⟩, (fun x hx => by cases hx), ?_, ?_, P.2.2.2.2.2.2.2.2⟩, h4, h5⟩
  · obtain ⟨k, i, hk, e⟩ := hI.2.2.1.stands lv
    obtain ⟨⟨p1, p2, p3, p4, p5, p6, p7⟩, -, -⟩ := P.1 x lv
    have q := pe hk e
    have g := ((C1.1 _ (lin_isL C2 (by omega))).2.2.2 i _ (dst hk e)).1
    exact ⟨⟨(q.1 192 (by omega) (by omega) (by omega)).trans p1, (q.1 193 (by omega) (by omega) (by omega)).trans p2, (q.1 195 (by omega) (by omega) (by omega)).trans p3, (q.1 196 (by omega) (by omega) (by omega)).trans p4, q.2.trans p5, (q.1 198 (by omega) (by omega) (by omega)).trans p6, (q.1 200 (by omega) (by omega) (by omega)).trans p7⟩, g.1, g.2⟩
  · obtain ⟨k, i, hk, e1⟩ := hI.2.2.1.stands lv
    obtain ⟨k', i', hk', e2⟩ := hI.2.2.1.stands lv'
    have d1 := dst hk e1
    have d2 := dst hk' e2
    rw [← e] at d2
    have u := C1.2 _ _ i i' _ (lin_isL C2 (by omega)) (lin_isL C2 (by omega)) d1 d2
    have ek := lin_inj (by omega) (by omega) u.1
    have ei := u.2
    subst ek
    subst ei
    rw [e1] at e2
    exact Option.some.inj e2
  · obtain ⟨k, i, hk, e1⟩ := hI.2.2.1.stands lv
    obtain ⟨j, hj⟩ := List.getElem?_of_mem q
    have u := C1.2 _ _ i j _ (lin_isL C2 (by omega)) C2.iS (dst hk e1) hj
    exact absurd (lin_inj (b := b) (i := k) (j := 13) (by omega) (by omega) (u.1.trans lin_spare.symm)) (by omega)
  · obtain ⟨p1, p2, p3, p4⟩ := P.2.2.2.1 a ha
    have r1 := hπ a (by omega)
    have r2 := hπ (6 + a) (by omega)
    rw [plN_row ha] at r1
    rw [plN_wire ha] at r2
    refine ⟨by rw [← lin_row ha]; exact r1, by rw [← lin_wire ha]; exact r2, fun x hx => ⟨?_, (p3 x hx).2⟩, fun x hx => ⟨?_, ?_, (p4 x hx).2.2⟩⟩
    · exact ((pm (k := a) (by omega) (by rw [plN_row ha]; exact hx)).1 194 (by omega) (by omega) (by omega)).trans (p3 x hx).1
    · exact ((pm (k := 6 + a) (by omega) (by rw [plN_wire ha]; exact hx)).1 194 (by omega) (by omega) (by omega)).trans (p4 x hx).1
    · exact ((pm (k := 6 + a) (by omega) (by rw [plN_wire ha]; exact hx)).1 199 (by omega) (by omega) (by omega)).trans (p4 x hx).2.1
  · have q := P.2.2.2.2.1.2 x hx
    exact ⟨((pm (k := 12) (by omega) hx).1 199 (by omega) (by omega) (by omega)).trans q.1, q.2⟩
  · rw [C3, tot_pl (N := N) (fun k hk => by rw [(B k hk).1, c.lnk hk, List.length_map]) hI.2.2.1]
  · rw [← tot_pl (N := N) (fun k hk => by rw [(B k hk).1, c.lnk hk, List.length_map]) hI.2.2.1]; exact C4.1
end CP8
