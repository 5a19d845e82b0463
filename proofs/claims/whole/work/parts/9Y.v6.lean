section CP6
variable {l : Launch} {w : zW} {h y z y1 y2 y3 : zH} {b k K p q : Nat} {ls lt lt1 : Nat → List Nat} {A : List Nat}
/-- no cell of a net's own is a packet -/
theorem ClS.k6 (c : ClS h b) {a : Nat} (h1 : b ≤ a) (h2 : a < b + 65) : zk h a ≠ 6 := by
  obtain ⟨s1, s2, s3, s4, s5, s6, s7, s8, s9, s10⟩ := c
  have kk : ∀ {x k : Nat}, zk h x = k → k ≠ 6 → a = x → zk h a ≠ 6 := fun e n q => by rw [q, e]; exact n
  by_cases c0 : a < b + 11
  · rcases (show a = b ∨ a = b + 1 ∨ a = b + 2 ∨ a = b + 3 ∨ a = b + 4 ∨ a = b + 5 ∨ a = b + 10 ∨ a = b + 6 + (a - (b + 6)) ∧ a - (b + 6) < 4 by omega) with q | q | q | q | q | q | q | q
    · exact kk s1.2 (by omega) q
    · exact kk s2.2.1 (by omega) q
    · exact kk s3.2.1 (by omega) q
    · exact kk s4.2 (by omega) q
    · exact kk s5.2 (by omega) q
    · exact kk s6.2 (by omega) q
    · exact kk s8.2.1 (by omega) q
    · exact kk (s7 _ q.2).2.1 (by omega) q.1
  · by_cases c1 : a < b + 53
    · obtain ⟨i, hi, q⟩ : ∃ i, i < 6 ∧ (a = b + 11 + 7 * i ∨ a = b + 11 + 7 * i + 1 ∨ a = b + 11 + 7 * i + 2 ∨ a = b + 11 + 7 * i + 3 + (a - (b + 11 + 7 * i + 3)) ∧ a - (b + 11 + 7 * i + 3) < 3 ∨ a = b + 11 + 7 * i + 6) := ⟨(a - (b + 11)) / 7, by omega, by omega⟩
      obtain ⟨t1, t2, t3, t4, t5, t6⟩ := s9 i hi
      rcases q with q | q | q | q | q
      · exact kk t2 (by omega) q
      · exact kk t3.2 (by omega) q
      · exact kk t4.2 (by omega) q
      · exact kk (t5 _ q.2).2.1 (by omega) q.1
      · exact kk t6.2 (by omega) q
    · obtain ⟨i, hi, q⟩ : ∃ i, i < 6 ∧ (a = b + 53 + 2 * i ∨ a = b + 53 + 2 * i + 1) := ⟨(a - (b + 53)) / 2, by omega, by omega⟩
      obtain ⟨t1, t2, t3, t4, t5⟩ := s10 i hi
      rcases q with q | q
      · exact kk t2 (by omega) q
      · exact kk t4 (by omega) q
theorem totL_sp (e : ∀ M, M ≠ b + 4 → lt M = ls M) : totL lt b + (ls (b + 4)).length = totL ls b + (lt (b + 4)).length := by
  have q := sum_one (F := fun k => (ls (lin b k)).length) (G := fun k => (lt (lin b k)).length) (n := 14) (i := 13) (by omega) (fun k hk hn => congrArg List.length (e _ (fun c => hn (lin_inj (b := b) hk (by omega) (c.trans lin_spare.symm)))))
  exact q
theorem lnS.frp (s : lnS h ls) (f : FrP p h y) (hp : zk h p = 6) : lnS y ls := by
  obtain ⟨⟨f1, f2⟩, f3, f4, f5, f6⟩ := f
  have il : ∀ L, isL y L ↔ isL h L := fun L => by unfold isL; rw [f1, (f3 L).1]
  refine ⟨fun L hL => ?_, fun L K i j q hL hK => s.2 L K i j q ((il L).mp hL) ((il K).mp hK)⟩
  have hL0 := (il L).mp hL
  have np : L ≠ p := fun e => by rw [e] at hL0; exact absurd (hL0.2.symm.trans hp) (by omega)
  obtain ⟨s1, s2, s3, s4⟩ := s.1 L hL0
  refine ⟨(f4 96 L).trans s1, (f4 97 L).trans s2, (f6 98 L np).1.trans s3, fun i q hq => ?_⟩
  obtain ⟨u1, u2⟩ := s4 i q hq
  exact ⟨⟨by rw [f1]; exact u1.1, (f3 q).1.trans u1.2⟩, (f4 201 q).trans u2⟩
theorem FrK.frp (f : FrP p h y) (hp : p < b ∨ b + 65 ≤ p) : FrK b (fun a => a = p) h y := by
  obtain ⟨⟨f1, f2⟩, f3, f4, f5, f6⟩ := f
  exact ⟨⟨by rw [f1]; exact Nat.le_refl _, by rw [f1, f2], mdB.eq f1 (f6 167 b (by omega)).1⟩, fun a _ => ⟨(f3 a).1, (f3 a).2, f5 a⟩, fun a _ hs g => ⟨(f6 g a hs).1, (f6 g a hs).2, f4 g a⟩, fun a h1 h2 _ g => ⟨fun _ _ => (f6 g a (by omega)).1, (f6 g a (by omega)).2, fun _ _ _ => f4 g a⟩⟩
theorem ClS.frK {S : Nat → Prop} (c : ClS h b) (f : FrK b S h y) : ClS y b := by
  obtain ⟨⟨x0, x1⟩, x2, x3, x4⟩ := f
  have := c.1.1
  exact c.fr x0 (fun a h1 h2 => ⟨(x2 a (by omega)).1, (x2 a (by omega)).2.1, fun g g1 g2 g3 => (x4 a h1 h2 (by omega) g).2.2 g1 g2 g3, fun i => ((x2 a (by omega)).2.2 i).2.2⟩)
/-- packets copied one by one -/
def CpB (h : zH) (A : List Nat) (y : zH) (P : List Nat) : Prop := P.length = A.length ∧ ∀ i p q : Nat, P[i]? = some p → A[i]? = some q → PkE h q y p
/-- line k of the net at b has got copies of the packets in A -/
def CpL (h : zH) (ls : Nat → List Nat) (b k : Nat) (A : List Nat) (y : zH) (lt : Nat → List Nat) : Prop :=
  lnS y lt ∧ zi y 167 b = nI (totL lt b) ∧ totL lt b ≤ 480 ∧ (∀ M, M ≠ b + 4 → M ≠ lin b k → lt M = ls M) ∧ (∃ P, lt (lin b k) = ls (lin b k) ++ P ∧ CpB h A y P) ∧ FrK b (ownS b ls) h y ∧ (∀ a, ownS b lt a → ownS b ls a ∨ zx h ≤ a) ∧ (∀ a j, j < 13 → a ∈ ls (lin b j) → ∀ f, 192 ≤ f → f ≤ 200 → zi y f a = zi h f a ∧ zl y f a = zl h f a) ∧ totL lt b + (ls (b + 4)).length = totL ls b + (lt (b + 4)).length + A.length
theorem CpL.rf (s : lnS h ls) (hm : zi h 167 b = nI (totL ls b)) (t4 : totL ls b ≤ 480) : CpL h ls b k [] h ls := by
  refine ⟨s, hm, t4, fun _ _ _ => rfl, ⟨[], by rw [List.append_nil], rfl, fun i p q e _ => by cases e⟩, FrK.rf, fun a q => Or.inl q, fun a j _ _ f _ _ => ⟨rfl, rfl⟩, ?_⟩
  simp only [List.length_nil]
  omega
theorem CpL.step (C : CpL h ls b k A y lt) (c : ClS h b) (hk : k < 13) (s1 : lnS y1 lt1) (o1 : outL y1 lt1 p) (p1 : p < zx y1 ∧ zk y1 p = 6) (m1 : zi y1 167 b = nI (totL lt1 b + 1)) (t1 : totL lt1 b + 1 ≤ 480) (e1 : ∀ M, M ≠ b + 4 → lt1 M = lt M) (w1 : p ∈ lt (b + 4) ∨ p = zx y) (u1 : ∀ a, a ∈ lt1 (b + 4) → a ∈ lt (b + 4)) (F1 : FrK b (ownS b lt) y y1) (K1 : PkF y y1)
    (E2 : PkE y1 q y2 p) (F2 : FrP p y1 y2) (a3 : appS y2 y3 lt1 (lin b k) p) (F3 : FrLn y2 y3) (hq : q < zx h ∧ ¬ ownS b ls q) : CpL h ls b k (A ++ [q]) y3 (updF lt1 (lin b k) (lt1 (lin b k) ++ [p])) := by
  obtain ⟨C1, C2, C3, C4, ⟨P, C5, C6, C7⟩, C8, C9, C10, C11⟩ := C
  have cy := c.frK C8
  have cy1 := cy.frK F1
  have b65 := c.1.1
  have lk13 : lin b k ≠ b + 4 := fun e => absurd (lin_inj (b := b) (i := k) (j := 13) (by omega) (by omega) (e.trans lin_spare.symm)) (by omega)
  have ink := lin_in (b := b) (i := k) (by omega)
  have pb : p < b ∨ b + 65 ≤ p := by
    by_cases q1 : b ≤ p ∧ p < b + 65
    · exact absurd p1.2 (cy1.k6 q1.1 q1.2)
    · omega
  have s2 := s1.frp F2 p1.2
  have L1 : isL y1 (lin b k) := lin_isL cy1 (by omega)
  have x21 : zx y2 = zx y1 := F2.1.1
  have L2 : isL y2 (lin b k) := ⟨by rw [x21]; exact L1.1, (F2.2.1 _).1.trans L1.2⟩
  have o2 : outL y2 lt1 p := fun L hL => o1 L ⟨by rw [← x21]; exact hL.1, (F2.2.1 L).1.symm.trans hL.2⟩
  have s3 := s2.app F3 L2 ⟨by rw [x21]; exact p1.1, (F2.2.1 p).1.trans p1.2⟩ o2 a3
  have G1 := totL_sp (b := b) e1
  have G2 := totL_upd (b := b) (ls := lt1) (i := k) (r := lt1 (lin b k) ++ [p]) (by omega)
  rw [List.length_append] at G2
  simp only [List.length_cons, List.length_nil] at G2
  have K4 : updF lt1 (lin b k) (lt1 (lin b k) ++ [p]) (b + 4) = lt1 (b + 4) := updF_ne (fun e => lk13 e.symm)
  have xhy := C8.1.1
  -- packets in lines other than the spare one keep what they tell
  have keep : ∀ a j, j < 13 → a ∈ lt (lin b j) → ∀ f, 192 ≤ f → f ≤ 200 → zi y3 f a = zi y f a ∧ zl y3 f a = zl y f a := by
    intro a j hj ha f f1 f2
    have n4 : lin b j ≠ b + 4 := fun e => absurd (lin_inj (b := b) (i := j) (j := 13) (by omega) (by omega) (e.trans lin_spare.symm)) (by omega)
    have np : a ≠ p := fun e => o1 (lin b j) (lin_isL cy1 (by omega)) (by rw [e1 _ n4, ← e]; exact ha)
    obtain ⟨i, hi⟩ := List.getElem?_of_mem ha
    have ax := ((C1.1 _ (lin_isL cy (by omega))).2.2.2 i a hi).1.1
    have v1 := K1 a ax f f1 f2
    have v2 := F2.2.2.2.2 f a np
    exact ⟨(F3.2.2.2.2.1 f a (by omega)).trans (v2.1.trans v1.1), (F3.2.2.2.2.2.1 f a).trans (v2.2.trans v1.2)⟩
  have pown : ownS b ls p ∨ zx h ≤ p := by
    rcases w1 with w1 | w1
    · exact C9 p (Or.inr ⟨13, by omega, by rw [lin_spare]; exact w1⟩)
    · exact Or.inr (by omega)
  refine ⟨s3, ?_, by omega, fun M h1 h2 => ?_, ⟨P ++ [p], ?_, ?_, ?_⟩, ?_, ?_, ?_, ?_⟩
  · rw [F3.2.2.2.2.1 167 b (by omega), (F2.2.2.2.2 167 b (by omega)).1, m1]
    congr 1
    omega
  · rw [updF_ne h2, e1 M h1, C4 M h1 h2]
  · rw [updF_eq, e1 _ lk13, C5, List.append_assoc]
  · rw [List.length_append, List.length_append, C6]
    rfl
  · intro i p0 q0 hp0 hq0
    by_cases ci : i < P.length
    · rw [List.getElem?_append_left ci] at hp0
      rw [List.getElem?_append_left (by omega)] at hq0
      have e := C7 i p0 q0 hp0 hq0
      have kp := keep p0 k hk (by rw [C5]; exact List.mem_append_right _ (List.mem_of_getElem? hp0))
      exact ⟨fun f f1 f2 f3 => ((kp f f1 f2).1).trans (e.1 f f1 f2 f3), ((kp 197 (by omega) (by omega)).2).trans e.2⟩
    · rw [List.getElem?_append_right (by omega)] at hp0 hq0
      have i0 : i - P.length = 0 := by
        by_cases c1 : i - P.length = 0
        · exact c1
        · rw [List.getElem?_eq_none (by simp only [List.length_cons, List.length_nil]; omega)] at hp0
          cases hp0
      rw [i0] at hp0
      rw [show i - A.length = 0 by omega] at hq0
      cases hp0
      cases hq0
      have n1 : ¬ ownS b lt q := fun e => by
        rcases C9 q e with e | e
        · exact hq.2 e
        · have := hq.1; omega
      have g1 := C8.2.2.1 q hq.1 hq.2
      have g2 := F1.2.2.1 q (by have := hq.1; omega) n1
      exact ⟨fun f f1 f2 f3 => (F3.2.2.2.2.1 f p (by omega)).trans ((E2.1 f f1 f2 f3).trans ((g2 f).1.trans (g1 f).1)), (F3.2.2.2.2.2.1 197 p).trans (E2.2.trans ((g2 197).2.1.trans (g1 197).2.1))⟩
  · refine ((C8.tr F1 (fun a ha hs => ?_)).tr (FrK.frp F2 pb) (fun a ha hs => ?_)).tr (FrK.ln F3 (LnO.app a3)) (fun a ha hs => ?_)
    · rcases C9 a hs with e | e
      · exact e
      · omega
    · subst hs
      rcases pown with e | e
      · exact e
      · omega
    · rcases hs with e | e | e
      · subst e; exact Or.inl ink
      · subst e
        rcases pown with e | e
        · exact e
        · omega
      · rw [e1 _ lk13] at e
        rcases C9 a (Or.inr ⟨k, by omega, e⟩) with e | e
        · exact e
        · omega
  · rintro a (e | ⟨j, hj, e⟩)
    · exact Or.inl (Or.inl e)
    · by_cases c1 : lin b j = lin b k
      · rw [c1, updF_eq, e1 _ lk13] at e
        rcases List.mem_append.mp e with e | e
        · exact C9 a (Or.inr ⟨k, by omega, e⟩)
        · rw [List.mem_singleton.mp e]; exact pown
      · rw [updF_ne c1] at e
        by_cases c2 : lin b j = b + 4
        · rw [c2] at e
          exact C9 a (Or.inr ⟨13, by omega, by rw [lin_spare]; exact u1 a e⟩)
        · rw [e1 _ c2] at e
          exact C9 a (Or.inr ⟨j, hj, e⟩)
  · intro a j hj ha f f1 f2
    have n4 : lin b j ≠ b + 4 := fun e => absurd (lin_inj (b := b) (i := j) (j := 13) (by omega) (by omega) (e.trans lin_spare.symm)) (by omega)
    have ha2 : a ∈ lt (lin b j) := by
      by_cases c1 : lin b j = lin b k
      · rw [c1, C5]; rw [c1] at ha; exact List.mem_append_left _ ha
      · rw [C4 _ n4 c1]; exact ha
    have g1 := keep a j hj ha2 f f1 f2
    have g2 := C10 a j hj ha f f1 f2
    exact ⟨g1.1.trans g2.1, g1.2.trans g2.2⟩
  · rw [K4, List.length_append]
    simp only [List.length_cons, List.length_nil]
    omega
theorem c_copyLine (s : lnS h ls) (c : ClS h b) (hm : zi h 167 b = nI (totL ls b)) (t4 : totL ls b ≤ 480) (hk : k < 13) (hK : isL h K) (hKo : K < b ∨ b + 65 ≤ K) (room : totL ls b + (ls K).length ≤ 480 + (ls (b + 4)).length) (hO : ∀ q, q ∈ ls K → ¬ ownS b ls q) (h2 : ∀ q, q ∈ ls K → zi h 200 q = 0 ∨ zi h 200 q = 1) : zM l w mX5_copyLine [.ref b, .ref K, .ref (lin b k)] h (fun u h1 => u = none ∧ ∃ lt, CpL h ls b k (ls K) h1 lt) := by
  refine zM.of (by decide) (Nat.le_of_ble_eq_true rfl) ?_
  have S := s.1 K hK
  have loop : ∀ n i : Nat, i + n = (ls K).length → ∀ (y : zH) (lt : Nat → List Nat), CpL h ls b k ((ls K).take i) y lt → zG l w mX5_copyLine 5 [(3, rfO (ls K)[i]?), (0, .ref b), (1, .ref K), (2, .ref (lin b k))] [] y (fun u h1 => u = none ∧ ∃ lt, CpL h ls b k (ls K) h1 lt) := by
    intro n
    induction n with
    | zero =>
      intro i hi y lt C
      rw [show (ls K)[i]? = none from List.getElem?_eq_none (by omega)]
      rw [show i = (ls K).length by omega, List.take_length] at C
      show zG l w mX5_copyLine 5 [(3, .null), (0, .ref b), (1, .ref K), (2, .ref (lin b k))] [] y _
      refine g_aload_nN 0 dX5_copyLine_5 rfl rfl ?_
      refine g_ifnullN (tgt := 43) dX5_copyLine_6 (by decide) ?_
      refine g_return dX5_copyLine_43 rfl ?_
      exact ⟨rfl, lt, C⟩
    | succ n ih =>
      intro i hi y lt C
      obtain ⟨q, hq⟩ : ∃ q, (ls K)[i]? = some q := ⟨_, List.getElem?_eq_getElem (by omega)⟩
      rw [hq]
      have cy := c.frK C.2.2.2.2.2.1
      have hqm := List.mem_of_getElem? hq
      have tk : ((ls K).take i).length = i := by rw [List.length_take]; omega
      have cnt := C.2.2.2.2.2.2.2.2
      rw [tk] at cnt
      have qx := (S.2.2.2 i q hq).1
      have qo : ¬ ownS b ls q := hO q hqm
      have lo : ¬ K = b + 4 ∧ ¬ K = lin b k := ⟨by omega, fun e => by have := lin_in (b := b) (i := k) (by omega); omega⟩
      have qy : zk y q = 6 := (C.2.2.2.2.2.1.2.1 q qx.1).1.trans qx.2
      show zG l w mX5_copyLine 5 [(3, .ref q), (0, .ref b), (1, .ref K), (2, .ref (lin b k))] [] y _
      refine g_aload_n 0 dX5_copyLine_5 rfl rfl ?_
      refine g_ifnull dX5_copyLine_6 ?_
      refine g_aload_n 1 dX5_copyLine_9 rfl rfl ?_
      refine g_invv (M' := mX5_freshPacket) (As := []) (rest := []) dX5_copyLine_10 ml_X5_103 okX5_freshPacket imX5_freshPacket seX5_freshPacket ⟨(Nat.le_of_ble_eq_true rfl), (Nat.le_of_ble_eq_true rfl)⟩ (ci := 5) rfl rfl cy.1.2 rfl rfl (Nat.le_of_ble_eq_true rfl) (c_freshW C.1 cy C.2.1 C.2.2.1 (by omega)) ?_
      rintro _ y1 ⟨p, lt1, rfl, s1, o1, p1, m1, t1, e1, w1, u1, F1, K1⟩
      show zG l w mX5_copyLine 13 [(3, .ref q), (0, .ref b), (1, .ref K), (2, .ref (lin b k))] [.ref p] y1 _
      have qy1 : zk y1 q = 6 := (F1.2.1 q (by have := C.2.2.2.2.2.1.1.1; have := qx.1; omega)).1.trans qy
      have cy1 := cy.frK F1
      have npq : p ≠ q := fun e => o1 K ⟨by have := hK.1; have := C.2.2.2.2.2.1.1.1; have := F1.1.1; omega, ((F1.2.1 K (by have := hK.1; have := C.2.2.2.2.2.1.1.1; omega)).1.trans (C.2.2.2.2.2.1.2.1 K hK.1).1).trans hK.2⟩ (by rw [e1 K lo.1, C.2.2.2.1 K lo.1 lo.2, e]; exact hqm)
      have n1 : ¬ ownS b lt q := fun e => by
          rcases C.2.2.2.2.2.2.1 q e with e | e
          · exact qo e
          · have := qx.1; omega
      have q200 : zi y1 200 q = 0 ∨ zi y1 200 q = 1 := by rw [(F1.2.2.1 q (by have := C.2.2.2.2.2.1.1.1; have := qx.1; omega) n1 200).1, (C.2.2.2.2.2.1.2.2.1 q qx.1 qo 200).1]; exact h2 q hqm
      refine g_astore (lv2 := [(4, .ref p), (3, .ref q), (0, .ref b), (1, .ref K), (2, .ref (lin b k))]) dX5_copyLine_13 (by decide) rfl ?_
      refine g_aload 0 dX5_copyLine_15 rfl ?_
      refine g_ifnonnull (tgt := 23) dX5_copyLine_17 (by decide) ?_
      refine g_aload 0 dX5_copyLine_23 rfl ?_
      refine g_aload_n 1 dX5_copyLine_25 rfl rfl ?_
      refine g_invv (M' := mX6_copyFrom) (As := [.ref q]) (rest := []) dX5_copyLine_26 ml_X5_107 okX6_copyFrom imX6_copyFrom seX6_copyFrom ⟨(Nat.le_of_ble_eq_true rfl), (Nat.le_of_ble_eq_true rfl)⟩ (ci := 6) rfl rfl p1.2 rfl rfl (Nat.le_of_ble_eq_true rfl) (c_pkCopy p1.2 qy1 npq q200) ?_
      rintro _ y2 ⟨rfl, E2, F2⟩
      show zG l w mX5_copyLine 29 [(4, .ref p), (3, .ref q), (0, .ref b), (1, .ref K), (2, .ref (lin b k))] [] y2 _
      have L1 : isL y1 (lin b k) := lin_isL cy1 (by omega)
      have L2 : isL y2 (lin b k) := ⟨by rw [F2.1.1]; exact L1.1, (F2.2.1 _).1.trans L1.2⟩
      refine g_aload_n 4 dX5_copyLine_29 rfl rfl ?_
      refine g_aload 0 dX5_copyLine_30 rfl ?_
      refine g_invv (M' := mX3_append) (As := [.ref p]) (rest := []) dX5_copyLine_32 ml_X5_112 okX3_append imX3_append seX3_append ⟨(Nat.le_of_ble_eq_true rfl), (Nat.le_of_ble_eq_true rfl)⟩ (ci := 3) rfl rfl L2.2 rfl rfl (Nat.le_of_ble_eq_true rfl) (c_append (s1.frp F2 p1.2) L2 ⟨by rw [F2.1.1]; exact p1.1, (F2.2.1 p).1.trans p1.2⟩ (fun L hL => o1 L ⟨by rw [← F2.1.1]; exact hL.1, (F2.2.1 L).1.symm.trans hL.2⟩)) ?_
      rintro _ y3 ⟨rfl, a3, F3⟩
      show zG l w mX5_copyLine 35 [(4, .ref p), (3, .ref q), (0, .ref b), (1, .ref K), (2, .ref (lin b k))] [] y3 _
      have C3 := C.step c hk s1 o1 p1 m1 t1 e1 w1 u1 F1 K1 E2 F2 a3 F3 ⟨qx.1, qo⟩
      have tk2 : (ls K).take i ++ [q] = (ls K).take (i + 1) := by rw [List.take_add_one, hq]; rfl
      rw [tk2] at C3
      have nx : zr y3 201 q = (ls K)[i + 1]? := by
        have g := (C3.1.1 K ⟨by have := C3.2.2.2.2.2.1.1.1; have := hK.1; omega, (C3.2.2.2.2.2.1.2.1 K hK.1).1.trans hK.2⟩).2.2.2 i q (by rw [C3.2.2.2.1 K lo.1 lo.2]; exact hq)
        rw [C3.2.2.2.1 K lo.1 lo.2] at g
        exact g.2
      have qy3 : zk y3 q = 6 := (C3.2.2.2.2.2.1.2.1 q qx.1).1.trans qx.2
      refine g_aload_n 1 dX5_copyLine_35 rfl rfl ?_
      cases e : (ls K)[i + 1]? with
      | none =>
        refine g_getrN (f := 201) dX5_copyLine_36 fl_X5_115 qy3 rfl (nx.trans e) ?_
        refine g_astore_nN (lv2 := [(3, .null), (4, .ref p), (0, .ref b), (1, .ref K), (2, .ref (lin b k))]) dX5_copyLine_39 rfl (by decide) rfl ?_
        refine g_goto (tgt := 5) dX5_copyLine_40 (by decide) ?_
        have z9 := ih (i + 1) (by omega) y3 _ C3
        rw [e] at z9
        exact zG.sub [0, 2, 3, 4] rfl z9
      | some q2 =>
        refine g_getr (f := 201) (b := q2) dX5_copyLine_36 fl_X5_115 qy3 rfl (nx.trans e) ?_
        refine g_astore_n (lv2 := [(3, .ref q2), (4, .ref p), (0, .ref b), (1, .ref K), (2, .ref (lin b k))]) dX5_copyLine_39 rfl (by decide) rfl ?_
        refine g_goto (tgt := 5) dX5_copyLine_40 (by decide) ?_
        have z9 := ih (i + 1) (by omega) y3 _ C3
        rw [e] at z9
        exact zG.sub [0, 2, 3, 4] rfl z9
  refine g_aload_n 1 dX5_copyLine_0 rfl rfl ?_
  have hd := S.1
  rw [List.head?_eq_getElem?] at hd
  cases e : (ls K)[0]? with
  | none =>
    refine g_getrN (f := 96) dX5_copyLine_1 fl_X5_99 hK.2 rfl (hd.trans e) ?_
    refine g_astore_nN (lv2 := [(3, .null), (0, .ref b), (1, .ref K), (2, .ref (lin b k))]) dX5_copyLine_4 rfl (by decide) rfl ?_
    have z9 := loop _ 0 (Nat.zero_add _) h ls (by rw [List.take_zero]; exact CpL.rf s hm t4)
    rw [e] at z9
    exact zG.sub [0, 1, 2, 3] rfl z9
  | some q =>
    refine g_getr (f := 96) (b := q) dX5_copyLine_1 fl_X5_99 hK.2 rfl (hd.trans e) ?_
    refine g_astore_n (lv2 := [(3, .ref q), (0, .ref b), (1, .ref K), (2, .ref (lin b k))]) dX5_copyLine_4 rfl (by decide) rfl ?_
    have z9 := loop _ 0 (Nat.zero_add _) h ls (by rw [List.take_zero]; exact CpL.rf s hm t4)
    rw [e] at z9
    exact zG.sub [0, 1, 2, 3] rfl z9
end CP6
