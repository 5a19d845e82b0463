section CALLSa
variable {l : Launch} {w : zW} {h y h1 h2 : zH} {x T0 k m : Nat} {B B' : Nat → Nat} {ls lt : Nat → List Nat} {N N1 N2 : nT} {Ms : Nat → nT} {n tp : Nat} {st s' fk fp : Int32}
theorem i32 (v : Int32) : ∃ z : Int, v = jI z ∧ (-2147483648 ≤ z ∧ z < 2147483648) := ⟨v.toInt, (Int32.ofInt_toInt v).symm, by have a := Int32.le_toInt v; have b := Int32.toInt_lt v; omega⟩
def kpN (N : nT) (r : nT × Int × Int) : Prop := iT r.1 ∧ nA r.1 2 = nA N 2 ∧ nA r.1 7 = nA N 7
theorem toN_k {j : Nat} {z : Int} (h0 : iT N) (q : iT (uA N j z)) (hj : j ≠ 2 ∧ j ≠ 7) : kpN N (toN N j z) := by
  unfold toN
  by_cases c : nA N j = z
  · rw [if_pos c]; exact ⟨h0, rfl, rfl⟩
  · rw [if_neg c]; exact ⟨q, nA_ne (by omega), nA_ne (by omega)⟩
theorem uKind_k {z i : Int} (h0 : iT N) : kpN N (uKind N z i) := by
  unfold uKind
  by_cases c : 0 ≤ i ∧ i ≤ 3
  · rw [if_pos c]
    by_cases d : 0 ≤ z ∧ z < nA N 1
    · rw [if_pos d]
      exact toN_k h0 (h0.uF (by omega) (Or.inr (Or.inl ⟨rfl, c⟩))) (by omega)
    · rw [if_neg d]; exact ⟨h0, rfl, rfl⟩
  · rw [if_neg c]; exact ⟨h0, rfl, rfl⟩
theorem uMore_k {z i : Int} (h0 : iT N) : kpN N (uMore N z i) := by
  unfold uMore
  by_cases c : 1 ≤ i ∧ i ≤ 9999
  · rw [if_pos c]
    by_cases d : 0 ≤ z ∧ z < nA N 1
    · rw [if_pos d]
      have f := h0.1.2.2.2.2.1 z.toNat (by omega)
      by_cases q : nA N (248 + 20 * z.toNat + 1) + i > 9999
      · rw [if_pos q]; exact ⟨h0, rfl, rfl⟩
      · rw [if_neg q]
        exact ⟨h0.uF (by omega) (Or.inl ⟨rfl, by have := f.2.2.1.1; omega, by omega⟩), nA_ne (by omega), nA_ne (by omega)⟩
    · rw [if_neg d]; exact ⟨h0, rfl, rfl⟩
  · rw [if_neg c]; exact ⟨h0, rfl, rfl⟩
theorem uTurn_k {z i : Int} (h0 : iT N) (hi : i = 0 ∨ i = 1) : kpN N (uTurn N z i) := by
  unfold uTurn
  by_cases d : 0 ≤ z ∧ z < nA N 1
  · rw [if_pos d]
    by_cases q : nA N (248 + 20 * z.toNat + 3) = i
    · rw [if_pos q]; exact ⟨h0, rfl, rfl⟩
    · rw [if_neg q]
      exact ⟨h0.uF (by omega) (Or.inr (Or.inr (Or.inl ⟨rfl, hi⟩))), nA_ne (by omega), nA_ne (by omega)⟩
  · rw [if_neg d]; exact ⟨h0, rfl, rfl⟩
theorem uSet_k {z i v : Int} (h0 : iT N) : kpN N (uSet N z i v) := by
  unfold uSet
  by_cases c : setOk i v = true
  · rw [if_pos c]
    by_cases d : 0 ≤ z ∧ z < nA N 0
    · rw [if_pos d]
      have q : (i = 0 ∧ 1 ≤ v ∧ v ≤ 9) ∨ (i = 1 ∧ 1 ≤ v ∧ v ≤ 60) ∨ (i = 2 ∧ 2 ≤ v ∧ v ≤ 30) := by
        unfold setOk at c
        simp only [Bool.or_eq_true, Bool.and_eq_true, decide_eq_true_eq] at c
        omega
      have sk : (setK i = 0 ∧ 1 ≤ v ∧ v ≤ 9) ∨ (setK i = 2 ∧ 1 ≤ v ∧ v ≤ 60) ∨ (setK i = 3 ∧ 2 ≤ v ∧ v ≤ 30) := by
        unfold setK
        rcases q with ⟨rfl, q⟩ | ⟨rfl, q⟩ | ⟨rfl, q⟩
        · exact Or.inl ⟨rfl, q⟩
        · exact Or.inr (Or.inl ⟨rfl, q⟩)
        · exact Or.inr (Or.inr ⟨rfl, q⟩)
      exact toN_k h0 (h0.uL (by omega) sk) (by omega)
    · rw [if_neg d]; exact ⟨h0, rfl, rfl⟩
  · rw [if_neg c]; exact ⟨h0, rfl, rfl⟩
theorem uDetour_k {z i p : Int} (h0 : iT N) : kpN N (uDetour N z i p) := by
  unfold uDetour
  by_cases c : i < 0
  · rw [if_pos c]; exact ⟨h0, rfl, rfl⟩
  · rw [if_neg c]
    by_cases d : (0 ≤ z ∧ z < nA N 1) ∧ 0 ≤ p ∧ p < nA N 0
    · rw [if_pos d]
      have f := h0.1.2.2.2.2.1 z.toNat (by omega)
      by_cases b : inB N z.toNat p = true
      · rw [if_pos b]; exact ⟨h0, rfl, rfl⟩
      · rw [if_neg b]
        by_cases q : i < nA N (248 + 20 * z.toNat + 0)
        · rw [if_pos q]
          have := f.1.2
          exact toN_k h0 (h0.uF (by omega) (Or.inr (Or.inr (Or.inr ⟨by omega, by omega, d.2⟩)))) (by omega)
        · rw [if_neg q]; exact ⟨h0, rfl, rfl⟩
    · rw [if_neg d]; exact ⟨h0, rfl, rfl⟩
theorem RD.xo (R : RD x T0 h k B ls N Ms n tp st fk fp) : XO h x (B 0) := ⟨R.1.1.2.1, R.1.1.2.2.1⟩
theorem RD.hx (R : RD x T0 h k B ls N Ms n tp st fk fp) : x < zx h := by have := R.1.1.1; omega
theorem RD.hb (R : RD x T0 h k B ls N Ms n tp st fk fp) : x < B 0 ∨ B 0 + 65 ≤ x := by have q := R.1.2.2.1 0 (by omega); unfold isBk at q; omega
theorem RD.ht (R : RD x T0 h k B ls N Ms n tp st fk fp) (hk : k ≤ 600) : nA N 2 ≤ 39000 := by have := R.2.2.2.2.2.1.1.1; omega
theorem RD.n7 (R : RD x T0 h k B ls N Ms n tp st fk fp) : nA N 7 = 0 := R.2.2.2.2.2.1.1.2
theorem RD.nC (R : RD x T0 h k B ls N Ms n tp st fk fp) : NetC h (B 0) ls N := R.1.2.2.2.2.2.2.1
theorem RD.iT (R : RD x T0 h k B ls N Ms n tp st fk fp) : iT N := by obtain ⟨π, t, cx, it, e2⟩ := R.nC; exact it
theorem RD.n3 (R : RD x T0 h k B ls N Ms n tp st fk fp) : n ≤ 3 := R.1.1.2.2.2.2.2.2
theorem iT.r90 (h0 : iT N) : ∀ a, a < 6 → (nR N a).length ≤ 90 := fun a ha => by
  by_cases c : (a : Int) < nA N 0
  · have q := (h0.1.2.2.2.2.2.1 a c).2.1.1
    omega
  · rw [(h0.1.2.2.2.2.2.2.2.2.2 a ha (by omega)).1]
    exact Nat.zero_le _

theorem twoX_link {v1 v2 : Int32} (R : RD x T0 h k B ls N Ms n tp st fk fp) (hk : k ≤ 600) : St l w x T0 k h mX9_link mX10_link [.int v1, .int v2] := by
  obtain ⟨z1, rfl, b1⟩ := i32 v1
  obtain ⟨z2, rfl, b2⟩ := i32 v2
  obtain ⟨π, t, cx, it, e2⟩ := R.nC
  exact R.qry (c_linkC cx R.xo it.1.H.1 b1 b2) (fun h1 r e => c_linkM r it.1.H.1 b1 b2)
theorem twoX_flow {v1 v2 : Int32} (R : RD x T0 h k B ls N Ms n tp st fk fp) (hk : k ≤ 600) : St l w x T0 k h mX9_flow mX10_flow [.int v1, .int v2] := by
  obtain ⟨z1, rfl, b1⟩ := i32 v1
  obtain ⟨z2, rfl, b2⟩ := i32 v2
  obtain ⟨π, t, cx, it, e2⟩ := R.nC
  exact R.qry (c_flowC cx R.xo it.1 b1 b2) (fun h1 r e => c_flowM r it.1 b1 b2)
theorem twoX_path {v1 v2 : Int32} (R : RD x T0 h k B ls N Ms n tp st fk fp) (hk : k ≤ 600) : St l w x T0 k h mX9_path mX10_path [.int v1, .int v2] := by
  obtain ⟨z1, rfl, b1⟩ := i32 v1
  obtain ⟨z2, rfl, b2⟩ := i32 v2
  obtain ⟨π, t, cx, it, e2⟩ := R.nC
  exact R.qry (c_pathC cx R.xo it.1 b1 b2) (fun h1 r e => c_pathM r it.1 b1 b2)
theorem twoX_packet {v1 v2 v3 : Int32} (R : RD x T0 h k B ls N Ms n tp st fk fp) (hk : k ≤ 600) : St l w x T0 k h mX9_packet mX10_packet [.int v1, .int v2, .int v3] := by
  obtain ⟨z1, rfl, b1⟩ := i32 v1
  obtain ⟨z2, rfl, b2⟩ := i32 v2
  obtain ⟨z3, rfl, b3⟩ := i32 v3
  obtain ⟨π, t, cx, it, e2⟩ := R.nC
  exact R.qry (c_packetC cx R.xo it.1 b1 b2 b3) (fun h1 r e => c_packetM r it.1 b1 b2 b3)
theorem twoX_event {v1 v2 : Int32} (R : RD x T0 h k B ls N Ms n tp st fk fp) (hk : k ≤ 600) : St l w x T0 k h mX9_event mX10_event [.int v1, .int v2] := by
  obtain ⟨z1, rfl, b1⟩ := i32 v1
  obtain ⟨z2, rfl, b2⟩ := i32 v2
  obtain ⟨π, t, cx, it, e2⟩ := R.nC
  exact R.qry (c_eventC cx R.xo it.1 b1 b2) (fun h1 r e => c_eventM r it.1 b1 b2)
theorem twoX_given {v1 v2 : Int32} (R : RD x T0 h k B ls N Ms n tp st fk fp) (hk : k ≤ 600) : St l w x T0 k h mX9_given mX10_given [.int v1, .int v2] := by
  obtain ⟨z1, rfl, b1⟩ := i32 v1
  obtain ⟨z2, rfl, b2⟩ := i32 v2
  obtain ⟨π, t, cx, it, e2⟩ := R.nC
  exact R.qry (c_givenC cx R.xo it.1 b1 b2) (fun h1 r e => c_givenM r it.1 b1 b2)
theorem twoX_past {v1 v2 : Int32} (R : RD x T0 h k B ls N Ms n tp st fk fp) (hk : k ≤ 600) : St l w x T0 k h mX9_past mX10_past [.int v1, .int v2] := by
  obtain ⟨z1, rfl, b1⟩ := i32 v1
  obtain ⟨z2, rfl, b2⟩ := i32 v2
  obtain ⟨π, t, cx, it, e2⟩ := R.nC
  exact R.qry (c_pastC cx R.xo it.1 e2 b1 b2) (fun h1 r e => c_pastM r it.1 b1 b2)
theorem twoX_top {v1 : Int32} (R : RD x T0 h k B ls N Ms n tp st fk fp) (hk : k ≤ 600) : St l w x T0 k h mX9_top mX10_top [.int v1] := by
  obtain ⟨z1, rfl, b1⟩ := i32 v1
  obtain ⟨π, t, cx, it, e2⟩ := R.nC
  exact R.qry (c_topC cx R.xo it.1 b1) (fun h1 r e => c_topM r it.1 b1)
theorem twoX_alike {v1 v2 : Int32} (R : RD x T0 h k B ls N Ms n tp st fk fp) (hk : k ≤ 600) : St l w x T0 k h mX9_alike mX10_alike [.int v1, .int v2] := by
  obtain ⟨z1, rfl, b1⟩ := i32 v1
  obtain ⟨z2, rfl, b2⟩ := i32 v2
  obtain ⟨π, t, cx, it, e2⟩ := R.nC
  exact R.qry (c_alikeC cx R.xo it.1 b1 b2) (fun h1 r e => c_alikeM r it.1 b1 b2)
theorem twoX_many {v1 : Int32} (R : RD x T0 h k B ls N Ms n tp st fk fp) (hk : k ≤ 600) : St l w x T0 k h mX9_many mX10_many [.int v1] := by
  obtain ⟨z1, rfl, b1⟩ := i32 v1
  obtain ⟨π, t, cx, it, e2⟩ := R.nC
  exact R.qry (c_manyC cx R.xo it.1 R.1.1.2.2.2.2.2.1 b1) (fun h1 r e => c_manyM r it.1 e R.n3 b1)
theorem twoX_where {v1 v2 : Int32} (R : RD x T0 h k B ls N Ms n tp st fk fp) (hk : k ≤ 600) : St l w x T0 k h mX9_where mX10_where [.int v1, .int v2] := by
  obtain ⟨z1, rfl, b1⟩ := i32 v1
  obtain ⟨z2, rfl, b2⟩ := i32 v2
  obtain ⟨π, t, cx, it, e2⟩ := R.nC
  exact R.qry (c_whereC cx R.xo it.1 b1 b2) (fun h1 r e => c_whereM r it.1 it.r90 (fun a ha => Nat.le_trans (it.s0 a ha) (by omega)) b1 b2)
theorem twoX_eldest {v1 : Int32} (R : RD x T0 h k B ls N Ms n tp st fk fp) (hk : k ≤ 600) : St l w x T0 k h mX9_eldest mX10_eldest [.int v1] := by
  obtain ⟨z1, rfl, b1⟩ := i32 v1
  obtain ⟨π, t, cx, it, e2⟩ := R.nC
  exact R.qry (c_eldestC cx R.xo it.1 b1) (fun h1 r e => c_eldestM r it.1 cx.2.2.2.2.2.1.2.2.2.2.2.2.2.2 b1)
theorem twoX_set {v1 v2 v3 : Int32} (R : RD x T0 h k B ls N Ms n tp st fk fp) (hk : k ≤ 600) : St l w x T0 k h mX9_set mX10_set [.int v1, .int v2, .int v3] := by
  obtain ⟨z1, rfl, b1⟩ := i32 v1
  obtain ⟨z2, rfl, b2⟩ := i32 v2
  obtain ⟨z3, rfl, b3⟩ := i32 v3
  obtain ⟨π, t, cx, it, e2⟩ := R.nC
  have kp := uSet_k (N := N) (z := z1) (i := z2) (v := z3) it
  exact R.chg (c_setC cx R.xo R.hx R.hb it.1 b1 b2 b3) (fun h1 r => c_setM r it.1 b1 b2 b3) kp.1 e2 kp.2.1 kp.2.2
theorem twoX_more {v1 v2 : Int32} (R : RD x T0 h k B ls N Ms n tp st fk fp) (hk : k ≤ 600) : St l w x T0 k h mX9_more mX10_more [.int v1, .int v2] := by
  obtain ⟨z1, rfl, b1⟩ := i32 v1
  obtain ⟨z2, rfl, b2⟩ := i32 v2
  obtain ⟨π, t, cx, it, e2⟩ := R.nC
  have kp := uMore_k (N := N) (z := z1) (i := z2) it
  exact R.chg (c_moreC cx R.xo R.hx R.hb it.1 b1 b2) (fun h1 r => c_moreM r it.1 b1 b2) kp.1 e2 kp.2.1 kp.2.2
theorem twoX_kind {v1 v2 : Int32} (R : RD x T0 h k B ls N Ms n tp st fk fp) (hk : k ≤ 600) : St l w x T0 k h mX9_kind mX10_kind [.int v1, .int v2] := by
  obtain ⟨z1, rfl, b1⟩ := i32 v1
  obtain ⟨z2, rfl, b2⟩ := i32 v2
  obtain ⟨π, t, cx, it, e2⟩ := R.nC
  have kp := uKind_k (N := N) (z := z1) (i := z2) it
  exact R.chg (c_kindC cx R.xo R.hx R.hb it.1 b1 b2) (fun h1 r => c_kindM r it.1 b1 b2) kp.1 e2 kp.2.1 kp.2.2
theorem twoX_detour {v1 v2 v3 : Int32} (R : RD x T0 h k B ls N Ms n tp st fk fp) (hk : k ≤ 600) : St l w x T0 k h mX9_detour mX10_detour [.int v1, .int v2, .int v3] := by
  obtain ⟨z1, rfl, b1⟩ := i32 v1
  obtain ⟨z2, rfl, b2⟩ := i32 v2
  obtain ⟨z3, rfl, b3⟩ := i32 v3
  obtain ⟨π, t, cx, it, e2⟩ := R.nC
  have kp := uDetour_k (N := N) (z := z1) (i := z2) (p := z3) it
  exact R.chg (c_detourC cx R.xo R.hx R.hb it.1 b1 b2 b3) (fun h1 r => c_detourM r it.1 b1 b2 b3) kp.1 e2 kp.2.1 kp.2.2
theorem twoX_turn {v1 : Int32} {i : Int} (hi : i = 0 ∨ i = 1) (R : RD x T0 h k B ls N Ms n tp st fk fp) (hk : k ≤ 600) : St l w x T0 k h mX9_turn mX10_turn [.int v1, .int (jI i)] := by
  obtain ⟨z1, rfl, b1⟩ := i32 v1
  obtain ⟨π, t, cx, it, e2⟩ := R.nC
  have kp := uTurn_k (N := N) (z := z1) (i := i) it hi
  exact R.chg (c_turnC cx R.xo R.hx R.hb it.1 b1 hi) (fun h1 r => c_turnM r it.1 b1 hi) kp.1 e2 kp.2.1 kp.2.2
theorem uTick_k {i : Int} (h0 : iT N) (ht : nA N 2 ≤ 39000) : iT (uTick N i).1 ∧ nA (uTick N i).1 2 ≤ nA N 2 + 60 ∧ nA (uTick N i).1 7 = nA N 7 := by
  unfold uTick
  by_cases c : 1 ≤ i ∧ i ≤ 60
  · rw [if_pos c]
    have q := ticks_in h0 i.toNat (by omega)
    exact ⟨q.1, by rw [q.2.1]; omega, q.2.2 7 (by unfold stK; omega)⟩
  · rw [if_neg c]; exact ⟨h0, by show nA N 2 ≤ nA N 2 + 60; omega, rfl⟩
theorem twoX_tick {v1 : Int32} (R : RD x T0 h k B ls N Ms n tp st fk fp) (hk : k ≤ 600) : St l w x T0 k h mX9_tick mX10_tick [.int v1] := by
  obtain ⟨z1, rfl, b1⟩ := i32 v1
  obtain ⟨π, t, cx, it, e2⟩ := R.nC
  have kp := uTick_k (N := N) (i := z1) it (R.ht hk)
  obtain ⟨v, h1, c1, rfl, y, π1, ls1, t1, cx1, e3, cs, e1⟩ := c_tickC (l := l) (w := w) cx R.xo R.hx R.hb it e2 (R.ht hk) b1
  have g0 : GC y x B ls1 (uTick N z1).1 Ms n := R.1.net cs ⟨π1, t1, cx1, kp.1, e3⟩
  have b := R.2.2.2.2.2.1.1
  subst e1
  refine R.norm c1 g0.stat ((OtX.cst R.1 (by omega) cs).tr (OtX.si (Or.inl rfl))) zi_same ⟨by have := b.1; have := kp.2.1; omega, by rw [kp.2.2]; exact b.2⟩ (fun r0 _ => (c_tickM r0 it (R.ht hk) b1).mono (fun u h2 q => ?_))
  obtain ⟨q1, y1, q2, q3, q4⟩ := q
  exact ⟨q1, by rw [q4]; exact zi_same, ⟨_, by rw [q4]; exact q2.s321, Or.inl rfl⟩, by rw [q4]; exact q3.q.tr (FrQ.si (Or.inl rfl))⟩
theorem twoX_when {v1 : Int32} (R : RD x T0 h k B ls N Ms n tp st fk fp) (hk : k ≤ 600) : St l w x T0 k h mX9_when mX10_when [.int v1] := by
  obtain ⟨z1, rfl, b1⟩ := i32 v1
  obtain ⟨π, t, cx, it, e2⟩ := R.nC
  exact R.pap ((c_whenC R.1 (R.ht hk) b1).mono (fun u h1 q => ⟨q.1, q.2.1, q.2.2.1, q.2.2.2.e3⟩)) (fun h1 r => c_whenM r it (R.ht hk) b1)
theorem twoX_closes {v1 : Int32} (R : RD x T0 h k B ls N Ms n tp st fk fp) (hk : k ≤ 600) : St l w x T0 k h mX9_closes mX10_closes [.int v1] := by
  obtain ⟨z1, rfl, b1⟩ := i32 v1
  obtain ⟨π, t, cx, it, e2⟩ := R.nC
  exact R.pap ((c_closesC R.1 (R.ht hk) b1).mono (fun u h1 q => ⟨q.1, q.2.1, q.2.2.1, q.2.2.2.e3⟩)) (fun h1 r => c_closesM r it (R.ht hk) b1)
theorem twoX_caught {v1 : Int32} (R : RD x T0 h k B ls N Ms n tp st fk fp) (hk : k ≤ 600) : St l w x T0 k h mX9_caught mX10_caught [.int v1] := by
  obtain ⟨z1, rfl, b1⟩ := i32 v1
  obtain ⟨π, t, cx, it, e2⟩ := R.nC
  exact R.pap ((c_caughtC R.1 (R.ht hk) b1).mono (fun u h1 q => ⟨q.1, q.2.1, q.2.2.1, q.2.2.2.e3⟩)) (fun h1 r => c_caughtM r it (R.ht hk) b1)
theorem twoX_after {v1 v2 : Int32} (R : RD x T0 h k B ls N Ms n tp st fk fp) (hk : k ≤ 600) : St l w x T0 k h mX9_after mX10_after [.int v1, .int v2] := by
  obtain ⟨z1, rfl, b1⟩ := i32 v1
  obtain ⟨z2, rfl, b2⟩ := i32 v2
  obtain ⟨π, t, cx, it, e2⟩ := R.nC
  exact R.pap ((c_afterC R.1 (R.ht hk) b1 b2).mono (fun u h1 q => ⟨q.1, q.2.1, q.2.2.1, q.2.2.2.e3⟩)) (fun h1 r => c_afterM r it (R.ht hk) R.n7 b1 b2)
theorem twoX_blind {v1 v2 : Int32} (R : RD x T0 h k B ls N Ms n tp st fk fp) (hk : k ≤ 600) : St l w x T0 k h mX9_blind mX10_blind [.int v1, .int v2] := by
  obtain ⟨z1, rfl, b1⟩ := i32 v1
  obtain ⟨z2, rfl, b2⟩ := i32 v2
  obtain ⟨π, t, cx, it, e2⟩ := R.nC
  exact R.pap ((c_blindC R.1 (R.ht hk) b1 b2).mono (fun u h1 q => ⟨q.1, q.2.1, q.2.2.1, q.2.2.2.e3⟩)) (fun h1 r => c_blindM r it (R.ht hk) R.n7 b1 b2)
theorem twoX_without {v1 v2 v3 : Int32} (R : RD x T0 h k B ls N Ms n tp st fk fp) (hk : k ≤ 600) : St l w x T0 k h mX9_without mX10_without [.int v1, .int v2, .int v3] := by
  obtain ⟨z1, rfl, b1⟩ := i32 v1
  obtain ⟨z2, rfl, b2⟩ := i32 v2
  obtain ⟨z3, rfl, b3⟩ := i32 v3
  obtain ⟨π, t, cx, it, e2⟩ := R.nC
  exact R.pap ((c_withoutC R.1 (R.ht hk) b1 b2 b3).mono (fun u h1 q => ⟨q.1, q.2.1, q.2.2.1, q.2.2.2.e3⟩)) (fun h1 r => c_withoutM r it (R.ht hk) b1 b2 b3)
theorem twoX_least {v1 v2 v3 : Int32} (R : RD x T0 h k B ls N Ms n tp st fk fp) (hk : k ≤ 600) : St l w x T0 k h mX9_least mX10_least [.int v1, .int v2, .int v3] := by
  obtain ⟨z1, rfl, b1⟩ := i32 v1
  obtain ⟨z2, rfl, b2⟩ := i32 v2
  obtain ⟨z3, rfl, b3⟩ := i32 v3
  obtain ⟨π, t, cx, it, e2⟩ := R.nC
  exact R.pap ((c_leastC R.1 (R.ht hk) b1 b2 b3).mono (fun u h1 q => ⟨q.1, q.2.1, q.2.2.1, q.2.2.2.e3⟩)) (fun h1 r => c_leastM r it (R.ht hk) b1 b2 b3)
theorem twoX_best {v1 : Int32} (R : RD x T0 h k B ls N Ms n tp st fk fp) (hk : k ≤ 600) : St l w x T0 k h mX9_best mX10_best [.int v1] := by
  obtain ⟨z1, rfl, b1⟩ := i32 v1
  obtain ⟨π, t, cx, it, e2⟩ := R.nC
  exact R.pap ((c_bestC R.1 R.2.1.2.1.2.2 R.2.1.2.1.2.1 b1).mono (fun u h1 q => ⟨q.1, q.2.1, ⟨ls, q.2.2.1⟩, q.2.2.2⟩)) (fun h1 r => c_bestM r it.1 b1)
theorem twoX_neck {v1 : Int32} (R : RD x T0 h k B ls N Ms n tp st fk fp) (hk : k ≤ 600) : St l w x T0 k h mX9_neck mX10_neck [.int v1] := by
  obtain ⟨z1, rfl, b1⟩ := i32 v1
  obtain ⟨π, t, cx, it, e2⟩ := R.nC
  exact R.pap ((c_neckC R.1 R.2.1.2.1.2.2 R.2.1.2.1.2.1 b1).mono (fun u h1 q => ⟨q.1, q.2.1, ⟨ls, q.2.2.1⟩, q.2.2.2⟩)) (fun h1 r => c_neckM r it.1 b1)
end CALLSa
