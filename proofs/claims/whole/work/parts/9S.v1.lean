section CP1
variable {l : Launch} {w : zW} {h h1 h2 : zH} {b : Nat} {ls : Nat → List Nat} {L K : Nat}
theorem FrLn.tr (x : FrLn h h1) (y : FrLn h1 h2) : FrLn h h2 := by
  obtain ⟨x1, x2, x3, x4, x5, x6, x7, x8, x9, x10⟩ := x
  obtain ⟨y1, y2, y3, y4, y5, y6, y7, y8, y9, y10⟩ := y
  exact ⟨y1.trans x1, y2.trans x2, fun a => (y3 a).trans (x3 a), fun a => (y4 a).trans (x4 a), fun f a q => (y5 f a q).trans (x5 f a q), fun f a => (y6 f a).trans (x6 f a), fun f a p q r => (y7 f a p q r).trans (x7 f a p q r), fun a i => (y8 a i).trans (x8 a i), fun a i => (y9 a i).trans (x9 a i), fun a i => (y10 a i).trans (x10 a i)⟩
theorem FrLn.rf : FrLn h h := ⟨rfl, rfl, fun _ => rfl, fun _ => rfl, fun _ _ _ => rfl, fun _ _ => rfl, fun _ _ _ _ _ => rfl, fun _ _ => rfl, fun _ _ => rfl, fun _ _ => rfl⟩
/-- the fields of lines and of what stands in them, outside S -/
def LnO (S : Nat → Prop) (h h1 : zH) : Prop := ∀ a, ¬ S a → zr h1 96 a = zr h 96 a ∧ zr h1 97 a = zr h 97 a ∧ zr h1 201 a = zr h 201 a ∧ zi h1 98 a = zi h 98 a
theorem LnO.rf {S : Nat → Prop} : LnO S h h := fun _ _ => ⟨rfl, rfl, rfl, rfl⟩
theorem LnO.tr {S : Nat → Prop} (x : LnO S h h1) (y : LnO S h1 h2) : LnO S h h2 := fun a ha => ⟨(y a ha).1.trans (x a ha).1, (y a ha).2.1.trans (x a ha).2.1, (y a ha).2.2.1.trans (x a ha).2.2.1, (y a ha).2.2.2.trans (x a ha).2.2.2⟩
theorem LnO.mono {S T : Nat → Prop} (x : LnO S h h1) (e : ∀ a, S a → T a) : LnO T h h1 := fun a ha => x a (fun q => ha (e a q))
theorem LnO.tak {p : Nat} {r : List Nat} (t : takS h h1 L p r) : LnO (fun a => a = L ∨ a = p) h h1 := by
  intro a ha
  obtain ⟨t1, t2, t3, t4⟩ := t
  rw [t1, t2, t3, t4, if_neg (fun q => ha (Or.inl q)), if_neg (fun q => ha (Or.inl q.1)), if_neg (fun q => ha (Or.inl q)), if_neg (fun q => ha (Or.inr q))]
  exact ⟨rfl, rfl, rfl, rfl⟩
theorem LnO.app {p : Nat} (t : appS h h1 ls L p) : LnO (fun a => a = L ∨ a = p ∨ a ∈ ls L) h h1 := by
  intro a ha
  obtain ⟨t1, t2, t3, t4⟩ := t
  rw [t1, t2, t3, t4, if_neg (fun q => ha (Or.inl q.1)), if_neg (fun q => ha (Or.inl q)), if_neg (fun q => ha (Or.inl q)), if_neg (fun q => ha (Or.inr (Or.inl q))), if_neg (fun q => ha (Or.inr (Or.inr (List.mem_of_getLast? q))))]
  exact ⟨rfl, rfl, rfl, rfl⟩
def mvS (ls : Nat → List Nat) (L K : Nat) : Nat → List Nat := updF (updF ls K (ls K ++ ls L)) L []
theorem mvS_step {p : Nat} {r : List Nat} (n : L ≠ K) (e : ls L = p :: r) : mvS (updF (updF ls L r) K (updF ls L r K ++ [p])) L K = mvS ls L K := by
  unfold mvS
  funext a
  by_cases c : a = L
  · subst c; rw [updF_eq, updF_eq]
  · rw [updF_ne c, updF_ne c]
    by_cases d : a = K
    · subst d; rw [updF_eq, updF_eq, updF_eq, updF_ne n, updF_eq, updF_ne (Ne.symm n), e]; simp
    · rw [updF_ne d, updF_ne d, updF_ne d, updF_ne c]
theorem c_moveAllTo (s : lnS h ls) (hL : isL h L) (hK : isL h K) (n : L ≠ K) (len : (ls L).length ≤ 480) : zM l w mX3_moveAllTo [.ref L, .ref K] h (fun u h1 => u = none ∧ lnS h1 (mvS ls L K) ∧ FrLn h h1 ∧ LnO (fun a => a = L ∨ a = K ∨ a ∈ ls L ∨ a ∈ ls K) h h1) := by
  refine zM.of (by decide) (Nat.le_of_ble_eq_true rfl) ?_
  suffices loop : ∀ (r : List Nat) (h : zH) (ls : Nat → List Nat), lnS h ls → isL h L → isL h K → ls L = r → r.length ≤ 480 → zG l w mX3_moveAllTo 5 [(2, .int (nI r.length)), (0, .ref L), (1, .ref K)] [] h (fun u h1 => u = none ∧ lnS h1 (mvS ls L K) ∧ FrLn h h1 ∧ LnO (fun a => a = L ∨ a = K ∨ a ∈ ls L ∨ a ∈ ls K) h h1) by
    refine g_aload_n 0 dX3_moveAllTo_0 rfl rfl ?_
    refine g_geti (f := 98) dX3_moveAllTo_1 fl_X3_23 hL.2 (by decide) rfl ?_
    rw [(s.1 L hL).2.2.1]
    refine g_istore_n (lv2 := [(2, .int (nI (ls L).length)), (0, .ref L), (1, .ref K)]) dX3_moveAllTo_4 rfl (by decide) rfl ?_
    exact loop _ h ls s hL hK rfl len
  clear s hL hK len
  intro r
  induction r with
  | nil =>
    intro h ls s hL hK e _
    show zG l w mX3_moveAllTo 5 [(2, .int (nI 0)), (0, .ref L), (1, .ref K)] [] h _
    refine g_iload_n 0 dX3_moveAllTo_5 rfl rfl ?_
    refine g_if_le (tgt := 29) dX3_moveAllTo_6 (by decide) (fun _ => ?_) (fun c => absurd (by decide : nI 0 ≤ 0) c)
    refine g_return dX3_moveAllTo_29 rfl ?_
    refine ⟨rfl, ?_, FrLn.rf, LnO.rf⟩
    have e9 : mvS ls L K = ls := by
      unfold mvS; rw [e, List.append_nil]; funext a
      by_cases c : a = L
      · subst c; rw [updF_eq, e]
      · rw [updF_ne c]; by_cases d : a = K
        · subst d; rw [updF_eq]
        · rw [updF_ne d]
    rw [e9]; exact s
  | cons p r ih =>
    intro h ls s hL hK e len
    have len2 : r.length + 1 ≤ 480 := by simpa using len
    show zG l w mX3_moveAllTo 5 [(2, .int (nI (r.length + 1))), (0, .ref L), (1, .ref K)] [] h _
    refine g_iload_n 0 dX3_moveAllTo_5 rfl rfl ?_
    refine g_zif_le (a := ((r.length + 1 : Nat) : Int)) (tgt := 29) (jI_nat _).symm dX3_moveAllTo_6 (by decide) (by omega) (fun c => absurd c (by omega)) (fun _ => ?_)
    refine g_aload_n 1 dX3_moveAllTo_9 rfl rfl ?_
    refine g_invv (M' := mX3_takeFirst) (As := []) (rest := []) dX3_moveAllTo_10 ml_X3_27 okX3_takeFirst imX3_takeFirst seX3_takeFirst ⟨(Nat.le_of_ble_eq_true rfl), (Nat.le_of_ble_eq_true rfl)⟩ (ci := 3) rfl rfl hL.2 rfl rfl (Nat.le_of_ble_eq_true rfl) (c_takeFirst s hL e) ?_
    rintro _ y1 ⟨rfl, t1, f1⟩
    show zG l w mX3_moveAllTo 13 [(2, .int (nI (r.length + 1))), (0, .ref L), (1, .ref K)] [.ref p] y1 _
    obtain ⟨s1, o1, p1⟩ := s.tak f1 hL e t1
    have hL1 := f1.iff.mpr hL
    have hK1 := f1.iff.mpr hK
    refine g_astore_n (lv2 := [(3, .ref p), (2, .int (nI (r.length + 1))), (0, .ref L), (1, .ref K)]) dX3_moveAllTo_13 rfl (by decide) rfl ?_
    refine g_aload_n 0 dX3_moveAllTo_14 rfl rfl ?_
    refine g_ifnull dX3_moveAllTo_15 ?_
    refine g_aload_n 3 dX3_moveAllTo_18 rfl rfl ?_
    refine g_aload_n 0 dX3_moveAllTo_19 rfl rfl ?_
    refine g_invv (M' := mX3_append) (As := [.ref p]) (rest := []) dX3_moveAllTo_20 ml_X3_31 okX3_append imX3_append seX3_append ⟨(Nat.le_of_ble_eq_true rfl), (Nat.le_of_ble_eq_true rfl)⟩ (ci := 3) rfl rfl hK1.2 rfl rfl (Nat.le_of_ble_eq_true rfl) (c_append s1 hK1 p1 o1) ?_
    rintro _ y2 ⟨rfl, t2, f2⟩
    show zG l w mX3_moveAllTo 23 [(3, .ref p), (2, .int (nI (r.length + 1))), (0, .ref L), (1, .ref K)] [] y2 _
    have s2 := s1.app f2 hK1 p1 o1 t2
    refine g_inc (v := nI r.length) (lv2 := [(2, .int (nI r.length)), (3, .ref p), (0, .ref L), (1, .ref K)]) 1 dX3_moveAllTo_23 rfl (nI_dec _) (by decide) rfl ?_
    refine g_goto (tgt := 5) dX3_moveAllTo_26 (by decide) ?_
    refine zG.mono (zG.sub [0, 2, 3] rfl (ih y2 _ s2 (f2.iff.mpr hL1) (f2.iff.mpr hK1) (by rw [updF_ne n, updF_eq]) (by omega))) ?_
    rintro v h3 ⟨r1, r2, r3, r4⟩
    rw [mvS_step n e] at r2
    refine ⟨r1, r2, (f1.tr f2).tr r3, ((LnO.tak t1).mono ?_).tr (((LnO.app t2).mono ?_).tr (r4.mono ?_))⟩
    · rintro a (q | q); exact Or.inl q; subst q; exact Or.inr (Or.inr (Or.inl (by rw [e]; exact List.mem_cons_self)))
    · rintro a (q | q | q); exact Or.inr (Or.inl q); subst q; exact Or.inr (Or.inr (Or.inl (by rw [e]; exact List.mem_cons_self))); rw [updF_ne (Ne.symm n)] at q; exact Or.inr (Or.inr (Or.inr q))
    · rintro a (q | q | q | q)
      · exact Or.inl q
      · exact Or.inr (Or.inl q)
      · rw [updF_ne n, updF_eq] at q; exact Or.inr (Or.inr (Or.inl (by rw [e]; exact List.mem_cons_of_mem _ q)))
      · rw [updF_eq, updF_ne (Ne.symm n)] at q; rcases List.mem_append.mp q with q | q
        · exact Or.inr (Or.inr (Or.inr q))
        · rw [List.mem_singleton] at q; subst q; exact Or.inr (Or.inr (Or.inl (by rw [e]; exact List.mem_cons_self)))
end CP1
